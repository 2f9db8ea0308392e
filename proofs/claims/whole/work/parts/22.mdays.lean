set_option maxRecDepth 100000 in
theorem c_X9_tellsOf (s K be er st na pi tr bi sz nu as' : Nat → Int32) (im at' op sp us tn sk ip : Int32) (i : Int32) (k : Nat) (hi : i = nI k) (hk : k < 8) (hw : wfH s (hn s) k) : AMet yX9_tellsOf cX9_tellsOf 4 (some (.int)) 1 0 0 [.ref 0, .int i] (MW s K be er st na pi tr bi sz nu as' im at' op sp us tn sk ip) (pI fun x h => x = tells s k ∧ h = MW s K be er st na pi tr bi sz nu as' im at' op sp us tn sk ip) := by
  refine AMet.of (by decide +kernel) rfl (fun E ad0 hE => ?_)
  obtain ⟨⟨q, hq, hkd⟩, -⟩ := hw
  refine A_aload_n hE 1 dX9_tellsOf_0 rfl rfl ?_
  refine A_get hE 4 dX9_tellsOf_1 rfl fkX9_7 rfl rfl ?_
  refine A_iconst hE 5 dX9_tellsOf_4 rfl (1) rfl ?_
  refine A_iald hE 6 1 dX9_tellsOf_5 rfl rfl rfl (by omega) rfl ?_
  refine A_istore_n hE 7 dX9_tellsOf_6 rfl rfl rfl ?_
  refine A_iload_n hE 8 dX9_tellsOf_7 rfl rfl ?_
  refine A_aload_n hE 9 dX9_tellsOf_8 rfl rfl ?_
  refine A_get hE 12 dX9_tellsOf_9 rfl fkX9_7 rfl rfl ?_
  refine A_iconst hE 13 dX9_tellsOf_12 rfl (2) rfl ?_
  refine A_iald hE 14 2 dX9_tellsOf_13 rfl rfl rfl (by omega) rfl ?_
  refine A_iconst hE 15 dX9_tellsOf_14 rfl (1) rfl ?_
  refine A_iadd hE 16 dX9_tellsOf_15 rfl ?_
  refine A_imul hE 17 dX9_tellsOf_16 rfl ?_
  refine A_bipush hE 19 dX9_tellsOf_17 rfl (100) (by decide) ?_
  refine A_idiv hE 20 dX9_tellsOf_19 rfl (by decide) ?_
  refine A_istore_n hE 21 dX9_tellsOf_20 rfl rfl rfl ?_
  refine A_aload_n hE 22 dX9_tellsOf_21 rfl rfl ?_
  refine A_iload_n hE 23 dX9_tellsOf_22 rfl rfl ?_
  refine A_iconst hE 24 dX9_tellsOf_23 rfl (0) rfl ?_
  refine A_callVi hE 27 (c_X9_its s K be er st na pi tr bi sz nu as' im at' op sp us tn sk ip i 0 k 0 hi rfl hk (by omega)) [0, 1, 2, 3, 4, 5, 6, 7, 8, 9, 10, 11, 12] dX9_tellsOf_24 rfl mkX9_111 rfl rfl rfl rfl rfl rfl rfl (Nat.le_of_ble_eq_true rfl) (Nat.le_of_ble_eq_true rfl) rfl (fun x24 h24 g24 hp24 hw24 => ?_)
  obtain ⟨rfl, rfl⟩ := hp24
  obtain rfl := Option.some.inj hw24
  refine A_h (MW s K be er st na pi tr bi sz nu as' im at' op sp us tn sk ip) rfl ?_
  rw [show its s k 0 = nI q from hkd]
  match q, hq, hkd with
  | 0, _, hkd =>
    refine A_tabOut hE 102 dX9_tellsOf_27 (Or.inl (by decide)) rfl ?_
    refine A_iload_n hE 103 dX9_tellsOf_102 rfl rfl ?_
    refine A_iret hE dX9_tellsOf_103 ⟨?_, rfl⟩
    unfold tells
    rw [hkd]
    rfl
  | 1, _, hkd =>
    refine A_tabIn hE 64 dX9_tellsOf_27 (by decide) (by decide) (off := 37) (by decide) rfl ?_
    refine A_iload_n hE 65 dX9_tellsOf_64 rfl rfl ?_
    refine A_bipush hE 67 dX9_tellsOf_65 rfl (10) (by decide) ?_
    refine A_iadd hE 68 dX9_tellsOf_67 rfl ?_
    refine A_iret hE dX9_tellsOf_68 ⟨?_, rfl⟩
    unfold tells
    rw [hkd]
    rfl
  | 2, _, hkd =>
    refine A_tabIn hE 69 dX9_tellsOf_27 (by decide) (by decide) (off := 42) (by decide) rfl ?_
    refine A_iload_n hE 70 dX9_tellsOf_69 rfl rfl ?_
    refine A_iret hE dX9_tellsOf_70 ⟨?_, rfl⟩
    unfold tells
    rw [hkd]
    rfl
  | 3, _, hkd =>
    refine A_tabIn hE 71 dX9_tellsOf_27 (by decide) (by decide) (off := 44) (by decide) rfl ?_
    refine A_iload_n hE 72 dX9_tellsOf_71 rfl rfl ?_
    refine A_bipush hE 74 dX9_tellsOf_72 rfl (50) (by decide) ?_
    refine A_icmp_le hE 77 82 dX9_tellsOf_74 rfl rfl (fun c74 => ?_) (fun c74 => ?_)
    · refine A_iload_n hE 83 dX9_tellsOf_82 rfl rfl ?_
      refine A_iret hE dX9_tellsOf_83 ⟨?_, rfl⟩
      unfold tells
      rw [hkd]
      show s 1 = if 50 < s 1 then 77 else s 1
      rw [if_neg (iN c74)]
    · refine A_bipush hE 79 dX9_tellsOf_77 rfl (77) (by decide) ?_
      refine A_goto hE 83 dX9_tellsOf_79 rfl ?_
      refine A_iret hE dX9_tellsOf_83 ⟨?_, rfl⟩
      unfold tells
      rw [hkd]
      show 77 = if 50 < s 1 then 77 else s 1
      rw [if_pos (iG c74)]
  | 4, _, hkd =>
    refine A_tabIn hE 84 dX9_tellsOf_27 (by decide) (by decide) (off := 57) (by decide) rfl ?_
    refine A_iload_n hE 85 dX9_tellsOf_84 rfl rfl ?_
    refine A_bipush hE 87 dX9_tellsOf_85 rfl (10) (by decide) ?_
    refine A_iadd hE 88 dX9_tellsOf_87 rfl ?_
    refine A_aload_n hE 89 dX9_tellsOf_88 rfl rfl ?_
    refine A_iload_n hE 90 dX9_tellsOf_89 rfl rfl ?_
    refine A_iconst hE 91 dX9_tellsOf_90 rfl (1) rfl ?_
    refine A_callVi hE 94 (c_X9_its s K be er st na pi tr bi sz nu as' im at' op sp us tn sk ip i 1 k 1 hi rfl hk (by omega)) [0, 1, 2, 3, 4, 5, 6, 7, 8, 9, 10, 11, 12] dX9_tellsOf_91 rfl mkX9_111 rfl rfl rfl rfl rfl rfl rfl (Nat.le_of_ble_eq_true rfl) (Nat.le_of_ble_eq_true rfl) rfl (fun x91 h91 g91 hp91 hw91 => ?_)
    obtain ⟨rfl, rfl⟩ := hp91
    obtain rfl := Option.some.inj hw91
    refine A_h (MW s K be er st na pi tr bi sz nu as' im at' op sp us tn sk ip) rfl ?_
    refine A_isub hE 95 dX9_tellsOf_94 rfl ?_
    refine A_iret hE dX9_tellsOf_95 ⟨?_, rfl⟩
    unfold tells
    rw [hkd]
    rfl
  | 5, _, hkd =>
    refine A_tabIn hE 96 dX9_tellsOf_27 (by decide) (by decide) (off := 69) (by decide) rfl ?_
    refine A_iconst hE 97 dX9_tellsOf_96 rfl (2) rfl ?_
    refine A_iload_n hE 98 dX9_tellsOf_97 rfl rfl ?_
    refine A_imul hE 99 dX9_tellsOf_98 rfl ?_
    refine A_iret hE dX9_tellsOf_99 ⟨?_, rfl⟩
    unfold tells
    rw [hkd]
    rfl
  | 6, _, hkd =>
    refine A_tabIn hE 100 dX9_tellsOf_27 (by decide) (by decide) (off := 73) (by decide) rfl ?_
    refine A_iconst hE 101 dX9_tellsOf_100 rfl (0) rfl ?_
    refine A_iret hE dX9_tellsOf_101 ⟨?_, rfl⟩
    unfold tells
    rw [hkd]
    rfl
set_option maxRecDepth 100000 in
theorem c_X9_leavesOf (s K be er st na pi tr bi sz nu as' : Nat → Int32) (im at' op sp us tn sk ip : Int32) (i : Int32) (k : Nat) (hi : i = nI k) (hk : k < 8) (hw : wfH s (hn s) k) : AMet yX9_leavesOf cX9_leavesOf 6 (some (.int)) 1 0 0 [.ref 0, .int i] (MW s K be er st na pi tr bi sz nu as' im at' op sp us tn sk ip) (pI fun x h => x = leaves s k ∧ h = MW s K be er st na pi tr bi sz nu as' im at' op sp us tn sk ip) := by
  refine AMet.of (by decide +kernel) rfl (fun E ad0 hE => ?_)
  obtain ⟨⟨q, hq, hkd⟩, -⟩ := hw
  refine A_aload_n hE 1 dX9_leavesOf_0 rfl rfl ?_
  refine A_iload_n hE 2 dX9_leavesOf_1 rfl rfl ?_
  refine A_iconst hE 3 dX9_leavesOf_2 rfl (1) rfl ?_
  refine A_callVi hE 6 (c_X9_its s K be er st na pi tr bi sz nu as' im at' op sp us tn sk ip i 1 k 1 hi rfl hk (by omega)) [0, 1, 2, 3, 4, 5, 6, 7, 8, 9, 10, 11, 12] dX9_leavesOf_3 rfl mkX9_111 rfl rfl rfl rfl rfl rfl rfl (Nat.le_of_ble_eq_true rfl) (Nat.le_of_ble_eq_true rfl) rfl (fun x3 h3 g3 hp3 hw3 => ?_)
  obtain ⟨rfl, rfl⟩ := hp3
  obtain rfl := Option.some.inj hw3
  refine A_h (MW s K be er st na pi tr bi sz nu as' im at' op sp us tn sk ip) rfl ?_
  refine A_istore_n hE 7 dX9_leavesOf_6 rfl rfl rfl ?_
  refine A_aload_n hE 8 dX9_leavesOf_7 rfl rfl ?_
  refine A_get hE 11 dX9_leavesOf_8 rfl fkX9_7 rfl rfl ?_
  refine A_iconst hE 12 dX9_leavesOf_11 rfl (1) rfl ?_
  refine A_iald hE 13 1 dX9_leavesOf_12 rfl rfl rfl (by omega) rfl ?_
  refine A_iload_n hE 14 dX9_leavesOf_13 rfl rfl ?_
  refine A_iadd hE 15 dX9_leavesOf_14 rfl ?_
  refine A_istore_n hE 16 dX9_leavesOf_15 rfl rfl rfl ?_
  refine A_iload_n hE 17 dX9_leavesOf_16 rfl rfl ?_
  refine A_iconst hE 18 dX9_leavesOf_17 rfl (2) rfl ?_
  refine A_idiv hE 19 dX9_leavesOf_18 rfl (by decide) ?_
  refine A_iconst hE 20 dX9_leavesOf_19 rfl (5) rfl ?_
  refine A_iload_n hE 21 dX9_leavesOf_20 rfl rfl ?_
  refine A_imul hE 22 dX9_leavesOf_21 rfl ?_
  refine A_iadd hE 23 dX9_leavesOf_22 rfl ?_
  refine A_istore hE 25 dX9_leavesOf_23 rfl rfl rfl ?_
  refine A_iload_n hE 26 dX9_leavesOf_25 rfl rfl ?_
  refine A_aload_n hE 27 dX9_leavesOf_26 rfl rfl ?_
  refine A_get hE 30 dX9_leavesOf_27 rfl fkX9_7 rfl rfl ?_
  refine A_bipush hE 32 dX9_leavesOf_30 rfl (8) (by decide) ?_
  refine A_iald hE 33 8 dX9_leavesOf_32 rfl rfl rfl (by omega) rfl ?_
  refine A_iadd hE 34 dX9_leavesOf_33 rfl ?_
  refine A_istore hE 36 dX9_leavesOf_34 rfl rfl rfl ?_
  refine A_aload_n hE 37 dX9_leavesOf_36 rfl rfl ?_
  refine A_iload_n hE 38 dX9_leavesOf_37 rfl rfl ?_
  refine A_iconst hE 39 dX9_leavesOf_38 rfl (0) rfl ?_
  refine A_callVi hE 42 (c_X9_its s K be er st na pi tr bi sz nu as' im at' op sp us tn sk ip i 0 k 0 hi rfl hk (by omega)) [0, 1, 2, 3, 4, 5, 6, 7, 8, 9, 10, 11, 12] dX9_leavesOf_39 rfl mkX9_111 rfl rfl rfl rfl rfl rfl rfl (Nat.le_of_ble_eq_true rfl) (Nat.le_of_ble_eq_true rfl) rfl (fun x39 h39 g39 hp39 hw39 => ?_)
  obtain ⟨rfl, rfl⟩ := hp39
  obtain rfl := Option.some.inj hw39
  refine A_h (MW s K be er st na pi tr bi sz nu as' im at' op sp us tn sk ip) rfl ?_
  rw [show its s k 0 = nI q from hkd]
  match q, hq, hkd with
  | 0, _, hkd =>
    refine A_tabOut hE 125 dX9_leavesOf_42 (Or.inl (by decide)) rfl ?_
    refine A_iload_n hE 126 dX9_leavesOf_125 rfl rfl ?_
    refine A_iret hE dX9_leavesOf_126 ⟨?_, rfl⟩
    unfold leaves
    rw [hkd]
    rfl
  | 1, _, hkd =>
    refine A_tabIn hE 80 dX9_leavesOf_42 (by decide) (by decide) (off := 38) (by decide) rfl ?_
    refine A_iload hE 82 dX9_leavesOf_80 rfl rfl ?_
    refine A_iret hE dX9_leavesOf_82 ⟨?_, rfl⟩
    unfold leaves
    rw [hkd]
    rfl
  | 2, _, hkd =>
    refine A_tabIn hE 83 dX9_leavesOf_42 (by decide) (by decide) (off := 41) (by decide) rfl ?_
    refine A_iload hE 85 dX9_leavesOf_83 rfl rfl ?_
    refine A_iret hE dX9_leavesOf_85 ⟨?_, rfl⟩
    unfold leaves
    rw [hkd]
    rfl
  | 3, _, hkd =>
    refine A_tabIn hE 86 dX9_leavesOf_42 (by decide) (by decide) (off := 44) (by decide) rfl ?_
    refine A_aload_n hE 87 dX9_leavesOf_86 rfl rfl ?_
    refine A_get hE 90 dX9_leavesOf_87 rfl fkX9_7 rfl rfl ?_
    refine A_iconst hE 91 dX9_leavesOf_90 rfl (0) rfl ?_
    refine A_iald hE 92 0 dX9_leavesOf_91 rfl rfl rfl (by omega) rfl ?_
    refine A_iconst hE 93 dX9_leavesOf_92 rfl (2) rfl ?_
    refine A_irem hE 94 dX9_leavesOf_93 rfl (by decide) ?_
    refine A_if_ne hE 97 102 dX9_leavesOf_94 rfl rfl (fun c94 => ?_) (fun c94 => ?_)
    · refine A_iload_n hE 103 dX9_leavesOf_102 rfl rfl ?_
      refine A_iret hE dX9_leavesOf_103 ⟨?_, rfl⟩
      unfold leaves
      rw [hkd]
      show s 1 + its s k 1 = if rm (s 0) 2 = 0 then 77 else s 1 + its s k 1
      rw [if_neg c94]
    · refine A_bipush hE 99 dX9_leavesOf_97 rfl (77) (by decide) ?_
      refine A_goto hE 103 dX9_leavesOf_99 rfl ?_
      refine A_iret hE dX9_leavesOf_103 ⟨?_, rfl⟩
      unfold leaves
      rw [hkd]
      show 77 = if rm (s 0) 2 = 0 then 77 else s 1 + its s k 1
      rw [if_pos c94]
  | 4, _, hkd =>
    refine A_tabIn hE 104 dX9_leavesOf_42 (by decide) (by decide) (off := 62) (by decide) rfl ?_
    refine A_bipush hE 106 dX9_leavesOf_104 rfl (99) (by decide) ?_
    refine A_iload hE 108 dX9_leavesOf_106 rfl rfl ?_
    refine A_isub hE 109 dX9_leavesOf_108 rfl ?_
    refine A_iret hE dX9_leavesOf_109 ⟨?_, rfl⟩
    unfold leaves
    rw [hkd]
    rfl
  | 5, _, hkd =>
    refine A_tabIn hE 110 dX9_leavesOf_42 (by decide) (by decide) (off := 68) (by decide) rfl ?_
    refine A_iload hE 112 dX9_leavesOf_110 rfl rfl ?_
    refine A_aload_n hE 113 dX9_leavesOf_112 rfl rfl ?_
    refine A_get hE 116 dX9_leavesOf_113 rfl fkX9_7 rfl rfl ?_
    refine A_iconst hE 117 dX9_leavesOf_116 rfl (2) rfl ?_
    refine A_iald hE 118 2 dX9_leavesOf_117 rfl rfl rfl (by omega) rfl ?_
    refine A_bipush hE 120 dX9_leavesOf_118 rfl (10) (by decide) ?_
    refine A_idiv hE 121 dX9_leavesOf_120 rfl (by decide) ?_
    refine A_iadd hE 122 dX9_leavesOf_121 rfl ?_
    refine A_iret hE dX9_leavesOf_122 ⟨?_, rfl⟩
    unfold leaves
    rw [hkd]
    rfl
  | 6, _, hkd =>
    refine A_tabIn hE 123 dX9_leavesOf_42 (by decide) (by decide) (off := 81) (by decide) rfl ?_
    refine A_iconst hE 124 dX9_leavesOf_123 rfl (0) rfl ?_
    refine A_iret hE dX9_leavesOf_124 ⟨?_, rfl⟩
    unfold leaves
    rw [hkd]
    rfl
set_option maxRecDepth 100000 in
theorem c_X9_bluntsOf (s K be er st na pi tr bi sz nu as' : Nat → Int32) (im at' op sp us tn sk ip : Int32) (i : Int32) (k : Nat) (hi : i = nI k) (hk : k < 8) (hw : wfH s (hn s) k) : AMet yX9_bluntsOf cX9_bluntsOf 3 (some (.int)) 1 0 0 [.ref 0, .int i] (MW s K be er st na pi tr bi sz nu as' im at' op sp us tn sk ip) (pI fun x h => x = blunts s k ∧ h = MW s K be er st na pi tr bi sz nu as' im at' op sp us tn sk ip) := by
  refine AMet.of (by decide +kernel) rfl (fun E ad0 hE => ?_)
  obtain ⟨⟨q, hq, hkd⟩, -⟩ := hw
  refine A_aload_n hE 1 dX9_bluntsOf_0 rfl rfl ?_
  refine A_iload_n hE 2 dX9_bluntsOf_1 rfl rfl ?_
  refine A_iconst hE 3 dX9_bluntsOf_2 rfl (1) rfl ?_
  refine A_callVi hE 6 (c_X9_its s K be er st na pi tr bi sz nu as' im at' op sp us tn sk ip i 1 k 1 hi rfl hk (by omega)) [0, 1, 2, 3, 4, 5, 6, 7, 8, 9, 10, 11, 12] dX9_bluntsOf_3 rfl mkX9_111 rfl rfl rfl rfl rfl rfl rfl (Nat.le_of_ble_eq_true rfl) (Nat.le_of_ble_eq_true rfl) rfl (fun x3 h3 g3 hp3 hw3 => ?_)
  obtain ⟨rfl, rfl⟩ := hp3
  obtain rfl := Option.some.inj hw3
  refine A_h (MW s K be er st na pi tr bi sz nu as' im at' op sp us tn sk ip) rfl ?_
  refine A_istore_n hE 7 dX9_bluntsOf_6 rfl rfl rfl ?_
  refine A_aload_n hE 8 dX9_bluntsOf_7 rfl rfl ?_
  refine A_iload_n hE 9 dX9_bluntsOf_8 rfl rfl ?_
  refine A_iconst hE 10 dX9_bluntsOf_9 rfl (0) rfl ?_
  refine A_callVi hE 13 (c_X9_its s K be er st na pi tr bi sz nu as' im at' op sp us tn sk ip i 0 k 0 hi rfl hk (by omega)) [0, 1, 2, 3, 4, 5, 6, 7, 8, 9, 10, 11, 12] dX9_bluntsOf_10 rfl mkX9_111 rfl rfl rfl rfl rfl rfl rfl (Nat.le_of_ble_eq_true rfl) (Nat.le_of_ble_eq_true rfl) rfl (fun x10 h10 g10 hp10 hw10 => ?_)
  obtain ⟨rfl, rfl⟩ := hp10
  obtain rfl := Option.some.inj hw10
  refine A_h (MW s K be er st na pi tr bi sz nu as' im at' op sp us tn sk ip) rfl ?_
  rw [show its s k 0 = nI q from hkd]
  match q, hq, hkd with
  | 0, _, hkd =>
    refine A_tabOut hE 80 dX9_bluntsOf_13 (Or.inl (by decide)) rfl ?_
    refine A_iconst hE 81 dX9_bluntsOf_80 rfl (3) rfl ?_
    refine A_iret hE dX9_bluntsOf_81 ⟨?_, rfl⟩
    unfold blunts
    rw [hkd]
    rfl
  | 1, _, hkd =>
    refine A_tabIn hE 52 dX9_bluntsOf_13 (by decide) (by decide) (off := 39) (by decide) rfl ?_
    refine A_iconst hE 53 dX9_bluntsOf_52 rfl (3) rfl ?_
    refine A_iload_n hE 54 dX9_bluntsOf_53 rfl rfl ?_
    refine A_iconst hE 55 dX9_bluntsOf_54 rfl (2) rfl ?_
    refine A_idiv hE 56 dX9_bluntsOf_55 rfl (by decide) ?_
    refine A_iadd hE 57 dX9_bluntsOf_56 rfl ?_
    refine A_iret hE dX9_bluntsOf_57 ⟨?_, rfl⟩
    unfold blunts
    rw [hkd]
    rfl
  | 2, _, hkd =>
    refine A_tabIn hE 80 dX9_bluntsOf_13 (by decide) (by decide) (off := 67) (by decide) rfl ?_
    refine A_iconst hE 81 dX9_bluntsOf_80 rfl (3) rfl ?_
    refine A_iret hE dX9_bluntsOf_81 ⟨?_, rfl⟩
    unfold blunts
    rw [hkd]
    rfl
  | 3, _, hkd =>
    refine A_tabIn hE 58 dX9_bluntsOf_13 (by decide) (by decide) (off := 45) (by decide) rfl ?_
    refine A_iconst hE 59 dX9_bluntsOf_58 rfl (5) rfl ?_
    refine A_iret hE dX9_bluntsOf_59 ⟨?_, rfl⟩
    unfold blunts
    rw [hkd]
    rfl
  | 4, _, hkd =>
    refine A_tabIn hE 60 dX9_bluntsOf_13 (by decide) (by decide) (off := 47) (by decide) rfl ?_
    refine A_iconst hE 61 dX9_bluntsOf_60 rfl (1) rfl ?_
    refine A_iload_n hE 62 dX9_bluntsOf_61 rfl rfl ?_
    refine A_iconst hE 63 dX9_bluntsOf_62 rfl (2) rfl ?_
    refine A_idiv hE 64 dX9_bluntsOf_63 rfl (by decide) ?_
    refine A_iadd hE 65 dX9_bluntsOf_64 rfl ?_
    refine A_iret hE dX9_bluntsOf_65 ⟨?_, rfl⟩
    unfold blunts
    rw [hkd]
    rfl
  | 5, _, hkd =>
    refine A_tabIn hE 66 dX9_bluntsOf_13 (by decide) (by decide) (off := 53) (by decide) rfl ?_
    refine A_bipush hE 68 dX9_bluntsOf_66 rfl (6) (by decide) ?_
    refine A_iret hE dX9_bluntsOf_68 ⟨?_, rfl⟩
    unfold blunts
    rw [hkd]
    rfl
  | 6, _, hkd =>
    refine A_tabIn hE 69 dX9_bluntsOf_13 (by decide) (by decide) (off := 56) (by decide) rfl ?_
    refine A_iload_n hE 70 dX9_bluntsOf_69 rfl rfl ?_
    refine A_iconst hE 71 dX9_bluntsOf_70 rfl (4) rfl ?_
    refine A_icmp_le hE 74 78 dX9_bluntsOf_71 rfl rfl (fun c71 => ?_) (fun c71 => ?_)
    · refine A_iconst hE 79 dX9_bluntsOf_78 rfl (0) rfl ?_
      refine A_iret hE dX9_bluntsOf_79 ⟨?_, rfl⟩
      unfold blunts
      rw [hkd]
      show (0 : Int32) = if 4 < its s k 1 then 3 else 0
      rw [if_neg (iN c71)]
    · refine A_iconst hE 75 dX9_bluntsOf_74 rfl (3) rfl ?_
      refine A_goto hE 79 dX9_bluntsOf_75 rfl ?_
      refine A_iret hE dX9_bluntsOf_79 ⟨?_, rfl⟩
      unfold blunts
      rw [hkd]
      show (3 : Int32) = if 4 < its s k 1 then 3 else 0
      rw [if_pos (iG c71)]
theorem na_0 (na : Nat → Int32) (a b c : Int32) : ∀ v : Int32, (v = 115 ∨ v = 100 ∨ v = (if 0 = 0 then 118 else 108)) → upd (upd (upd na 115 a) 118 b) 100 c v.toNatClampNeg = nmF 0 a b c v := by
  intro v h
  rcases h with rfl | rfl | rfl <;> rfl
theorem na_1 (na : Nat → Int32) (a b c : Int32) : ∀ v : Int32, (v = 115 ∨ v = 100 ∨ v = (if 1 = 0 then 118 else 108)) → upd (upd (upd na 108 a) 115 b) 100 c v.toNatClampNeg = nmF 1 a b c v := by
  intro v h
  rcases h with rfl | rfl | rfl <;> rfl
theorem raw_ne {u : Nat} {ss : Sp} {a b c : Int32} (h : ¬ ss = []) : rawV u ss a b c = (evL (nmF u a b c) ss []).headD 0 := by
  cases ss with
  | nil => exact absurd rfl h
  | cons q r => rfl
theorem txt_yes {s : St} {u : Nat} {ss : Sp} (h : MText s u ss) (z : 0 < s (49 + 125 * u)) : ¬ ss = [] := by
  rintro rfl
  rw [h.2.1] at z
  exact absurd z (by decide)
theorem txt_no {s : St} {u : Nat} {ss : Sp} (h : MText s u ss) (z : ¬ 0 < s (49 + 125 * u)) : ss = [] := by
  cases ss with
  | nil => rfl
  | cons q r =>
    exfalso
    apply z
    rw [h.2.1]
    have := h.1.1
    exact nI_lt (a := 0) (by simp) (by simp at this ⊢; omega)

set_option maxRecDepth 100000 in
theorem c_givenBy0 (s K be er st na pi tr bi sz nu as' : Nat → Int32) (im at' op sp us tn sk ip : Int32) (ss : Sp) (a b c : Int32) (hm : MText s 0 ss) : AMet yX9_givenBy cX9_givenBy 6 (some (.int)) 2 0 0 [.ref 0, .int 0, .int a, .int b, .int c] (MW s K be er st na pi tr bi sz nu as' im at' op sp us tn sk ip) (pI fun x h => x = lawV 0 ss a b c ∧ ∃ na' pi' : Nat → Int32, h = MW s K be er st na' pi' tr bi sz nu as' im at' op sp us tn sk ip) := by
  refine AMet.of (by decide +kernel) rfl (fun E ad0 hE => ?_)
  refine A_aload_n hE 1 dX9_givenBy_0 rfl rfl ?_
  refine A_get hE 4 dX9_givenBy_1 rfl fkX9_25 rfl rfl ?_
  refine A_iload_n hE 5 dX9_givenBy_4 rfl rfl ?_
  refine A_if_ne hE 8 13 dX9_givenBy_5 rfl rfl (fun c5 => absurd rfl c5) (fun c5 => ?_)
  refine A_bipush hE 10 dX9_givenBy_8 rfl (115) (by decide) ?_
  refine A_goto hE 15 dX9_givenBy_10 rfl ?_
  refine A_iload_n hE 16 dX9_givenBy_15 rfl rfl ?_
  refine A_iast hE 17 115 dX9_givenBy_16 rfl rfl rfl (by omega) rfl rfl ?_
  refine A_aload_n hE 18 dX9_givenBy_17 rfl rfl ?_
  refine A_get hE 21 dX9_givenBy_18 rfl fkX9_25 rfl rfl ?_
  refine A_iload_n hE 22 dX9_givenBy_21 rfl rfl ?_
  refine A_if_ne hE 25 30 dX9_givenBy_22 rfl rfl (fun c22 => absurd rfl c22) (fun c22 => ?_)
  refine A_bipush hE 27 dX9_givenBy_25 rfl (118) (by decide) ?_
  refine A_goto hE 32 dX9_givenBy_27 rfl ?_
  refine A_iload_n hE 33 dX9_givenBy_32 rfl rfl ?_
  refine A_iast hE 34 118 dX9_givenBy_33 rfl rfl rfl (by omega) rfl rfl ?_
  refine A_aload_n hE 35 dX9_givenBy_34 rfl rfl ?_
  refine A_get hE 38 dX9_givenBy_35 rfl fkX9_25 rfl rfl ?_
  refine A_bipush hE 40 dX9_givenBy_38 rfl (100) (by decide) ?_
  refine A_iload hE 42 dX9_givenBy_40 rfl rfl ?_
  refine A_iast hE 43 100 dX9_givenBy_42 rfl rfl rfl (by omega) rfl rfl ?_
  refine A_aload_n hE 44 dX9_givenBy_43 rfl rfl ?_
  refine A_iload_n hE 45 dX9_givenBy_44 rfl rfl ?_
  refine A_callVi hE 48 (c_X9_hasText s K be er st (upd (upd (upd na 115 a) 118 b) 100 c) pi tr bi sz nu as' im at' op sp us tn sk ip 0 (by omega)) [0, 1, 2, 3, 4, 5, 6, 7, 8, 9, 10, 11, 12] dX9_givenBy_45 rfl mkX9_104 rfl rfl rfl rfl rfl rfl rfl (Nat.le_of_ble_eq_true rfl) (Nat.le_of_ble_eq_true rfl) rfl (fun x45 h45 g45 hp45 hw45 => ?_)
  obtain ⟨rfl, rfl⟩ := hp45
  obtain rfl := Option.some.inj hw45
  refine A_h (MW s K be er st (upd (upd (upd na 115 a) 118 b) 100 c) pi tr bi sz nu as' im at' op sp us tn sk ip) rfl ?_
  refine A_if_eq hE 51 59 dX9_givenBy_48 rfl rfl (fun c48 => ?_) (fun c48 => ?_)
  · have hss := txt_no hm (bI_0 c48)
    refine A_iload_n hE 60 dX9_givenBy_59 rfl rfl ?_
    refine A_istore hE 62 dX9_givenBy_60 rfl rfl rfl ?_
    refine A_iload_n hE 63 dX9_givenBy_62 rfl rfl ?_
    refine A_if_ne hE 66 77 dX9_givenBy_63 rfl rfl (fun c63 => absurd rfl c63) (fun c63 => ?_)
    refine A_iload hE 68 dX9_givenBy_66 rfl rfl ?_
    refine A_iconst hE 69 dX9_givenBy_68 rfl (0) rfl ?_
    refine A_bipush hE 71 dX9_givenBy_69 rfl (99) (by decide) ?_
    refine A_callSi hE 74 (c_X9_held _ 0 99) [] dX9_givenBy_71 rfl mkX9_118 rfl rfl rfl rfl rfl rfl (Nat.le_of_ble_eq_true rfl) (Nat.le_of_ble_eq_true rfl) rfl (fun x71 h71 g71 hp71 hw71 => ?_)
    obtain ⟨rfl, rfl⟩ := hp71
    obtain rfl := Option.some.inj hw71
    refine A_goto hE 82 dX9_givenBy_74 rfl ?_
    refine A_iret hE dX9_givenBy_82 ?_
    exact ⟨by rw [hss]; rfl, _, pi, rfl⟩
  · have hss := txt_yes hm (bI_1 c48)
    refine A_aload_n hE 52 dX9_givenBy_51 rfl rfl ?_
    refine A_iload_n hE 53 dX9_givenBy_52 rfl rfl ?_
    refine A_callVi hE 56 (c_X9_worked s K be er st (upd (upd (upd na 115 a) 118 b) 100 c) pi tr bi sz nu as' im at' op sp us tn sk ip 0 ss a b c (by omega) hm hss (na_0 na a b c)) [0, 1, 2, 3, 4, 5, 6, 7, 8, 9, 10, 11, 12] dX9_givenBy_53 rfl mkX9_115 rfl rfl rfl rfl rfl rfl rfl (Nat.le_of_ble_eq_true rfl) (Nat.le_of_ble_eq_true rfl) rfl (fun x53 h53 g53 hp53 hw53 => ?_)
    obtain ⟨rfl, pi', rfl⟩ := hp53
    obtain rfl := Option.some.inj hw53
    refine A_h (MW s K be er st (upd (upd (upd na 115 a) 118 b) 100 c) pi' tr bi sz nu as' im at' op sp us tn sk ip) rfl ?_
    refine A_goto hE 60 dX9_givenBy_56 rfl ?_
    refine A_istore hE 62 dX9_givenBy_60 rfl rfl rfl ?_
    refine A_iload_n hE 63 dX9_givenBy_62 rfl rfl ?_
    refine A_if_ne hE 66 77 dX9_givenBy_63 rfl rfl (fun c63 => absurd rfl c63) (fun c63 => ?_)
    refine A_iload hE 68 dX9_givenBy_66 rfl rfl ?_
    refine A_iconst hE 69 dX9_givenBy_68 rfl (0) rfl ?_
    refine A_bipush hE 71 dX9_givenBy_69 rfl (99) (by decide) ?_
    refine A_callSi hE 74 (c_X9_held _ 0 99) [] dX9_givenBy_71 rfl mkX9_118 rfl rfl rfl rfl rfl rfl (Nat.le_of_ble_eq_true rfl) (Nat.le_of_ble_eq_true rfl) rfl (fun x71 h71 g71 hp71 hw71 => ?_)
    obtain ⟨rfl, rfl⟩ := hp71
    obtain rfl := Option.some.inj hw71
    refine A_goto hE 82 dX9_givenBy_74 rfl ?_
    refine A_iret hE dX9_givenBy_82 ?_
    exact ⟨by rw [lawV, if_pos rfl, raw_ne hss]; rfl, _, pi', rfl⟩
set_option maxRecDepth 100000 in
theorem c_givenBy1 (s K be er st na pi tr bi sz nu as' : Nat → Int32) (im at' op sp us tn sk ip : Int32) (ss : Sp) (a b c : Int32) (hm : MText s 1 ss) : AMet yX9_givenBy cX9_givenBy 6 (some (.int)) 2 0 0 [.ref 0, .int 1, .int a, .int b, .int c] (MW s K be er st na pi tr bi sz nu as' im at' op sp us tn sk ip) (pI fun x h => x = lawV 1 ss a b c ∧ ∃ na' pi' : Nat → Int32, h = MW s K be er st na' pi' tr bi sz nu as' im at' op sp us tn sk ip) := by
  refine AMet.of (by decide +kernel) rfl (fun E ad0 hE => ?_)
  refine A_aload_n hE 1 dX9_givenBy_0 rfl rfl ?_
  refine A_get hE 4 dX9_givenBy_1 rfl fkX9_25 rfl rfl ?_
  refine A_iload_n hE 5 dX9_givenBy_4 rfl rfl ?_
  refine A_if_ne hE 8 13 dX9_givenBy_5 rfl rfl (fun c5 => ?_) (fun c5 => absurd c5 (by decide))
  refine A_bipush hE 15 dX9_givenBy_13 rfl (108) (by decide) ?_
  refine A_iload_n hE 16 dX9_givenBy_15 rfl rfl ?_
  refine A_iast hE 17 108 dX9_givenBy_16 rfl rfl rfl (by omega) rfl rfl ?_
  refine A_aload_n hE 18 dX9_givenBy_17 rfl rfl ?_
  refine A_get hE 21 dX9_givenBy_18 rfl fkX9_25 rfl rfl ?_
  refine A_iload_n hE 22 dX9_givenBy_21 rfl rfl ?_
  refine A_if_ne hE 25 30 dX9_givenBy_22 rfl rfl (fun c22 => ?_) (fun c22 => absurd c22 (by decide))
  refine A_bipush hE 32 dX9_givenBy_30 rfl (115) (by decide) ?_
  refine A_iload_n hE 33 dX9_givenBy_32 rfl rfl ?_
  refine A_iast hE 34 115 dX9_givenBy_33 rfl rfl rfl (by omega) rfl rfl ?_
  refine A_aload_n hE 35 dX9_givenBy_34 rfl rfl ?_
  refine A_get hE 38 dX9_givenBy_35 rfl fkX9_25 rfl rfl ?_
  refine A_bipush hE 40 dX9_givenBy_38 rfl (100) (by decide) ?_
  refine A_iload hE 42 dX9_givenBy_40 rfl rfl ?_
  refine A_iast hE 43 100 dX9_givenBy_42 rfl rfl rfl (by omega) rfl rfl ?_
  refine A_aload_n hE 44 dX9_givenBy_43 rfl rfl ?_
  refine A_iload_n hE 45 dX9_givenBy_44 rfl rfl ?_
  refine A_callVi hE 48 (c_X9_hasText s K be er st (upd (upd (upd na 108 a) 115 b) 100 c) pi tr bi sz nu as' im at' op sp us tn sk ip 1 (by omega)) [0, 1, 2, 3, 4, 5, 6, 7, 8, 9, 10, 11, 12] dX9_givenBy_45 rfl mkX9_104 rfl rfl rfl rfl rfl rfl rfl (Nat.le_of_ble_eq_true rfl) (Nat.le_of_ble_eq_true rfl) rfl (fun x45 h45 g45 hp45 hw45 => ?_)
  obtain ⟨rfl, rfl⟩ := hp45
  obtain rfl := Option.some.inj hw45
  refine A_h (MW s K be er st (upd (upd (upd na 108 a) 115 b) 100 c) pi tr bi sz nu as' im at' op sp us tn sk ip) rfl ?_
  refine A_if_eq hE 51 59 dX9_givenBy_48 rfl rfl (fun c48 => ?_) (fun c48 => ?_)
  · have hss := txt_no hm (bI_0 c48)
    refine A_iload_n hE 60 dX9_givenBy_59 rfl rfl ?_
    refine A_istore hE 62 dX9_givenBy_60 rfl rfl rfl ?_
    refine A_iload_n hE 63 dX9_givenBy_62 rfl rfl ?_
    refine A_if_ne hE 66 77 dX9_givenBy_63 rfl rfl (fun c63 => ?_) (fun c63 => absurd c63 (by decide))
    refine A_iload hE 79 dX9_givenBy_77 rfl rfl ?_
    refine A_callSi hE 82 (c_X9_restOf _) [] dX9_givenBy_79 rfl mkX9_121 rfl rfl rfl rfl rfl rfl (Nat.le_of_ble_eq_true rfl) (Nat.le_of_ble_eq_true rfl) rfl (fun x79 h79 g79 hp79 hw79 => ?_)
    obtain ⟨rfl, rfl⟩ := hp79
    obtain rfl := Option.some.inj hw79
    refine A_iret hE dX9_givenBy_82 ?_
    exact ⟨by rw [hss]; rfl, _, pi, rfl⟩
  · have hss := txt_yes hm (bI_1 c48)
    refine A_aload_n hE 52 dX9_givenBy_51 rfl rfl ?_
    refine A_iload_n hE 53 dX9_givenBy_52 rfl rfl ?_
    refine A_callVi hE 56 (c_X9_worked s K be er st (upd (upd (upd na 108 a) 115 b) 100 c) pi tr bi sz nu as' im at' op sp us tn sk ip 1 ss a b c (by omega) hm hss (na_1 na a b c)) [0, 1, 2, 3, 4, 5, 6, 7, 8, 9, 10, 11, 12] dX9_givenBy_53 rfl mkX9_115 rfl rfl rfl rfl rfl rfl rfl (Nat.le_of_ble_eq_true rfl) (Nat.le_of_ble_eq_true rfl) rfl (fun x53 h53 g53 hp53 hw53 => ?_)
    obtain ⟨rfl, pi', rfl⟩ := hp53
    obtain rfl := Option.some.inj hw53
    refine A_h (MW s K be er st (upd (upd (upd na 108 a) 115 b) 100 c) pi' tr bi sz nu as' im at' op sp us tn sk ip) rfl ?_
    refine A_goto hE 60 dX9_givenBy_56 rfl ?_
    refine A_istore hE 62 dX9_givenBy_60 rfl rfl rfl ?_
    refine A_iload_n hE 63 dX9_givenBy_62 rfl rfl ?_
    refine A_if_ne hE 66 77 dX9_givenBy_63 rfl rfl (fun c63 => ?_) (fun c63 => absurd c63 (by decide))
    refine A_iload hE 79 dX9_givenBy_77 rfl rfl ?_
    refine A_callSi hE 82 (c_X9_restOf _) [] dX9_givenBy_79 rfl mkX9_121 rfl rfl rfl rfl rfl rfl (Nat.le_of_ble_eq_true rfl) (Nat.le_of_ble_eq_true rfl) rfl (fun x79 h79 g79 hp79 hw79 => ?_)
    obtain ⟨rfl, rfl⟩ := hp79
    obtain rfl := Option.some.inj hw79
    refine A_iret hE dX9_givenBy_82 ?_
    exact ⟨by rw [lawV, if_neg (by omega), raw_ne hss], _, pi', rfl⟩
set_option maxRecDepth 100000 in
theorem c_X9_saidAt (s K be er st na pi tr bi sz nu as' : Nat → Int32) (im at' op sp us tn sk ip : Int32) (i : Int32) (k : Nat) (hi : i = nI k) (hk : k < 8) (hw : wfH s (hn s) k) (t0 : Sp) (l0 : MText s 0 t0) : AMet yX9_saidAt cX9_saidAt 2 (some (.int)) 3 0 0 [.ref 0, .int i] (MW s K be er st na pi tr bi sz nu as' im at' op sp us tn sk ip) (pI fun x h => x = said t0 s k ∧ ∃ na' pi' : Nat → Int32, h = MW s K be er st na' pi' tr bi sz nu as' im at' op sp us tn sk ip) := by
  refine AMet.of (by decide +kernel) rfl (fun E ad0 hE => ?_)
  refine A_aload_n hE 1 dX9_saidAt_0 rfl rfl ?_
  refine A_iconst hE 2 dX9_saidAt_1 rfl (0) rfl ?_
  refine A_aload_n hE 3 dX9_saidAt_2 rfl rfl ?_
  refine A_iload_n hE 4 dX9_saidAt_3 rfl rfl ?_
  refine A_callVi hE 7 (c_X9_tellsOf s K be er st na pi tr bi sz nu as' im at' op sp us tn sk ip i k hi hk hw) [0, 1, 2, 3, 4, 5, 6, 7, 8, 9, 10, 11, 12] dX9_saidAt_4 rfl mkX9_124 rfl rfl rfl rfl rfl rfl rfl (Nat.le_of_ble_eq_true rfl) (Nat.le_of_ble_eq_true rfl) rfl (fun x4 h4 g4 hp4 hw4 => ?_)
  obtain ⟨rfl, rfl⟩ := hp4
  obtain rfl := Option.some.inj hw4
  refine A_h (MW s K be er st na pi tr bi sz nu as' im at' op sp us tn sk ip) rfl ?_
  refine A_aload_n hE 8 dX9_saidAt_7 rfl rfl ?_
  refine A_get hE 11 dX9_saidAt_8 rfl fkX9_7 rfl rfl ?_
  refine A_iconst hE 12 dX9_saidAt_11 rfl (1) rfl ?_
  refine A_iald hE 13 1 dX9_saidAt_12 rfl rfl rfl (by omega) rfl ?_
  refine A_bipush hE 15 dX9_saidAt_13 rfl (10) (by decide) ?_
  refine A_idiv hE 16 dX9_saidAt_15 rfl (by decide) ?_
  refine A_aload_n hE 17 dX9_saidAt_16 rfl rfl ?_
  refine A_get hE 20 dX9_saidAt_17 rfl fkX9_7 rfl rfl ?_
  refine A_iconst hE 21 dX9_saidAt_20 rfl (0) rfl ?_
  refine A_iald hE 22 0 dX9_saidAt_21 rfl rfl rfl (by omega) rfl ?_
  refine A_bipush hE 24 dX9_saidAt_22 rfl (8) (by decide) ?_
  refine A_irem hE 25 dX9_saidAt_24 rfl (by decide) ?_
  refine A_callVi hE 28 (c_givenBy0 s K be er st na pi tr bi sz nu as' im at' op sp us tn sk ip t0 (tells s k) (s 1 / 10) (rm (s 0) 8) l0) [0, 1, 2, 3, 4, 5, 6, 7, 8, 9, 10, 11, 12] dX9_saidAt_25 rfl mkX9_127 rfl rfl rfl rfl rfl rfl rfl (Nat.le_of_ble_eq_true rfl) (Nat.le_of_ble_eq_true rfl) rfl (fun x25 h25 g25 hp25 hw25 => ?_)
  obtain ⟨rfl, na1, pi1, rfl⟩ := hp25
  obtain rfl := Option.some.inj hw25
  refine A_iret hE dX9_saidAt_28 ⟨rfl, na1, pi1, rfl⟩
set_option maxRecDepth 100000 in
theorem c_X9_behindAt (s K be er st na pi tr bi sz nu as' : Nat → Int32) (im at' op sp us tn sk ip : Int32) (i : Int32) (k : Nat) (hi : i = nI k) (hk : k < 8) (hw : wfH s (hn s) k) (t1 : Sp) (l1 : MText s 1 t1) : AMet yX9_behindAt cX9_behindAt 2 (some (.int)) 3 0 0 [.ref 0, .int i] (MW s K be er st na pi tr bi sz nu as' im at' op sp us tn sk ip) (pI fun x h => x = behind t1 s k ∧ ∃ na' pi' : Nat → Int32, h = MW s K be er st na' pi' tr bi sz nu as' im at' op sp us tn sk ip) := by
  refine AMet.of (by decide +kernel) rfl (fun E ad0 hE => ?_)
  refine A_aload_n hE 1 dX9_behindAt_0 rfl rfl ?_
  refine A_iconst hE 2 dX9_behindAt_1 rfl (1) rfl ?_
  refine A_aload_n hE 3 dX9_behindAt_2 rfl rfl ?_
  refine A_iload_n hE 4 dX9_behindAt_3 rfl rfl ?_
  refine A_callVi hE 7 (c_X9_leavesOf s K be er st na pi tr bi sz nu as' im at' op sp us tn sk ip i k hi hk hw) [0, 1, 2, 3, 4, 5, 6, 7, 8, 9, 10, 11, 12] dX9_behindAt_4 rfl mkX9_131 rfl rfl rfl rfl rfl rfl rfl (Nat.le_of_ble_eq_true rfl) (Nat.le_of_ble_eq_true rfl) rfl (fun x4 h4 g4 hp4 hw4 => ?_)
  obtain ⟨rfl, rfl⟩ := hp4
  obtain rfl := Option.some.inj hw4
  refine A_h (MW s K be er st na pi tr bi sz nu as' im at' op sp us tn sk ip) rfl ?_
  refine A_aload_n hE 8 dX9_behindAt_7 rfl rfl ?_
  refine A_get hE 11 dX9_behindAt_8 rfl fkX9_7 rfl rfl ?_
  refine A_iconst hE 12 dX9_behindAt_11 rfl (2) rfl ?_
  refine A_iald hE 13 2 dX9_behindAt_12 rfl rfl rfl (by omega) rfl ?_
  refine A_bipush hE 15 dX9_behindAt_13 rfl (10) (by decide) ?_
  refine A_idiv hE 16 dX9_behindAt_15 rfl (by decide) ?_
  refine A_aload_n hE 17 dX9_behindAt_16 rfl rfl ?_
  refine A_get hE 20 dX9_behindAt_17 rfl fkX9_7 rfl rfl ?_
  refine A_iconst hE 21 dX9_behindAt_20 rfl (0) rfl ?_
  refine A_iald hE 22 0 dX9_behindAt_21 rfl rfl rfl (by omega) rfl ?_
  refine A_bipush hE 24 dX9_behindAt_22 rfl (8) (by decide) ?_
  refine A_irem hE 25 dX9_behindAt_24 rfl (by decide) ?_
  refine A_callVi hE 28 (c_givenBy1 s K be er st na pi tr bi sz nu as' im at' op sp us tn sk ip t1 (leaves s k) (s 2 / 10) (rm (s 0) 8) l1) [0, 1, 2, 3, 4, 5, 6, 7, 8, 9, 10, 11, 12] dX9_behindAt_25 rfl mkX9_127 rfl rfl rfl rfl rfl rfl rfl (Nat.le_of_ble_eq_true rfl) (Nat.le_of_ble_eq_true rfl) rfl (fun x25 h25 g25 hp25 hw25 => ?_)
  obtain ⟨rfl, na1, pi1, rfl⟩ := hp25
  obtain rfl := Option.some.inj hw25
  refine A_iret hE dX9_behindAt_28 ⟨rfl, na1, pi1, rfl⟩
set_option maxRecDepth 100000 in
theorem c_X9_nextOne (s K be er st na pi tr bi sz nu as' : Nat → Int32) (im at' op sp us tn sk ip : Int32) (w : wf s) (ha : atN s < hn s) : AMet yX9_nextOne cX9_nextOne 3 (some (.int)) 1 0 0 [.ref 0] (MW s K be er st na pi tr bi sz nu as' im at' op sp us tn sk ip) (pI fun x h => x = nI (nxt s) ∧ h = MW s K be er st na pi tr bi sz nu as' im at' op sp us tn sk ip) := by
  refine AMet.of (by decide +kernel) rfl (fun E ad0 hE => ?_)
  obtain ⟨w1, w2, w3, w4, w5, w6, w7⟩ := id w
  have hmod : ∀ z, z % hn s < hn s := fun z => Nat.mod_lt _ (by omega)
  have loop : ∀ (m i : Nat), hn s - i = m → 1 ≤ i → i ≤ hn s → nxt s = nxtF s (hn s) (atN s) m i → AW E (rmD 1 0 0) 3 (QM E ad0 13 0 0 (pI fun x h => x = nI (nxt s) ∧ h = MW s K be er st na pi tr bi sz nu as' im at' op sp us tn sk ip)) ad0 13 0 0 2 [(0, .ref 0), (1, .int (nI i))] [] (MW s K be er st na pi tr bi sz nu as' im at' op sp us tn sk ip) := by
    intro m
    induction m with
    | zero =>
      intro i hm hi1 hi2 hx
      refine A_iload_n hE 3 dX9_nextOne_2 rfl rfl ?_
      refine A_aload_n hE 4 dX9_nextOne_3 rfl rfl ?_
      refine A_get hE 7 dX9_nextOne_4 rfl fkX9_7 rfl rfl ?_
      refine A_bipush hE 9 dX9_nextOne_7 rfl (8) (by decide) ?_
      refine A_iald hE 10 8 dX9_nextOne_9 rfl rfl rfl (by omega) rfl ?_
      refine A_icmp_ge hE 13 47 dX9_nextOne_10 rfl rfl (fun c10 => ?_) (fun c10 => absurd (by rw [w2]; exact nI_le (by omega) (by omega)) c10)
      refine A_aload_n hE 48 dX9_nextOne_47 rfl rfl ?_
      refine A_get hE 51 dX9_nextOne_48 rfl fkX9_7 rfl rfl ?_
      refine A_iconst hE 52 dX9_nextOne_51 rfl (4) rfl ?_
      refine A_iald hE 53 4 dX9_nextOne_52 rfl rfl rfl (by omega) rfl ?_
      refine A_iret hE dX9_nextOne_53 ⟨by rw [hx]; exact w3, rfl⟩
    | succ m ih =>
      intro i hm hi1 hi2 hx
      have hm2 := hmod (atN s + i)
      refine A_iload_n hE 3 dX9_nextOne_2 rfl rfl ?_
      refine A_aload_n hE 4 dX9_nextOne_3 rfl rfl ?_
      refine A_get hE 7 dX9_nextOne_4 rfl fkX9_7 rfl rfl ?_
      refine A_bipush hE 9 dX9_nextOne_7 rfl (8) (by decide) ?_
      refine A_iald hE 10 8 dX9_nextOne_9 rfl rfl rfl (by omega) rfl ?_
      refine A_icmp_ge hE 13 47 dX9_nextOne_10 rfl rfl (fun c10 => absurd c10 (by rw [w2]; exact nI_ge (show i < hn s by omega) (by omega))) (fun c10 => ?_)
      refine A_aload_n hE 14 dX9_nextOne_13 rfl rfl ?_
      refine A_get hE 17 dX9_nextOne_14 rfl fkX9_7 rfl rfl ?_
      refine A_iconst hE 18 dX9_nextOne_17 rfl (4) rfl ?_
      refine A_iald hE 19 4 dX9_nextOne_18 rfl rfl rfl (by omega) rfl ?_
      refine A_iload_n hE 20 dX9_nextOne_19 rfl rfl ?_
      refine A_iadd hE 21 dX9_nextOne_20 rfl ?_
      refine A_aload_n hE 22 dX9_nextOne_21 rfl rfl ?_
      refine A_get hE 25 dX9_nextOne_22 rfl fkX9_7 rfl rfl ?_
      refine A_bipush hE 27 dX9_nextOne_25 rfl (8) (by decide) ?_
      refine A_iald hE 28 8 dX9_nextOne_27 rfl rfl rfl (by omega) rfl ?_
      refine A_irem hE 29 dX9_nextOne_28 rfl (by rw [w2]; exact nI_ne0 (by omega) (by omega)) ?_
      rw [show rm (s 4 + nI i) (s 8) = nI ((atN s + i) % hn s) by rw [w2, w3, nI_add]; exact pk_rem (by omega) (by omega) (by omega)]
      refine A_istore_n hE 30 dX9_nextOne_29 rfl rfl rfl ?_
      refine A_aload_n hE 31 dX9_nextOne_30 rfl rfl ?_
      refine A_iload_n hE 32 dX9_nextOne_31 rfl rfl ?_
      refine A_iconst hE 33 dX9_nextOne_32 rfl (4) rfl ?_
      refine A_callVi hE 36 (c_X9_its s K be er st na pi tr bi sz nu as' im at' op sp us tn sk ip (nI ((atN s + i) % hn s)) 4 ((atN s + i) % hn s) 4 rfl rfl (by omega) (by omega)) [0, 1, 2, 3, 4, 5, 6, 7, 8, 9, 10, 11, 12] dX9_nextOne_33 rfl mkX9_111 rfl rfl rfl rfl rfl rfl rfl (Nat.le_of_ble_eq_true rfl) (Nat.le_of_ble_eq_true rfl) rfl (fun x33 h33 g33 hp33 hw33 => ?_)
      obtain ⟨rfl, rfl⟩ := hp33
      obtain rfl := Option.some.inj hw33
      refine A_h (MW s K be er st na pi tr bi sz nu as' im at' op sp us tn sk ip) rfl ?_
      refine A_if_ne hE 39 41 dX9_nextOne_36 rfl rfl (fun c36 => ?_) (fun c36 => ?_)
      · refine A_iinc hE 44 dX9_nextOne_41 rfl rfl (1) rfl rfl rfl ?_
        rw [nI_1]
        refine A_lv [0, 1] rfl ?_
        refine A_goto hE 2 dX9_nextOne_44 rfl ?_
        exact ih (i + 1) (by omega) (by omega) (by omega) (by rw [hx, nxtF_s, if_neg c36])
      · refine A_iload_n hE 40 dX9_nextOne_39 rfl rfl ?_
        refine A_iret hE dX9_nextOne_40 ⟨by rw [hx, nxtF_s, if_pos c36], rfl⟩
  refine A_iconst hE 1 dX9_nextOne_0 rfl (1) rfl ?_
  refine A_istore_n hE 2 dX9_nextOne_1 rfl rfl rfl ?_
  refine A_lv [0, 1] rfl ?_
  exact loop (hn s - 1) 1 rfl (by omega) (by omega) rfl
theorem lawS_hear {t0 t1 : Sp} {s : St} {a : Nat} {u v : Int32} : behind t1 (upd (upd s (9 + 5 * a + 2) u) (9 + 5 * a + 3) v) a = behind t1 s a := by
  have e : ∀ j, j = 0 ∨ j = 1 → its (upd (upd s (9 + 5 * a + 2) u) (9 + 5 * a + 3) v) a j = its s a j := fun j hj => by
    rw [its_upd (by omega) (by omega), if_neg (by omega), its_upd (by omega) (by omega), if_neg (by omega)]
  have e2 : ∀ k, k < 9 → upd (upd s (9 + 5 * a + 2) u) (9 + 5 * a + 3) v k = s k := fun k hk => by rw [upd_n (by omega), upd_n (by omega)]
  unfold behind leaves
  rw [e 0 (Or.inl rfl), e 1 (Or.inr rfl), e2 0 (by omega), e2 1 (by omega), e2 2 (by omega), e2 8 (by omega)]
theorem blunts_hear {s : St} {a : Nat} {u v : Int32} : blunts (upd (upd s (9 + 5 * a + 2) u) (9 + 5 * a + 3) v) a = blunts s a := by
  have e : ∀ j, j = 0 ∨ j = 1 → its (upd (upd s (9 + 5 * a + 2) u) (9 + 5 * a + 3) v) a j = its s a j := fun j hj => by
    rw [its_upd (by omega) (by omega), if_neg (by omega), its_upd (by omega) (by omega), if_neg (by omega)]
  unfold blunts
  rw [e 0 (Or.inl rfl), e 1 (Or.inr rfl)]
theorem MText.hi {s : St} {u a j : Nat} {ss : Sp} {v : Int32} (ha : a < 8) (hj : j < 5) (h : MText s u ss) : MText (upd s (9 + 5 * a + j) v) u ss := h.lo (by omega)
theorem MT_hear {t0 : Sp} {s : St} {u : Nat} {ss : Sp} (w : wf s) (h : MText s u ss) : MText (hearS t0 s) u ss := by
  unfold hearS
  by_cases z : 0 < hn s
  · rw [if_pos z]
    have ha : atN s < 8 := by have := w.1; rcases w.2.2.2.1 with q | q <;> omega
    exact (h.hi ha (by omega)).hi ha (by omega)
  · rw [if_neg z]; exact h
theorem MT_go {t1 : Sp} {s : St} {u : Nat} {ss : Sp} (h : MText s u ss) : MText (goS t1 s) u ss := by
  unfold goS
  split
  · exact ((h.lo (by omega)).lo (by omega)).lo (by omega)
  · exact h
theorem MT_age {s : St} {u : Nat} {ss : Sp} (h : MText s u ss) : MText (ageS s) u ss := by
  unfold ageS
  split
  · exact (h.lo (by omega)).lo (by omega)
  · exact h.lo (by omega)
theorem MT_day {t0 t1 : Sp} {s : St} {u : Nat} {ss : Sp} (w : wf s) (h : MText s u ss) : MText (day1 t0 t1 s) u ss := MT_age (MT_go (MT_hear w h))
theorem MT_dN {t0 t1 : Sp} {u : Nat} {ss : Sp} : ∀ (n : Nat) {s : St}, wf s → MText s u ss → MText (dN t0 t1 n s) u ss
  | 0, _, _, h => h
  | n + 1, _, w, h => MT_dN n (wf_day w) (MT_day w h)

theorem hn_hear {t0 : Sp} {s : St} : hn (hearS t0 s) = hn s := by
  unfold hearS
  split
  · rw [hn_hi, hn_hi]
  · rfl
theorem at_hi {s : St} {a j : Nat} {v : Int32} : atN (upd s (9 + 5 * a + j) v) = atN s := by unfold atN; rw [upd_lo_hi (by omega)]
theorem at_hear {t0 : Sp} {s : St} : atN (hearS t0 s) = atN s := by
  unfold hearS
  split
  · rw [at_hi, at_hi]
  · rfl
theorem go2_hear {t0 t1 : Sp} {s : St} (h : 0 < hn s) : go2 t1 (hearS t0 s) = upd (upd (hearS t0 s) 1 (behind t1 s (atN s))) 2 (heldV (s 2 - blunts s (atN s)) 0 99) := by
  unfold go2
  rw [at_hear]
  have e : hearS t0 s = upd (upd s (9 + 5 * atN s + 2) (heldV (its s (atN s) 2 + said t0 s (atN s)) 0 9999)) (9 + 5 * atN s + 3) (heldV (its s (atN s) 3 + 1) 0 9999) := by rw [hearS, if_pos h]
  rw [e, lawS_hear (t0 := t0), blunts_hear, upd_n (show 2 ≠ 9 + 5 * atN s + 3 by omega), upd_n (show 2 ≠ 9 + 5 * atN s + 2 by omega)]

set_option maxRecDepth 100000 in
theorem c_X9_day1 (s K be er st na pi tr bi sz nu as' : Nat → Int32) (im at' op sp us tn sk ip : Int32) (t0 t1 : Sp) (w : wf s) (l0 : MText s 0 t0) (l1 : MText s 1 t1) : AMet yX9_day1 cX9_day1 5 none 4 0 0 [.ref 0] (MW s K be er st na pi tr bi sz nu as' im at' op sp us tn sk ip) (pV fun h => ∃ na' pi' : Nat → Int32, h = MW (day1 t0 t1 s) K be er st na' pi' tr bi sz nu as' im at' op sp us tn sk ip) := by
  refine AMet.of (by decide +kernel) rfl (fun E ad0 hE => ?_)
  obtain ⟨w1, w2, w3, w4, w5, w6, w7⟩ := id w
  have tail : ∀ (s' na pi : Nat → Int32), wf s' → day1 t0 t1 s = ageS s' → AW E (rmD 4 0 0) 5 (QM E ad0 13 0 0 (pV fun h => ∃ na' pi' : Nat → Int32, h = MW (day1 t0 t1 s) K be er st na' pi' tr bi sz nu as' im at' op sp us tn sk ip)) ad0 13 0 0 116 [(0, .ref 0)] [] (MW s' K be er st na pi tr bi sz nu as' im at' op sp us tn sk ip) := by
    intro s' na pi w' he
    obtain ⟨k, hk1, hk2, hk3⟩ := w'.2.2.2.2.2.2
    refine A_aload_n hE 117 dX9_day1_116 rfl rfl ?_
    refine A_get hE 120 dX9_day1_117 rfl fkX9_7 rfl rfl ?_
    refine A_iconst hE 121 dX9_day1_120 rfl (0) rfl ?_
    refine A_dup2 hE 122 dX9_day1_121 rfl rfl rfl ?_
    refine A_iald hE 123 0 dX9_day1_122 rfl rfl rfl (by omega) rfl ?_
    refine A_iconst hE 124 dX9_day1_123 rfl (1) rfl ?_
    refine A_iadd hE 125 dX9_day1_124 rfl ?_
    refine A_iast hE 126 0 dX9_day1_125 rfl rfl rfl (by omega) rfl rfl ?_
    refine A_aload_n hE 127 dX9_day1_126 rfl rfl ?_
    refine A_get hE 130 dX9_day1_127 rfl fkX9_7 rfl rfl ?_
    refine A_iconst hE 131 dX9_day1_130 rfl (0) rfl ?_
    refine A_iald hE 132 0 dX9_day1_131 rfl rfl rfl (by omega) rfl ?_
    rw [show upd s' 0 (s' 0 + 1) 0 = s' 0 + 1 from rfl]
    refine A_aload_n hE 133 dX9_day1_132 rfl rfl ?_
    refine A_get hE 136 dX9_day1_133 rfl fkX9_7 rfl rfl ?_
    refine A_iconst hE 137 dX9_day1_136 rfl (3) rfl ?_
    refine A_iald hE 138 3 dX9_day1_137 rfl rfl rfl (by omega) rfl ?_
    rw [show upd s' 0 (s' 0 + 1) 3 = s' 3 from rfl]
    refine A_irem hE 139 dX9_day1_138 rfl (by rw [hk3]; exact nI_ne0 (by omega) (by omega)) ?_
    refine A_if_ne hE 142 150 dX9_day1_139 rfl rfl (fun c139 => ?_) (fun c139 => ?_)
    · refine A_vret hE dX9_day1_150 ?_
      exact ⟨na, pi, by rw [he, ageS, if_neg c139]⟩
    · refine A_aload_n hE 143 dX9_day1_142 rfl rfl ?_
      refine A_get hE 146 dX9_day1_143 rfl fkX9_7 rfl rfl ?_
      refine A_iconst hE 147 dX9_day1_146 rfl (2) rfl ?_
      refine A_bipush hE 149 dX9_day1_147 rfl (99) (by decide) ?_
      refine A_iast hE 150 2 dX9_day1_149 rfl rfl rfl (by omega) rfl rfl ?_
      refine A_vret hE dX9_day1_150 ?_
      exact ⟨na, pi, by rw [he, ageS, if_pos c139]⟩
  refine A_aload_n hE 1 dX9_day1_0 rfl rfl ?_
  refine A_get hE 4 dX9_day1_1 rfl fkX9_7 rfl rfl ?_
  refine A_bipush hE 6 dX9_day1_4 rfl (8) (by decide) ?_
  refine A_iald hE 7 8 dX9_day1_6 rfl rfl rfl (by omega) rfl ?_
  refine A_if_le hE 10 116 dX9_day1_7 rfl rfl (fun c7 => ?_) (fun c7 => ?_)
  · have hz : hn s = 0 := by rcases Nat.eq_zero_or_pos (hn s) with e | e; exact e; exact absurd c7 (by rw [w2]; exact nI_nle e (by omega))
    refine A_lv [0] rfl ?_
    exact tail s na pi w (by rw [day1, carS, hearS, if_neg (by omega), goS, if_neg (by omega)])
  · have hz : 0 < hn s := by rcases Nat.eq_zero_or_pos (hn s) with e | e; exact absurd (by rw [w2, e]; decide) c7; exact e
    have ha : atN s < hn s := by rcases w4 with z | z <;> omega
    have e2 : hearS t0 s = (upd (upd s (9 + 5 * atN s + 2) (heldV (its s (atN s) 2 + said t0 s (atN s)) 0 9999)) (9 + 5 * atN s + 3) (heldV (its s (atN s) 3 + 1) 0 9999)) := by rw [hearS, if_pos hz]
    refine A_aload_n hE 11 dX9_day1_10 rfl rfl ?_
    refine A_get hE 14 dX9_day1_11 rfl fkX9_7 rfl rfl ?_
    refine A_iconst hE 15 dX9_day1_14 rfl (4) rfl ?_
    refine A_iald hE 16 4 dX9_day1_15 rfl rfl rfl (by omega) rfl ?_
    refine A_istore_n hE 17 dX9_day1_16 rfl rfl rfl ?_
    refine A_aload_n hE 18 dX9_day1_17 rfl rfl ?_
    refine A_iload_n hE 19 dX9_day1_18 rfl rfl ?_
    refine A_callVi hE 22 (c_X9_saidAt s K be er st na pi tr bi sz nu as' im at' op sp us tn sk ip (s 4) (atN s) w3 (by omega) (w5 _ (by omega)) t0 l0) [0, 1, 2, 3, 4, 5, 6, 7, 8, 9, 10, 11, 12] dX9_day1_19 rfl mkX9_134 rfl rfl rfl rfl rfl rfl rfl (Nat.le_of_ble_eq_true rfl) (Nat.le_of_ble_eq_true rfl) rfl (fun x19 h19 g19 hp19 hw19 => ?_)
    obtain ⟨rfl, na1, pi1, rfl⟩ := hp19
    obtain rfl := Option.some.inj hw19
    refine A_h (MW s K be er st na1 pi1 tr bi sz nu as' im at' op sp us tn sk ip) rfl ?_
    refine A_istore_n hE 23 dX9_day1_22 rfl rfl rfl ?_
    refine A_aload_n hE 24 dX9_day1_23 rfl rfl ?_
    refine A_iload_n hE 25 dX9_day1_24 rfl rfl ?_
    refine A_callVi hE 28 (c_X9_behindAt s K be er st na1 pi1 tr bi sz nu as' im at' op sp us tn sk ip (s 4) (atN s) w3 (by omega) (w5 _ (by omega)) t1 l1) [0, 1, 2, 3, 4, 5, 6, 7, 8, 9, 10, 11, 12] dX9_day1_25 rfl mkX9_137 rfl rfl rfl rfl rfl rfl rfl (Nat.le_of_ble_eq_true rfl) (Nat.le_of_ble_eq_true rfl) rfl (fun x25 h25 g25 hp25 hw25 => ?_)
    obtain ⟨rfl, na2, pi2, rfl⟩ := hp25
    obtain rfl := Option.some.inj hw25
    refine A_h (MW s K be er st na2 pi2 tr bi sz nu as' im at' op sp us tn sk ip) rfl ?_
    refine A_istore_n hE 29 dX9_day1_28 rfl rfl rfl ?_
    refine A_aload_n hE 30 dX9_day1_29 rfl rfl ?_
    refine A_iload_n hE 31 dX9_day1_30 rfl rfl ?_
    refine A_callVi hE 34 (c_X9_bluntsOf s K be er st na2 pi2 tr bi sz nu as' im at' op sp us tn sk ip (s 4) (atN s) w3 (by omega) (w5 _ (by omega))) [0, 1, 2, 3, 4, 5, 6, 7, 8, 9, 10, 11, 12] dX9_day1_31 rfl mkX9_140 rfl rfl rfl rfl rfl rfl rfl (Nat.le_of_ble_eq_true rfl) (Nat.le_of_ble_eq_true rfl) rfl (fun x31 h31 g31 hp31 hw31 => ?_)
    obtain ⟨rfl, rfl⟩ := hp31
    obtain rfl := Option.some.inj hw31
    refine A_h (MW s K be er st na2 pi2 tr bi sz nu as' im at' op sp us tn sk ip) rfl ?_
    refine A_istore hE 36 dX9_day1_34 rfl rfl rfl ?_
    refine A_aload_n hE 37 dX9_day1_36 rfl rfl ?_
    refine A_iload_n hE 38 dX9_day1_37 rfl rfl ?_
    refine A_iconst hE 39 dX9_day1_38 rfl (2) rfl ?_
    refine A_aload_n hE 40 dX9_day1_39 rfl rfl ?_
    refine A_iload_n hE 41 dX9_day1_40 rfl rfl ?_
    refine A_iconst hE 42 dX9_day1_41 rfl (2) rfl ?_
    refine A_callVi hE 45 (c_X9_its s K be er st na2 pi2 tr bi sz nu as' im at' op sp us tn sk ip (s 4) 2 (atN s) 2 w3 rfl (by omega) (by omega)) [0, 1, 2, 3, 4, 5, 6, 7, 8, 9, 10, 11, 12] dX9_day1_42 rfl mkX9_111 rfl rfl rfl rfl rfl rfl rfl (Nat.le_of_ble_eq_true rfl) (Nat.le_of_ble_eq_true rfl) rfl (fun x42 h42 g42 hp42 hw42 => ?_)
    obtain ⟨rfl, rfl⟩ := hp42
    obtain rfl := Option.some.inj hw42
    refine A_h (MW s K be er st na2 pi2 tr bi sz nu as' im at' op sp us tn sk ip) rfl ?_
    refine A_iload_n hE 46 dX9_day1_45 rfl rfl ?_
    refine A_iadd hE 47 dX9_day1_46 rfl ?_
    refine A_iconst hE 48 dX9_day1_47 rfl (0) rfl ?_
    refine A_sipush hE 51 dX9_day1_48 rfl (9999) (by decide) ?_
    refine A_callSi hE 54 (c_X9_held _ 0 9999) [] dX9_day1_51 rfl mkX9_118 rfl rfl rfl rfl rfl rfl (Nat.le_of_ble_eq_true rfl) (Nat.le_of_ble_eq_true rfl) rfl (fun x51 h51 g51 hp51 hw51 => ?_)
    obtain ⟨rfl, rfl⟩ := hp51
    obtain rfl := Option.some.inj hw51
    refine A_callVv hE 57 (c_X9_lays1 s K be er st na2 pi2 tr bi sz nu as' im at' op sp us tn sk ip (s 4) 2 (atN s) 2 w3 rfl (by omega) (by omega) _) [0, 1, 2, 3, 4, 5, 6, 7, 8, 9, 10, 11, 12] dX9_day1_54 rfl mkX9_143 rfl rfl rfl rfl rfl rfl rfl (Nat.le_of_ble_eq_true rfl) (Nat.le_of_ble_eq_true rfl) rfl (fun h54 g54 hp54 hw54 => ?_)
    obtain rfl := hp54
    obtain rfl := Option.some.inj hw54
    refine A_h (MW (upd s (9 + 5 * atN s + 2) (heldV (its s (atN s) 2 + said t0 s (atN s)) 0 9999)) K be er st na2 pi2 tr bi sz nu as' im at' op sp us tn sk ip) rfl ?_
    refine A_aload_n hE 58 dX9_day1_57 rfl rfl ?_
    refine A_iload_n hE 59 dX9_day1_58 rfl rfl ?_
    refine A_iconst hE 60 dX9_day1_59 rfl (3) rfl ?_
    refine A_aload_n hE 61 dX9_day1_60 rfl rfl ?_
    refine A_iload_n hE 62 dX9_day1_61 rfl rfl ?_
    refine A_iconst hE 63 dX9_day1_62 rfl (3) rfl ?_
    refine A_callVi hE 66 (c_X9_its (upd s (9 + 5 * atN s + 2) (heldV (its s (atN s) 2 + said t0 s (atN s)) 0 9999)) K be er st na2 pi2 tr bi sz nu as' im at' op sp us tn sk ip (s 4) 3 (atN s) 3 w3 rfl (by omega) (by omega)) [0, 1, 2, 3, 4, 5, 6, 7, 8, 9, 10, 11, 12] dX9_day1_63 rfl mkX9_111 rfl rfl rfl rfl rfl rfl rfl (Nat.le_of_ble_eq_true rfl) (Nat.le_of_ble_eq_true rfl) rfl (fun x63 h63 g63 hp63 hw63 => ?_)
    obtain ⟨rfl, rfl⟩ := hp63
    obtain rfl := Option.some.inj hw63
    refine A_h (MW (upd s (9 + 5 * atN s + 2) (heldV (its s (atN s) 2 + said t0 s (atN s)) 0 9999)) K be er st na2 pi2 tr bi sz nu as' im at' op sp us tn sk ip) rfl ?_
    rw [show its (upd s (9 + 5 * atN s + 2) (heldV (its s (atN s) 2 + said t0 s (atN s)) 0 9999)) (atN s) 3 = its s (atN s) 3 by rw [its_upd (by omega) (by omega)]; exact if_neg (by omega)]
    refine A_iconst hE 67 dX9_day1_66 rfl (1) rfl ?_
    refine A_iadd hE 68 dX9_day1_67 rfl ?_
    refine A_iconst hE 69 dX9_day1_68 rfl (0) rfl ?_
    refine A_sipush hE 72 dX9_day1_69 rfl (9999) (by decide) ?_
    refine A_callSi hE 75 (c_X9_held _ 0 9999) [] dX9_day1_72 rfl mkX9_118 rfl rfl rfl rfl rfl rfl (Nat.le_of_ble_eq_true rfl) (Nat.le_of_ble_eq_true rfl) rfl (fun x72 h72 g72 hp72 hw72 => ?_)
    obtain ⟨rfl, rfl⟩ := hp72
    obtain rfl := Option.some.inj hw72
    refine A_callVv hE 78 (c_X9_lays1 (upd s (9 + 5 * atN s + 2) (heldV (its s (atN s) 2 + said t0 s (atN s)) 0 9999)) K be er st na2 pi2 tr bi sz nu as' im at' op sp us tn sk ip (s 4) 3 (atN s) 3 w3 rfl (by omega) (by omega) _) [0, 1, 2, 3, 4, 5, 6, 7, 8, 9, 10, 11, 12] dX9_day1_75 rfl mkX9_143 rfl rfl rfl rfl rfl rfl rfl (Nat.le_of_ble_eq_true rfl) (Nat.le_of_ble_eq_true rfl) rfl (fun h75 g75 hp75 hw75 => ?_)
    obtain rfl := hp75
    obtain rfl := Option.some.inj hw75
    refine A_h (MW (hearS t0 s) K be er st na2 pi2 tr bi sz nu as' im at' op sp us tn sk ip) (by rw [e2]; rfl) ?_
    refine A_aload_n hE 79 dX9_day1_78 rfl rfl ?_
    refine A_get hE 82 dX9_day1_79 rfl fkX9_7 rfl rfl ?_
    refine A_iconst hE 83 dX9_day1_82 rfl (1) rfl ?_
    refine A_iload_n hE 84 dX9_day1_83 rfl rfl ?_
    refine A_iast hE 85 1 dX9_day1_84 rfl rfl rfl (by omega) rfl rfl ?_
    refine A_aload_n hE 86 dX9_day1_85 rfl rfl ?_
    refine A_get hE 89 dX9_day1_86 rfl fkX9_7 rfl rfl ?_
    refine A_iconst hE 90 dX9_day1_89 rfl (2) rfl ?_
    refine A_aload_n hE 91 dX9_day1_90 rfl rfl ?_
    refine A_get hE 94 dX9_day1_91 rfl fkX9_7 rfl rfl ?_
    refine A_iconst hE 95 dX9_day1_94 rfl (2) rfl ?_
    refine A_iald hE 96 2 dX9_day1_95 rfl rfl rfl (by omega) rfl ?_
    rw [show upd (hearS t0 s) 1 (behind t1 s (atN s)) 2 = s 2 by rw [upd_n (by omega), e2, upd_n (by omega), upd_n (by omega)]]
    refine A_iload hE 98 dX9_day1_96 rfl rfl ?_
    refine A_isub hE 99 dX9_day1_98 rfl ?_
    refine A_iconst hE 100 dX9_day1_99 rfl (0) rfl ?_
    refine A_bipush hE 102 dX9_day1_100 rfl (99) (by decide) ?_
    refine A_callSi hE 105 (c_X9_held _ 0 99) [] dX9_day1_102 rfl mkX9_118 rfl rfl rfl rfl rfl rfl (Nat.le_of_ble_eq_true rfl) (Nat.le_of_ble_eq_true rfl) rfl (fun x102 h102 g102 hp102 hw102 => ?_)
    obtain ⟨rfl, rfl⟩ := hp102
    obtain rfl := Option.some.inj hw102
    refine A_iast hE 106 2 dX9_day1_105 rfl rfl rfl (by omega) rfl rfl ?_
    refine A_aload_n hE 107 dX9_day1_106 rfl rfl ?_
    refine A_get hE 110 dX9_day1_107 rfl fkX9_7 rfl rfl ?_
    refine A_iconst hE 111 dX9_day1_110 rfl (4) rfl ?_
    refine A_aload_n hE 112 dX9_day1_111 rfl rfl ?_
    refine A_h (MW (go2 t1 (hearS t0 s)) K be er st na2 pi2 tr bi sz nu as' im at' op sp us tn sk ip) (by rw [go2_hear hz]) ?_
    refine A_callVi hE 115 (c_X9_nextOne (go2 t1 (hearS t0 s)) K be er st na2 pi2 tr bi sz nu as' im at' op sp us tn sk ip (wf_go2 (wf_hear w)) (show atN (hearS t0 s) < hn (hearS t0 s) by rw [at_hear, hn_hear]; exact ha)) [0, 1, 2, 3, 4, 5, 6, 7, 8, 9, 10, 11, 12] dX9_day1_112 rfl mkX9_147 rfl rfl rfl rfl rfl rfl rfl (Nat.le_of_ble_eq_true rfl) (Nat.le_of_ble_eq_true rfl) rfl (fun x112 h112 g112 hp112 hw112 => ?_)
    obtain ⟨rfl, rfl⟩ := hp112
    obtain rfl := Option.some.inj hw112
    refine A_h (MW (go2 t1 (hearS t0 s)) K be er st na2 pi2 tr bi sz nu as' im at' op sp us tn sk ip) rfl ?_
    refine A_iast hE 116 4 dX9_day1_115 rfl rfl rfl (by omega) rfl rfl ?_
    refine A_lv [0] rfl ?_
    exact tail _ na2 pi2 (wf_4 (wf_go2 (wf_hear w)) (nxt_lt (s := go2 t1 (hearS t0 s)) (show atN (hearS t0 s) < hn (hearS t0 s) by rw [at_hear, hn_hear]; exact ha))) (by rw [day1, carS, goS, if_pos (by rw [hn_hear]; exact hz)])
set_option maxRecDepth 100000 in
theorem c_X9_goesOn (s K be er st na pi tr bi sz nu as' : Nat → Int32) (im at' op sp us tn sk ip : Int32) (t0 t1 : Sp) (n : Nat) (hnn : n ≤ 1000) (w : wf s) (l0 : MText s 0 t0) (l1 : MText s 1 t1) : AMet yX9_goesOn cX9_goesOn 3 none 5 0 0 [.ref 0, .int (nI n)] (MW s K be er st na pi tr bi sz nu as' im at' op sp us tn sk ip) (pV fun h => ∃ na' pi' : Nat → Int32, h = MW (dN t0 t1 n s) K be er st na' pi' tr bi sz nu as' im at' op sp us tn sk ip) := by
  refine AMet.of (by decide +kernel) rfl (fun E ad0 hE => ?_)
  have loop : ∀ (m i : Nat) (s' na pi : Nat → Int32), i + m = n → wf s' → MText s' 0 t0 → MText s' 1 t1 → dN t0 t1 n s = dN t0 t1 m s' → AW E (rmD 5 0 0) 3 (QM E ad0 13 0 0 (pV fun h => ∃ na' pi' : Nat → Int32, h = MW (dN t0 t1 n s) K be er st na' pi' tr bi sz nu as' im at' op sp us tn sk ip)) ad0 13 0 0 2 [(0, .ref 0), (1, .int (nI n)), (2, .int (nI i))] [] (MW s' K be er st na pi tr bi sz nu as' im at' op sp us tn sk ip) := by
    intro m
    induction m with
    | zero =>
      intro i s' na pi hi w' l0 l1 hx
      refine A_iload_n hE 3 dX9_goesOn_2 rfl rfl ?_
      refine A_iload_n hE 4 dX9_goesOn_3 rfl rfl ?_
      refine A_icmp_ge hE 7 17 dX9_goesOn_4 rfl rfl (fun c4 => ?_) (fun c4 => absurd (nI_le (by omega) (by omega)) c4)
      refine A_vret hE dX9_goesOn_17 ?_
      exact ⟨na, pi, by rw [hx]; rfl⟩
    | succ m ih =>
      intro i s' na pi hi w' l0 l1 hx
      refine A_iload_n hE 3 dX9_goesOn_2 rfl rfl ?_
      refine A_iload_n hE 4 dX9_goesOn_3 rfl rfl ?_
      refine A_icmp_ge hE 7 17 dX9_goesOn_4 rfl rfl (fun c4 => absurd c4 (nI_ge (show i < n by omega) (by omega))) (fun c4 => ?_)
      refine A_aload_n hE 8 dX9_goesOn_7 rfl rfl ?_
      refine A_callVv hE 11 (c_X9_day1 s' K be er st na pi tr bi sz nu as' im at' op sp us tn sk ip t0 t1 w' l0 l1) [0, 1, 2, 3, 4, 5, 6, 7, 8, 9, 10, 11, 12] dX9_goesOn_8 rfl mkX9_150 rfl rfl rfl rfl rfl rfl rfl (Nat.le_of_ble_eq_true rfl) (Nat.le_of_ble_eq_true rfl) rfl (fun h8 g8 hp8 hw8 => ?_)
      obtain ⟨na1, pi1, rfl⟩ := hp8
      obtain rfl := Option.some.inj hw8
      refine A_h (MW (day1 t0 t1 s') K be er st na1 pi1 tr bi sz nu as' im at' op sp us tn sk ip) rfl ?_
      refine A_iinc hE 14 dX9_goesOn_11 rfl rfl (1) rfl rfl rfl ?_
      rw [nI_1]
      refine A_lv [0, 1, 2] rfl ?_
      refine A_goto hE 2 dX9_goesOn_14 rfl ?_
      exact ih (i + 1) _ na1 pi1 (by omega) (wf_day w') (MT_day w' l0) (MT_day w' l1) hx
  refine A_iconst hE 1 dX9_goesOn_0 rfl (0) rfl ?_
  refine A_istore_n hE 2 dX9_goesOn_1 rfl rfl rfl ?_
  refine A_lv [0, 1, 2] rfl ?_
  exact loop n 0 s na pi (Nat.zero_add _) w l0 l1 rfl
set_option maxRecDepth 100000 in
theorem c_X9_heardAll (s K be er st na pi tr bi sz nu as' : Nat → Int32) (im at' op sp us tn sk ip : Int32) (w : wf s) : AMet yX9_heardAll cX9_heardAll 3 (some (.int)) 1 0 0 [.ref 0] (MW s K be er st na pi tr bi sz nu as' im at' op sp us tn sk ip) (pI fun x h => x = sumH s (hn s) ∧ h = MW s K be er st na pi tr bi sz nu as' im at' op sp us tn sk ip) := by
  refine AMet.of (by decide +kernel) rfl (fun E ad0 hE => ?_)
  obtain ⟨w1, w2, w3, w4, w5, w6, w7⟩ := id w
  have loop : ∀ (m j : Nat), j + m = hn s → AW E (rmD 1 0 0) 3 (QM E ad0 13 0 0 (pI fun x h => x = sumH s (hn s) ∧ h = MW s K be er st na pi tr bi sz nu as' im at' op sp us tn sk ip)) ad0 13 0 0 4 [(0, .ref 0), (1, .int (sumH s j)), (2, .int (nI j))] [] (MW s K be er st na pi tr bi sz nu as' im at' op sp us tn sk ip) := by
    intro m
    induction m with
    | zero =>
      intro j hj
      obtain rfl : j = hn s := by omega
      refine A_iload_n hE 5 dX9_heardAll_4 rfl rfl ?_
      refine A_aload_n hE 6 dX9_heardAll_5 rfl rfl ?_
      refine A_get hE 9 dX9_heardAll_6 rfl fkX9_7 rfl rfl ?_
      refine A_bipush hE 11 dX9_heardAll_9 rfl (8) (by decide) ?_
      refine A_iald hE 12 8 dX9_heardAll_11 rfl rfl rfl (by omega) rfl ?_
      refine A_icmp_ge hE 15 30 dX9_heardAll_12 rfl rfl (fun c12 => ?_) (fun c12 => absurd (by rw [w2]; exact nI_le (Nat.le_refl _) (by omega)) c12)
      refine A_iload_n hE 31 dX9_heardAll_30 rfl rfl ?_
      refine A_iret hE dX9_heardAll_31 ⟨rfl, rfl⟩
    | succ m ih =>
      intro j hj
      have hlt : j < hn s := by omega
      refine A_iload_n hE 5 dX9_heardAll_4 rfl rfl ?_
      refine A_aload_n hE 6 dX9_heardAll_5 rfl rfl ?_
      refine A_get hE 9 dX9_heardAll_6 rfl fkX9_7 rfl rfl ?_
      refine A_bipush hE 11 dX9_heardAll_9 rfl (8) (by decide) ?_
      refine A_iald hE 12 8 dX9_heardAll_11 rfl rfl rfl (by omega) rfl ?_
      refine A_icmp_ge hE 15 30 dX9_heardAll_12 rfl rfl (fun c12 => absurd c12 (by rw [w2]; exact nI_ge hlt (by omega))) (fun c12 => ?_)
      refine A_iload_n hE 16 dX9_heardAll_15 rfl rfl ?_
      refine A_aload_n hE 17 dX9_heardAll_16 rfl rfl ?_
      refine A_iload_n hE 18 dX9_heardAll_17 rfl rfl ?_
      refine A_iconst hE 19 dX9_heardAll_18 rfl (2) rfl ?_
      refine A_callVi hE 22 (c_X9_its s K be er st na pi tr bi sz nu as' im at' op sp us tn sk ip (nI j) 2 j 2 rfl rfl (by omega) (by omega)) [0, 1, 2, 3, 4, 5, 6, 7, 8, 9, 10, 11, 12] dX9_heardAll_19 rfl mkX9_111 rfl rfl rfl rfl rfl rfl rfl (Nat.le_of_ble_eq_true rfl) (Nat.le_of_ble_eq_true rfl) rfl (fun x19 h19 g19 hp19 hw19 => ?_)
      obtain ⟨rfl, rfl⟩ := hp19
      obtain rfl := Option.some.inj hw19
      refine A_h (MW s K be er st na pi tr bi sz nu as' im at' op sp us tn sk ip) rfl ?_
      refine A_iadd hE 23 dX9_heardAll_22 rfl ?_
      refine A_istore_n hE 24 dX9_heardAll_23 rfl rfl rfl ?_
      refine A_iinc hE 27 dX9_heardAll_24 rfl rfl (1) rfl rfl rfl ?_
      rw [nI_1]
      refine A_lv [0, 1, 2] rfl ?_
      refine A_goto hE 4 dX9_heardAll_27 rfl ?_
      exact ih (j + 1) (by omega)
  refine A_iconst hE 1 dX9_heardAll_0 rfl (0) rfl ?_
  refine A_istore_n hE 2 dX9_heardAll_1 rfl rfl rfl ?_
  refine A_iconst hE 3 dX9_heardAll_2 rfl (0) rfl ?_
  refine A_istore_n hE 4 dX9_heardAll_3 rfl rfl rfl ?_
  refine A_lv [0, 1, 2] rfl ?_
  exact loop (hn s) 0 (Nat.zero_add _)
theorem ovr_0 (g f : Nat → Int32) : ovr 0 g f = f := by
  funext z
  exact if_neg (Nat.not_lt_zero z)
theorem ovr_step (n : Nat) (g f : Nat → Int32) : ovr (n + 1) g f = upd (ovr n g f) n (g n) := by
  funext z
  by_cases h : z = n
  · subst h; rw [upd_s]; exact if_pos (by omega)
  · rw [upd_n h]
    unfold ovr
    by_cases h2 : z < n
    · rw [if_pos h2, if_pos (by omega)]
    · rw [if_neg h2, if_neg (by omega)]

set_option maxRecDepth 100000 in
theorem c_X9_saves (s K be er st na pi tr bi sz nu as' : Nat → Int32) (im at' op sp us tn sk ip : Int32) : AMet yX9_saves cX9_saves 2 none 0 0 0 [.ref 0] (MW s K be er st na pi tr bi sz nu as' im at' op sp us tn sk ip) (pV fun h => h = MW s K (ovr 49 s be) er st na pi tr bi sz nu as' im at' op sp us tn sk ip) := by
  refine AMet.of (by decide +kernel) rfl (fun E ad0 hE => ?_)
  have loop : ∀ (m j : Nat), j + m = 49 → AW E (rmD 0 0 0) 2 (QM E ad0 13 0 0 (pV fun h => h = MW s K (ovr 49 s be) er st na pi tr bi sz nu as' im at' op sp us tn sk ip)) ad0 13 0 0 2 [(0, .ref 0), (1, .int (nI j))] [] (MW s K (ovr j s be) er st na pi tr bi sz nu as' im at' op sp us tn sk ip) := by
    intro m
    induction m with
    | zero =>
      intro j hj
      obtain rfl : j = 49 := by omega
      refine A_iload_n hE 3 dX9_saves_2 rfl rfl ?_
      refine A_bipush hE 5 dX9_saves_3 rfl (49) (by decide) ?_
      refine A_icmp_ge hE 8 26 dX9_saves_5 rfl rfl (fun c5 => ?_) (fun c5 => absurd (nI_le (a := 49) (b := 49) (by omega) (by omega)) c5)
      refine A_vret hE dX9_saves_26 rfl
    | succ m ih =>
      intro j hj
      refine A_iload_n hE 3 dX9_saves_2 rfl rfl ?_
      refine A_bipush hE 5 dX9_saves_3 rfl (49) (by decide) ?_
      refine A_icmp_ge hE 8 26 dX9_saves_5 rfl rfl (fun c5 => absurd c5 (nI_ge (a := j) (b := 49) (by omega) (by omega))) (fun c5 => ?_)
      refine A_aload_n hE 9 dX9_saves_8 rfl rfl ?_
      refine A_get hE 12 dX9_saves_9 rfl fkX9_16 rfl rfl ?_
      refine A_iload_n hE 13 dX9_saves_12 rfl rfl ?_
      refine A_aload_n hE 14 dX9_saves_13 rfl rfl ?_
      refine A_get hE 17 dX9_saves_14 rfl fkX9_7 rfl rfl ?_
      refine A_iload_n hE 18 dX9_saves_17 rfl rfl ?_
      refine A_iald hE 19 j dX9_saves_18 rfl rfl rfl (by omega) rfl ?_
      refine A_iast hE 20 j dX9_saves_19 rfl rfl rfl (by omega) rfl rfl ?_
      refine A_iinc hE 23 dX9_saves_20 rfl rfl (1) rfl rfl rfl ?_
      rw [nI_1]
      refine A_lv [0, 1] rfl ?_
      refine A_goto hE 2 dX9_saves_23 rfl ?_
      exact A_h (MW s K (ovr (j + 1) s be) er st na pi tr bi sz nu as' im at' op sp us tn sk ip) (by rw [ovr_step]) (ih (j + 1) (by omega))
  refine A_iconst hE 1 dX9_saves_0 rfl (0) rfl ?_
  refine A_istore_n hE 2 dX9_saves_1 rfl rfl rfl ?_
  refine A_lv [0, 1] rfl ?_
  exact A_h (MW s K (ovr 0 s be) er st na pi tr bi sz nu as' im at' op sp us tn sk ip) (by rw [ovr_0]) (loop 49 0 rfl)
set_option maxRecDepth 100000 in
theorem c_X9_putsBack (s K be er st na pi tr bi sz nu as' : Nat → Int32) (im at' op sp us tn sk ip : Int32) : AMet yX9_putsBack cX9_putsBack 2 none 0 0 0 [.ref 0] (MW s K be er st na pi tr bi sz nu as' im at' op sp us tn sk ip) (pV fun h => h = MW (ovr 49 be s) K be er st na pi tr bi sz nu as' im at' op sp us tn sk ip) := by
  refine AMet.of (by decide +kernel) rfl (fun E ad0 hE => ?_)
  have loop : ∀ (m j : Nat), j + m = 49 → AW E (rmD 0 0 0) 2 (QM E ad0 13 0 0 (pV fun h => h = MW (ovr 49 be s) K be er st na pi tr bi sz nu as' im at' op sp us tn sk ip)) ad0 13 0 0 2 [(0, .ref 0), (1, .int (nI j))] [] (MW (ovr j be s) K be er st na pi tr bi sz nu as' im at' op sp us tn sk ip) := by
    intro m
    induction m with
    | zero =>
      intro j hj
      obtain rfl : j = 49 := by omega
      refine A_iload_n hE 3 dX9_putsBack_2 rfl rfl ?_
      refine A_bipush hE 5 dX9_putsBack_3 rfl (49) (by decide) ?_
      refine A_icmp_ge hE 8 26 dX9_putsBack_5 rfl rfl (fun c5 => ?_) (fun c5 => absurd (nI_le (a := 49) (b := 49) (by omega) (by omega)) c5)
      refine A_vret hE dX9_putsBack_26 rfl
    | succ m ih =>
      intro j hj
      refine A_iload_n hE 3 dX9_putsBack_2 rfl rfl ?_
      refine A_bipush hE 5 dX9_putsBack_3 rfl (49) (by decide) ?_
      refine A_icmp_ge hE 8 26 dX9_putsBack_5 rfl rfl (fun c5 => absurd c5 (nI_ge (a := j) (b := 49) (by omega) (by omega))) (fun c5 => ?_)
      refine A_aload_n hE 9 dX9_putsBack_8 rfl rfl ?_
      refine A_get hE 12 dX9_putsBack_9 rfl fkX9_7 rfl rfl ?_
      refine A_iload_n hE 13 dX9_putsBack_12 rfl rfl ?_
      refine A_aload_n hE 14 dX9_putsBack_13 rfl rfl ?_
      refine A_get hE 17 dX9_putsBack_14 rfl fkX9_16 rfl rfl ?_
      refine A_iload_n hE 18 dX9_putsBack_17 rfl rfl ?_
      refine A_iald hE 19 j dX9_putsBack_18 rfl rfl rfl (by omega) rfl ?_
      refine A_iast hE 20 j dX9_putsBack_19 rfl rfl rfl (by omega) rfl rfl ?_
      refine A_iinc hE 23 dX9_putsBack_20 rfl rfl (1) rfl rfl rfl ?_
      rw [nI_1]
      refine A_lv [0, 1] rfl ?_
      refine A_goto hE 2 dX9_putsBack_23 rfl ?_
      exact A_h (MW (ovr (j + 1) be s) K be er st na pi tr bi sz nu as' im at' op sp us tn sk ip) (by rw [ovr_step]) (ih (j + 1) (by omega))
  refine A_iconst hE 1 dX9_putsBack_0 rfl (0) rfl ?_
  refine A_istore_n hE 2 dX9_putsBack_1 rfl rfl rfl ?_
  refine A_lv [0, 1] rfl ?_
  exact A_h (MW (ovr 0 be s) K be er st na pi tr bi sz nu as' im at' op sp us tn sk ip) (by rw [ovr_0]) (loop 49 0 rfl)
