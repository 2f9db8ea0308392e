set_option maxRecDepth 100000 in
theorem c_X8_homeIs (er : Nat → Int32) (im : Int32) (s : St) (t0 : Sp) (g0 h0 : Nat → Int32) (t1 : Sp) (g1 h1 : Nat → Int32) (h what : Int32) (w : wf s) (l0 : LawC 0 t0 g0) (l1 : LawC 1 t1 g1) : AMet yX8_homeIs cX8_homeIs 4 (some (.int)) 3 0 0 [.ref 0, .int h, .int what] (Y16 er im s t0 g0 h0 t1 g1 h1) (pI fun x0 hz0 => x0 = (homeIsF t0 t1 s er h what).1 ∧ ∃ h0' h1' : Nat → Int32, hz0 = Y16 (homeIsF t0 t1 s er h what).2.2 im (homeIsF t0 t1 s er h what).2.1 t0 g0 h0' t1 g1 h1') := by
  refine AMet.of (by decide +kernel) rfl (fun E ad0 hE => ?_)
  obtain ⟨w1, w2, w3, w4, w5, w6, w7⟩ := id w
  refine A_aload_n hE 1 dX8_homeIs_0 rfl rfl ?_
  refine A_get hE 4 dX8_homeIs_1 rfl fkX8_10 rfl rfl ?_
  refine A_get hE 7 dX8_homeIs_4 rfl fkX8_63 rfl rfl ?_
  refine A_astore_n hE 8 dX8_homeIs_7 rfl rfl rfl ?_
  refine A_aload_n hE 9 dX8_homeIs_8 rfl rfl ?_
  refine A_iload_n hE 10 dX8_homeIs_9 rfl rfl ?_
  refine A_callVi hE 13 (c_X2_has s t0 t1 g0 h0 g1 h1 h) [11, 3, 4, 5, 6, 7, 8, 9, 10, 12, 13, 14, 15] dX8_homeIs_10 rfl mkX8_75 rfl rfl rfl rfl rfl rfl rfl (Nat.le_of_ble_eq_true rfl) (Nat.le_of_ble_eq_true rfl) rfl (fun x10 h10 g10 hp10 hw10 => ?_)
  obtain ⟨rfl, rfl⟩ := hp10
  obtain rfl := Option.some.inj hw10
  refine A_h (Y16 er im s t0 g0 h0 t1 g1 h1) rfl ?_
  refine A_if_ne hE 16 22 dX8_homeIs_13 rfl rfl (fun c13 => ?_) (fun c13 => ?_)
  · have hh := bI_1 c13
    have hq := hh
    rw [w2] at hq
    obtain ⟨k, hk, rfl⟩ := iK hq.1 hq.2 (by omega)
    have ek : (nI k).toNatClampNeg = k := nI_clamp (by omega)
    by_cases hw : 0 ≤ what ∧ what ≤ 7
    · have hk8 : k < 8 := by omega
      obtain ⟨j, hj, rfl⟩ := iK2 (n := 7) hw.1 hw.2 (by omega)
      match j, hj with
      | 0, _ =>
        refine A_iload_n hE 23 dX8_homeIs_22 rfl rfl ?_
        refine A_tabIn hE 68 dX8_homeIs_23 (by decide) (by decide) (off := 45) (by decide) rfl ?_
        refine A_aload_n hE 69 dX8_homeIs_68 rfl rfl ?_
        refine A_get hE 72 dX8_homeIs_69 rfl fkX8_79 rfl rfl ?_
        refine A_iload_n hE 73 dX8_homeIs_72 rfl rfl ?_
        refine A_iald hE 74 k dX8_homeIs_73 rfl rfl rfl (by omega) rfl ?_
        refine A_iret hE dX8_homeIs_74 ?_
        rw [homeIsF, if_pos ⟨hh, hw⟩, ek, if_neg (by decide), if_neg (by decide), if_neg (by decide), show (nI 0).toNatClampNeg = 0 by decide]
        exact ⟨rfl, h0, h1, rfl⟩
      | 1, _ =>
        refine A_iload_n hE 23 dX8_homeIs_22 rfl rfl ?_
        refine A_tabIn hE 75 dX8_homeIs_23 (by decide) (by decide) (off := 52) (by decide) rfl ?_
        refine A_aload_n hE 76 dX8_homeIs_75 rfl rfl ?_
        refine A_get hE 79 dX8_homeIs_76 rfl fkX8_82 rfl rfl ?_
        refine A_iload_n hE 80 dX8_homeIs_79 rfl rfl ?_
        refine A_iald hE 81 k dX8_homeIs_80 rfl rfl rfl (by omega) rfl ?_
        refine A_iret hE dX8_homeIs_81 ?_
        rw [homeIsF, if_pos ⟨hh, hw⟩, ek, if_neg (by decide), if_neg (by decide), if_neg (by decide), show (nI 1).toNatClampNeg = 1 by decide]
        exact ⟨rfl, h0, h1, rfl⟩
      | 2, _ =>
        refine A_iload_n hE 23 dX8_homeIs_22 rfl rfl ?_
        refine A_tabIn hE 82 dX8_homeIs_23 (by decide) (by decide) (off := 59) (by decide) rfl ?_
        refine A_aload_n hE 83 dX8_homeIs_82 rfl rfl ?_
        refine A_get hE 86 dX8_homeIs_83 rfl fkX8_85 rfl rfl ?_
        refine A_iload_n hE 87 dX8_homeIs_86 rfl rfl ?_
        refine A_iald hE 88 k dX8_homeIs_87 rfl rfl rfl (by omega) rfl ?_
        refine A_iret hE dX8_homeIs_88 ?_
        rw [homeIsF, if_pos ⟨hh, hw⟩, ek, if_neg (by decide), if_neg (by decide), if_neg (by decide), show (nI 2).toNatClampNeg = 2 by decide]
        exact ⟨rfl, h0, h1, rfl⟩
      | 3, _ =>
        refine A_iload_n hE 23 dX8_homeIs_22 rfl rfl ?_
        refine A_tabIn hE 89 dX8_homeIs_23 (by decide) (by decide) (off := 66) (by decide) rfl ?_
        refine A_aload_n hE 90 dX8_homeIs_89 rfl rfl ?_
        refine A_get hE 93 dX8_homeIs_90 rfl fkX8_88 rfl rfl ?_
        refine A_iload_n hE 94 dX8_homeIs_93 rfl rfl ?_
        refine A_iald hE 95 k dX8_homeIs_94 rfl rfl rfl (by omega) rfl ?_
        refine A_iret hE dX8_homeIs_95 ?_
        rw [homeIsF, if_pos ⟨hh, hw⟩, ek, if_neg (by decide), if_neg (by decide), if_neg (by decide), show (nI 3).toNatClampNeg = 3 by decide]
        exact ⟨rfl, h0, h1, rfl⟩
      | 4, _ =>
        refine A_iload_n hE 23 dX8_homeIs_22 rfl rfl ?_
        refine A_tabIn hE 96 dX8_homeIs_23 (by decide) (by decide) (off := 73) (by decide) rfl ?_
        refine A_aload_n hE 97 dX8_homeIs_96 rfl rfl ?_
        refine A_iload_n hE 98 dX8_homeIs_97 rfl rfl ?_
        refine A_callVi hE 101 (c_X2_pastAt s t0 t1 g0 h0 g1 h1 (nI k) k rfl hk8 (w5 k hk8).2.2.2.2.1) [11, 3, 4, 5, 6, 7, 8, 9, 10, 12, 13, 14, 15] dX8_homeIs_98 rfl mkX8_91 rfl rfl rfl rfl rfl rfl rfl (Nat.le_of_ble_eq_true rfl) (Nat.le_of_ble_eq_true rfl) rfl (fun x98 h98 g98 hp98 hw98 => ?_)
        obtain ⟨rfl, rfl⟩ := hp98
        obtain rfl := Option.some.inj hw98
        refine A_h (Y16 er im s t0 g0 h0 t1 g1 h1) rfl ?_
        refine A_iret hE dX8_homeIs_101 ?_
        rw [homeIsF, if_pos ⟨hh, hw⟩, ek, if_neg (by decide), if_neg (by decide), if_neg (by decide), show (nI 4).toNatClampNeg = 4 by decide]
        exact ⟨rfl, h0, h1, rfl⟩
      | 5, _ =>
        refine A_iload_n hE 23 dX8_homeIs_22 rfl rfl ?_
        refine A_tabIn hE 102 dX8_homeIs_23 (by decide) (by decide) (off := 79) (by decide) rfl ?_
        refine A_aload_n hE 103 dX8_homeIs_102 rfl rfl ?_
        refine A_iload_n hE 104 dX8_homeIs_103 rfl rfl ?_
        refine A_callVi hE 107 (c_X2_saidAt s t0 t1 g0 h0 g1 h1 (nI k) k rfl hk8 (w5 k hk8) l0) [11, 3, 4, 5, 6, 7, 8, 9, 10, 12, 13, 14, 15] dX8_homeIs_104 rfl mkX8_94 rfl rfl rfl rfl rfl rfl rfl (Nat.le_of_ble_eq_true rfl) (Nat.le_of_ble_eq_true rfl) rfl (fun x104 h104 g104 hp104 hw104 => ?_)
        obtain ⟨rfl, hx, rfl⟩ := hp104
        obtain rfl := Option.some.inj hw104
        refine A_h (Y16 er im s t0 g0 hx t1 g1 h1) rfl ?_
        refine A_iret hE dX8_homeIs_107 ?_
        rw [homeIsF, if_pos ⟨hh, hw⟩, ek, if_pos (show nI 5 = 5 from rfl)]
        exact ⟨rfl, hx, h1, rfl⟩
      | 6, _ =>
        refine A_iload_n hE 23 dX8_homeIs_22 rfl rfl ?_
        refine A_tabIn hE 108 dX8_homeIs_23 (by decide) (by decide) (off := 85) (by decide) rfl ?_
        refine A_aload_n hE 109 dX8_homeIs_108 rfl rfl ?_
        refine A_iload_n hE 110 dX8_homeIs_109 rfl rfl ?_
        refine A_callVi hE 113 (c_X2_behindAt s t0 t1 g0 h0 g1 h1 (nI k) k rfl hk8 (w5 k hk8) l1) [11, 3, 4, 5, 6, 7, 8, 9, 10, 12, 13, 14, 15] dX8_homeIs_110 rfl mkX8_97 rfl rfl rfl rfl rfl rfl rfl (Nat.le_of_ble_eq_true rfl) (Nat.le_of_ble_eq_true rfl) rfl (fun x110 h110 g110 hp110 hw110 => ?_)
        obtain ⟨rfl, hx, rfl⟩ := hp110
        obtain rfl := Option.some.inj hw110
        refine A_h (Y16 er im s t0 g0 h0 t1 g1 hx) rfl ?_
        refine A_iret hE dX8_homeIs_113 ?_
        rw [homeIsF, if_pos ⟨hh, hw⟩, ek, if_neg (by decide), if_pos (show nI 6 = 6 from rfl)]
        exact ⟨rfl, h0, hx, rfl⟩
      | 7, _ =>
        refine A_iload_n hE 23 dX8_homeIs_22 rfl rfl ?_
        refine A_tabIn hE 114 dX8_homeIs_23 (by decide) (by decide) (off := 91) (by decide) rfl ?_
        refine A_aload_n hE 115 dX8_homeIs_114 rfl rfl ?_
        refine A_iload_n hE 116 dX8_homeIs_115 rfl rfl ?_
        refine A_callVi hE 119 (c_X2_bluntsAt s t0 t1 g0 h0 g1 h1 (nI k) k rfl hk8 (w5 k hk8)) [11, 3, 4, 5, 6, 7, 8, 9, 10, 12, 13, 14, 15] dX8_homeIs_116 rfl mkX8_100 rfl rfl rfl rfl rfl rfl rfl (Nat.le_of_ble_eq_true rfl) (Nat.le_of_ble_eq_true rfl) rfl (fun x116 h116 g116 hp116 hw116 => ?_)
        obtain ⟨rfl, rfl⟩ := hp116
        obtain rfl := Option.some.inj hw116
        refine A_h (Y16 er im s t0 g0 h0 t1 g1 h1) rfl ?_
        refine A_iret hE dX8_homeIs_119 ?_
        rw [homeIsF, if_pos ⟨hh, hw⟩, ek, if_neg (by decide), if_neg (by decide), if_pos (show nI 7 = 7 from rfl)]
        exact ⟨rfl, h0, h1, rfl⟩
    · have hn7 := tabO (n := 7) (by omega) hw
      refine A_iload_n hE 23 dX8_homeIs_22 rfl rfl ?_
      refine A_tabOut hE 120 dX8_homeIs_23 hn7 rfl ?_
      refine A_aload_n hE 121 dX8_homeIs_120 rfl rfl ?_
      refine A_iconst hE 122 dX8_homeIs_121 rfl (1) rfl ?_
      refine A_callVi hE 125 (c_X8_error er im 1 (by omega)) [0, 1] dX8_homeIs_122 rfl mkX8_59 rfl rfl rfl rfl rfl rfl rfl (Nat.le_of_ble_eq_true rfl) (Nat.le_of_ble_eq_true rfl) rfl (fun x122 h122 g122 hp122 hw122 => ?_)
      obtain ⟨rfl, rfl⟩ := hp122
      obtain rfl := Option.some.inj hw122
      refine A_h (Y16 (upd er 1 (er 1 + 1)) im s t0 g0 h0 t1 g1 h1) rfl ?_
      refine A_iret hE dX8_homeIs_125 ?_
      rw [homeIsF, if_neg (fun z => hw z.2)]
      exact ⟨rfl, h0, h1, rfl⟩
  · have hh := bI_0 c13
    refine A_aload_n hE 17 dX8_homeIs_16 rfl rfl ?_
    refine A_iconst hE 18 dX8_homeIs_17 rfl (1) rfl ?_
    refine A_callVi hE 21 (c_X8_error er im 1 (by omega)) [0, 1] dX8_homeIs_18 rfl mkX8_59 rfl rfl rfl rfl rfl rfl rfl (Nat.le_of_ble_eq_true rfl) (Nat.le_of_ble_eq_true rfl) rfl (fun x18 h18 g18 hp18 hw18 => ?_)
    obtain ⟨rfl, rfl⟩ := hp18
    obtain rfl := Option.some.inj hw18
    refine A_h (Y16 (upd er 1 (er 1 + 1)) im s t0 g0 h0 t1 g1 h1) rfl ?_
    refine A_iret hE dX8_homeIs_21 ?_
    rw [homeIsF, if_neg (fun z => hh z.1)]
    exact ⟨rfl, h0, h1, rfl⟩
theorem set_0 (s : St) (er : Nat → Int32) (v : Int32) : setF s er (nI 0) v = (if 0 ≤ v ∧ v ≤ 99 then (s 1, upd s 1 v, er) else bad 1 s er) := by
  unfold setF
  rw [if_neg (show ¬ nI 0 = 2 by decide), if_neg (show ¬ nI 0 = 2 by decide)]
  by_cases h : 0 ≤ v ∧ v ≤ 99
  · rw [if_pos ⟨⟨by decide, by decide⟩, h⟩, if_pos h]
    rfl
  · rw [if_neg (fun z => h z.2), if_neg h]
theorem set_1 (s : St) (er : Nat → Int32) (v : Int32) : setF s er (nI 1) v = (if 0 ≤ v ∧ v ≤ 99 then (s 2, upd s 2 v, er) else bad 1 s er) := by
  unfold setF
  rw [if_neg (show ¬ nI 1 = 2 by decide), if_neg (show ¬ nI 1 = 2 by decide)]
  by_cases h : 0 ≤ v ∧ v ≤ 99
  · rw [if_pos ⟨⟨by decide, by decide⟩, h⟩, if_pos h]
    rfl
  · rw [if_neg (fun z => h z.2), if_neg h]
theorem set_2 (s : St) (er : Nat → Int32) (v : Int32) : setF s er (nI 2) v = (if 1 ≤ v ∧ v ≤ 40 then (s 3, upd s 3 v, er) else bad 1 s er) := by
  unfold setF
  rw [if_pos (show nI 2 = 2 from rfl), if_pos (show nI 2 = 2 from rfl)]
  by_cases h : 1 ≤ v ∧ v ≤ 40
  · rw [if_pos ⟨⟨by decide, by decide⟩, h⟩, if_pos h]
    rfl
  · rw [if_neg (fun z => h z.2), if_neg h]
set_option maxRecDepth 100000 in
theorem c_X8_set (er : Nat → Int32) (im : Int32) (s : St) (t0 : Sp) (g0 h0 : Nat → Int32) (t1 : Sp) (g1 h1 : Nat → Int32) (what v : Int32) : AMet yX8_set cX8_set 3 (some (.int)) 2 0 0 [.ref 0, .int what, .int v] (Y16 er im s t0 g0 h0 t1 g1 h1) (pI fun x0 hz0 => x0 = (setF s er what v).1 ∧ hz0 = Y16 (setF s er what v).2.2 im (setF s er what v).2.1 t0 g0 h0 t1 g1 h1) := by
  refine AMet.of (by decide +kernel) rfl (fun E ad0 hE => ?_)
  by_cases hw : 0 ≤ what ∧ what ≤ 2
  · obtain ⟨j, hj, rfl⟩ := iK2 (n := 2) hw.1 hw.2 (by omega)
    match j, hj with
    | 0, _ =>
      refine A_iload_n hE 1 dX8_set_0 rfl rfl ?_
      refine A_tabIn hE 28 dX8_set_1 (by decide) (by decide) (off := 27) (by decide) rfl ?_
      refine A_aload_n hE 29 dX8_set_28 rfl rfl ?_
      refine A_iload_n hE 30 dX8_set_29 rfl rfl ?_
      refine A_callVi hE 33 (c_X8_becomeView er im s t0 g0 h0 t1 g1 h1 v) [0, 1, 2, 3, 4, 5, 6, 7, 8, 9, 10, 11, 12, 13, 14, 15] dX8_set_30 rfl mkX8_114 rfl rfl rfl rfl rfl rfl rfl (Nat.le_of_ble_eq_true rfl) (Nat.le_of_ble_eq_true rfl) rfl (fun x30 h30 g30 hp30 hw30 => ?_)
      obtain ⟨rfl, rfl⟩ := hp30
      obtain rfl := Option.some.inj hw30
      refine A_h (Y16 (if 0 ≤ v ∧ v ≤ 99 then (s 1, upd s 1 v, er) else bad 1 s er).2.2 im (if 0 ≤ v ∧ v ≤ 99 then (s 1, upd s 1 v, er) else bad 1 s er).2.1 t0 g0 h0 t1 g1 h1) rfl ?_
      refine A_iret hE dX8_set_33 ?_
      rw [set_0]
      exact ⟨rfl, rfl⟩
    | 1, _ =>
      refine A_iload_n hE 1 dX8_set_0 rfl rfl ?_
      refine A_tabIn hE 34 dX8_set_1 (by decide) (by decide) (off := 33) (by decide) rfl ?_
      refine A_aload_n hE 35 dX8_set_34 rfl rfl ?_
      refine A_iload_n hE 36 dX8_set_35 rfl rfl ?_
      refine A_callVi hE 39 (c_X8_becomeSharp er im s t0 g0 h0 t1 g1 h1 v) [0, 1, 2, 3, 4, 5, 6, 7, 8, 9, 10, 11, 12, 13, 14, 15] dX8_set_36 rfl mkX8_117 rfl rfl rfl rfl rfl rfl rfl (Nat.le_of_ble_eq_true rfl) (Nat.le_of_ble_eq_true rfl) rfl (fun x36 h36 g36 hp36 hw36 => ?_)
      obtain ⟨rfl, rfl⟩ := hp36
      obtain rfl := Option.some.inj hw36
      refine A_h (Y16 (if 0 ≤ v ∧ v ≤ 99 then (s 2, upd s 2 v, er) else bad 1 s er).2.2 im (if 0 ≤ v ∧ v ≤ 99 then (s 2, upd s 2 v, er) else bad 1 s er).2.1 t0 g0 h0 t1 g1 h1) rfl ?_
      refine A_iret hE dX8_set_39 ?_
      rw [set_1]
      exact ⟨rfl, rfl⟩
    | 2, _ =>
      refine A_iload_n hE 1 dX8_set_0 rfl rfl ?_
      refine A_tabIn hE 40 dX8_set_1 (by decide) (by decide) (off := 39) (by decide) rfl ?_
      refine A_aload_n hE 41 dX8_set_40 rfl rfl ?_
      refine A_iload_n hE 42 dX8_set_41 rfl rfl ?_
      refine A_callVi hE 45 (c_X8_becomeSteel er im s t0 g0 h0 t1 g1 h1 v) [0, 1, 2, 3, 4, 5, 6, 7, 8, 9, 10, 11, 12, 13, 14, 15] dX8_set_42 rfl mkX8_120 rfl rfl rfl rfl rfl rfl rfl (Nat.le_of_ble_eq_true rfl) (Nat.le_of_ble_eq_true rfl) rfl (fun x42 h42 g42 hp42 hw42 => ?_)
      obtain ⟨rfl, rfl⟩ := hp42
      obtain rfl := Option.some.inj hw42
      refine A_h (Y16 (if 1 ≤ v ∧ v ≤ 40 then (s 3, upd s 3 v, er) else bad 1 s er).2.2 im (if 1 ≤ v ∧ v ≤ 40 then (s 3, upd s 3 v, er) else bad 1 s er).2.1 t0 g0 h0 t1 g1 h1) rfl ?_
      refine A_iret hE dX8_set_45 ?_
      rw [set_2]
      exact ⟨rfl, rfl⟩
  · have hn2 := tabO (n := 2) (by omega) hw
    refine A_iload_n hE 1 dX8_set_0 rfl rfl ?_
    refine A_tabOut hE 46 dX8_set_1 hn2 rfl ?_
    refine A_aload_n hE 47 dX8_set_46 rfl rfl ?_
    refine A_iconst hE 48 dX8_set_47 rfl (1) rfl ?_
    refine A_callVi hE 51 (c_X8_error er im 1 (by omega)) [0, 1] dX8_set_48 rfl mkX8_59 rfl rfl rfl rfl rfl rfl rfl (Nat.le_of_ble_eq_true rfl) (Nat.le_of_ble_eq_true rfl) rfl (fun x48 h48 g48 hp48 hw48 => ?_)
    obtain ⟨rfl, rfl⟩ := hp48
    obtain rfl := Option.some.inj hw48
    refine A_h (Y16 (upd er 1 (er 1 + 1)) im s t0 g0 h0 t1 g1 h1) rfl ?_
    refine A_iret hE dX8_set_51 ?_
    rw [setF, if_neg (fun z => hw z.1)]
    exact ⟨rfl, rfl⟩
set_option maxRecDepth 100000 in
theorem c_X8_law (er : Nat → Int32) (im : Int32) (s : St) (t0 : Sp) (g0 h0 : Nat → Int32) (t1 : Sp) (g1 h1 : Nat → Int32) (u a b c : Int32) (l0 : LawC 0 t0 g0) (l1 : LawC 1 t1 g1) : AMet yX8_law cX8_law 5 (some (.int)) 2 0 0 [.ref 0, .int u, .int a, .int b, .int c] (Y16 er im s t0 g0 h0 t1 g1 h1) (pI fun x0 hz0 => x0 = (lawF t0 t1 s er u a b c).1 ∧ ∃ h0' h1' : Nat → Int32, hz0 = Y16 (lawF t0 t1 s er u a b c).2.2 im (lawF t0 t1 s er u a b c).2.1 t0 g0 h0' t1 g1 h1') := by
  refine AMet.of (by decide +kernel) rfl (fun E ad0 hE => ?_)
  refine A_iload_n hE 1 dX8_law_0 rfl rfl ?_
  refine A_callSi hE 4 (c_X8_isUse u) [] dX8_law_1 rfl mkX8_136 rfl rfl rfl rfl rfl rfl (Nat.le_of_ble_eq_true rfl) (Nat.le_of_ble_eq_true rfl) rfl (fun x1 h1 g1 hp1 hw1 => ?_)
  obtain ⟨rfl, rfl⟩ := hp1
  obtain rfl := Option.some.inj hw1
  refine A_if_ne hE 7 13 dX8_law_4 rfl rfl (fun c4 => ?_) (fun c4 => ?_)
  · have hh := bI_1 c4
    obtain ⟨k, hk, rfl⟩ := iK2 (n := 1) hh.1 hh.2 (by omega)
    obtain rfl | rfl : k = 0 ∨ k = 1 := by omega
    · refine A_aload_n hE 14 dX8_law_13 rfl rfl ?_
      refine A_get hE 17 dX8_law_14 rfl fkX8_10 rfl rfl ?_
      refine A_get hE 20 dX8_law_17 rfl fkX8_63 rfl rfl ?_
      refine A_iload_n hE 21 dX8_law_20 rfl rfl ?_
      refine A_callVr hE 24 (c_X2_lawOf s 3 7 12 13 14 15 (nI 0)) [11] dX8_law_21 rfl mkX8_146 rfl rfl rfl rfl rfl rfl rfl (Nat.le_of_ble_eq_true rfl) (Nat.le_of_ble_eq_true rfl) rfl (fun x21 h21 g21 hp21 hw21 => ?_)
      obtain ⟨ei, rfl⟩ := hp21
      obtain rfl := Option.some.inj hw21
      refine A_h (Y16 er im s t0 g0 h0 t1 g1 h1) rfl ?_
      rw [if_pos (show nI 0 = 0 from rfl)] at ei
      subst ei
      refine A_iload_n hE 25 dX8_law_24 rfl rfl ?_
      refine A_iload_n hE 26 dX8_law_25 rfl rfl ?_
      refine A_iload hE 28 dX8_law_26 rfl rfl ?_
      refine A_callVi hE 31 (c_X0_gives 0 t0 g0 h0 a b c (by omega) l0) [3, 4, 5, 6] dX8_law_28 rfl mkX8_160 rfl rfl rfl rfl rfl rfl rfl (Nat.le_of_ble_eq_true rfl) (Nat.le_of_ble_eq_true rfl) rfl (fun x28 h28 g28 hp28 hw28 => ?_)
      obtain ⟨rfl, hx, rfl⟩ := hp28
      obtain rfl := Option.some.inj hw28
      refine A_h (Y16 er im s t0 g0 hx t1 g1 h1) rfl ?_
      refine A_iret hE dX8_law_31 ?_
      rw [lawF, if_pos hh, if_pos (show nI 0 = 0 from rfl)]
      exact ⟨rfl, hx, h1, rfl⟩
    · refine A_aload_n hE 14 dX8_law_13 rfl rfl ?_
      refine A_get hE 17 dX8_law_14 rfl fkX8_10 rfl rfl ?_
      refine A_get hE 20 dX8_law_17 rfl fkX8_63 rfl rfl ?_
      refine A_iload_n hE 21 dX8_law_20 rfl rfl ?_
      refine A_callVr hE 24 (c_X2_lawOf s 3 7 12 13 14 15 (nI 1)) [11] dX8_law_21 rfl mkX8_146 rfl rfl rfl rfl rfl rfl rfl (Nat.le_of_ble_eq_true rfl) (Nat.le_of_ble_eq_true rfl) rfl (fun x21 h21 g21 hp21 hw21 => ?_)
      obtain ⟨ei, rfl⟩ := hp21
      obtain rfl := Option.some.inj hw21
      refine A_h (Y16 er im s t0 g0 h0 t1 g1 h1) rfl ?_
      rw [if_neg (show ¬ nI 1 = 0 by decide)] at ei
      subst ei
      refine A_iload_n hE 25 dX8_law_24 rfl rfl ?_
      refine A_iload_n hE 26 dX8_law_25 rfl rfl ?_
      refine A_iload hE 28 dX8_law_26 rfl rfl ?_
      refine A_callVi hE 31 (c_X0_gives 1 t1 g1 h1 a b c (by omega) l1) [7, 8, 9, 10] dX8_law_28 rfl mkX8_160 rfl rfl rfl rfl rfl rfl rfl (Nat.le_of_ble_eq_true rfl) (Nat.le_of_ble_eq_true rfl) rfl (fun x28 h28 g28 hp28 hw28 => ?_)
      obtain ⟨rfl, hx, rfl⟩ := hp28
      obtain rfl := Option.some.inj hw28
      refine A_h (Y16 er im s t0 g0 h0 t1 g1 hx) rfl ?_
      refine A_iret hE dX8_law_31 ?_
      rw [lawF, if_pos hh, if_neg (show ¬ nI 1 = 0 by decide)]
      exact ⟨rfl, h0, hx, rfl⟩
  · have hh := bI_0 c4
    refine A_aload_n hE 8 dX8_law_7 rfl rfl ?_
    refine A_iconst hE 9 dX8_law_8 rfl (1) rfl ?_
    refine A_callVi hE 12 (c_X8_error er im 1 (by omega)) [0, 1] dX8_law_9 rfl mkX8_59 rfl rfl rfl rfl rfl rfl rfl (Nat.le_of_ble_eq_true rfl) (Nat.le_of_ble_eq_true rfl) rfl (fun x9 h9 g9 hp9 hw9 => ?_)
    obtain ⟨rfl, rfl⟩ := hp9
    obtain rfl := Option.some.inj hw9
    refine A_h (Y16 (upd er 1 (er 1 + 1)) im s t0 g0 h0 t1 g1 h1) rfl ?_
    refine A_iret hE dX8_law_12 ?_
    rw [lawF, if_neg hh]
    exact ⟨rfl, h0, h1, rfl⟩
set_option maxRecDepth 100000 in
theorem c_X8_untell_0 (er : Nat → Int32) (im : Int32) (s : St) (t0 : Sp) (g0 h0 : Nat → Int32) (t1 : Sp) (g1 h1 : Nat → Int32) : AMet yX8_untell cX8_untell 4 (some (.int)) 2 0 0 [.ref 0, .int (nI 0)] (Y16 er im s t0 g0 h0 t1 g1 h1) (pI fun x0 hz0 => x0 = (if 0 < nI t0.length then 1 else 0) ∧ hz0 = Y16 er im s [] g0 h0 t1 g1 h1) := by
  refine AMet.of (by decide +kernel) rfl (fun E ad0 hE => ?_)
  refine A_iload_n hE 1 dX8_untell_0 rfl rfl ?_
  refine A_callSi hE 4 (c_X8_isUse (nI 0)) [] dX8_untell_1 rfl mkX8_136 rfl rfl rfl rfl rfl rfl (Nat.le_of_ble_eq_true rfl) (Nat.le_of_ble_eq_true rfl) rfl (fun x1 h1 g1 hp1 hw1 => ?_)
  obtain ⟨rfl, rfl⟩ := hp1
  obtain rfl := Option.some.inj hw1
  refine A_if_ne hE 7 13 dX8_untell_4 rfl rfl (fun c4 => ?_) (fun c4 => absurd (by decide) (bI_0 c4))
  refine A_aload_n hE 14 dX8_untell_13 rfl rfl ?_
  refine A_get hE 17 dX8_untell_14 rfl fkX8_10 rfl rfl ?_
  refine A_get hE 20 dX8_untell_17 rfl fkX8_63 rfl rfl ?_
  refine A_iload_n hE 21 dX8_untell_20 rfl rfl ?_
  refine A_callVr hE 24 (c_X2_lawOf s 3 7 12 13 14 15 (nI 0)) [11] dX8_untell_21 rfl mkX8_146 rfl rfl rfl rfl rfl rfl rfl (Nat.le_of_ble_eq_true rfl) (Nat.le_of_ble_eq_true rfl) rfl (fun x21 h21 g21 hp21 hw21 => ?_)
  obtain ⟨ei, rfl⟩ := hp21
  obtain rfl := Option.some.inj hw21
  refine A_h (Y16 er im s t0 g0 h0 t1 g1 h1) rfl ?_
  rw [if_pos (show nI 0 = 0 from rfl)] at ei
  subst ei
  refine A_get hE 27 dX8_untell_24 rfl fkX8_159 rfl rfl ?_
  refine A_astore_n hE 28 dX8_untell_27 rfl rfl rfl ?_
  refine A_aload_n hE 29 dX8_untell_28 rfl rfl ?_
  refine A_get hE 32 dX8_untell_29 rfl fkX8_127 rfl rfl ?_
  refine A_if_le hE 35 39 dX8_untell_32 rfl rfl (fun c32 => ?_) (fun c32 => ?_)
  · refine A_iconst hE 40 dX8_untell_39 rfl (0) rfl ?_
    refine A_istore_n hE 41 dX8_untell_40 rfl rfl rfl ?_
    refine A_aload_n hE 42 dX8_untell_41 rfl rfl ?_
    refine A_callVv hE 45 (c_X3_empty 60 g0 (nI t0.length)) [4, 5] dX8_untell_42 rfl mkX8_143 rfl rfl rfl rfl rfl rfl rfl (Nat.le_of_ble_eq_true rfl) (Nat.le_of_ble_eq_true rfl) rfl (fun h42 g42 hp42 hw42 => ?_)
    obtain rfl := hp42
    obtain rfl := Option.some.inj hw42
    refine A_h (Y16 er im s [] g0 h0 t1 g1 h1) rfl ?_
    refine A_iload_n hE 46 dX8_untell_45 rfl rfl ?_
    refine A_iret hE dX8_untell_46 ?_
    rw [if_neg (iN c32)]
    exact ⟨rfl, rfl⟩
  · refine A_iconst hE 36 dX8_untell_35 rfl (1) rfl ?_
    refine A_goto hE 40 dX8_untell_36 rfl ?_
    refine A_istore_n hE 41 dX8_untell_40 rfl rfl rfl ?_
    refine A_aload_n hE 42 dX8_untell_41 rfl rfl ?_
    refine A_callVv hE 45 (c_X3_empty 60 g0 (nI t0.length)) [4, 5] dX8_untell_42 rfl mkX8_143 rfl rfl rfl rfl rfl rfl rfl (Nat.le_of_ble_eq_true rfl) (Nat.le_of_ble_eq_true rfl) rfl (fun h42 g42 hp42 hw42 => ?_)
    obtain rfl := hp42
    obtain rfl := Option.some.inj hw42
    refine A_h (Y16 er im s [] g0 h0 t1 g1 h1) rfl ?_
    refine A_iload_n hE 46 dX8_untell_45 rfl rfl ?_
    refine A_iret hE dX8_untell_46 ?_
    rw [if_pos (iG c32)]
    exact ⟨rfl, rfl⟩
set_option maxRecDepth 100000 in
theorem c_X8_untell_1 (er : Nat → Int32) (im : Int32) (s : St) (t0 : Sp) (g0 h0 : Nat → Int32) (t1 : Sp) (g1 h1 : Nat → Int32) : AMet yX8_untell cX8_untell 4 (some (.int)) 2 0 0 [.ref 0, .int (nI 1)] (Y16 er im s t0 g0 h0 t1 g1 h1) (pI fun x0 hz0 => x0 = (if 0 < nI t1.length then 1 else 0) ∧ hz0 = Y16 er im s t0 g0 h0 [] g1 h1) := by
  refine AMet.of (by decide +kernel) rfl (fun E ad0 hE => ?_)
  refine A_iload_n hE 1 dX8_untell_0 rfl rfl ?_
  refine A_callSi hE 4 (c_X8_isUse (nI 1)) [] dX8_untell_1 rfl mkX8_136 rfl rfl rfl rfl rfl rfl (Nat.le_of_ble_eq_true rfl) (Nat.le_of_ble_eq_true rfl) rfl (fun x1 h1 g1 hp1 hw1 => ?_)
  obtain ⟨rfl, rfl⟩ := hp1
  obtain rfl := Option.some.inj hw1
  refine A_if_ne hE 7 13 dX8_untell_4 rfl rfl (fun c4 => ?_) (fun c4 => absurd (by decide) (bI_0 c4))
  refine A_aload_n hE 14 dX8_untell_13 rfl rfl ?_
  refine A_get hE 17 dX8_untell_14 rfl fkX8_10 rfl rfl ?_
  refine A_get hE 20 dX8_untell_17 rfl fkX8_63 rfl rfl ?_
  refine A_iload_n hE 21 dX8_untell_20 rfl rfl ?_
  refine A_callVr hE 24 (c_X2_lawOf s 3 7 12 13 14 15 (nI 1)) [11] dX8_untell_21 rfl mkX8_146 rfl rfl rfl rfl rfl rfl rfl (Nat.le_of_ble_eq_true rfl) (Nat.le_of_ble_eq_true rfl) rfl (fun x21 h21 g21 hp21 hw21 => ?_)
  obtain ⟨ei, rfl⟩ := hp21
  obtain rfl := Option.some.inj hw21
  refine A_h (Y16 er im s t0 g0 h0 t1 g1 h1) rfl ?_
  rw [if_neg (show ¬ nI 1 = 0 by decide)] at ei
  subst ei
  refine A_get hE 27 dX8_untell_24 rfl fkX8_159 rfl rfl ?_
  refine A_astore_n hE 28 dX8_untell_27 rfl rfl rfl ?_
  refine A_aload_n hE 29 dX8_untell_28 rfl rfl ?_
  refine A_get hE 32 dX8_untell_29 rfl fkX8_127 rfl rfl ?_
  refine A_if_le hE 35 39 dX8_untell_32 rfl rfl (fun c32 => ?_) (fun c32 => ?_)
  · refine A_iconst hE 40 dX8_untell_39 rfl (0) rfl ?_
    refine A_istore_n hE 41 dX8_untell_40 rfl rfl rfl ?_
    refine A_aload_n hE 42 dX8_untell_41 rfl rfl ?_
    refine A_callVv hE 45 (c_X3_empty 60 g1 (nI t1.length)) [8, 9] dX8_untell_42 rfl mkX8_143 rfl rfl rfl rfl rfl rfl rfl (Nat.le_of_ble_eq_true rfl) (Nat.le_of_ble_eq_true rfl) rfl (fun h42 g42 hp42 hw42 => ?_)
    obtain rfl := hp42
    obtain rfl := Option.some.inj hw42
    refine A_h (Y16 er im s t0 g0 h0 [] g1 h1) rfl ?_
    refine A_iload_n hE 46 dX8_untell_45 rfl rfl ?_
    refine A_iret hE dX8_untell_46 ?_
    rw [if_neg (iN c32)]
    exact ⟨rfl, rfl⟩
  · refine A_iconst hE 36 dX8_untell_35 rfl (1) rfl ?_
    refine A_goto hE 40 dX8_untell_36 rfl ?_
    refine A_istore_n hE 41 dX8_untell_40 rfl rfl rfl ?_
    refine A_aload_n hE 42 dX8_untell_41 rfl rfl ?_
    refine A_callVv hE 45 (c_X3_empty 60 g1 (nI t1.length)) [8, 9] dX8_untell_42 rfl mkX8_143 rfl rfl rfl rfl rfl rfl rfl (Nat.le_of_ble_eq_true rfl) (Nat.le_of_ble_eq_true rfl) rfl (fun h42 g42 hp42 hw42 => ?_)
    obtain rfl := hp42
    obtain rfl := Option.some.inj hw42
    refine A_h (Y16 er im s t0 g0 h0 [] g1 h1) rfl ?_
    refine A_iload_n hE 46 dX8_untell_45 rfl rfl ?_
    refine A_iret hE dX8_untell_46 ?_
    rw [if_pos (iG c32)]
    exact ⟨rfl, rfl⟩
set_option maxRecDepth 100000 in
theorem c_X8_untell_no (er : Nat → Int32) (im : Int32) (s : St) (t0 : Sp) (g0 h0 : Nat → Int32) (t1 : Sp) (g1 h1 : Nat → Int32) (u : Int32) (hu : ¬ (0 ≤ u ∧ u ≤ 1)) : AMet yX8_untell cX8_untell 4 (some (.int)) 2 0 0 [.ref 0, .int u] (Y16 er im s t0 g0 h0 t1 g1 h1) (pI fun x0 hz0 => x0 = -1000000000 - nI 1 ∧ hz0 = Y16 (upd er 1 (er 1 + 1)) im s t0 g0 h0 t1 g1 h1) := by
  refine AMet.of (by decide +kernel) rfl (fun E ad0 hE => ?_)
  refine A_iload_n hE 1 dX8_untell_0 rfl rfl ?_
  refine A_callSi hE 4 (c_X8_isUse u) [] dX8_untell_1 rfl mkX8_136 rfl rfl rfl rfl rfl rfl (Nat.le_of_ble_eq_true rfl) (Nat.le_of_ble_eq_true rfl) rfl (fun x1 h1 g1 hp1 hw1 => ?_)
  obtain ⟨rfl, rfl⟩ := hp1
  obtain rfl := Option.some.inj hw1
  refine A_if_ne hE 7 13 dX8_untell_4 rfl rfl (fun c4 => absurd (bI_1 c4) hu) (fun c4 => ?_)
  refine A_aload_n hE 8 dX8_untell_7 rfl rfl ?_
  refine A_iconst hE 9 dX8_untell_8 rfl (1) rfl ?_
  refine A_callVi hE 12 (c_X8_error er im 1 (by omega)) [0, 1] dX8_untell_9 rfl mkX8_59 rfl rfl rfl rfl rfl rfl rfl (Nat.le_of_ble_eq_true rfl) (Nat.le_of_ble_eq_true rfl) rfl (fun x9 h9 g9 hp9 hw9 => ?_)
  obtain ⟨rfl, rfl⟩ := hp9
  obtain rfl := Option.some.inj hw9
  refine A_h (Y16 (upd er 1 (er 1 + 1)) im s t0 g0 h0 t1 g1 h1) rfl ?_
  refine A_iret hE dX8_untell_12 ⟨rfl, rfl⟩
set_option maxRecDepth 100000 in
theorem c_X8_days (er : Nat → Int32) (im : Int32) (s : St) (t0 : Sp) (g0 h0 : Nat → Int32) (t1 : Sp) (g1 h1 : Nat → Int32) (n : Int32) (w : wf s) (l0 : LawC 0 t0 g0) (l1 : LawC 1 t1 g1) : AMet yX8_days cX8_days 2 (some (.int)) 5 0 0 [.ref 0, .int n] (Y16 er im s t0 g0 h0 t1 g1 h1) (pI fun x0 hz0 => x0 = (daysF t0 t1 s er n).1 ∧ ∃ h0' h1' : Nat → Int32, hz0 = Y16 (daysF t0 t1 s er n).2.2 im (daysF t0 t1 s er n).2.1 t0 g0 h0' t1 g1 h1') := by
  refine AMet.of (by decide +kernel) rfl (fun E ad0 hE => ?_)
  refine A_iload_n hE 1 dX8_days_0 rfl rfl ?_
  refine A_iconst hE 2 dX8_days_1 rfl (1) rfl ?_
  refine A_bipush hE 4 dX8_days_2 rfl (60) (by decide) ?_
  refine A_callSi hE 7 (c_X8_isWithin n 1 60) [] dX8_days_4 rfl mkX8_55 rfl rfl rfl rfl rfl rfl (Nat.le_of_ble_eq_true rfl) (Nat.le_of_ble_eq_true rfl) rfl (fun x4 h4 g4 hp4 hw4 => ?_)
  obtain ⟨rfl, rfl⟩ := hp4
  obtain rfl := Option.some.inj hw4
  refine A_if_ne hE 10 16 dX8_days_7 rfl rfl (fun c7 => ?_) (fun c7 => ?_)
  · have hh := bI_1 c7
    obtain ⟨k, hk, rfl⟩ := iK2 (n := 60) (Int32.le_trans (show (0 : Int32) ≤ 1 by decide) hh.1) hh.2 (by omega)
    have ek : (nI k).toNatClampNeg = k := nI_clamp (by omega)
    refine A_aload_n hE 17 dX8_days_16 rfl rfl ?_
    refine A_get hE 20 dX8_days_17 rfl fkX8_10 rfl rfl ?_
    refine A_get hE 23 dX8_days_20 rfl fkX8_63 rfl rfl ?_
    refine A_get hE 26 dX8_days_23 rfl fkX8_164 rfl rfl ?_
    refine A_iload_n hE 27 dX8_days_26 rfl rfl ?_
    refine A_iadd hE 28 dX8_days_27 rfl ?_
    refine A_sipush hE 31 dX8_days_28 rfl (9999) (by decide) ?_
    refine A_icmp_le hE 34 40 dX8_days_31 rfl rfl (fun c31 => ?_) (fun c31 => ?_)
    · refine A_aload_n hE 41 dX8_days_40 rfl rfl ?_
      refine A_get hE 44 dX8_days_41 rfl fkX8_10 rfl rfl ?_
      refine A_get hE 47 dX8_days_44 rfl fkX8_63 rfl rfl ?_
      refine A_iload_n hE 48 dX8_days_47 rfl rfl ?_
      refine A_callVv hE 51 (c_X2_passDays s t0 t1 g0 h0 g1 h1 k (by omega) w l0 l1) [11, 3, 4, 5, 6, 7, 8, 9, 10, 12, 13, 14, 15] dX8_days_48 rfl mkX8_167 rfl rfl rfl rfl rfl rfl rfl (Nat.le_of_ble_eq_true rfl) (Nat.le_of_ble_eq_true rfl) rfl (fun h48 g48 hp48 hw48 => ?_)
      obtain ⟨hx, hy, rfl⟩ := hp48
      obtain rfl := Option.some.inj hw48
      refine A_h (Y16 er im (dN t0 t1 k s) t0 g0 hx t1 g1 hy) rfl ?_
      refine A_aload_n hE 52 dX8_days_51 rfl rfl ?_
      refine A_get hE 55 dX8_days_52 rfl fkX8_10 rfl rfl ?_
      refine A_get hE 58 dX8_days_55 rfl fkX8_63 rfl rfl ?_
      refine A_get hE 61 dX8_days_58 rfl fkX8_170 rfl rfl ?_
      refine A_iret hE dX8_days_61 ?_
      rw [daysF, if_pos hh, if_neg (iN c31), ek]
      exact ⟨rfl, hx, hy, rfl⟩
    · refine A_aload_n hE 35 dX8_days_34 rfl rfl ?_
      refine A_iconst hE 36 dX8_days_35 rfl (3) rfl ?_
      refine A_callVi hE 39 (c_X8_error er im 3 (by omega)) [0, 1] dX8_days_36 rfl mkX8_59 rfl rfl rfl rfl rfl rfl rfl (Nat.le_of_ble_eq_true rfl) (Nat.le_of_ble_eq_true rfl) rfl (fun x36 h36 g36 hp36 hw36 => ?_)
      obtain ⟨rfl, rfl⟩ := hp36
      obtain rfl := Option.some.inj hw36
      refine A_h (Y16 (upd er 3 (er 3 + 1)) im s t0 g0 h0 t1 g1 h1) rfl ?_
      refine A_iret hE dX8_days_39 ?_
      rw [daysF, if_pos hh, if_pos (iG c31)]
      exact ⟨rfl, h0, h1, rfl⟩
  · have hh := bI_0 c7
    refine A_aload_n hE 11 dX8_days_10 rfl rfl ?_
    refine A_iconst hE 12 dX8_days_11 rfl (1) rfl ?_
    refine A_callVi hE 15 (c_X8_error er im 1 (by omega)) [0, 1] dX8_days_12 rfl mkX8_59 rfl rfl rfl rfl rfl rfl rfl (Nat.le_of_ble_eq_true rfl) (Nat.le_of_ble_eq_true rfl) rfl (fun x12 h12 g12 hp12 hw12 => ?_)
    obtain ⟨rfl, rfl⟩ := hp12
    obtain rfl := Option.some.inj hw12
    refine A_h (Y16 (upd er 1 (er 1 + 1)) im s t0 g0 h0 t1 g1 h1) rfl ?_
    refine A_iret hE dX8_days_15 ?_
    rw [daysF, if_neg hh]
    exact ⟨rfl, h0, h1, rfl⟩
set_option maxRecDepth 100000 in
theorem c_X8_loose (er : Nat → Int32) (im : Int32) (s : St) (t0 : Sp) (g0 h0 : Nat → Int32) (t1 : Sp) (g1 h1 : Nat → Int32) (n : Int32) (w : wf s) (l0 : LawC 0 t0 g0) (l1 : LawC 1 t1 g1) : AMet yX8_loose cX8_loose 3 (some (.int)) 5 0 0 [.ref 0, .int n] (Y16 er im s t0 g0 h0 t1 g1 h1) (pI fun x0 hz0 => x0 = (looseF t0 t1 s er n).1 ∧ ∃ h0' h1' : Nat → Int32, hz0 = Y16 (looseF t0 t1 s er n).2.2 im (looseF t0 t1 s er n).2.1 t0 g0 h0' t1 g1 h1') := by
  refine AMet.of (by decide +kernel) rfl (fun E ad0 hE => ?_)
  have loop : ∀ (m i k : Nat) (s' : St) (h0 h1 : Nat → Int32), n = nI k → k ≤ 30 → i + m = k → wf s' → looseF t0 t1 s er n = (loN t0 t1 m s' 1, loN t0 t1 m s', er) → AW E (rmD 5 0 0) 3 (QM E ad0 16 0 0 (pI fun x0 hz0 => x0 = (looseF t0 t1 s er n).1 ∧ ∃ h0' h1' : Nat → Int32, hz0 = Y16 (looseF t0 t1 s er n).2.2 im (looseF t0 t1 s er n).2.1 t0 g0 h0' t1 g1 h1')) ad0 16 0 0 42 [(0, .ref 0), (1, .int n), (2, .int (nI i))] [] (Y16 er im s' t0 g0 h0 t1 g1 h1) := by
    intro m
    induction m with
    | zero =>
      intro i k s' h0 h1 hnk hk hi w' hx
      subst hnk
      refine A_iload_n hE 43 dX8_loose_42 rfl rfl ?_
      refine A_iload_n hE 44 dX8_loose_43 rfl rfl ?_
      refine A_icmp_ge hE 47 74 dX8_loose_44 rfl rfl (fun c44 => ?_) (fun c44 => absurd (nI_le (by omega) (by omega)) c44)
      refine A_aload_n hE 75 dX8_loose_74 rfl rfl ?_
      refine A_get hE 78 dX8_loose_75 rfl fkX8_10 rfl rfl ?_
      refine A_get hE 81 dX8_loose_78 rfl fkX8_63 rfl rfl ?_
      refine A_get hE 84 dX8_loose_81 rfl fkX8_170 rfl rfl ?_
      refine A_iret hE dX8_loose_84 ?_
      rw [hx]
      exact ⟨rfl, h0, h1, rfl⟩
    | succ m ih =>
      intro i k s' h0 h1 hnk hk hi w' hx
      refine A_iload_n hE 43 dX8_loose_42 rfl rfl ?_
      refine A_iload_n hE 44 dX8_loose_43 rfl rfl ?_
      refine A_icmp_ge hE 47 74 dX8_loose_44 rfl rfl (fun c44 => absurd c44 (by rw [hnk]; exact nI_ge (show i < k by omega) (by omega))) (fun c44 => ?_)
      refine A_aload_n hE 48 dX8_loose_47 rfl rfl ?_
      refine A_get hE 51 dX8_loose_48 rfl fkX8_10 rfl rfl ?_
      refine A_get hE 54 dX8_loose_51 rfl fkX8_63 rfl rfl ?_
      refine A_callVv hE 57 (c_X2_drawPlace s' t0 t1 g0 h0 g1 h1 w') [11, 3, 4, 5, 6, 7, 8, 9, 10, 12, 13, 14, 15] dX8_loose_54 rfl mkX8_173 rfl rfl rfl rfl rfl rfl rfl (Nat.le_of_ble_eq_true rfl) (Nat.le_of_ble_eq_true rfl) rfl (fun h54 g54 hp54 hw54 => ?_)
      obtain rfl := hp54
      obtain rfl := Option.some.inj hw54
      refine A_h (Y16 er im (drawS s') t0 g0 h0 t1 g1 h1) rfl ?_
      refine A_aload_n hE 58 dX8_loose_57 rfl rfl ?_
      refine A_get hE 61 dX8_loose_58 rfl fkX8_10 rfl rfl ?_
      refine A_get hE 64 dX8_loose_61 rfl fkX8_63 rfl rfl ?_
      refine A_iconst hE 65 dX8_loose_64 rfl (1) rfl ?_
      refine A_callVv hE 68 (c_X2_passDays (drawS s') t0 t1 g0 h0 g1 h1 1 (by omega) (wf_draw w') l0 l1) [11, 3, 4, 5, 6, 7, 8, 9, 10, 12, 13, 14, 15] dX8_loose_65 rfl mkX8_167 rfl rfl rfl rfl rfl rfl rfl (Nat.le_of_ble_eq_true rfl) (Nat.le_of_ble_eq_true rfl) rfl (fun h65 g65 hp65 hw65 => ?_)
      obtain ⟨hx1, hy1, rfl⟩ := hp65
      obtain rfl := Option.some.inj hw65
      refine A_h (Y16 er im (day1 t0 t1 (drawS s')) t0 g0 hx1 t1 g1 hy1) rfl ?_
      refine A_iinc hE 71 dX8_loose_68 rfl rfl (1) rfl rfl rfl ?_
      rw [nI_1]
      refine A_lv [0, 1, 2] rfl ?_
      refine A_goto hE 42 dX8_loose_71 rfl ?_
      exact ih (i + 1) k _ hx1 hy1 hnk hk (by omega) (wf_day (wf_draw w')) hx
  refine A_iload_n hE 1 dX8_loose_0 rfl rfl ?_
  refine A_iconst hE 2 dX8_loose_1 rfl (1) rfl ?_
  refine A_bipush hE 4 dX8_loose_2 rfl (30) (by decide) ?_
  refine A_callSi hE 7 (c_X8_isWithin n 1 30) [] dX8_loose_4 rfl mkX8_55 rfl rfl rfl rfl rfl rfl (Nat.le_of_ble_eq_true rfl) (Nat.le_of_ble_eq_true rfl) rfl (fun x4 h4 g4 hp4 hw4 => ?_)
  obtain ⟨rfl, rfl⟩ := hp4
  obtain rfl := Option.some.inj hw4
  refine A_if_ne hE 10 16 dX8_loose_7 rfl rfl (fun c7 => ?_) (fun c7 => ?_)
  · have hh := bI_1 c7
    have hh0 := Int32.le_trans (show (0 : Int32) ≤ 1 by decide) hh.1
    refine A_aload_n hE 17 dX8_loose_16 rfl rfl ?_
    refine A_get hE 20 dX8_loose_17 rfl fkX8_10 rfl rfl ?_
    refine A_get hE 23 dX8_loose_20 rfl fkX8_63 rfl rfl ?_
    refine A_get hE 26 dX8_loose_23 rfl fkX8_164 rfl rfl ?_
    refine A_iload_n hE 27 dX8_loose_26 rfl rfl ?_
    refine A_iadd hE 28 dX8_loose_27 rfl ?_
    refine A_sipush hE 31 dX8_loose_28 rfl (9999) (by decide) ?_
    refine A_icmp_le hE 34 40 dX8_loose_31 rfl rfl (fun c31 => ?_) (fun c31 => ?_)
    · refine A_iconst hE 41 dX8_loose_40 rfl (0) rfl ?_
      refine A_istore_n hE 42 dX8_loose_41 rfl rfl rfl ?_
      obtain ⟨k, hk, hnk⟩ := iK2 (n := 30) hh0 hh.2 (by omega)
      refine A_lv [0, 1, 2] rfl ?_
      exact loop k 0 k s h0 h1 hnk hk (Nat.zero_add _) w (by rw [looseF, if_pos hh, if_neg (iN c31), hnk, nI_clamp (by omega)])
    · refine A_aload_n hE 35 dX8_loose_34 rfl rfl ?_
      refine A_iconst hE 36 dX8_loose_35 rfl (3) rfl ?_
      refine A_callVi hE 39 (c_X8_error er im 3 (by omega)) [0, 1] dX8_loose_36 rfl mkX8_59 rfl rfl rfl rfl rfl rfl rfl (Nat.le_of_ble_eq_true rfl) (Nat.le_of_ble_eq_true rfl) rfl (fun x36 h36 g36 hp36 hw36 => ?_)
      obtain ⟨rfl, rfl⟩ := hp36
      obtain rfl := Option.some.inj hw36
      refine A_h (Y16 (upd er 3 (er 3 + 1)) im s t0 g0 h0 t1 g1 h1) rfl ?_
      refine A_iret hE dX8_loose_39 ?_
      rw [looseF, if_pos hh, if_pos (iG c31)]
      exact ⟨rfl, h0, h1, rfl⟩
  · have hh := bI_0 c7
    refine A_aload_n hE 11 dX8_loose_10 rfl rfl ?_
    refine A_iconst hE 12 dX8_loose_11 rfl (1) rfl ?_
    refine A_callVi hE 15 (c_X8_error er im 1 (by omega)) [0, 1] dX8_loose_12 rfl mkX8_59 rfl rfl rfl rfl rfl rfl rfl (Nat.le_of_ble_eq_true rfl) (Nat.le_of_ble_eq_true rfl) rfl (fun x12 h12 g12 hp12 hw12 => ?_)
    obtain ⟨rfl, rfl⟩ := hp12
    obtain rfl := Option.some.inj hw12
    refine A_h (Y16 (upd er 1 (er 1 + 1)) im s t0 g0 h0 t1 g1 h1) rfl ?_
    refine A_iret hE dX8_loose_15 ?_
    rw [looseF, if_neg hh]
    exact ⟨rfl, h0, h1, rfl⟩
set_option maxRecDepth 100000 in
theorem c_X8_told (er : Nat → Int32) (im : Int32) (s : St) (k : Int32) : AMet yX8_told cX8_told 2 (some (.int)) 1 0 0 [.ref 0, .int k] (Y2 er im) (pI fun x0 hz0 => x0 = (toldF s er k).1 ∧ hz0 = Y2 (toldF s er k).2.2 im) := by
  refine AMet.of (by decide +kernel) rfl (fun E ad0 hE => ?_)
  refine A_iload_n hE 1 dX8_told_0 rfl rfl ?_
  refine A_iconst hE 2 dX8_told_1 rfl (1) rfl ?_
  refine A_bipush hE 4 dX8_told_2 rfl (6) (by decide) ?_
  refine A_callSi hE 7 (c_X8_isWithin k 1 6) [] dX8_told_4 rfl mkX8_55 rfl rfl rfl rfl rfl rfl (Nat.le_of_ble_eq_true rfl) (Nat.le_of_ble_eq_true rfl) rfl (fun x4 h4 g4 hp4 hw4 => ?_)
  obtain ⟨rfl, rfl⟩ := hp4
  obtain rfl := Option.some.inj hw4
  refine A_if_ne hE 10 16 dX8_told_7 rfl rfl (fun c7 => ?_) (fun c7 => ?_)
  · have hh := bI_1 c7
    obtain ⟨j, hj, rfl⟩ := iK2 (n := 6) (Int32.le_trans (show (0 : Int32) ≤ 1 by decide) hh.1) hh.2 (by omega)
    refine A_aload_n hE 17 dX8_told_16 rfl rfl ?_
    refine A_get hE 20 dX8_told_17 rfl fkX8_46 rfl rfl ?_
    refine A_iload_n hE 21 dX8_told_20 rfl rfl ?_
    refine A_iald hE 22 j dX8_told_21 rfl rfl rfl (by omega) rfl ?_
    refine A_iret hE dX8_told_22 ?_
    rw [toldF, if_pos hh, nI_clamp (by omega)]
    exact ⟨rfl, rfl⟩
  · have hh := bI_0 c7
    refine A_aload_n hE 11 dX8_told_10 rfl rfl ?_
    refine A_iconst hE 12 dX8_told_11 rfl (1) rfl ?_
    refine A_callVi hE 15 (c_X8_error er im 1 (by omega)) [0, 1] dX8_told_12 rfl mkX8_59 rfl rfl rfl rfl rfl rfl rfl (Nat.le_of_ble_eq_true rfl) (Nat.le_of_ble_eq_true rfl) rfl (fun x12 h12 g12 hp12 hw12 => ?_)
    obtain ⟨rfl, rfl⟩ := hp12
    obtain rfl := Option.some.inj hw12
    refine A_h (Y2 (upd er 1 (er 1 + 1)) im) rfl ?_
    refine A_iret hE dX8_told_15 ?_
    rw [toldF, if_neg hh]
    exact ⟨rfl, rfl⟩
set_option maxRecDepth 100000 in
theorem c_X8_then (er : Nat → Int32) (im : Int32) (s : St) (t0 : Sp) (g0 h0 : Nat → Int32) (t1 : Sp) (g1 h1 : Nat → Int32) (tl : Nat) (tp : Nat → Int32) (wl : Nat) (wt : Nat → Int32) (wh mu : Int32) (J : St) (pt : Int32) (vK : Nat) (vk vm : Int32) (tn : Nat) (tr : Nat → Int32) (v1 v2 : Value) (pl ft : Int32) (rk : Nat) (rf : Nat → Int32) (K : St) (m0 : Nat) (f0 k0 : Nat → Int32) (m1 : Nat) (f1 k1 : Nat → Int32) (tl2 : Nat) (tp2 : Nat → Int32) (wl2 : Nat) (wt2 sb : Nat → Int32) (zs : Nat → Nat) (sn : Nat → Nat → Int32) (dn : Nat) (df dk : Nat → Int32) (dm : Nat) (dg dl : Nat → Int32) (n what : Int32) (w : wf s) (l0 : LawC 0 t0 g0) (l1 : LawC 1 t1 g1) : AMet yX8_then cX8_then 4 (some (.int)) 6 0 0 [.ref 0, .int n, .int what] (Y71 er im s t0 g0 h0 t1 g1 h1 tl tp wl wt wh mu J pt vK vk vm tn tr v1 v2 pl ft rk rf K m0 f0 k0 m1 f1 k1 tl2 tp2 wl2 wt2 sb zs sn dn df dk dm dg dl) (pI fun x0 hz0 => x0 = (thenF t0 t1 s er n what).1 ∧ ∃ (J' : St) (wh' mu' : Int32) (dn' dm' : Nat) (df' dk' dg' dl' : Nat → Int32), hz0 = Y71 (thenF t0 t1 s er n what).2.2 im (thenF t0 t1 s er n what).2.1 t0 g0 h0 t1 g1 h1 tl tp wl wt wh' mu' J' pt vK vk vm tn tr v1 v2 pl ft rk rf K m0 f0 k0 m1 f1 k1 tl2 tp2 wl2 wt2 sb zs sn dn' df' dk' dm' dg' dl') := by
  refine AMet.of (by decide +kernel) rfl (fun E ad0 hE => ?_)
  refine A_iload_n hE 1 dX8_then_0 rfl rfl ?_
  refine A_iconst hE 2 dX8_then_1 rfl (0) rfl ?_
  refine A_bipush hE 4 dX8_then_2 rfl (60) (by decide) ?_
  refine A_callSi hE 7 (c_X8_isWithin n 0 60) [] dX8_then_4 rfl mkX8_55 rfl rfl rfl rfl rfl rfl (Nat.le_of_ble_eq_true rfl) (Nat.le_of_ble_eq_true rfl) rfl (fun x4 h4 g4 hp4 hw4 => ?_)
  obtain ⟨rfl, rfl⟩ := hp4
  obtain rfl := Option.some.inj hw4
  refine A_if_eq hE 10 19 dX8_then_7 rfl rfl (fun c7 => ?_) (fun c7 => ?_)
  · have hh := bI_0 c7
    refine A_aload_n hE 20 dX8_then_19 rfl rfl ?_
    refine A_iconst hE 21 dX8_then_20 rfl (1) rfl ?_
    refine A_callVi hE 24 (c_X8_error er im 1 (by omega)) [0, 1] dX8_then_21 rfl mkX8_59 rfl rfl rfl rfl rfl rfl rfl (Nat.le_of_ble_eq_true rfl) (Nat.le_of_ble_eq_true rfl) rfl (fun x21 h21 g21 hp21 hw21 => ?_)
    obtain ⟨rfl, rfl⟩ := hp21
    obtain rfl := Option.some.inj hw21
    refine A_h (Y71 (upd er 1 (er 1 + 1)) im s t0 g0 h0 t1 g1 h1 tl tp wl wt wh mu J pt vK vk vm tn tr v1 v2 pl ft rk rf K m0 f0 k0 m1 f1 k1 tl2 tp2 wl2 wt2 sb zs sn dn df dk dm dg dl) rfl ?_
    refine A_iret hE dX8_then_24 ?_
    rw [thenF, if_neg (fun z => hh z.1)]
    exact ⟨rfl, J, wh, mu, dn, dm, df, dk, dg, dl, rfl⟩
  · have hh := bI_1 c7
    obtain ⟨k, hkk, rfl⟩ := iK2 (n := 60) hh.1 hh.2 (by omega)
    have ek : (nI k).toNatClampNeg = k := nI_clamp (by omega)
    refine A_iload_n hE 11 dX8_then_10 rfl rfl ?_
    refine A_iconst hE 12 dX8_then_11 rfl (0) rfl ?_
    refine A_iconst hE 13 dX8_then_12 rfl (3) rfl ?_
    refine A_callSi hE 16 (c_X8_isWithin what 0 3) [] dX8_then_13 rfl mkX8_55 rfl rfl rfl rfl rfl rfl (Nat.le_of_ble_eq_true rfl) (Nat.le_of_ble_eq_true rfl) rfl (fun x13 h13 g13 hp13 hw13 => ?_)
    obtain ⟨rfl, rfl⟩ := hp13
    obtain rfl := Option.some.inj hw13
    refine A_if_ne hE 19 25 dX8_then_16 rfl rfl (fun c16 => ?_) (fun c16 => ?_)
    · have hw := bI_1 c16
      refine A_aload_n hE 26 dX8_then_25 rfl rfl ?_
      refine A_get hE 29 dX8_then_26 rfl fkX8_29 rfl rfl ?_
      refine A_aload_n hE 30 dX8_then_29 rfl rfl ?_
      refine A_get hE 33 dX8_then_30 rfl fkX8_10 rfl rfl ?_
      refine A_get hE 36 dX8_then_33 rfl fkX8_63 rfl rfl ?_
      refine A_iload_n hE 37 dX8_then_36 rfl rfl ?_
      refine A_callVr hE 40 (c_X6_daysOn s J wh mu t0 t1 g0 h0 g1 h1 dn dm df dk dg dl k (by omega) w l0 l1) [20, 11, 12, 13, 14, 15, 21, 22, 23, 24, 25, 3, 4, 5, 6, 7, 8, 9, 10, 63, 64, 65, 66, 67, 68, 69, 70] dX8_then_37 rfl mkX8_179 rfl rfl rfl rfl rfl rfl rfl (Nat.le_of_ble_eq_true rfl) (Nat.le_of_ble_eq_true rfl) rfl (fun x37 h37 g37 hp37 hw37 => ?_)
      obtain ⟨rfl, hx, hy, rfl⟩ := hp37
      obtain rfl := Option.some.inj hw37
      refine A_h (Y71 er im s t0 g0 h0 t1 g1 h1 tl tp wl wt wh mu (dN t0 t1 k s) pt vK vk vm tn tr v1 v2 pl ft rk rf K m0 f0 k0 m1 f1 k1 tl2 tp2 wl2 wt2 sb zs sn t0.length (ovr t0.length g0 df) hx t1.length (ovr t1.length g1 dg) hy) rfl ?_
      refine A_astore_n hE 41 dX8_then_40 rfl rfl rfl ?_
      obtain ⟨j, hj, rfl⟩ := iK2 (n := 3) hw.1 hw.2 (by omega)
      match j, hj with
      | 0, _ =>
        refine A_iload_n hE 42 dX8_then_41 rfl rfl ?_
        refine A_tabIn hE 68 dX8_then_42 (by decide) (by decide) (off := 26) (by decide) rfl ?_
        refine A_aload_n hE 69 dX8_then_68 rfl rfl ?_
        refine A_get hE 72 dX8_then_69 rfl fkX8_170 rfl rfl ?_
        refine A_iret hE dX8_then_72 ?_
        rw [thenF, if_pos ⟨hh, hw⟩, ek, thenV, if_pos (show nI 0 = 0 from rfl)]
        exact ⟨rfl, _, wh, mu, _, _, _, hx, _, hy, rfl⟩
      | 1, _ =>
        refine A_iload_n hE 42 dX8_then_41 rfl rfl ?_
        refine A_tabIn hE 73 dX8_then_42 (by decide) (by decide) (off := 31) (by decide) rfl ?_
        refine A_aload_n hE 74 dX8_then_73 rfl rfl ?_
        refine A_get hE 77 dX8_then_74 rfl fkX8_183 rfl rfl ?_
        refine A_iret hE dX8_then_77 ?_
        rw [thenF, if_pos ⟨hh, hw⟩, ek, thenV, if_neg (by decide), if_pos (show nI 1 = 1 from rfl)]
        exact ⟨rfl, _, wh, mu, _, _, _, hx, _, hy, rfl⟩
      | 2, _ =>
        refine A_iload_n hE 42 dX8_then_41 rfl rfl ?_
        refine A_tabIn hE 78 dX8_then_42 (by decide) (by decide) (off := 36) (by decide) rfl ?_
        refine A_aload_n hE 79 dX8_then_78 rfl rfl ?_
        refine A_get hE 82 dX8_then_79 rfl fkX8_111 rfl rfl ?_
        refine A_iret hE dX8_then_82 ?_
        rw [thenF, if_pos ⟨hh, hw⟩, ek, thenV, if_neg (by decide), if_neg (by decide), if_pos (show nI 2 = 2 from rfl)]
        exact ⟨rfl, _, wh, mu, _, _, _, hx, _, hy, rfl⟩
      | 3, _ =>
        refine A_iload_n hE 42 dX8_then_41 rfl rfl ?_
        refine A_tabOut hE 83 dX8_then_42 (Or.inr (by decide)) rfl ?_
        refine A_aload_n hE 84 dX8_then_83 rfl rfl ?_
        refine A_callVi hE 87 (c_X2_heardTogether (dN t0 t1 k s) t0 t1 (ovr t0.length g0 df) hx (ovr t1.length g1 dg) hy (wf_dN k w)) [21, 63, 64, 65, 66, 67, 68, 69, 70, 22, 23, 24, 25] dX8_then_84 rfl mkX8_186 rfl rfl rfl rfl rfl rfl rfl (Nat.le_of_ble_eq_true rfl) (Nat.le_of_ble_eq_true rfl) rfl (fun x84 h84 g84 hp84 hw84 => ?_)
        obtain ⟨rfl, rfl⟩ := hp84
        obtain rfl := Option.some.inj hw84
        refine A_h (Y71 er im s t0 g0 h0 t1 g1 h1 tl tp wl wt wh mu (dN t0 t1 k s) pt vK vk vm tn tr v1 v2 pl ft rk rf K m0 f0 k0 m1 f1 k1 tl2 tp2 wl2 wt2 sb zs sn t0.length (ovr t0.length g0 df) hx t1.length (ovr t1.length g1 dg) hy) rfl ?_
        refine A_iret hE dX8_then_87 ?_
        rw [thenF, if_pos ⟨hh, hw⟩, ek, thenV, if_neg (by decide), if_neg (by decide), if_neg (by decide)]
        exact ⟨rfl, _, wh, mu, _, _, _, hx, _, hy, rfl⟩
    · have hw := bI_0 c16
      refine A_aload_n hE 20 dX8_then_19 rfl rfl ?_
      refine A_iconst hE 21 dX8_then_20 rfl (1) rfl ?_
      refine A_callVi hE 24 (c_X8_error er im 1 (by omega)) [0, 1] dX8_then_21 rfl mkX8_59 rfl rfl rfl rfl rfl rfl rfl (Nat.le_of_ble_eq_true rfl) (Nat.le_of_ble_eq_true rfl) rfl (fun x21 h21 g21 hp21 hw21 => ?_)
      obtain ⟨rfl, rfl⟩ := hp21
      obtain rfl := Option.some.inj hw21
      refine A_h (Y71 (upd er 1 (er 1 + 1)) im s t0 g0 h0 t1 g1 h1 tl tp wl wt wh mu J pt vK vk vm tn tr v1 v2 pl ft rk rf K m0 f0 k0 m1 f1 k1 tl2 tp2 wl2 wt2 sb zs sn dn df dk dm dg dl) rfl ?_
      refine A_iret hE dX8_then_24 ?_
      rw [thenF, if_neg (fun z => hw z.2)]
      exact ⟨rfl, J, wh, mu, dn, dm, df, dk, dg, dl, rfl⟩
set_option maxRecDepth 100000 in
theorem c_X8_soonest (er : Nat → Int32) (im : Int32) (s : St) (t0 : Sp) (g0 h0 : Nat → Int32) (t1 : Sp) (g1 h1 : Nat → Int32) (tl : Nat) (tp : Nat → Int32) (wl : Nat) (wt : Nat → Int32) (wh mu : Int32) (J : St) (pt : Int32) (vK : Nat) (vk vm : Int32) (tn : Nat) (tr : Nat → Int32) (v1 v2 : Value) (pl ft : Int32) (rk : Nat) (rf : Nat → Int32) (K : St) (m0 : Nat) (f0 k0 : Nat → Int32) (m1 : Nat) (f1 k1 : Nat → Int32) (tl2 : Nat) (tp2 : Nat → Int32) (wl2 : Nat) (wt2 sb : Nat → Int32) (zs : Nat → Nat) (sn : Nat → Nat → Int32) (dn : Nat) (df dk : Nat → Int32) (dm : Nat) (dg dl : Nat → Int32) (h v : Int32) (w : wf s) (l0 : LawC 0 t0 g0) (l1 : LawC 1 t1 g1) : AMet yX8_soonest cX8_soonest 4 (some (.int)) 6 0 0 [.ref 0, .int h, .int v] (Y71 er im s t0 g0 h0 t1 g1 h1 tl tp wl wt wh mu J pt vK vk vm tn tr v1 v2 pl ft rk rf K m0 f0 k0 m1 f1 k1 tl2 tp2 wl2 wt2 sb zs sn dn df dk dm dg dl) (pI fun x0 hz0 => x0 = (soonF t0 t1 s er h v).1 ∧ ∃ (J' : St) (wh' mu' : Int32) (dn' dm' : Nat) (df' dk' dg' dl' : Nat → Int32), hz0 = Y71 (soonF t0 t1 s er h v).2.2 im (soonF t0 t1 s er h v).2.1 t0 g0 h0 t1 g1 h1 tl tp wl wt wh' mu' J' pt vK vk vm tn tr v1 v2 pl ft rk rf K m0 f0 k0 m1 f1 k1 tl2 tp2 wl2 wt2 sb zs sn dn' df' dk' dm' dg' dl') := by
  refine AMet.of (by decide +kernel) rfl (fun E ad0 hE => ?_)
  obtain ⟨w1, w2, w3, w4, w5, w6, w7⟩ := id w
  refine A_aload_n hE 1 dX8_soonest_0 rfl rfl ?_
  refine A_get hE 4 dX8_soonest_1 rfl fkX8_10 rfl rfl ?_
  refine A_get hE 7 dX8_soonest_4 rfl fkX8_63 rfl rfl ?_
  refine A_iload_n hE 8 dX8_soonest_7 rfl rfl ?_
  refine A_callVi hE 11 (c_X2_has s t0 t1 g0 h0 g1 h1 h) [11, 3, 4, 5, 6, 7, 8, 9, 10, 12, 13, 14, 15] dX8_soonest_8 rfl mkX8_75 rfl rfl rfl rfl rfl rfl rfl (Nat.le_of_ble_eq_true rfl) (Nat.le_of_ble_eq_true rfl) rfl (fun x8 h8 g8 hp8 hw8 => ?_)
  obtain ⟨rfl, rfl⟩ := hp8
  obtain rfl := Option.some.inj hw8
  refine A_h (Y71 er im s t0 g0 h0 t1 g1 h1 tl tp wl wt wh mu J pt vK vk vm tn tr v1 v2 pl ft rk rf K m0 f0 k0 m1 f1 k1 tl2 tp2 wl2 wt2 sb zs sn dn df dk dm dg dl) rfl ?_
  refine A_if_eq hE 14 25 dX8_soonest_11 rfl rfl (fun c11 => ?_) (fun c11 => ?_)
  · have hh := bI_0 c11
    refine A_aload_n hE 26 dX8_soonest_25 rfl rfl ?_
    refine A_iconst hE 27 dX8_soonest_26 rfl (1) rfl ?_
    refine A_callVi hE 30 (c_X8_error er im 1 (by omega)) [0, 1] dX8_soonest_27 rfl mkX8_59 rfl rfl rfl rfl rfl rfl rfl (Nat.le_of_ble_eq_true rfl) (Nat.le_of_ble_eq_true rfl) rfl (fun x27 h27 g27 hp27 hw27 => ?_)
    obtain ⟨rfl, rfl⟩ := hp27
    obtain rfl := Option.some.inj hw27
    refine A_h (Y71 (upd er 1 (er 1 + 1)) im s t0 g0 h0 t1 g1 h1 tl tp wl wt wh mu J pt vK vk vm tn tr v1 v2 pl ft rk rf K m0 f0 k0 m1 f1 k1 tl2 tp2 wl2 wt2 sb zs sn dn df dk dm dg dl) rfl ?_
    refine A_iret hE dX8_soonest_30 ?_
    rw [soonF, if_neg (fun z => hh z.1)]
    exact ⟨rfl, J, wh, mu, dn, dm, df, dk, dg, dl, rfl⟩
  · have hh := bI_1 c11
    have hq := hh
    rw [w2] at hq
    obtain ⟨k, hk, rfl⟩ := iK hq.1 hq.2 (by omega)
    have ek : (nI k).toNatClampNeg = k := nI_clamp (by omega)
    refine A_iload_n hE 15 dX8_soonest_14 rfl rfl ?_
    refine A_iconst hE 16 dX8_soonest_15 rfl (0) rfl ?_
    refine A_sipush hE 19 dX8_soonest_16 rfl (9999) (by decide) ?_
    refine A_callSi hE 22 (c_X8_isWithin v 0 9999) [] dX8_soonest_19 rfl mkX8_55 rfl rfl rfl rfl rfl rfl (Nat.le_of_ble_eq_true rfl) (Nat.le_of_ble_eq_true rfl) rfl (fun x19 h19 g19 hp19 hw19 => ?_)
    obtain ⟨rfl, rfl⟩ := hp19
    obtain rfl := Option.some.inj hw19
    refine A_if_ne hE 25 31 dX8_soonest_22 rfl rfl (fun c22 => ?_) (fun c22 => ?_)
    · have hv := bI_1 c22
      refine A_aload_n hE 32 dX8_soonest_31 rfl rfl ?_
      refine A_get hE 35 dX8_soonest_32 rfl fkX8_29 rfl rfl ?_
      refine A_aload_n hE 36 dX8_soonest_35 rfl rfl ?_
      refine A_get hE 39 dX8_soonest_36 rfl fkX8_10 rfl rfl ?_
      refine A_get hE 42 dX8_soonest_39 rfl fkX8_63 rfl rfl ?_
      refine A_iload_n hE 43 dX8_soonest_42 rfl rfl ?_
      refine A_iload_n hE 44 dX8_soonest_43 rfl rfl ?_
      refine A_callVi hE 47 (c_X6_daysUntil s J wh mu t0 t1 g0 h0 g1 h1 dn dm df dk dg dl k v (by omega) w l0 l1) [20, 11, 12, 13, 14, 15, 21, 22, 23, 24, 25, 3, 4, 5, 6, 7, 8, 9, 10, 63, 64, 65, 66, 67, 68, 69, 70] dX8_soonest_44 rfl mkX8_190 rfl rfl rfl rfl rfl rfl rfl (Nat.le_of_ble_eq_true rfl) (Nat.le_of_ble_eq_true rfl) rfl (fun x44 h44 g44 hp44 hw44 => ?_)
      obtain ⟨rfl, J1, n2, m2, f2, k2, f3, k3, rfl⟩ := hp44
      obtain rfl := Option.some.inj hw44
      refine A_h (Y71 er im s t0 g0 h0 t1 g1 h1 tl tp wl wt wh mu J1 pt vK vk vm tn tr v1 v2 pl ft rk rf K m0 f0 k0 m1 f1 k1 tl2 tp2 wl2 wt2 sb zs sn n2 f2 k2 m2 f3 k3) rfl ?_
      obtain ⟨j, hj, ej2, ej3⟩ := du_eq t0 t1 k v 60 (by omega) 61 0 rfl (eqx_rf s)
      refine A_istore_n hE 48 dX8_soonest_47 rfl rfl rfl ?_
      refine A_iload_n hE 49 dX8_soonest_48 rfl rfl ?_
      refine A_if_ge hE 52 60 dX8_soonest_49 rfl rfl (fun c49 => ?_) (fun c49 => ?_)
      · have hj61 : ¬ j = 60 + 1 := fun z => by rw [ej3, if_pos z] at c49; exact absurd c49 (by decide)
        refine A_iload_n hE 61 dX8_soonest_60 rfl rfl ?_
        refine A_iret hE dX8_soonest_61 ?_
        rw [soonF, if_pos ⟨hh, hv⟩, ek, ej2, if_neg (show ¬ (60 : Int32) < nI j from nI_nlt (a := 60) (b := j) (by omega) (by omega)), ej3, if_neg hj61]
        exact ⟨rfl, J1, wh, mu, n2, m2, f2, k2, f3, k3, rfl⟩
      · have hj61 : j = 60 + 1 := by
          by_cases z : j = 60 + 1
          · exact z
          · rw [ej3, if_neg z] at c49; exact absurd (nI_pos' (by omega)) c49
        refine A_aload_n hE 53 dX8_soonest_52 rfl rfl ?_
        refine A_iconst hE 54 dX8_soonest_53 rfl (2) rfl ?_
        refine A_callVi hE 57 (c_X8_error er im 2 (by omega)) [0, 1] dX8_soonest_54 rfl mkX8_59 rfl rfl rfl rfl rfl rfl rfl (Nat.le_of_ble_eq_true rfl) (Nat.le_of_ble_eq_true rfl) rfl (fun x54 h54 g54 hp54 hw54 => ?_)
        obtain ⟨rfl, rfl⟩ := hp54
        obtain rfl := Option.some.inj hw54
        refine A_h (Y71 (upd er 2 (er 2 + 1)) im s t0 g0 h0 t1 g1 h1 tl tp wl wt wh mu J1 pt vK vk vm tn tr v1 v2 pl ft rk rf K m0 f0 k0 m1 f1 k1 tl2 tp2 wl2 wt2 sb zs sn n2 f2 k2 m2 f3 k3) rfl ?_
        refine A_goto hE 61 dX8_soonest_57 rfl ?_
        refine A_iret hE dX8_soonest_61 ?_
        rw [soonF, if_pos ⟨hh, hv⟩, ek, ej2, if_pos (show (60 : Int32) < nI j from nI_lt (a := 60) (b := j) (by omega) (by omega))]
        exact ⟨rfl, J1, wh, mu, n2, m2, f2, k2, f3, k3, rfl⟩
    · have hv := bI_0 c22
      refine A_aload_n hE 26 dX8_soonest_25 rfl rfl ?_
      refine A_iconst hE 27 dX8_soonest_26 rfl (1) rfl ?_
      refine A_callVi hE 30 (c_X8_error er im 1 (by omega)) [0, 1] dX8_soonest_27 rfl mkX8_59 rfl rfl rfl rfl rfl rfl rfl (Nat.le_of_ble_eq_true rfl) (Nat.le_of_ble_eq_true rfl) rfl (fun x27 h27 g27 hp27 hw27 => ?_)
      obtain ⟨rfl, rfl⟩ := hp27
      obtain rfl := Option.some.inj hw27
      refine A_h (Y71 (upd er 1 (er 1 + 1)) im s t0 g0 h0 t1 g1 h1 tl tp wl wt wh mu J pt vK vk vm tn tr v1 v2 pl ft rk rf K m0 f0 k0 m1 f1 k1 tl2 tp2 wl2 wt2 sb zs sn dn df dk dm dg dl) rfl ?_
      refine A_iret hE dX8_soonest_30 ?_
      rw [soonF, if_neg (fun z => hv z.2)]
      exact ⟨rfl, J, wh, mu, dn, dm, df, dk, dg, dl, rfl⟩
set_option maxRecDepth 100000 in
theorem c_X8_startFor (er : Nat → Int32) (im : Int32) (s : St) (t0 : Sp) (g0 h0 : Nat → Int32) (t1 : Sp) (g1 h1 : Nat → Int32) (tl : Nat) (tp : Nat → Int32) (wl : Nat) (wt : Nat → Int32) (wh mu : Int32) (J : St) (pt : Int32) (vK : Nat) (vk vm : Int32) (tn : Nat) (tr : Nat → Int32) (v1 v2 : Value) (pl ft : Int32) (rk : Nat) (rf : Nat → Int32) (K : St) (m0 : Nat) (f0 k0 : Nat → Int32) (m1 : Nat) (f1 k1 : Nat → Int32) (tl2 : Nat) (tp2 : Nat → Int32) (wl2 : Nat) (wt2 sb : Nat → Int32) (zs : Nat → Nat) (sn : Nat → Nat → Int32) (dn : Nat) (df dk : Nat → Int32) (dm : Nat) (dg dl : Nat → Int32) (h n what : Int32) (w : wf s) (l0 : LawC 0 t0 g0) (l1 : LawC 1 t1 g1) : AMet yX8_startFor cX8_startFor 4 (some (.int)) 6 0 0 [.ref 0, .int h, .int n, .int what] (Y71 er im s t0 g0 h0 t1 g1 h1 tl tp wl wt wh mu J pt vK vk vm tn tr v1 v2 pl ft rk rf K m0 f0 k0 m1 f1 k1 tl2 tp2 wl2 wt2 sb zs sn dn df dk dm dg dl) (pI fun x0 hz0 => x0 = (startF t0 t1 s er h n what).1 ∧ ∃ (J' : St) (wh' mu' : Int32) (dn' dm' : Nat) (df' dk' dg' dl' : Nat → Int32), hz0 = Y71 (startF t0 t1 s er h n what).2.2 im (startF t0 t1 s er h n what).2.1 t0 g0 h0 t1 g1 h1 tl tp wl wt wh' mu' J' pt vK vk vm tn tr v1 v2 pl ft rk rf K m0 f0 k0 m1 f1 k1 tl2 tp2 wl2 wt2 sb zs sn dn' df' dk' dm' dg' dl') := by
  refine AMet.of (by decide +kernel) rfl (fun E ad0 hE => ?_)
  obtain ⟨w1, w2, w3, w4, w5, w6, w7⟩ := id w
  refine A_aload_n hE 1 dX8_startFor_0 rfl rfl ?_
  refine A_get hE 4 dX8_startFor_1 rfl fkX8_10 rfl rfl ?_
  refine A_get hE 7 dX8_startFor_4 rfl fkX8_63 rfl rfl ?_
  refine A_iload_n hE 8 dX8_startFor_7 rfl rfl ?_
  refine A_callVi hE 11 (c_X2_has s t0 t1 g0 h0 g1 h1 h) [11, 3, 4, 5, 6, 7, 8, 9, 10, 12, 13, 14, 15] dX8_startFor_8 rfl mkX8_75 rfl rfl rfl rfl rfl rfl rfl (Nat.le_of_ble_eq_true rfl) (Nat.le_of_ble_eq_true rfl) rfl (fun x8 h8 g8 hp8 hw8 => ?_)
  obtain ⟨rfl, rfl⟩ := hp8
  obtain rfl := Option.some.inj hw8
  refine A_h (Y71 er im s t0 g0 h0 t1 g1 h1 tl tp wl wt wh mu J pt vK vk vm tn tr v1 v2 pl ft rk rf K m0 f0 k0 m1 f1 k1 tl2 tp2 wl2 wt2 sb zs sn dn df dk dm dg dl) rfl ?_
  refine A_if_eq hE 14 33 dX8_startFor_11 rfl rfl (fun c11 => ?_) (fun c11 => ?_)
  · have hh := bI_0 c11
    refine A_aload_n hE 34 dX8_startFor_33 rfl rfl ?_
    refine A_iconst hE 35 dX8_startFor_34 rfl (1) rfl ?_
    refine A_callVi hE 38 (c_X8_error er im 1 (by omega)) [0, 1] dX8_startFor_35 rfl mkX8_59 rfl rfl rfl rfl rfl rfl rfl (Nat.le_of_ble_eq_true rfl) (Nat.le_of_ble_eq_true rfl) rfl (fun x35 h35 g35 hp35 hw35 => ?_)
    obtain ⟨rfl, rfl⟩ := hp35
    obtain rfl := Option.some.inj hw35
    refine A_h (Y71 (upd er 1 (er 1 + 1)) im s t0 g0 h0 t1 g1 h1 tl tp wl wt wh mu J pt vK vk vm tn tr v1 v2 pl ft rk rf K m0 f0 k0 m1 f1 k1 tl2 tp2 wl2 wt2 sb zs sn dn df dk dm dg dl) rfl ?_
    refine A_iret hE dX8_startFor_38 ?_
    rw [startF, if_neg (fun z => hh z.1)]
    exact ⟨rfl, J, wh, mu, dn, dm, df, dk, dg, dl, rfl⟩
  · have hh := bI_1 c11
    have hq := hh
    rw [w2] at hq
    obtain ⟨k, hk, rfl⟩ := iK hq.1 hq.2 (by omega)
    have ek : (nI k).toNatClampNeg = k := nI_clamp (by omega)
    refine A_iload_n hE 15 dX8_startFor_14 rfl rfl ?_
    refine A_iconst hE 16 dX8_startFor_15 rfl (0) rfl ?_
    refine A_bipush hE 18 dX8_startFor_16 rfl (40) (by decide) ?_
    refine A_callSi hE 21 (c_X8_isWithin n 0 40) [] dX8_startFor_18 rfl mkX8_55 rfl rfl rfl rfl rfl rfl (Nat.le_of_ble_eq_true rfl) (Nat.le_of_ble_eq_true rfl) rfl (fun x18 h18 g18 hp18 hw18 => ?_)
    obtain ⟨rfl, rfl⟩ := hp18
    obtain rfl := Option.some.inj hw18
    refine A_if_eq hE 24 33 dX8_startFor_21 rfl rfl (fun c21 => ?_) (fun c21 => ?_)
    · have hnn := bI_0 c21
      refine A_aload_n hE 34 dX8_startFor_33 rfl rfl ?_
      refine A_iconst hE 35 dX8_startFor_34 rfl (1) rfl ?_
      refine A_callVi hE 38 (c_X8_error er im 1 (by omega)) [0, 1] dX8_startFor_35 rfl mkX8_59 rfl rfl rfl rfl rfl rfl rfl (Nat.le_of_ble_eq_true rfl) (Nat.le_of_ble_eq_true rfl) rfl (fun x35 h35 g35 hp35 hw35 => ?_)
      obtain ⟨rfl, rfl⟩ := hp35
      obtain rfl := Option.some.inj hw35
      refine A_h (Y71 (upd er 1 (er 1 + 1)) im s t0 g0 h0 t1 g1 h1 tl tp wl wt wh mu J pt vK vk vm tn tr v1 v2 pl ft rk rf K m0 f0 k0 m1 f1 k1 tl2 tp2 wl2 wt2 sb zs sn dn df dk dm dg dl) rfl ?_
      refine A_iret hE dX8_startFor_38 ?_
      rw [startF, if_neg (fun z => hnn z.2.1)]
      exact ⟨rfl, J, wh, mu, dn, dm, df, dk, dg, dl, rfl⟩
    · have hnn := bI_1 c21
      obtain ⟨j, hkj, rfl⟩ := iK2 (n := 40) hnn.1 hnn.2 (by omega)
      have ej : (nI j).toNatClampNeg = j := nI_clamp (by omega)
      refine A_iload_n hE 25 dX8_startFor_24 rfl rfl ?_
      refine A_iconst hE 26 dX8_startFor_25 rfl (0) rfl ?_
      refine A_iconst hE 27 dX8_startFor_26 rfl (1) rfl ?_
      refine A_callSi hE 30 (c_X8_isWithin what 0 1) [] dX8_startFor_27 rfl mkX8_55 rfl rfl rfl rfl rfl rfl (Nat.le_of_ble_eq_true rfl) (Nat.le_of_ble_eq_true rfl) rfl (fun x27 h27 g27 hp27 hw27 => ?_)
      obtain ⟨rfl, rfl⟩ := hp27
      obtain rfl := Option.some.inj hw27
      refine A_if_ne hE 33 39 dX8_startFor_30 rfl rfl (fun c30 => ?_) (fun c30 => ?_)
      · have hw := bI_1 c30
        refine A_aload_n hE 40 dX8_startFor_39 rfl rfl ?_
        refine A_get hE 43 dX8_startFor_40 rfl fkX8_29 rfl rfl ?_
        refine A_aload_n hE 44 dX8_startFor_43 rfl rfl ?_
        refine A_get hE 47 dX8_startFor_44 rfl fkX8_10 rfl rfl ?_
        refine A_get hE 50 dX8_startFor_47 rfl fkX8_63 rfl rfl ?_
        refine A_iload_n hE 51 dX8_startFor_50 rfl rfl ?_
        refine A_iload_n hE 52 dX8_startFor_51 rfl rfl ?_
        refine A_callVv hE 55 (c_X6_seekStart s J wh mu t0 t1 g0 h0 g1 h1 dn dm df dk dg dl k j (by omega) (by omega) w l0 l1) [20, 11, 12, 13, 14, 15, 21, 22, 23, 24, 25, 3, 4, 5, 6, 7, 8, 9, 10, 63, 64, 65, 66, 67, 68, 69, 70] dX8_startFor_52 rfl mkX8_194 rfl rfl rfl rfl rfl rfl rfl (Nat.le_of_ble_eq_true rfl) (Nat.le_of_ble_eq_true rfl) rfl (fun h52 g52 hp52 hw52 => ?_)
        obtain ⟨J1, n2, m2, f2, k2, f3, k3, rfl⟩ := hp52
        obtain rfl := Option.some.inj hw52
        refine A_h (Y71 er im s t0 g0 h0 t1 g1 h1 tl tp wl wt (ssF t0 t1 s k j (hn s) 0 (-1, -1)).1 (ssF t0 t1 s k j (hn s) 0 (-1, -1)).2 J1 pt vK vk vm tn tr v1 v2 pl ft rk rf K m0 f0 k0 m1 f1 k1 tl2 tp2 wl2 wt2 sb zs sn n2 f2 k2 m2 f3 k3) rfl ?_
        refine A_iload_n hE 56 dX8_startFor_55 rfl rfl ?_
        refine A_if_ne hE 59 69 dX8_startFor_56 rfl rfl (fun c56 => ?_) (fun c56 => ?_)
        · refine A_aload_n hE 70 dX8_startFor_69 rfl rfl ?_
          refine A_get hE 73 dX8_startFor_70 rfl fkX8_29 rfl rfl ?_
          refine A_get hE 76 dX8_startFor_73 rfl fkX8_201 rfl rfl ?_
          refine A_iret hE dX8_startFor_76 ?_
          rw [startF, if_pos ⟨hh, hnn, hw⟩, ek, ej, if_neg c56, ss_st t0 t1 w k j hk]
          exact ⟨rfl, J1, _, _, n2, m2, f2, k2, f3, k3, rfl⟩
        · refine A_aload_n hE 60 dX8_startFor_59 rfl rfl ?_
          refine A_get hE 63 dX8_startFor_60 rfl fkX8_29 rfl rfl ?_
          refine A_get hE 66 dX8_startFor_63 rfl fkX8_198 rfl rfl ?_
          refine A_goto hE 76 dX8_startFor_66 rfl ?_
          refine A_iret hE dX8_startFor_76 ?_
          rw [startF, if_pos ⟨hh, hnn, hw⟩, ek, ej, if_pos c56, ss_st t0 t1 w k j hk]
          exact ⟨rfl, J1, _, _, n2, m2, f2, k2, f3, k3, rfl⟩
      · have hw := bI_0 c30
        refine A_aload_n hE 34 dX8_startFor_33 rfl rfl ?_
        refine A_iconst hE 35 dX8_startFor_34 rfl (1) rfl ?_
        refine A_callVi hE 38 (c_X8_error er im 1 (by omega)) [0, 1] dX8_startFor_35 rfl mkX8_59 rfl rfl rfl rfl rfl rfl rfl (Nat.le_of_ble_eq_true rfl) (Nat.le_of_ble_eq_true rfl) rfl (fun x35 h35 g35 hp35 hw35 => ?_)
        obtain ⟨rfl, rfl⟩ := hp35
        obtain rfl := Option.some.inj hw35
        refine A_h (Y71 (upd er 1 (er 1 + 1)) im s t0 g0 h0 t1 g1 h1 tl tp wl wt wh mu J pt vK vk vm tn tr v1 v2 pl ft rk rf K m0 f0 k0 m1 f1 k1 tl2 tp2 wl2 wt2 sb zs sn dn df dk dm dg dl) rfl ?_
        refine A_iret hE dX8_startFor_38 ?_
        rw [startF, if_neg (fun z => hw z.2.2)]
        exact ⟨rfl, J, wh, mu, dn, dm, df, dk, dg, dl, rfl⟩
set_option maxRecDepth 100000 in
theorem c_X8_swapFor (er : Nat → Int32) (im : Int32) (s : St) (t0 : Sp) (g0 h0 : Nat → Int32) (t1 : Sp) (g1 h1 : Nat → Int32) (tl : Nat) (tp : Nat → Int32) (wl : Nat) (wt : Nat → Int32) (wh mu : Int32) (J : St) (pt : Int32) (vK : Nat) (vk vm : Int32) (tn : Nat) (tr : Nat → Int32) (v1 v2 : Value) (pl ft : Int32) (rk : Nat) (rf : Nat → Int32) (K : St) (m0 : Nat) (f0 k0 : Nat → Int32) (m1 : Nat) (f1 k1 : Nat → Int32) (tl2 : Nat) (tp2 : Nat → Int32) (wl2 : Nat) (wt2 sb : Nat → Int32) (zs : Nat → Nat) (sn : Nat → Nat → Int32) (dn : Nat) (df dk : Nat → Int32) (dm : Nat) (dg dl : Nat → Int32) (n what : Int32) (w : wf s) (l0 : LawC 0 t0 g0) (l1 : LawC 1 t1 g1) : AMet yX8_swapFor cX8_swapFor 3 (some (.int)) 6 0 0 [.ref 0, .int n, .int what] (Y71 er im s t0 g0 h0 t1 g1 h1 tl tp wl wt wh mu J pt vK vk vm tn tr v1 v2 pl ft rk rf K m0 f0 k0 m1 f1 k1 tl2 tp2 wl2 wt2 sb zs sn dn df dk dm dg dl) (pI fun x0 hz0 => x0 = (swapF t0 t1 s er n what).1 ∧ ∃ (J' : St) (wh' mu' : Int32) (dn' dm' : Nat) (df' dk' dg' dl' : Nat → Int32), hz0 = Y71 (swapF t0 t1 s er n what).2.2 im (swapF t0 t1 s er n what).2.1 t0 g0 h0 t1 g1 h1 tl tp wl wt wh' mu' J' pt vK vk vm tn tr v1 v2 pl ft rk rf K m0 f0 k0 m1 f1 k1 tl2 tp2 wl2 wt2 sb zs sn dn' df' dk' dm' dg' dl') := by
  refine AMet.of (by decide +kernel) rfl (fun E ad0 hE => ?_)
  refine A_iload_n hE 1 dX8_swapFor_0 rfl rfl ?_
  refine A_iconst hE 2 dX8_swapFor_1 rfl (0) rfl ?_
  refine A_bipush hE 4 dX8_swapFor_2 rfl (40) (by decide) ?_
  refine A_callSi hE 7 (c_X8_isWithin n 0 40) [] dX8_swapFor_4 rfl mkX8_55 rfl rfl rfl rfl rfl rfl (Nat.le_of_ble_eq_true rfl) (Nat.le_of_ble_eq_true rfl) rfl (fun x4 h4 g4 hp4 hw4 => ?_)
  obtain ⟨rfl, rfl⟩ := hp4
  obtain rfl := Option.some.inj hw4
  refine A_if_eq hE 10 19 dX8_swapFor_7 rfl rfl (fun c7 => ?_) (fun c7 => ?_)
  · have hnn := bI_0 c7
    refine A_aload_n hE 20 dX8_swapFor_19 rfl rfl ?_
    refine A_iconst hE 21 dX8_swapFor_20 rfl (1) rfl ?_
    refine A_callVi hE 24 (c_X8_error er im 1 (by omega)) [0, 1] dX8_swapFor_21 rfl mkX8_59 rfl rfl rfl rfl rfl rfl rfl (Nat.le_of_ble_eq_true rfl) (Nat.le_of_ble_eq_true rfl) rfl (fun x21 h21 g21 hp21 hw21 => ?_)
    obtain ⟨rfl, rfl⟩ := hp21
    obtain rfl := Option.some.inj hw21
    refine A_h (Y71 (upd er 1 (er 1 + 1)) im s t0 g0 h0 t1 g1 h1 tl tp wl wt wh mu J pt vK vk vm tn tr v1 v2 pl ft rk rf K m0 f0 k0 m1 f1 k1 tl2 tp2 wl2 wt2 sb zs sn dn df dk dm dg dl) rfl ?_
    refine A_iret hE dX8_swapFor_24 ?_
    rw [swapF, if_neg (fun z => hnn z.1)]
    exact ⟨rfl, J, wh, mu, dn, dm, df, dk, dg, dl, rfl⟩
  · have hnn := bI_1 c7
    obtain ⟨j, hkj, rfl⟩ := iK2 (n := 40) hnn.1 hnn.2 (by omega)
    have ej : (nI j).toNatClampNeg = j := nI_clamp (by omega)
    refine A_iload_n hE 11 dX8_swapFor_10 rfl rfl ?_
    refine A_iconst hE 12 dX8_swapFor_11 rfl (0) rfl ?_
    refine A_iconst hE 13 dX8_swapFor_12 rfl (1) rfl ?_
    refine A_callSi hE 16 (c_X8_isWithin what 0 1) [] dX8_swapFor_13 rfl mkX8_55 rfl rfl rfl rfl rfl rfl (Nat.le_of_ble_eq_true rfl) (Nat.le_of_ble_eq_true rfl) rfl (fun x13 h13 g13 hp13 hw13 => ?_)
    obtain ⟨rfl, rfl⟩ := hp13
    obtain rfl := Option.some.inj hw13
    refine A_if_ne hE 19 25 dX8_swapFor_16 rfl rfl (fun c16 => ?_) (fun c16 => ?_)
    · have hw := bI_1 c16
      refine A_aload_n hE 26 dX8_swapFor_25 rfl rfl ?_
      refine A_get hE 29 dX8_swapFor_26 rfl fkX8_29 rfl rfl ?_
      refine A_aload_n hE 30 dX8_swapFor_29 rfl rfl ?_
      refine A_get hE 33 dX8_swapFor_30 rfl fkX8_10 rfl rfl ?_
      refine A_get hE 36 dX8_swapFor_33 rfl fkX8_63 rfl rfl ?_
      refine A_iload_n hE 37 dX8_swapFor_36 rfl rfl ?_
      refine A_callVv hE 40 (c_X6_seekSwap s J wh mu t0 t1 g0 h0 g1 h1 dn dm df dk dg dl j (by omega) w l0 l1) [20, 11, 12, 13, 14, 15, 21, 22, 23, 24, 25, 3, 4, 5, 6, 7, 8, 9, 10, 63, 64, 65, 66, 67, 68, 69, 70] dX8_swapFor_37 rfl mkX8_204 rfl rfl rfl rfl rfl rfl rfl (Nat.le_of_ble_eq_true rfl) (Nat.le_of_ble_eq_true rfl) rfl (fun h37 g37 hp37 hw37 => ?_)
      obtain ⟨J1, n2, m2, f2, k2, f3, k3, rfl⟩ := hp37
      obtain rfl := Option.some.inj hw37
      refine A_h (Y71 er im s t0 g0 h0 t1 g1 h1 tl tp wl wt (swO t0 t1 s j (hn s) 0 (-1, sumN t0 t1 j s)).1 (swO t0 t1 s j (hn s) 0 (-1, sumN t0 t1 j s)).2 J1 pt vK vk vm tn tr v1 v2 pl ft rk rf K m0 f0 k0 m1 f1 k1 tl2 tp2 wl2 wt2 sb zs sn n2 f2 k2 m2 f3 k3) rfl ?_
      refine A_aload_n hE 41 dX8_swapFor_40 rfl rfl ?_
      refine A_get hE 44 dX8_swapFor_41 rfl fkX8_29 rfl rfl ?_
      refine A_get hE 47 dX8_swapFor_44 rfl fkX8_198 rfl rfl ?_
      refine A_if_ge hE 50 56 dX8_swapFor_47 rfl rfl (fun c47 => ?_) (fun c47 => ?_)
      · refine A_iload_n hE 57 dX8_swapFor_56 rfl rfl ?_
        refine A_if_ne hE 60 70 dX8_swapFor_57 rfl rfl (fun c57 => ?_) (fun c57 => ?_)
        · refine A_aload_n hE 71 dX8_swapFor_70 rfl rfl ?_
          refine A_get hE 74 dX8_swapFor_71 rfl fkX8_29 rfl rfl ?_
          refine A_get hE 77 dX8_swapFor_74 rfl fkX8_201 rfl rfl ?_
          refine A_iret hE dX8_swapFor_77 ?_
          rw [swapF, if_pos ⟨hnn, hw⟩, ej, if_neg (iN c47), if_neg c57]
          exact ⟨rfl, J1, _, _, n2, m2, f2, k2, f3, k3, rfl⟩
        · refine A_aload_n hE 61 dX8_swapFor_60 rfl rfl ?_
          refine A_get hE 64 dX8_swapFor_61 rfl fkX8_29 rfl rfl ?_
          refine A_get hE 67 dX8_swapFor_64 rfl fkX8_198 rfl rfl ?_
          refine A_goto hE 77 dX8_swapFor_67 rfl ?_
          refine A_iret hE dX8_swapFor_77 ?_
          rw [swapF, if_pos ⟨hnn, hw⟩, ej, if_neg (iN c47), if_pos c57]
          exact ⟨rfl, J1, _, _, n2, m2, f2, k2, f3, k3, rfl⟩
      · refine A_aload_n hE 51 dX8_swapFor_50 rfl rfl ?_
        refine A_iconst hE 52 dX8_swapFor_51 rfl (2) rfl ?_
        refine A_callVi hE 55 (c_X8_error er im 2 (by omega)) [0, 1] dX8_swapFor_52 rfl mkX8_59 rfl rfl rfl rfl rfl rfl rfl (Nat.le_of_ble_eq_true rfl) (Nat.le_of_ble_eq_true rfl) rfl (fun x52 h52 g52 hp52 hw52 => ?_)
        obtain ⟨rfl, rfl⟩ := hp52
        obtain rfl := Option.some.inj hw52
        refine A_h (Y71 (upd er 2 (er 2 + 1)) im s t0 g0 h0 t1 g1 h1 tl tp wl wt (swO t0 t1 s j (hn s) 0 (-1, sumN t0 t1 j s)).1 (swO t0 t1 s j (hn s) 0 (-1, sumN t0 t1 j s)).2 J1 pt vK vk vm tn tr v1 v2 pl ft rk rf K m0 f0 k0 m1 f1 k1 tl2 tp2 wl2 wt2 sb zs sn n2 f2 k2 m2 f3 k3) rfl ?_
        refine A_iret hE dX8_swapFor_55 ?_
        rw [swapF, if_pos ⟨hnn, hw⟩, ej, if_pos (iG c47)]
        exact ⟨rfl, J1, _, _, n2, m2, f2, k2, f3, k3, rfl⟩
    · have hw := bI_0 c16
      refine A_aload_n hE 20 dX8_swapFor_19 rfl rfl ?_
      refine A_iconst hE 21 dX8_swapFor_20 rfl (1) rfl ?_
      refine A_callVi hE 24 (c_X8_error er im 1 (by omega)) [0, 1] dX8_swapFor_21 rfl mkX8_59 rfl rfl rfl rfl rfl rfl rfl (Nat.le_of_ble_eq_true rfl) (Nat.le_of_ble_eq_true rfl) rfl (fun x21 h21 g21 hp21 hw21 => ?_)
      obtain ⟨rfl, rfl⟩ := hp21
      obtain rfl := Option.some.inj hw21
      refine A_h (Y71 (upd er 1 (er 1 + 1)) im s t0 g0 h0 t1 g1 h1 tl tp wl wt wh mu J pt vK vk vm tn tr v1 v2 pl ft rk rf K m0 f0 k0 m1 f1 k1 tl2 tp2 wl2 wt2 sb zs sn dn df dk dm dg dl) rfl ?_
      refine A_iret hE dX8_swapFor_24 ?_
      rw [swapF, if_neg (fun z => hw z.2)]
      exact ⟨rfl, J, wh, mu, dn, dm, df, dk, dg, dl, rfl⟩
set_option maxRecDepth 100000 in
theorem c_X8_spare (er : Nat → Int32) (im : Int32) (s : St) (t0 : Sp) (g0 h0 : Nat → Int32) (t1 : Sp) (g1 h1 : Nat → Int32) (tl : Nat) (tp : Nat → Int32) (wl : Nat) (wt : Nat → Int32) (wh mu : Int32) (J : St) (pt : Int32) (vK : Nat) (vk vm : Int32) (tn : Nat) (tr : Nat → Int32) (v1 v2 : Value) (pl ft : Int32) (rk : Nat) (rf : Nat → Int32) (K : St) (m0 : Nat) (f0 k0 : Nat → Int32) (m1 : Nat) (f1 k1 : Nat → Int32) (tl2 : Nat) (tp2 : Nat → Int32) (wl2 : Nat) (wt2 sb : Nat → Int32) (zs : Nat → Nat) (sn : Nat → Nat → Int32) (dn : Nat) (df dk : Nat → Int32) (dm : Nat) (dg dl : Nat → Int32) (n v : Int32) (w : wf s) (l0 : LawC 0 t0 g0) (l1 : LawC 1 t1 g1) : AMet yX8_spare cX8_spare 4 (some (.int)) 7 0 0 [.ref 0, .int n, .int v] (Y71 er im s t0 g0 h0 t1 g1 h1 tl tp wl wt wh mu J pt vK vk vm tn tr v1 v2 pl ft rk rf K m0 f0 k0 m1 f1 k1 tl2 tp2 wl2 wt2 sb zs sn dn df dk dm dg dl) (pI fun x0 hz0 => x0 = (spareF t0 t1 s er n v).1 ∧ ∃ (J' : St) (wh' mu' : Int32) (dn' dm' : Nat) (df' dk' dg' dl' : Nat → Int32), hz0 = Y71 (spareF t0 t1 s er n v).2.2 im (spareF t0 t1 s er n v).2.1 t0 g0 h0 t1 g1 h1 tl tp wl wt wh' mu' J' pt vK vk vm tn tr v1 v2 pl ft rk rf K m0 f0 k0 m1 f1 k1 tl2 tp2 wl2 wt2 sb zs sn dn' df' dk' dm' dg' dl') := by
  refine AMet.of (by decide +kernel) rfl (fun E ad0 hE => ?_)
  refine A_iload_n hE 1 dX8_spare_0 rfl rfl ?_
  refine A_iconst hE 2 dX8_spare_1 rfl (0) rfl ?_
  refine A_bipush hE 4 dX8_spare_2 rfl (40) (by decide) ?_
  refine A_callSi hE 7 (c_X8_isWithin n 0 40) [] dX8_spare_4 rfl mkX8_55 rfl rfl rfl rfl rfl rfl (Nat.le_of_ble_eq_true rfl) (Nat.le_of_ble_eq_true rfl) rfl (fun x4 h4 g4 hp4 hw4 => ?_)
  obtain ⟨rfl, rfl⟩ := hp4
  obtain rfl := Option.some.inj hw4
  refine A_if_eq hE 10 20 dX8_spare_7 rfl rfl (fun c7 => ?_) (fun c7 => ?_)
  · have hnn := bI_0 c7
    refine A_aload_n hE 21 dX8_spare_20 rfl rfl ?_
    refine A_iconst hE 22 dX8_spare_21 rfl (1) rfl ?_
    refine A_callVi hE 25 (c_X8_error er im 1 (by omega)) [0, 1] dX8_spare_22 rfl mkX8_59 rfl rfl rfl rfl rfl rfl rfl (Nat.le_of_ble_eq_true rfl) (Nat.le_of_ble_eq_true rfl) rfl (fun x22 h22 g22 hp22 hw22 => ?_)
    obtain ⟨rfl, rfl⟩ := hp22
    obtain rfl := Option.some.inj hw22
    refine A_h (Y71 (upd er 1 (er 1 + 1)) im s t0 g0 h0 t1 g1 h1 tl tp wl wt wh mu J pt vK vk vm tn tr v1 v2 pl ft rk rf K m0 f0 k0 m1 f1 k1 tl2 tp2 wl2 wt2 sb zs sn dn df dk dm dg dl) rfl ?_
    refine A_iret hE dX8_spare_25 ?_
    rw [spareF, if_neg (fun z => hnn z.1)]
    exact ⟨rfl, J, wh, mu, dn, dm, df, dk, dg, dl, rfl⟩
  · have hnn := bI_1 c7
    obtain ⟨j, hkj, rfl⟩ := iK2 (n := 40) hnn.1 hnn.2 (by omega)
    have ej : (nI j).toNatClampNeg = j := nI_clamp (by omega)
    refine A_iload_n hE 11 dX8_spare_10 rfl rfl ?_
    refine A_iconst hE 12 dX8_spare_11 rfl (0) rfl ?_
    refine A_bipush hE 14 dX8_spare_12 rfl (99) (by decide) ?_
    refine A_callSi hE 17 (c_X8_isWithin v 0 99) [] dX8_spare_14 rfl mkX8_55 rfl rfl rfl rfl rfl rfl (Nat.le_of_ble_eq_true rfl) (Nat.le_of_ble_eq_true rfl) rfl (fun x14 h14 g14 hp14 hw14 => ?_)
    obtain ⟨rfl, rfl⟩ := hp14
    obtain rfl := Option.some.inj hw14
    refine A_if_ne hE 20 26 dX8_spare_17 rfl rfl (fun c17 => ?_) (fun c17 => ?_)
    · have hw := bI_1 c17
      refine A_aload_n hE 27 dX8_spare_26 rfl rfl ?_
      refine A_get hE 30 dX8_spare_27 rfl fkX8_29 rfl rfl ?_
      refine A_aload_n hE 31 dX8_spare_30 rfl rfl ?_
      refine A_get hE 34 dX8_spare_31 rfl fkX8_10 rfl rfl ?_
      refine A_get hE 37 dX8_spare_34 rfl fkX8_63 rfl rfl ?_
      refine A_iload_n hE 38 dX8_spare_37 rfl rfl ?_
      refine A_iload_n hE 39 dX8_spare_38 rfl rfl ?_
      refine A_callVi hE 42 (c_X6_fewestPast s J wh mu t0 t1 g0 h0 g1 h1 dn dm df dk dg dl j v (by omega) w l0 l1) [20, 11, 12, 13, 14, 15, 21, 22, 23, 24, 25, 3, 4, 5, 6, 7, 8, 9, 10, 63, 64, 65, 66, 67, 68, 69, 70] dX8_spare_39 rfl mkX8_208 rfl rfl rfl rfl rfl rfl rfl (Nat.le_of_ble_eq_true rfl) (Nat.le_of_ble_eq_true rfl) rfl (fun x39 h39 g39 hp39 hw39 => ?_)
      obtain ⟨rfl, J1, n2, m2, f2, k2, f3, k3, rfl⟩ := hp39
      obtain rfl := Option.some.inj hw39
      refine A_h (Y71 er im s t0 g0 h0 t1 g1 h1 tl tp wl wt wh mu J1 pt vK vk vm tn tr v1 v2 pl ft rk rf K m0 f0 k0 m1 f1 k1 tl2 tp2 wl2 wt2 sb zs sn n2 f2 k2 m2 f3 k3) rfl ?_
      rw [spare_eq t0 t1 w j v]
      refine A_istore_n hE 43 dX8_spare_42 rfl rfl rfl ?_
      refine A_iload_n hE 44 dX8_spare_43 rfl rfl ?_
      refine A_if_ge hE 47 55 dX8_spare_44 rfl rfl (fun c44 => ?_) (fun c44 => ?_)
      · refine A_iload_n hE 56 dX8_spare_55 rfl rfl ?_
        refine A_iret hE dX8_spare_56 ?_
        have hsome : ∃ x, spM t0 t1 s j v (2 ^ hn s) 0 none = some x := by
          cases hf : spM t0 t1 s j v (2 ^ hn s) 0 none with
          | none => rw [hf] at c44; exact absurd c44 (by decide)
          | some x => exact ⟨x, rfl⟩
        obtain ⟨x, hf⟩ := hsome
        rw [spareF, if_pos ⟨hnn, hw⟩, ej, hf]
        exact ⟨rfl, J1, wh, mu, n2, m2, f2, k2, f3, k3, rfl⟩
      · refine A_aload_n hE 48 dX8_spare_47 rfl rfl ?_
        refine A_iconst hE 49 dX8_spare_48 rfl (2) rfl ?_
        refine A_callVi hE 52 (c_X8_error er im 2 (by omega)) [0, 1] dX8_spare_49 rfl mkX8_59 rfl rfl rfl rfl rfl rfl rfl (Nat.le_of_ble_eq_true rfl) (Nat.le_of_ble_eq_true rfl) rfl (fun x49 h49 g49 hp49 hw49 => ?_)
        obtain ⟨rfl, rfl⟩ := hp49
        obtain rfl := Option.some.inj hw49
        refine A_h (Y71 (upd er 2 (er 2 + 1)) im s t0 g0 h0 t1 g1 h1 tl tp wl wt wh mu J1 pt vK vk vm tn tr v1 v2 pl ft rk rf K m0 f0 k0 m1 f1 k1 tl2 tp2 wl2 wt2 sb zs sn n2 f2 k2 m2 f3 k3) rfl ?_
        refine A_goto hE 56 dX8_spare_52 rfl ?_
        refine A_iret hE dX8_spare_56 ?_
        have hnone : spM t0 t1 s j v (2 ^ hn s) 0 none = none := by
          cases hf : spM t0 t1 s j v (2 ^ hn s) 0 none with
          | none => rfl
          | some x =>
            have a2 := sp_best t0 t1 s j v (2 ^ hn s) 0 none (fun y hy => by omega)
            rw [Nat.zero_add, hf] at a2
            have hx := Nat.lt_of_lt_of_le a2.1 (pow_le w.1)
            rw [hf] at c44
            exact absurd (nI_pos' (n := x) (by omega)) c44
        rw [spareF, if_pos ⟨hnn, hw⟩, ej, hnone]
        exact ⟨rfl, J1, wh, mu, n2, m2, f2, k2, f3, k3, rfl⟩
    · have hw := bI_0 c17
      refine A_aload_n hE 21 dX8_spare_20 rfl rfl ?_
      refine A_iconst hE 22 dX8_spare_21 rfl (1) rfl ?_
      refine A_callVi hE 25 (c_X8_error er im 1 (by omega)) [0, 1] dX8_spare_22 rfl mkX8_59 rfl rfl rfl rfl rfl rfl rfl (Nat.le_of_ble_eq_true rfl) (Nat.le_of_ble_eq_true rfl) rfl (fun x22 h22 g22 hp22 hw22 => ?_)
      obtain ⟨rfl, rfl⟩ := hp22
      obtain rfl := Option.some.inj hw22
      refine A_h (Y71 (upd er 1 (er 1 + 1)) im s t0 g0 h0 t1 g1 h1 tl tp wl wt wh mu J pt vK vk vm tn tr v1 v2 pl ft rk rf K m0 f0 k0 m1 f1 k1 tl2 tp2 wl2 wt2 sb zs sn dn df dk dm dg dl) rfl ?_
      refine A_iret hE dX8_spare_25 ?_
      rw [spareF, if_neg (fun z => hw z.2)]
      exact ⟨rfl, J, wh, mu, dn, dm, df, dk, dg, dl, rfl⟩
