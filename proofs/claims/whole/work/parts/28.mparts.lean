theorem sub_self32 (x : Int32) : x - x = 0 := Int32.sub_self x

set_option maxRecDepth 100000 in
theorem c_mpap_0 (s K be er st na pi tr bi sz nu as' : Nat → Int32) (im at' op sp us tn sk ip : Int32) (n k : Nat) (hn30 : n ≤ 30) (hk : k < 8) (kd : Nat) (hK : kd < 7) (hKd : its s k 0 = nI kd) (x : Int32) (hm : its s k 1 = nI k) : AMet yX9_partsAs cX9_partsAs 5 (some (.int)) 2 0 0 [.ref 0, .int 0, .int x] (MW s K be er st na pi tr bi sz nu as' im at' op sp us (nI n) (nI k) ip) (pI fun r h => r = 0 ∧ h = MW s K be er st na pi (apF (paTp 0) n tr) bi sz nu as' im at' op sp us (nI (apN (paTp 0) n)) (nI k) 1) := by
  refine AMet.of (by decide +kernel) rfl (fun E ad0 hE => ?_)
  refine A_iload_n hE 1 dX9_partsAs_0 rfl rfl ?_
  refine A_lookup hE 28 dX9_partsAs_1 (off := 27) (by decide) (by decide) rfl ?_
  refine A_aload_n hE 29 dX9_partsAs_28 rfl rfl ?_
  refine A_bipush hE 31 dX9_partsAs_29 rfl (13) (by decide) ?_
  refine A_callVv hE 34 (c_X9_begins s K be er st na pi tr bi sz nu as' im at' op sp us (nI n) (nI k) ip n k (hn30) 13) [0, 1, 2, 3, 4, 5, 6, 7, 8, 9, 10, 11, 12] dX9_partsAs_31 rfl mkX9_204 rfl rfl rfl rfl rfl rfl rfl (Nat.le_of_ble_eq_true rfl) (Nat.le_of_ble_eq_true rfl) rfl (fun h31 g31 hp31 hw31 => ?_)
  obtain rfl := hp31
  obtain rfl := Option.some.inj hw31
  refine A_h (MW s K be er st na pi (pF n tr 13) bi sz nu as' im at' op sp us (nI (pN n)) (nI k) ip) rfl ?_
  refine A_aload_n hE 35 dX9_partsAs_34 rfl rfl ?_
  refine A_callVi hE 38 (c_X9_mNow s K be er st na pi (pF n tr 13) bi sz nu as' im at' op sp us (nI (pN n)) (nI k) ip (pN n) k hk) [0, 1, 2, 3, 4, 5, 6, 7, 8, 9, 10, 11, 12] dX9_partsAs_35 rfl mkX9_216 rfl rfl rfl rfl rfl rfl rfl (Nat.le_of_ble_eq_true rfl) (Nat.le_of_ble_eq_true rfl) rfl (fun x35 h35 g35 hp35 hw35 => ?_)
  obtain ⟨rfl, rfl⟩ := hp35
  obtain rfl := Option.some.inj hw35
  refine A_h (MW s K be er st na pi (pF n tr 13) bi sz nu as' im at' op sp us (nI (pN n)) (nI k) ip) rfl ?_
  rw [hm]
  refine A_aload_n hE 39 dX9_partsAs_38 rfl rfl ?_
  refine A_get hE 42 dX9_partsAs_39 rfl fkX9_201 rfl rfl ?_
  refine A_isub hE 43 dX9_partsAs_42 rfl ?_
  refine A_istore_n hE 44 dX9_partsAs_43 rfl rfl rfl ?_
  refine A_aload_n hE 45 dX9_partsAs_44 rfl rfl ?_
  refine A_iload_n hE 46 dX9_partsAs_45 rfl rfl ?_
  refine A_if_ne hE 49 53 dX9_partsAs_46 rfl rfl (fun c46 => absurd (sub_self32 (nI k)) c46) (fun c46 => ?_)
  refine A_iconst hE 50 dX9_partsAs_49 rfl (1) rfl ?_
  refine A_goto hE 54 dX9_partsAs_50 rfl ?_
  refine A_put hE 57 dX9_partsAs_54 rfl fkX9_222 rfl rfl rfl rfl ?_
  refine A_iload_n hE 58 dX9_partsAs_57 rfl rfl ?_
  refine A_if_ne hE 61 65 dX9_partsAs_58 rfl rfl (fun c58 => absurd (sub_self32 (nI k)) c58) (fun c58 => ?_)
  refine A_iconst hE 62 dX9_partsAs_61 rfl (0) rfl ?_
  refine A_goto hE 78 dX9_partsAs_62 rfl ?_
  refine A_iret hE dX9_partsAs_78 ?_
  exact ⟨rfl, rfl⟩
set_option maxRecDepth 100000 in
theorem c_mpap_1 (s K be er st na pi tr bi sz nu as' : Nat → Int32) (im at' op sp us tn sk ip : Int32) (n k : Nat) (hn30 : n ≤ 30) (hk : k < 8) (kd : Nat) (hK : kd < 7) (hKd : its s k 0 = nI kd) (x : Int32) (hm : its s k 1 = nI k) : AMet yX9_partsAs cX9_partsAs 5 (some (.int)) 3 0 0 [.ref 0, .int 1, .int x] (MW s K be er st na pi tr bi sz nu as' im at' op sp us (nI n) (nI k) ip) (pI fun r h => r = 0 ∧ h = MW s K be er st na pi (apF (paTp 1) n tr) bi sz nu as' im at' op sp us (nI (apN (paTp 1) n)) (nI k) 1) := by
  refine AMet.of (by decide +kernel) rfl (fun E ad0 hE => ?_)
  refine A_iload_n hE 1 dX9_partsAs_0 rfl rfl ?_
  refine A_lookup hE 79 dX9_partsAs_1 (off := 78) (by decide) (by decide) rfl ?_
  refine A_aload_n hE 80 dX9_partsAs_79 rfl rfl ?_
  refine A_bipush hE 82 dX9_partsAs_80 rfl (21) (by decide) ?_
  refine A_callVv hE 85 (c_X9_begins s K be er st na pi tr bi sz nu as' im at' op sp us (nI n) (nI k) ip n k (hn30) 21) [0, 1, 2, 3, 4, 5, 6, 7, 8, 9, 10, 11, 12] dX9_partsAs_82 rfl mkX9_204 rfl rfl rfl rfl rfl rfl rfl (Nat.le_of_ble_eq_true rfl) (Nat.le_of_ble_eq_true rfl) rfl (fun h82 g82 hp82 hw82 => ?_)
  obtain rfl := hp82
  obtain rfl := Option.some.inj hw82
  refine A_h (MW s K be er st na pi (pF n tr 21) bi sz nu as' im at' op sp us (nI (pN n)) (nI k) ip) rfl ?_
  refine A_aload_n hE 86 dX9_partsAs_85 rfl rfl ?_
  refine A_iconst hE 87 dX9_partsAs_86 rfl (1) rfl ?_
  refine A_callSi hE 90 (c_X9_above 1) [] dX9_partsAs_87 rfl mkX9_159 rfl rfl rfl rfl rfl rfl (Nat.le_of_ble_eq_true rfl) (Nat.le_of_ble_eq_true rfl) rfl (fun x87 h87 g87 hp87 hw87 => ?_)
  obtain ⟨rfl, rfl⟩ := hp87
  obtain rfl := Option.some.inj hw87
  rw [show abv 1 = 0 from rfl]
  refine A_iload_n hE 91 dX9_partsAs_90 rfl rfl ?_
  refine A_callVi hE 94 (c_mpap_0 s K be er st na pi (pF n tr 21) bi sz nu as' im at' op sp us (nI (pN n)) (nI k) ip (pN n) k (pN_le (hn30)) hk kd hK hKd x hm) [0, 1, 2, 3, 4, 5, 6, 7, 8, 9, 10, 11, 12] dX9_partsAs_91 rfl mkX9_226 rfl rfl rfl rfl rfl rfl rfl (Nat.le_of_ble_eq_true rfl) (Nat.le_of_ble_eq_true rfl) rfl (fun x91 h91 g91 hp91 hw91 => ?_)
  obtain ⟨rfl, rfl⟩ := hp91
  obtain rfl := Option.some.inj hw91
  refine A_h (MW s K be er st na pi (apF (paTp 0) (pN n) (pF n tr 21)) bi sz nu as' im at' op sp us (nI (apN (paTp 0) (pN n))) (nI k) 1) rfl ?_
  refine A_istore hE 96 dX9_partsAs_94 rfl rfl rfl ?_
  refine A_aload_n hE 97 dX9_partsAs_96 rfl rfl ?_
  refine A_get hE 100 dX9_partsAs_97 rfl fkX9_222 rfl rfl ?_
  refine A_if_eq hE 103 107 dX9_partsAs_100 rfl rfl (fun c100 => absurd c100 (by decide)) (fun c100 => ?_)
  refine A_iconst hE 104 dX9_partsAs_103 rfl (0) rfl ?_
  refine A_goto hE 119 dX9_partsAs_104 rfl ?_
  refine A_iret hE dX9_partsAs_119 ⟨rfl, rfl⟩
set_option maxRecDepth 100000 in
theorem c_mpap_2 (s K be er st na pi tr bi sz nu as' : Nat → Int32) (im at' op sp us tn sk ip : Int32) (n k : Nat) (hn30 : n ≤ 30) (hk : k < 8) (kd : Nat) (hK : kd < 7) (hKd : its s k 0 = nI kd) (x : Int32) (hm : its s k 1 = nI k) : AMet yX9_partsAs cX9_partsAs 5 (some (.int)) 3 0 0 [.ref 0, .int 2, .int x] (MW s K be er st na pi tr bi sz nu as' im at' op sp us (nI n) (nI k) ip) (pI fun r h => r = 0 ∧ h = MW s K be er st na pi (apF (paTp 2) n tr) bi sz nu as' im at' op sp us (nI (apN (paTp 2) n)) (nI k) 1) := by
  refine AMet.of (by decide +kernel) rfl (fun E ad0 hE => ?_)
  refine A_iload_n hE 1 dX9_partsAs_0 rfl rfl ?_
  refine A_lookup hE 120 dX9_partsAs_1 (off := 119) (by decide) (by decide) rfl ?_
  refine A_aload_n hE 121 dX9_partsAs_120 rfl rfl ?_
  refine A_iload_n hE 122 dX9_partsAs_121 rfl rfl ?_
  refine A_callSi hE 125 (c_X9_above 2) [] dX9_partsAs_122 rfl mkX9_159 rfl rfl rfl rfl rfl rfl (Nat.le_of_ble_eq_true rfl) (Nat.le_of_ble_eq_true rfl) rfl (fun x122 h122 g122 hp122 hw122 => ?_)
  obtain ⟨rfl, rfl⟩ := hp122
  obtain rfl := Option.some.inj hw122
  rw [show abv 2 = 0 from rfl]
  refine A_iload_n hE 126 dX9_partsAs_125 rfl rfl ?_
  refine A_callVi hE 129 (c_mpap_0 s K be er st na pi tr bi sz nu as' im at' op sp us (nI n) (nI k) ip n k (hn30) hk kd hK hKd x hm) [0, 1, 2, 3, 4, 5, 6, 7, 8, 9, 10, 11, 12] dX9_partsAs_126 rfl mkX9_226 rfl rfl rfl rfl rfl rfl rfl (Nat.le_of_ble_eq_true rfl) (Nat.le_of_ble_eq_true rfl) rfl (fun x126 h126 g126 hp126 hw126 => ?_)
  obtain ⟨rfl, rfl⟩ := hp126
  obtain rfl := Option.some.inj hw126
  refine A_h (MW s K be er st na pi (apF (paTp 0) n tr) bi sz nu as' im at' op sp us (nI (apN (paTp 0) n)) (nI k) 1) rfl ?_
  refine A_iret hE dX9_partsAs_129 ⟨rfl, rfl⟩
set_option maxRecDepth 100000 in
theorem c_mpap_3 (s K be er st na pi tr bi sz nu as' : Nat → Int32) (im at' op sp us tn sk ip : Int32) (n k : Nat) (hn30 : n ≤ 30) (hk : k < 8) (kd : Nat) (hK : kd < 7) (hKd : its s k 0 = nI kd) (x : Int32) (hm : its s k 1 = nI k) : AMet yX9_partsAs cX9_partsAs 5 (some (.int)) 3 0 0 [.ref 0, .int 3, .int x] (MW s K be er st na pi tr bi sz nu as' im at' op sp us (nI n) (nI k) ip) (pI fun r h => r = 0 ∧ h = MW s K be er st na pi (apF (paTp 3) n tr) bi sz nu as' im at' op sp us (nI (apN (paTp 3) n)) (nI k) 1) := by
  refine AMet.of (by decide +kernel) rfl (fun E ad0 hE => ?_)
  refine A_iload_n hE 1 dX9_partsAs_0 rfl rfl ?_
  refine A_lookup hE 120 dX9_partsAs_1 (off := 119) (by decide) (by decide) rfl ?_
  refine A_aload_n hE 121 dX9_partsAs_120 rfl rfl ?_
  refine A_iload_n hE 122 dX9_partsAs_121 rfl rfl ?_
  refine A_callSi hE 125 (c_X9_above 3) [] dX9_partsAs_122 rfl mkX9_159 rfl rfl rfl rfl rfl rfl (Nat.le_of_ble_eq_true rfl) (Nat.le_of_ble_eq_true rfl) rfl (fun x122 h122 g122 hp122 hw122 => ?_)
  obtain ⟨rfl, rfl⟩ := hp122
  obtain rfl := Option.some.inj hw122
  rw [show abv 3 = 0 from rfl]
  refine A_iload_n hE 126 dX9_partsAs_125 rfl rfl ?_
  refine A_callVi hE 129 (c_mpap_0 s K be er st na pi tr bi sz nu as' im at' op sp us (nI n) (nI k) ip n k (hn30) hk kd hK hKd x hm) [0, 1, 2, 3, 4, 5, 6, 7, 8, 9, 10, 11, 12] dX9_partsAs_126 rfl mkX9_226 rfl rfl rfl rfl rfl rfl rfl (Nat.le_of_ble_eq_true rfl) (Nat.le_of_ble_eq_true rfl) rfl (fun x126 h126 g126 hp126 hw126 => ?_)
  obtain ⟨rfl, rfl⟩ := hp126
  obtain rfl := Option.some.inj hw126
  refine A_h (MW s K be er st na pi (apF (paTp 0) n tr) bi sz nu as' im at' op sp us (nI (apN (paTp 0) n)) (nI k) 1) rfl ?_
  refine A_iret hE dX9_partsAs_129 ⟨rfl, rfl⟩
set_option maxRecDepth 100000 in
theorem c_mpap_4 (s K be er st na pi tr bi sz nu as' : Nat → Int32) (im at' op sp us tn sk ip : Int32) (n k : Nat) (hn30 : n ≤ 30) (hk : k < 8) (kd : Nat) (hK : kd < 7) (hKd : its s k 0 = nI kd) (x : Int32) (hm : its s k 1 = nI k) : AMet yX9_partsAs cX9_partsAs 5 (some (.int)) 4 0 0 [.ref 0, .int 4, .int x] (MW s K be er st na pi tr bi sz nu as' im at' op sp us (nI n) (nI k) ip) (pI fun r h => r = 0 ∧ h = MW s K be er st na pi (apF (paTp 4) n tr) bi sz nu as' im at' op sp us (nI (apN (paTp 4) n)) (nI k) 1) := by
  refine AMet.of (by decide +kernel) rfl (fun E ad0 hE => ?_)
  refine A_iload_n hE 1 dX9_partsAs_0 rfl rfl ?_
  refine A_lookup hE 120 dX9_partsAs_1 (off := 119) (by decide) (by decide) rfl ?_
  refine A_aload_n hE 121 dX9_partsAs_120 rfl rfl ?_
  refine A_iload_n hE 122 dX9_partsAs_121 rfl rfl ?_
  refine A_callSi hE 125 (c_X9_above 4) [] dX9_partsAs_122 rfl mkX9_159 rfl rfl rfl rfl rfl rfl (Nat.le_of_ble_eq_true rfl) (Nat.le_of_ble_eq_true rfl) rfl (fun x122 h122 g122 hp122 hw122 => ?_)
  obtain ⟨rfl, rfl⟩ := hp122
  obtain rfl := Option.some.inj hw122
  rw [show abv 4 = 1 from rfl]
  refine A_iload_n hE 126 dX9_partsAs_125 rfl rfl ?_
  refine A_callVi hE 129 (c_mpap_1 s K be er st na pi tr bi sz nu as' im at' op sp us (nI n) (nI k) ip n k (hn30) hk kd hK hKd x hm) [0, 1, 2, 3, 4, 5, 6, 7, 8, 9, 10, 11, 12] dX9_partsAs_126 rfl mkX9_226 rfl rfl rfl rfl rfl rfl rfl (Nat.le_of_ble_eq_true rfl) (Nat.le_of_ble_eq_true rfl) rfl (fun x126 h126 g126 hp126 hw126 => ?_)
  obtain ⟨rfl, rfl⟩ := hp126
  obtain rfl := Option.some.inj hw126
  refine A_h (MW s K be er st na pi (apF (paTp 1) n tr) bi sz nu as' im at' op sp us (nI (apN (paTp 1) n)) (nI k) 1) rfl ?_
  refine A_iret hE dX9_partsAs_129 ⟨rfl, rfl⟩
set_option maxRecDepth 100000 in
theorem c_mpap_5 (s K be er st na pi tr bi sz nu as' : Nat → Int32) (im at' op sp us tn sk ip : Int32) (n k : Nat) (hn30 : n ≤ 30) (hk : k < 8) (kd : Nat) (hK : kd < 7) (hKd : its s k 0 = nI kd) (x : Int32) (hm : its s k 1 = nI k) : AMet yX9_partsAs cX9_partsAs 5 (some (.int)) 4 0 0 [.ref 0, .int 5, .int x] (MW s K be er st na pi tr bi sz nu as' im at' op sp us (nI n) (nI k) ip) (pI fun r h => r = 0 ∧ h = MW s K be er st na pi (apF (paTp 5) n tr) bi sz nu as' im at' op sp us (nI (apN (paTp 5) n)) (nI k) 1) := by
  refine AMet.of (by decide +kernel) rfl (fun E ad0 hE => ?_)
  refine A_iload_n hE 1 dX9_partsAs_0 rfl rfl ?_
  refine A_lookup hE 120 dX9_partsAs_1 (off := 119) (by decide) (by decide) rfl ?_
  refine A_aload_n hE 121 dX9_partsAs_120 rfl rfl ?_
  refine A_iload_n hE 122 dX9_partsAs_121 rfl rfl ?_
  refine A_callSi hE 125 (c_X9_above 5) [] dX9_partsAs_122 rfl mkX9_159 rfl rfl rfl rfl rfl rfl (Nat.le_of_ble_eq_true rfl) (Nat.le_of_ble_eq_true rfl) rfl (fun x122 h122 g122 hp122 hw122 => ?_)
  obtain ⟨rfl, rfl⟩ := hp122
  obtain rfl := Option.some.inj hw122
  rw [show abv 5 = 2 from rfl]
  refine A_iload_n hE 126 dX9_partsAs_125 rfl rfl ?_
  refine A_callVi hE 129 (c_mpap_2 s K be er st na pi tr bi sz nu as' im at' op sp us (nI n) (nI k) ip n k (hn30) hk kd hK hKd x hm) [0, 1, 2, 3, 4, 5, 6, 7, 8, 9, 10, 11, 12] dX9_partsAs_126 rfl mkX9_226 rfl rfl rfl rfl rfl rfl rfl (Nat.le_of_ble_eq_true rfl) (Nat.le_of_ble_eq_true rfl) rfl (fun x126 h126 g126 hp126 hw126 => ?_)
  obtain ⟨rfl, rfl⟩ := hp126
  obtain rfl := Option.some.inj hw126
  refine A_h (MW s K be er st na pi (apF (paTp 2) n tr) bi sz nu as' im at' op sp us (nI (apN (paTp 2) n)) (nI k) 1) rfl ?_
  refine A_iret hE dX9_partsAs_129 ⟨rfl, rfl⟩
set_option maxRecDepth 100000 in
theorem c_mpap_6 (s K be er st na pi tr bi sz nu as' : Nat → Int32) (im at' op sp us tn sk ip : Int32) (n k : Nat) (hn30 : n ≤ 30) (hk : k < 8) (kd : Nat) (hK : kd < 7) (hKd : its s k 0 = nI kd) (x : Int32) (hm : its s k 1 = nI k) : AMet yX9_partsAs cX9_partsAs 5 (some (.int)) 3 0 0 [.ref 0, .int 6, .int x] (MW s K be er st na pi tr bi sz nu as' im at' op sp us (nI n) (nI k) ip) (pI fun r h => r = 0 ∧ h = MW s K be er st na pi (apF (paTp 6) n tr) bi sz nu as' im at' op sp us (nI (apN (paTp 6) n)) (nI k) 1) := by
  refine AMet.of (by decide +kernel) rfl (fun E ad0 hE => ?_)
  refine A_iload_n hE 1 dX9_partsAs_0 rfl rfl ?_
  refine A_lookup hE 120 dX9_partsAs_1 (off := 119) (by decide) (by decide) rfl ?_
  refine A_aload_n hE 121 dX9_partsAs_120 rfl rfl ?_
  refine A_iload_n hE 122 dX9_partsAs_121 rfl rfl ?_
  refine A_callSi hE 125 (c_X9_above 6) [] dX9_partsAs_122 rfl mkX9_159 rfl rfl rfl rfl rfl rfl (Nat.le_of_ble_eq_true rfl) (Nat.le_of_ble_eq_true rfl) rfl (fun x122 h122 g122 hp122 hw122 => ?_)
  obtain ⟨rfl, rfl⟩ := hp122
  obtain rfl := Option.some.inj hw122
  rw [show abv 6 = 0 from rfl]
  refine A_iload_n hE 126 dX9_partsAs_125 rfl rfl ?_
  refine A_callVi hE 129 (c_mpap_0 s K be er st na pi tr bi sz nu as' im at' op sp us (nI n) (nI k) ip n k (hn30) hk kd hK hKd x hm) [0, 1, 2, 3, 4, 5, 6, 7, 8, 9, 10, 11, 12] dX9_partsAs_126 rfl mkX9_226 rfl rfl rfl rfl rfl rfl rfl (Nat.le_of_ble_eq_true rfl) (Nat.le_of_ble_eq_true rfl) rfl (fun x126 h126 g126 hp126 hw126 => ?_)
  obtain ⟨rfl, rfl⟩ := hp126
  obtain rfl := Option.some.inj hw126
  refine A_h (MW s K be er st na pi (apF (paTp 0) n tr) bi sz nu as' im at' op sp us (nI (apN (paTp 0) n)) (nI k) 1) rfl ?_
  refine A_iret hE dX9_partsAs_129 ⟨rfl, rfl⟩
theorem c_mpap (f : Nat) (hf : f < 7) (s K be er st na pi tr bi sz nu as' : Nat → Int32) (im at' op sp us tn sk ip : Int32) (n k : Nat) (hn30 : n ≤ 30) (hk : k < 8) (kd : Nat) (hK : kd < 7) (hKd : its s k 0 = nI kd) (x : Int32) (hm : its s k 1 = nI k) : AMet yX9_partsAs cX9_partsAs 5 (some .int) 9 0 0 [.ref 0, .int (nI f), .int x] (MW s K be er st na pi tr bi sz nu as' im at' op sp us (nI n) (nI k) ip) (pI fun r h => r = 0 ∧ h = MW s K be er st na pi (apF (paTp f) n tr) bi sz nu as' im at' op sp us (nI (apN (paTp f) n)) (nI k) 1) := by
  match f, hf with
  | 0, _ => exact (c_mpap_0 s K be er st na pi tr bi sz nu as' im at' op sp us tn sk ip n k hn30 hk kd hK hKd x hm).mono rfl
  | 1, _ => exact (c_mpap_1 s K be er st na pi tr bi sz nu as' im at' op sp us tn sk ip n k hn30 hk kd hK hKd x hm).mono rfl
  | 2, _ => exact (c_mpap_2 s K be er st na pi tr bi sz nu as' im at' op sp us tn sk ip n k hn30 hk kd hK hKd x hm).mono rfl
  | 3, _ => exact (c_mpap_3 s K be er st na pi tr bi sz nu as' im at' op sp us tn sk ip n k hn30 hk kd hK hKd x hm).mono rfl
  | 4, _ => exact (c_mpap_4 s K be er st na pi tr bi sz nu as' im at' op sp us tn sk ip n k hn30 hk kd hK hKd x hm).mono rfl
  | 5, _ => exact (c_mpap_5 s K be er st na pi tr bi sz nu as' im at' op sp us tn sk ip n k hn30 hk kd hK hKd x hm).mono rfl
  | 6, _ => exact (c_mpap_6 s K be er st na pi tr bi sz nu as' im at' op sp us tn sk ip n k hn30 hk kd hK hKd x hm).mono rfl

set_option maxRecDepth 100000 in
theorem c_mpan_0 (s K be er st na pi tr bi sz nu as' : Nat → Int32) (im at' op sp us tn sk ip : Int32) (n k : Nat) (hn30 : n ≤ 30) (hk : k < 8) (kd : Nat) (hK : kd < 7) (hKd : its s k 0 = nI kd) (x : Int32) (hm : ¬ its s k 1 = nI k) : AMet yX9_partsAs cX9_partsAs 5 (some (.int)) 2 0 0 [.ref 0, .int 0, .int x] (MW s K be er st na pi tr bi sz nu as' im at' op sp us (nI n) (nI k) ip) (pI fun r h => r = paV (nI k) (its s k 1) kd 0 x ∧ h = MW s K be er st na pi (apF (paT kd 0) n tr) bi sz nu as' im at' op sp us (nI (apN (paT kd 0) n)) (nI k) 0) := by
  refine AMet.of (by decide +kernel) rfl (fun E ad0 hE => ?_)
  refine A_iload_n hE 1 dX9_partsAs_0 rfl rfl ?_
  refine A_lookup hE 28 dX9_partsAs_1 (off := 27) (by decide) (by decide) rfl ?_
  refine A_aload_n hE 29 dX9_partsAs_28 rfl rfl ?_
  refine A_bipush hE 31 dX9_partsAs_29 rfl (13) (by decide) ?_
  refine A_callVv hE 34 (c_X9_begins s K be er st na pi tr bi sz nu as' im at' op sp us (nI n) (nI k) ip n k (hn30) 13) [0, 1, 2, 3, 4, 5, 6, 7, 8, 9, 10, 11, 12] dX9_partsAs_31 rfl mkX9_204 rfl rfl rfl rfl rfl rfl rfl (Nat.le_of_ble_eq_true rfl) (Nat.le_of_ble_eq_true rfl) rfl (fun h31 g31 hp31 hw31 => ?_)
  obtain rfl := hp31
  obtain rfl := Option.some.inj hw31
  refine A_h (MW s K be er st na pi (pF n tr 13) bi sz nu as' im at' op sp us (nI (pN n)) (nI k) ip) rfl ?_
  refine A_aload_n hE 35 dX9_partsAs_34 rfl rfl ?_
  refine A_callVi hE 38 (c_X9_mNow s K be er st na pi (pF n tr 13) bi sz nu as' im at' op sp us (nI (pN n)) (nI k) ip (pN n) k hk) [0, 1, 2, 3, 4, 5, 6, 7, 8, 9, 10, 11, 12] dX9_partsAs_35 rfl mkX9_216 rfl rfl rfl rfl rfl rfl rfl (Nat.le_of_ble_eq_true rfl) (Nat.le_of_ble_eq_true rfl) rfl (fun x35 h35 g35 hp35 hw35 => ?_)
  obtain ⟨rfl, rfl⟩ := hp35
  obtain rfl := Option.some.inj hw35
  refine A_h (MW s K be er st na pi (pF n tr 13) bi sz nu as' im at' op sp us (nI (pN n)) (nI k) ip) rfl ?_
  refine A_aload_n hE 39 dX9_partsAs_38 rfl rfl ?_
  refine A_get hE 42 dX9_partsAs_39 rfl fkX9_201 rfl rfl ?_
  refine A_isub hE 43 dX9_partsAs_42 rfl ?_
  refine A_istore_n hE 44 dX9_partsAs_43 rfl rfl rfl ?_
  refine A_aload_n hE 45 dX9_partsAs_44 rfl rfl ?_
  refine A_iload_n hE 46 dX9_partsAs_45 rfl rfl ?_
  refine A_if_ne hE 49 53 dX9_partsAs_46 rfl rfl (fun c46 => ?_) (fun c46 => absurd c46 (sub_ne hm))
  refine A_iconst hE 54 dX9_partsAs_53 rfl (0) rfl ?_
  refine A_put hE 57 dX9_partsAs_54 rfl fkX9_222 rfl rfl rfl rfl ?_
  refine A_iload_n hE 58 dX9_partsAs_57 rfl rfl ?_
  refine A_if_ne hE 61 65 dX9_partsAs_58 rfl rfl (fun c58 => ?_) (fun c58 => absurd c58 (sub_ne hm))
  refine A_iload_n hE 66 dX9_partsAs_65 rfl rfl ?_
  refine A_iconst hE 67 dX9_partsAs_66 rfl (-1) rfl ?_
  refine A_icmp_ne hE 70 75 dX9_partsAs_67 rfl rfl (fun c67 => ?_) (fun c67 => ?_)
  · refine A_iload_n hE 76 dX9_partsAs_75 rfl rfl ?_
    refine A_iload_n hE 77 dX9_partsAs_76 rfl rfl ?_
    refine A_idiv hE 78 dX9_partsAs_77 rfl c58 ?_
    refine A_iret hE dX9_partsAs_78 ?_
    exact ⟨rfl, rfl⟩
  · refine A_iload_n hE 71 dX9_partsAs_70 rfl rfl ?_
    refine A_ineg hE 72 dX9_partsAs_71 rfl ?_
    refine A_goto hE 78 dX9_partsAs_72 rfl ?_
    refine A_iret hE dX9_partsAs_78 ?_
    refine ⟨show -x = x / (its s k 1 - nI k) from ?_, rfl⟩
    rw [c67, div_m1]
set_option maxRecDepth 100000 in
theorem c_mpan_1 (s K be er st na pi tr bi sz nu as' : Nat → Int32) (im at' op sp us tn sk ip : Int32) (n k : Nat) (hn30 : n ≤ 30) (hk : k < 8) (kd : Nat) (hK : kd < 7) (hKd : its s k 0 = nI kd) (x : Int32) (hm : ¬ its s k 1 = nI k) : AMet yX9_partsAs cX9_partsAs 5 (some (.int)) 7 0 0 [.ref 0, .int 1, .int x] (MW s K be er st na pi tr bi sz nu as' im at' op sp us (nI n) (nI k) ip) (pI fun r h => r = paV (nI k) (its s k 1) kd 1 x ∧ h = MW s K be er st na pi (apF (paT kd 1) n tr) bi sz nu as' im at' op sp us (nI (apN (paT kd 1) n)) (nI k) 0) := by
  refine AMet.of (by decide +kernel) rfl (fun E ad0 hE => ?_)
  refine A_iload_n hE 1 dX9_partsAs_0 rfl rfl ?_
  refine A_lookup hE 79 dX9_partsAs_1 (off := 78) (by decide) (by decide) rfl ?_
  refine A_aload_n hE 80 dX9_partsAs_79 rfl rfl ?_
  refine A_bipush hE 82 dX9_partsAs_80 rfl (21) (by decide) ?_
  refine A_callVv hE 85 (c_X9_begins s K be er st na pi tr bi sz nu as' im at' op sp us (nI n) (nI k) ip n k (hn30) 21) [0, 1, 2, 3, 4, 5, 6, 7, 8, 9, 10, 11, 12] dX9_partsAs_82 rfl mkX9_204 rfl rfl rfl rfl rfl rfl rfl (Nat.le_of_ble_eq_true rfl) (Nat.le_of_ble_eq_true rfl) rfl (fun h82 g82 hp82 hw82 => ?_)
  obtain rfl := hp82
  obtain rfl := Option.some.inj hw82
  refine A_h (MW s K be er st na pi (pF n tr 21) bi sz nu as' im at' op sp us (nI (pN n)) (nI k) ip) rfl ?_
  refine A_aload_n hE 86 dX9_partsAs_85 rfl rfl ?_
  refine A_iconst hE 87 dX9_partsAs_86 rfl (1) rfl ?_
  refine A_callSi hE 90 (c_X9_above 1) [] dX9_partsAs_87 rfl mkX9_159 rfl rfl rfl rfl rfl rfl (Nat.le_of_ble_eq_true rfl) (Nat.le_of_ble_eq_true rfl) rfl (fun x87 h87 g87 hp87 hw87 => ?_)
  obtain ⟨rfl, rfl⟩ := hp87
  obtain rfl := Option.some.inj hw87
  rw [show abv 1 = 0 from rfl]
  refine A_iload_n hE 91 dX9_partsAs_90 rfl rfl ?_
  refine A_callVi hE 94 (c_mpan_0 s K be er st na pi (pF n tr 21) bi sz nu as' im at' op sp us (nI (pN n)) (nI k) ip (pN n) k (pN_le (hn30)) hk kd hK hKd x hm) [0, 1, 2, 3, 4, 5, 6, 7, 8, 9, 10, 11, 12] dX9_partsAs_91 rfl mkX9_226 rfl rfl rfl rfl rfl rfl rfl (Nat.le_of_ble_eq_true rfl) (Nat.le_of_ble_eq_true rfl) rfl (fun x91 h91 g91 hp91 hw91 => ?_)
  obtain ⟨rfl, rfl⟩ := hp91
  obtain rfl := Option.some.inj hw91
  refine A_h (MW s K be er st na pi (apF (paT kd 0) (pN n) (pF n tr 21)) bi sz nu as' im at' op sp us (nI (apN (paT kd 0) (pN n))) (nI k) 0) rfl ?_
  refine A_istore hE 96 dX9_partsAs_94 rfl rfl rfl ?_
  refine A_aload_n hE 97 dX9_partsAs_96 rfl rfl ?_
  refine A_get hE 100 dX9_partsAs_97 rfl fkX9_222 rfl rfl ?_
  refine A_if_eq hE 103 107 dX9_partsAs_100 rfl rfl (fun c100 => ?_) (fun c100 => absurd rfl c100)
  refine A_iload hE 109 dX9_partsAs_107 rfl rfl ?_
  refine A_aload_n hE 110 dX9_partsAs_109 rfl rfl ?_
  refine A_aload_n hE 111 dX9_partsAs_110 rfl rfl ?_
  refine A_callVi hE 114 (c_X9_kindNow s K be er st na pi (apF (paT kd 0) (pN n) (pF n tr 21)) bi sz nu as' im at' op sp us (nI (apN (paT kd 0) (pN n))) (nI k) 0 (apN (paT kd 0) (pN n)) k hk) [0, 1, 2, 3, 4, 5, 6, 7, 8, 9, 10, 11, 12] dX9_partsAs_111 rfl mkX9_210 rfl rfl rfl rfl rfl rfl rfl (Nat.le_of_ble_eq_true rfl) (Nat.le_of_ble_eq_true rfl) rfl (fun x111 h111 g111 hp111 hw111 => ?_)
  obtain ⟨rfl, rfl⟩ := hp111
  obtain rfl := Option.some.inj hw111
  refine A_h (MW s K be er st na pi (apF (paT kd 0) (pN n) (pF n tr 21)) bi sz nu as' im at' op sp us (nI (apN (paT kd 0) (pN n))) (nI k) 0) rfl ?_
  rw [hKd]
  refine A_iconst hE 115 dX9_partsAs_114 rfl (1) rfl ?_
  refine A_callVi hE 118 (c_msa kd hK s K be er st na pi (apF (paT kd 0) (pN n) (pF n tr 21)) bi sz nu as' im at' op sp us (nI (apN (paT kd 0) (pN n))) (nI k) 0 (apN (paT kd 0) (pN n)) k (apN_le _ _ (pN_le (hn30))) hk kd hK hKd 1) [0, 1, 2, 3, 4, 5, 6, 7, 8, 9, 10, 11, 12] dX9_partsAs_115 rfl mkX9_213 rfl rfl rfl rfl rfl rfl rfl (Nat.le_of_ble_eq_true rfl) (Nat.le_of_ble_eq_true rfl) rfl (fun x115 h115 g115 hp115 hw115 => ?_)
  obtain ⟨rfl, rfl⟩ := hp115
  obtain rfl := Option.some.inj hw115
  refine A_h (MW s K be er st na pi (apF (saT kd kd) (apN (paT kd 0) (pN n)) (apF (paT kd 0) (pN n) (pF n tr 21))) bi sz nu as' im at' op sp us (nI (apN (saT kd kd) (apN (paT kd 0) (pN n)))) (nI k) 0) rfl ?_
  refine A_iadd hE 119 dX9_partsAs_118 rfl ?_
  refine A_iret hE dX9_partsAs_119 ⟨rfl, rfl⟩
set_option maxRecDepth 100000 in
theorem c_mpan_2 (s K be er st na pi tr bi sz nu as' : Nat → Int32) (im at' op sp us tn sk ip : Int32) (n k : Nat) (hn30 : n ≤ 30) (hk : k < 8) (kd : Nat) (hK : kd < 7) (hKd : its s k 0 = nI kd) (x : Int32) (hm : ¬ its s k 1 = nI k) : AMet yX9_partsAs cX9_partsAs 5 (some (.int)) 3 0 0 [.ref 0, .int 2, .int x] (MW s K be er st na pi tr bi sz nu as' im at' op sp us (nI n) (nI k) ip) (pI fun r h => r = paV (nI k) (its s k 1) kd 2 x ∧ h = MW s K be er st na pi (apF (paT kd 2) n tr) bi sz nu as' im at' op sp us (nI (apN (paT kd 2) n)) (nI k) 0) := by
  refine AMet.of (by decide +kernel) rfl (fun E ad0 hE => ?_)
  refine A_iload_n hE 1 dX9_partsAs_0 rfl rfl ?_
  refine A_lookup hE 120 dX9_partsAs_1 (off := 119) (by decide) (by decide) rfl ?_
  refine A_aload_n hE 121 dX9_partsAs_120 rfl rfl ?_
  refine A_iload_n hE 122 dX9_partsAs_121 rfl rfl ?_
  refine A_callSi hE 125 (c_X9_above 2) [] dX9_partsAs_122 rfl mkX9_159 rfl rfl rfl rfl rfl rfl (Nat.le_of_ble_eq_true rfl) (Nat.le_of_ble_eq_true rfl) rfl (fun x122 h122 g122 hp122 hw122 => ?_)
  obtain ⟨rfl, rfl⟩ := hp122
  obtain rfl := Option.some.inj hw122
  rw [show abv 2 = 0 from rfl]
  refine A_iload_n hE 126 dX9_partsAs_125 rfl rfl ?_
  refine A_callVi hE 129 (c_mpan_0 s K be er st na pi tr bi sz nu as' im at' op sp us (nI n) (nI k) ip n k (hn30) hk kd hK hKd x hm) [0, 1, 2, 3, 4, 5, 6, 7, 8, 9, 10, 11, 12] dX9_partsAs_126 rfl mkX9_226 rfl rfl rfl rfl rfl rfl rfl (Nat.le_of_ble_eq_true rfl) (Nat.le_of_ble_eq_true rfl) rfl (fun x126 h126 g126 hp126 hw126 => ?_)
  obtain ⟨rfl, rfl⟩ := hp126
  obtain rfl := Option.some.inj hw126
  refine A_h (MW s K be er st na pi (apF (paT kd 0) n tr) bi sz nu as' im at' op sp us (nI (apN (paT kd 0) n)) (nI k) 0) rfl ?_
  refine A_iret hE dX9_partsAs_129 ⟨rfl, rfl⟩
set_option maxRecDepth 100000 in
theorem c_mpan_3 (s K be er st na pi tr bi sz nu as' : Nat → Int32) (im at' op sp us tn sk ip : Int32) (n k : Nat) (hn30 : n ≤ 30) (hk : k < 8) (kd : Nat) (hK : kd < 7) (hKd : its s k 0 = nI kd) (x : Int32) (hm : ¬ its s k 1 = nI k) : AMet yX9_partsAs cX9_partsAs 5 (some (.int)) 3 0 0 [.ref 0, .int 3, .int x] (MW s K be er st na pi tr bi sz nu as' im at' op sp us (nI n) (nI k) ip) (pI fun r h => r = paV (nI k) (its s k 1) kd 3 x ∧ h = MW s K be er st na pi (apF (paT kd 3) n tr) bi sz nu as' im at' op sp us (nI (apN (paT kd 3) n)) (nI k) 0) := by
  refine AMet.of (by decide +kernel) rfl (fun E ad0 hE => ?_)
  refine A_iload_n hE 1 dX9_partsAs_0 rfl rfl ?_
  refine A_lookup hE 120 dX9_partsAs_1 (off := 119) (by decide) (by decide) rfl ?_
  refine A_aload_n hE 121 dX9_partsAs_120 rfl rfl ?_
  refine A_iload_n hE 122 dX9_partsAs_121 rfl rfl ?_
  refine A_callSi hE 125 (c_X9_above 3) [] dX9_partsAs_122 rfl mkX9_159 rfl rfl rfl rfl rfl rfl (Nat.le_of_ble_eq_true rfl) (Nat.le_of_ble_eq_true rfl) rfl (fun x122 h122 g122 hp122 hw122 => ?_)
  obtain ⟨rfl, rfl⟩ := hp122
  obtain rfl := Option.some.inj hw122
  rw [show abv 3 = 0 from rfl]
  refine A_iload_n hE 126 dX9_partsAs_125 rfl rfl ?_
  refine A_callVi hE 129 (c_mpan_0 s K be er st na pi tr bi sz nu as' im at' op sp us (nI n) (nI k) ip n k (hn30) hk kd hK hKd x hm) [0, 1, 2, 3, 4, 5, 6, 7, 8, 9, 10, 11, 12] dX9_partsAs_126 rfl mkX9_226 rfl rfl rfl rfl rfl rfl rfl (Nat.le_of_ble_eq_true rfl) (Nat.le_of_ble_eq_true rfl) rfl (fun x126 h126 g126 hp126 hw126 => ?_)
  obtain ⟨rfl, rfl⟩ := hp126
  obtain rfl := Option.some.inj hw126
  refine A_h (MW s K be er st na pi (apF (paT kd 0) n tr) bi sz nu as' im at' op sp us (nI (apN (paT kd 0) n)) (nI k) 0) rfl ?_
  refine A_iret hE dX9_partsAs_129 ⟨rfl, rfl⟩
set_option maxRecDepth 100000 in
theorem c_mpan_4 (s K be er st na pi tr bi sz nu as' : Nat → Int32) (im at' op sp us tn sk ip : Int32) (n k : Nat) (hn30 : n ≤ 30) (hk : k < 8) (kd : Nat) (hK : kd < 7) (hKd : its s k 0 = nI kd) (x : Int32) (hm : ¬ its s k 1 = nI k) : AMet yX9_partsAs cX9_partsAs 5 (some (.int)) 8 0 0 [.ref 0, .int 4, .int x] (MW s K be er st na pi tr bi sz nu as' im at' op sp us (nI n) (nI k) ip) (pI fun r h => r = paV (nI k) (its s k 1) kd 4 x ∧ h = MW s K be er st na pi (apF (paT kd 4) n tr) bi sz nu as' im at' op sp us (nI (apN (paT kd 4) n)) (nI k) 0) := by
  refine AMet.of (by decide +kernel) rfl (fun E ad0 hE => ?_)
  refine A_iload_n hE 1 dX9_partsAs_0 rfl rfl ?_
  refine A_lookup hE 120 dX9_partsAs_1 (off := 119) (by decide) (by decide) rfl ?_
  refine A_aload_n hE 121 dX9_partsAs_120 rfl rfl ?_
  refine A_iload_n hE 122 dX9_partsAs_121 rfl rfl ?_
  refine A_callSi hE 125 (c_X9_above 4) [] dX9_partsAs_122 rfl mkX9_159 rfl rfl rfl rfl rfl rfl (Nat.le_of_ble_eq_true rfl) (Nat.le_of_ble_eq_true rfl) rfl (fun x122 h122 g122 hp122 hw122 => ?_)
  obtain ⟨rfl, rfl⟩ := hp122
  obtain rfl := Option.some.inj hw122
  rw [show abv 4 = 1 from rfl]
  refine A_iload_n hE 126 dX9_partsAs_125 rfl rfl ?_
  refine A_callVi hE 129 (c_mpan_1 s K be er st na pi tr bi sz nu as' im at' op sp us (nI n) (nI k) ip n k (hn30) hk kd hK hKd x hm) [0, 1, 2, 3, 4, 5, 6, 7, 8, 9, 10, 11, 12] dX9_partsAs_126 rfl mkX9_226 rfl rfl rfl rfl rfl rfl rfl (Nat.le_of_ble_eq_true rfl) (Nat.le_of_ble_eq_true rfl) rfl (fun x126 h126 g126 hp126 hw126 => ?_)
  obtain ⟨rfl, rfl⟩ := hp126
  obtain rfl := Option.some.inj hw126
  refine A_h (MW s K be er st na pi (apF (paT kd 1) n tr) bi sz nu as' im at' op sp us (nI (apN (paT kd 1) n)) (nI k) 0) rfl ?_
  refine A_iret hE dX9_partsAs_129 ⟨rfl, rfl⟩
set_option maxRecDepth 100000 in
theorem c_mpan_5 (s K be er st na pi tr bi sz nu as' : Nat → Int32) (im at' op sp us tn sk ip : Int32) (n k : Nat) (hn30 : n ≤ 30) (hk : k < 8) (kd : Nat) (hK : kd < 7) (hKd : its s k 0 = nI kd) (x : Int32) (hm : ¬ its s k 1 = nI k) : AMet yX9_partsAs cX9_partsAs 5 (some (.int)) 4 0 0 [.ref 0, .int 5, .int x] (MW s K be er st na pi tr bi sz nu as' im at' op sp us (nI n) (nI k) ip) (pI fun r h => r = paV (nI k) (its s k 1) kd 5 x ∧ h = MW s K be er st na pi (apF (paT kd 5) n tr) bi sz nu as' im at' op sp us (nI (apN (paT kd 5) n)) (nI k) 0) := by
  refine AMet.of (by decide +kernel) rfl (fun E ad0 hE => ?_)
  refine A_iload_n hE 1 dX9_partsAs_0 rfl rfl ?_
  refine A_lookup hE 120 dX9_partsAs_1 (off := 119) (by decide) (by decide) rfl ?_
  refine A_aload_n hE 121 dX9_partsAs_120 rfl rfl ?_
  refine A_iload_n hE 122 dX9_partsAs_121 rfl rfl ?_
  refine A_callSi hE 125 (c_X9_above 5) [] dX9_partsAs_122 rfl mkX9_159 rfl rfl rfl rfl rfl rfl (Nat.le_of_ble_eq_true rfl) (Nat.le_of_ble_eq_true rfl) rfl (fun x122 h122 g122 hp122 hw122 => ?_)
  obtain ⟨rfl, rfl⟩ := hp122
  obtain rfl := Option.some.inj hw122
  rw [show abv 5 = 2 from rfl]
  refine A_iload_n hE 126 dX9_partsAs_125 rfl rfl ?_
  refine A_callVi hE 129 (c_mpan_2 s K be er st na pi tr bi sz nu as' im at' op sp us (nI n) (nI k) ip n k (hn30) hk kd hK hKd x hm) [0, 1, 2, 3, 4, 5, 6, 7, 8, 9, 10, 11, 12] dX9_partsAs_126 rfl mkX9_226 rfl rfl rfl rfl rfl rfl rfl (Nat.le_of_ble_eq_true rfl) (Nat.le_of_ble_eq_true rfl) rfl (fun x126 h126 g126 hp126 hw126 => ?_)
  obtain ⟨rfl, rfl⟩ := hp126
  obtain rfl := Option.some.inj hw126
  refine A_h (MW s K be er st na pi (apF (paT kd 2) n tr) bi sz nu as' im at' op sp us (nI (apN (paT kd 2) n)) (nI k) 0) rfl ?_
  refine A_iret hE dX9_partsAs_129 ⟨rfl, rfl⟩
set_option maxRecDepth 100000 in
theorem c_mpan_6 (s K be er st na pi tr bi sz nu as' : Nat → Int32) (im at' op sp us tn sk ip : Int32) (n k : Nat) (hn30 : n ≤ 30) (hk : k < 8) (kd : Nat) (hK : kd < 7) (hKd : its s k 0 = nI kd) (x : Int32) (hm : ¬ its s k 1 = nI k) : AMet yX9_partsAs cX9_partsAs 5 (some (.int)) 3 0 0 [.ref 0, .int 6, .int x] (MW s K be er st na pi tr bi sz nu as' im at' op sp us (nI n) (nI k) ip) (pI fun r h => r = paV (nI k) (its s k 1) kd 6 x ∧ h = MW s K be er st na pi (apF (paT kd 6) n tr) bi sz nu as' im at' op sp us (nI (apN (paT kd 6) n)) (nI k) 0) := by
  refine AMet.of (by decide +kernel) rfl (fun E ad0 hE => ?_)
  refine A_iload_n hE 1 dX9_partsAs_0 rfl rfl ?_
  refine A_lookup hE 120 dX9_partsAs_1 (off := 119) (by decide) (by decide) rfl ?_
  refine A_aload_n hE 121 dX9_partsAs_120 rfl rfl ?_
  refine A_iload_n hE 122 dX9_partsAs_121 rfl rfl ?_
  refine A_callSi hE 125 (c_X9_above 6) [] dX9_partsAs_122 rfl mkX9_159 rfl rfl rfl rfl rfl rfl (Nat.le_of_ble_eq_true rfl) (Nat.le_of_ble_eq_true rfl) rfl (fun x122 h122 g122 hp122 hw122 => ?_)
  obtain ⟨rfl, rfl⟩ := hp122
  obtain rfl := Option.some.inj hw122
  rw [show abv 6 = 0 from rfl]
  refine A_iload_n hE 126 dX9_partsAs_125 rfl rfl ?_
  refine A_callVi hE 129 (c_mpan_0 s K be er st na pi tr bi sz nu as' im at' op sp us (nI n) (nI k) ip n k (hn30) hk kd hK hKd x hm) [0, 1, 2, 3, 4, 5, 6, 7, 8, 9, 10, 11, 12] dX9_partsAs_126 rfl mkX9_226 rfl rfl rfl rfl rfl rfl rfl (Nat.le_of_ble_eq_true rfl) (Nat.le_of_ble_eq_true rfl) rfl (fun x126 h126 g126 hp126 hw126 => ?_)
  obtain ⟨rfl, rfl⟩ := hp126
  obtain rfl := Option.some.inj hw126
  refine A_h (MW s K be er st na pi (apF (paT kd 0) n tr) bi sz nu as' im at' op sp us (nI (apN (paT kd 0) n)) (nI k) 0) rfl ?_
  refine A_iret hE dX9_partsAs_129 ⟨rfl, rfl⟩
theorem c_mpan (f : Nat) (hf : f < 7) (s K be er st na pi tr bi sz nu as' : Nat → Int32) (im at' op sp us tn sk ip : Int32) (n k : Nat) (hn30 : n ≤ 30) (hk : k < 8) (kd : Nat) (hK : kd < 7) (hKd : its s k 0 = nI kd) (x : Int32) (hm : ¬ its s k 1 = nI k) : AMet yX9_partsAs cX9_partsAs 5 (some .int) 9 0 0 [.ref 0, .int (nI f), .int x] (MW s K be er st na pi tr bi sz nu as' im at' op sp us (nI n) (nI k) ip) (pI fun r h => r = paV (nI k) (its s k 1) kd f x ∧ h = MW s K be er st na pi (apF (paT kd f) n tr) bi sz nu as' im at' op sp us (nI (apN (paT kd f) n)) (nI k) 0) := by
  match f, hf with
  | 0, _ => exact (c_mpan_0 s K be er st na pi tr bi sz nu as' im at' op sp us tn sk ip n k hn30 hk kd hK hKd x hm).mono rfl
  | 1, _ => exact (c_mpan_1 s K be er st na pi tr bi sz nu as' im at' op sp us tn sk ip n k hn30 hk kd hK hKd x hm).mono rfl
  | 2, _ => exact (c_mpan_2 s K be er st na pi tr bi sz nu as' im at' op sp us tn sk ip n k hn30 hk kd hK hKd x hm).mono rfl
  | 3, _ => exact (c_mpan_3 s K be er st na pi tr bi sz nu as' im at' op sp us tn sk ip n k hn30 hk kd hK hKd x hm).mono rfl
  | 4, _ => exact (c_mpan_4 s K be er st na pi tr bi sz nu as' im at' op sp us tn sk ip n k hn30 hk kd hK hKd x hm).mono rfl
  | 5, _ => exact (c_mpan_5 s K be er st na pi tr bi sz nu as' im at' op sp us tn sk ip n k hn30 hk kd hK hKd x hm).mono rfl
  | 6, _ => exact (c_mpan_6 s K be er st na pi tr bi sz nu as' im at' op sp us tn sk ip n k hn30 hk kd hK hKd x hm).mono rfl

