theorem in_iff {n : Nat} (hn : n ≤ 1000) (h : Int32) : (0 ≤ h ∧ h ≤ nI n - 1) ↔ (0 ≤ h ∧ h < nI n) := by
  constructor
  · rintro ⟨a, b⟩
    obtain ⟨j, hj, rfl⟩ := nI_of (iN a)
    refine ⟨a, ?_⟩
    cases n with
    | zero => exact absurd (Int32.le_trans a b) (by decide)
    | succ n =>
      rw [nI_pred] at b
      have := (nI_leI hj (by omega)).mp b
      exact nI_lt (by omega) (by omega)
  · rintro ⟨a, b⟩
    obtain ⟨j, hj, rfl⟩ := nI_of (iN a)
    refine ⟨a, ?_⟩
    have hlt := (nI_ltI hj (by omega)).mp b
    cases n with
    | zero => omega
    | succ n => rw [nI_pred]; exact nI_le (by omega) (by omega)
def voT (K : Nat) (m k : Int32) (v : Int32) : List Int32 := if v = 0 then cuT K else if v = 1 then saT K K else if v = 2 then stT K K else if m = k then paTp K else paT K K
def voV (K : Nat) (m k : Int32) (v x : Int32) : Int32 := if v = 0 then cuV k K x else if v = 1 then saV k m K K x else if v = 2 then stV k m K K x else paV k m K K x
def kdN (s : St) (h : Nat) : Nat := (its s h 0).toNatClampNeg
def voiceF (s : St) (er : Nat → Int32) (h v x : Int32) : Rs := if (0 ≤ h ∧ h < s 8) ∧ (0 ≤ v ∧ v ≤ 3) then (if v = 3 ∧ its s h.toNatClampNeg 1 = h then bad 6 s er else (voV (kdN s h.toNatClampNeg) (its s h.toNatClampNeg 1) h v x, s, er)) else bad 1 s er
def voiceT (s : St) (h v : Int32) (n : Nat) : Nat := if (0 ≤ h ∧ h < s 8) ∧ (0 ≤ v ∧ v ≤ 3) then apN (voT (kdN s h.toNatClampNeg) (its s h.toNatClampNeg 1) h v) 0 else n
def voiceR (s : St) (h v : Int32) (tr : Nat → Int32) : Nat → Int32 := if (0 ≤ h ∧ h < s 8) ∧ (0 ≤ v ∧ v ≤ 3) then apF (voT (kdN s h.toNatClampNeg) (its s h.toNatClampNeg 1) h v) 0 tr else tr
def bodyF (s : St) (er : Nat → Int32) (n : Nat) (tr : Nat → Int32) (i : Int32) : Rs := if 0 ≤ i ∧ i < nI n then (tr i.toNatClampNeg, s, er) else bad 2 s er

set_option maxRecDepth 100000 in
theorem c_X9_begins (s K be er st na pi tr bi sz nu as' : Nat → Int32) (im at' op sp us tn sk ip : Int32) (n k : Nat) (hn30 : n ≤ 30) (b : Int32) : AMet yX9_begins cX9_begins 2 none 0 0 0 [.ref 0, .int b] (MW s K be er st na pi tr bi sz nu as' im at' op sp us (nI n) (nI k) ip) (pV fun h => h = MW s K be er st na pi (pF n tr b) bi sz nu as' im at' op sp us (nI (pN n)) (nI k) ip) := by
  refine AMet.of (by decide +kernel) rfl (fun E ad0 hE => ?_)
  refine A_aload_n hE 1 dX9_begins_0 rfl rfl ?_
  refine A_get hE 4 dX9_begins_1 rfl fkX9_198 rfl rfl ?_
  refine A_bipush hE 6 dX9_begins_4 rfl (30) (by decide) ?_
  refine A_icmp_ge hE 9 29 dX9_begins_6 rfl rfl (fun c6 => ?_) (fun c6 => ?_)
  · refine A_vret hE dX9_begins_29 ?_
    have h3 : ¬ n < 30 := fun z => absurd c6 (nI_ge (b := 30) z (by omega))
    rw [pN, pF, if_neg h3, if_neg h3]
  · have h3 : n < 30 := Nat.lt_of_not_le (fun z => c6 (nI_le (a := 30) z (by omega)))
    refine A_aload_n hE 10 dX9_begins_9 rfl rfl ?_
    refine A_get hE 13 dX9_begins_10 rfl fkX9_31 rfl rfl ?_
    refine A_aload_n hE 14 dX9_begins_13 rfl rfl ?_
    refine A_get hE 17 dX9_begins_14 rfl fkX9_198 rfl rfl ?_
    refine A_iload_n hE 18 dX9_begins_17 rfl rfl ?_
    refine A_iast hE 19 n dX9_begins_18 rfl rfl rfl h3 rfl rfl ?_
    refine A_aload_n hE 20 dX9_begins_19 rfl rfl ?_
    refine A_dup hE 21 dX9_begins_20 rfl rfl ?_
    refine A_get hE 24 dX9_begins_21 rfl fkX9_198 rfl rfl ?_
    refine A_iconst hE 25 dX9_begins_24 rfl (1) rfl ?_
    refine A_iadd hE 26 dX9_begins_25 rfl ?_
    refine A_put hE 29 dX9_begins_26 rfl fkX9_198 rfl rfl rfl rfl ?_
    refine A_vret hE dX9_begins_29 ?_
    rw [pN, pF, if_pos h3, if_pos h3]
    rw [← nI_1]
set_option maxRecDepth 100000 in
theorem c_X9_kindNow (s K be er st na pi tr bi sz nu as' : Nat → Int32) (im at' op sp us tn sk ip : Int32) (n k : Nat) (hk : k < 8) : AMet yX9_kindNow cX9_kindNow 1 (some (.int)) 1 0 0 [.ref 0] (MW s K be er st na pi tr bi sz nu as' im at' op sp us (nI n) (nI k) ip) (pI fun x h => x = its s k 0 ∧ h = MW s K be er st na pi tr bi sz nu as' im at' op sp us (nI n) (nI k) ip) := by
  refine AMet.of (by decide +kernel) rfl (fun E ad0 hE => ?_)
  refine A_aload_n hE 1 dX9_kindNow_0 rfl rfl ?_
  refine A_aload_n hE 2 dX9_kindNow_1 rfl rfl ?_
  refine A_get hE 5 dX9_kindNow_2 rfl fkX9_201 rfl rfl ?_
  refine A_iconst hE 6 dX9_kindNow_5 rfl (0) rfl ?_
  refine A_callVi hE 9 (c_X9_its s K be er st na pi tr bi sz nu as' im at' op sp us (nI n) (nI k) ip (nI k) 0 k 0 rfl rfl hk (by omega)) [0, 1, 2, 3, 4, 5, 6, 7, 8, 9, 10, 11, 12] dX9_kindNow_6 rfl mkX9_111 rfl rfl rfl rfl rfl rfl rfl (Nat.le_of_ble_eq_true rfl) (Nat.le_of_ble_eq_true rfl) rfl (fun x6 h6 g6 hp6 hw6 => ?_)
  obtain ⟨rfl, rfl⟩ := hp6
  obtain rfl := Option.some.inj hw6
  refine A_h (MW s K be er st na pi tr bi sz nu as' im at' op sp us (nI n) (nI k) ip) rfl ?_
  refine A_iret hE dX9_kindNow_9 ⟨rfl, rfl⟩
set_option maxRecDepth 100000 in
theorem c_X9_mNow (s K be er st na pi tr bi sz nu as' : Nat → Int32) (im at' op sp us tn sk ip : Int32) (n k : Nat) (hk : k < 8) : AMet yX9_mNow cX9_mNow 1 (some (.int)) 1 0 0 [.ref 0] (MW s K be er st na pi tr bi sz nu as' im at' op sp us (nI n) (nI k) ip) (pI fun x h => x = its s k 1 ∧ h = MW s K be er st na pi tr bi sz nu as' im at' op sp us (nI n) (nI k) ip) := by
  refine AMet.of (by decide +kernel) rfl (fun E ad0 hE => ?_)
  refine A_aload_n hE 1 dX9_mNow_0 rfl rfl ?_
  refine A_aload_n hE 2 dX9_mNow_1 rfl rfl ?_
  refine A_get hE 5 dX9_mNow_2 rfl fkX9_201 rfl rfl ?_
  refine A_iconst hE 6 dX9_mNow_5 rfl (1) rfl ?_
  refine A_callVi hE 9 (c_X9_its s K be er st na pi tr bi sz nu as' im at' op sp us (nI n) (nI k) ip (nI k) 1 k 1 rfl rfl hk (by omega)) [0, 1, 2, 3, 4, 5, 6, 7, 8, 9, 10, 11, 12] dX9_mNow_6 rfl mkX9_111 rfl rfl rfl rfl rfl rfl rfl (Nat.le_of_ble_eq_true rfl) (Nat.le_of_ble_eq_true rfl) rfl (fun x6 h6 g6 hp6 hw6 => ?_)
  obtain ⟨rfl, rfl⟩ := hp6
  obtain rfl := Option.some.inj hw6
  refine A_h (MW s K be er st na pi tr bi sz nu as' im at' op sp us (nI n) (nI k) ip) rfl ?_
  refine A_iret hE dX9_mNow_9 ⟨rfl, rfl⟩
set_option maxRecDepth 100000 in
theorem c_mcu_0 (s K be er st na pi tr bi sz nu as' : Nat → Int32) (im at' op sp us tn sk ip : Int32) (n k : Nat) (hn30 : n ≤ 30) (hk : k < 8) (x : Int32) : AMet yX9_cutsAs cX9_cutsAs 3 (some (.int)) 1 0 0 [.ref 0, .int 0, .int x] (MW s K be er st na pi tr bi sz nu as' im at' op sp us (nI n) (nI k) ip) (pI fun r h => r = cuV (nI k) 0 x ∧ h = MW s K be er st na pi (apF (cuT 0) n tr) bi sz nu as' im at' op sp us (nI (apN (cuT 0) n)) (nI k) ip) := by
  refine AMet.of (by decide +kernel) rfl (fun E ad0 hE => ?_)
  refine A_iload_n hE 1 dX9_cutsAs_0 rfl rfl ?_
  refine A_tabIn hE 44 dX9_cutsAs_1 (by decide) (by decide) (off := 43) (by decide) rfl ?_
  refine A_aload_n hE 45 dX9_cutsAs_44 rfl rfl ?_
  refine A_bipush hE 47 dX9_cutsAs_45 rfl (10) (by decide) ?_
  refine A_callVv hE 50 (c_X9_begins s K be er st na pi tr bi sz nu as' im at' op sp us (nI n) (nI k) ip n k (hn30) 10) [0, 1, 2, 3, 4, 5, 6, 7, 8, 9, 10, 11, 12] dX9_cutsAs_47 rfl mkX9_204 rfl rfl rfl rfl rfl rfl rfl (Nat.le_of_ble_eq_true rfl) (Nat.le_of_ble_eq_true rfl) rfl (fun h47 g47 hp47 hw47 => ?_)
  obtain rfl := hp47
  obtain rfl := Option.some.inj hw47
  refine A_h (MW s K be er st na pi (pF n tr 10) bi sz nu as' im at' op sp us (nI (pN n)) (nI k) ip) rfl ?_
  refine A_iload_n hE 51 dX9_cutsAs_50 rfl rfl ?_
  refine A_aload_n hE 52 dX9_cutsAs_51 rfl rfl ?_
  refine A_get hE 55 dX9_cutsAs_52 rfl fkX9_201 rfl rfl ?_
  refine A_iadd hE 56 dX9_cutsAs_55 rfl ?_
  refine A_iret hE dX9_cutsAs_56 ⟨rfl, rfl⟩
set_option maxRecDepth 100000 in
theorem c_mcu_2 (s K be er st na pi tr bi sz nu as' : Nat → Int32) (im at' op sp us tn sk ip : Int32) (n k : Nat) (hn30 : n ≤ 30) (hk : k < 8) (x : Int32) : AMet yX9_cutsAs cX9_cutsAs 3 (some (.int)) 2 0 0 [.ref 0, .int 2, .int x] (MW s K be er st na pi tr bi sz nu as' im at' op sp us (nI n) (nI k) ip) (pI fun r h => r = cuV (nI k) 2 x ∧ h = MW s K be er st na pi (apF (cuT 2) n tr) bi sz nu as' im at' op sp us (nI (apN (cuT 2) n)) (nI k) ip) := by
  refine AMet.of (by decide +kernel) rfl (fun E ad0 hE => ?_)
  refine A_iload_n hE 1 dX9_cutsAs_0 rfl rfl ?_
  refine A_tabIn hE 102 dX9_cutsAs_1 (by decide) (by decide) (off := 101) (by decide) rfl ?_
  refine A_aload_n hE 103 dX9_cutsAs_102 rfl rfl ?_
  refine A_iload_n hE 104 dX9_cutsAs_103 rfl rfl ?_
  refine A_callSi hE 107 (c_X9_above 2) [] dX9_cutsAs_104 rfl mkX9_159 rfl rfl rfl rfl rfl rfl (Nat.le_of_ble_eq_true rfl) (Nat.le_of_ble_eq_true rfl) rfl (fun x104 h104 g104 hp104 hw104 => ?_)
  obtain ⟨rfl, rfl⟩ := hp104
  obtain rfl := Option.some.inj hw104
  rw [show abv 2 = 0 from rfl]
  refine A_iload_n hE 108 dX9_cutsAs_107 rfl rfl ?_
  refine A_callVi hE 111 (c_mcu_0 s K be er st na pi tr bi sz nu as' im at' op sp us (nI n) (nI k) ip n k (hn30) hk x) [0, 1, 2, 3, 4, 5, 6, 7, 8, 9, 10, 11, 12] dX9_cutsAs_108 rfl mkX9_207 rfl rfl rfl rfl rfl rfl rfl (Nat.le_of_ble_eq_true rfl) (Nat.le_of_ble_eq_true rfl) rfl (fun x108 h108 g108 hp108 hw108 => ?_)
  obtain ⟨rfl, rfl⟩ := hp108
  obtain rfl := Option.some.inj hw108
  refine A_h (MW s K be er st na pi (apF (cuT 0) n tr) bi sz nu as' im at' op sp us (nI (apN (cuT 0) n)) (nI k) ip) rfl ?_
  refine A_iret hE dX9_cutsAs_111 ⟨rfl, rfl⟩
set_option maxRecDepth 100000 in
theorem c_mcu_3 (s K be er st na pi tr bi sz nu as' : Nat → Int32) (im at' op sp us tn sk ip : Int32) (n k : Nat) (hn30 : n ≤ 30) (hk : k < 8) (x : Int32) : AMet yX9_cutsAs cX9_cutsAs 3 (some (.int)) 2 0 0 [.ref 0, .int 3, .int x] (MW s K be er st na pi tr bi sz nu as' im at' op sp us (nI n) (nI k) ip) (pI fun r h => r = cuV (nI k) 3 x ∧ h = MW s K be er st na pi (apF (cuT 3) n tr) bi sz nu as' im at' op sp us (nI (apN (cuT 3) n)) (nI k) ip) := by
  refine AMet.of (by decide +kernel) rfl (fun E ad0 hE => ?_)
  refine A_iload_n hE 1 dX9_cutsAs_0 rfl rfl ?_
  refine A_tabIn hE 102 dX9_cutsAs_1 (by decide) (by decide) (off := 101) (by decide) rfl ?_
  refine A_aload_n hE 103 dX9_cutsAs_102 rfl rfl ?_
  refine A_iload_n hE 104 dX9_cutsAs_103 rfl rfl ?_
  refine A_callSi hE 107 (c_X9_above 3) [] dX9_cutsAs_104 rfl mkX9_159 rfl rfl rfl rfl rfl rfl (Nat.le_of_ble_eq_true rfl) (Nat.le_of_ble_eq_true rfl) rfl (fun x104 h104 g104 hp104 hw104 => ?_)
  obtain ⟨rfl, rfl⟩ := hp104
  obtain rfl := Option.some.inj hw104
  rw [show abv 3 = 0 from rfl]
  refine A_iload_n hE 108 dX9_cutsAs_107 rfl rfl ?_
  refine A_callVi hE 111 (c_mcu_0 s K be er st na pi tr bi sz nu as' im at' op sp us (nI n) (nI k) ip n k (hn30) hk x) [0, 1, 2, 3, 4, 5, 6, 7, 8, 9, 10, 11, 12] dX9_cutsAs_108 rfl mkX9_207 rfl rfl rfl rfl rfl rfl rfl (Nat.le_of_ble_eq_true rfl) (Nat.le_of_ble_eq_true rfl) rfl (fun x108 h108 g108 hp108 hw108 => ?_)
  obtain ⟨rfl, rfl⟩ := hp108
  obtain rfl := Option.some.inj hw108
  refine A_h (MW s K be er st na pi (apF (cuT 0) n tr) bi sz nu as' im at' op sp us (nI (apN (cuT 0) n)) (nI k) ip) rfl ?_
  refine A_iret hE dX9_cutsAs_111 ⟨rfl, rfl⟩
set_option maxRecDepth 100000 in
theorem c_mcu_5 (s K be er st na pi tr bi sz nu as' : Nat → Int32) (im at' op sp us tn sk ip : Int32) (n k : Nat) (hn30 : n ≤ 30) (hk : k < 8) (x : Int32) : AMet yX9_cutsAs cX9_cutsAs 3 (some (.int)) 3 0 0 [.ref 0, .int 5, .int x] (MW s K be er st na pi tr bi sz nu as' im at' op sp us (nI n) (nI k) ip) (pI fun r h => r = cuV (nI k) 5 x ∧ h = MW s K be er st na pi (apF (cuT 5) n tr) bi sz nu as' im at' op sp us (nI (apN (cuT 5) n)) (nI k) ip) := by
  refine AMet.of (by decide +kernel) rfl (fun E ad0 hE => ?_)
  refine A_iload_n hE 1 dX9_cutsAs_0 rfl rfl ?_
  refine A_tabIn hE 102 dX9_cutsAs_1 (by decide) (by decide) (off := 101) (by decide) rfl ?_
  refine A_aload_n hE 103 dX9_cutsAs_102 rfl rfl ?_
  refine A_iload_n hE 104 dX9_cutsAs_103 rfl rfl ?_
  refine A_callSi hE 107 (c_X9_above 5) [] dX9_cutsAs_104 rfl mkX9_159 rfl rfl rfl rfl rfl rfl (Nat.le_of_ble_eq_true rfl) (Nat.le_of_ble_eq_true rfl) rfl (fun x104 h104 g104 hp104 hw104 => ?_)
  obtain ⟨rfl, rfl⟩ := hp104
  obtain rfl := Option.some.inj hw104
  rw [show abv 5 = 2 from rfl]
  refine A_iload_n hE 108 dX9_cutsAs_107 rfl rfl ?_
  refine A_callVi hE 111 (c_mcu_2 s K be er st na pi tr bi sz nu as' im at' op sp us (nI n) (nI k) ip n k (hn30) hk x) [0, 1, 2, 3, 4, 5, 6, 7, 8, 9, 10, 11, 12] dX9_cutsAs_108 rfl mkX9_207 rfl rfl rfl rfl rfl rfl rfl (Nat.le_of_ble_eq_true rfl) (Nat.le_of_ble_eq_true rfl) rfl (fun x108 h108 g108 hp108 hw108 => ?_)
  obtain ⟨rfl, rfl⟩ := hp108
  obtain rfl := Option.some.inj hw108
  refine A_h (MW s K be er st na pi (apF (cuT 2) n tr) bi sz nu as' im at' op sp us (nI (apN (cuT 2) n)) (nI k) ip) rfl ?_
  refine A_iret hE dX9_cutsAs_111 ⟨rfl, rfl⟩
set_option maxRecDepth 100000 in
theorem c_mcu_6 (s K be er st na pi tr bi sz nu as' : Nat → Int32) (im at' op sp us tn sk ip : Int32) (n k : Nat) (hn30 : n ≤ 30) (hk : k < 8) (x : Int32) : AMet yX9_cutsAs cX9_cutsAs 3 (some (.int)) 1 0 0 [.ref 0, .int 6, .int x] (MW s K be er st na pi tr bi sz nu as' im at' op sp us (nI n) (nI k) ip) (pI fun r h => r = cuV (nI k) 6 x ∧ h = MW s K be er st na pi (apF (cuT 6) n tr) bi sz nu as' im at' op sp us (nI (apN (cuT 6) n)) (nI k) ip) := by
  refine AMet.of (by decide +kernel) rfl (fun E ad0 hE => ?_)
  refine A_iload_n hE 1 dX9_cutsAs_0 rfl rfl ?_
  refine A_tabIn hE 93 dX9_cutsAs_1 (by decide) (by decide) (off := 92) (by decide) rfl ?_
  refine A_aload_n hE 94 dX9_cutsAs_93 rfl rfl ?_
  refine A_bipush hE 96 dX9_cutsAs_94 rfl (70) (by decide) ?_
  refine A_callVv hE 99 (c_X9_begins s K be er st na pi tr bi sz nu as' im at' op sp us (nI n) (nI k) ip n k (hn30) 70) [0, 1, 2, 3, 4, 5, 6, 7, 8, 9, 10, 11, 12] dX9_cutsAs_96 rfl mkX9_204 rfl rfl rfl rfl rfl rfl rfl (Nat.le_of_ble_eq_true rfl) (Nat.le_of_ble_eq_true rfl) rfl (fun h96 g96 hp96 hw96 => ?_)
  obtain rfl := hp96
  obtain rfl := Option.some.inj hw96
  refine A_h (MW s K be er st na pi (pF n tr 70) bi sz nu as' im at' op sp us (nI (pN n)) (nI k) ip) rfl ?_
  refine A_bipush hE 101 dX9_cutsAs_99 rfl (9) (by decide) ?_
  refine A_iret hE dX9_cutsAs_101 ⟨rfl, rfl⟩
set_option maxRecDepth 100000 in
theorem c_mcu_1 (s K be er st na pi tr bi sz nu as' : Nat → Int32) (im at' op sp us tn sk ip : Int32) (n k : Nat) (hn30 : n ≤ 30) (hk : k < 8) (x : Int32) : AMet yX9_cutsAs cX9_cutsAs 3 (some (.int)) 2 0 0 [.ref 0, .int 1, .int x] (MW s K be er st na pi tr bi sz nu as' im at' op sp us (nI n) (nI k) ip) (pI fun r h => r = cuV (nI k) 1 x ∧ h = MW s K be er st na pi (apF (cuT 1) n tr) bi sz nu as' im at' op sp us (nI (apN (cuT 1) n)) (nI k) ip) := by
  refine AMet.of (by decide +kernel) rfl (fun E ad0 hE => ?_)
  refine A_iload_n hE 1 dX9_cutsAs_0 rfl rfl ?_
  refine A_tabIn hE 57 dX9_cutsAs_1 (by decide) (by decide) (off := 56) (by decide) rfl ?_
  refine A_aload_n hE 58 dX9_cutsAs_57 rfl rfl ?_
  refine A_bipush hE 60 dX9_cutsAs_58 rfl (20) (by decide) ?_
  refine A_callVv hE 63 (c_X9_begins s K be er st na pi tr bi sz nu as' im at' op sp us (nI n) (nI k) ip n k (hn30) 20) [0, 1, 2, 3, 4, 5, 6, 7, 8, 9, 10, 11, 12] dX9_cutsAs_60 rfl mkX9_204 rfl rfl rfl rfl rfl rfl rfl (Nat.le_of_ble_eq_true rfl) (Nat.le_of_ble_eq_true rfl) rfl (fun h60 g60 hp60 hw60 => ?_)
  obtain rfl := hp60
  obtain rfl := Option.some.inj hw60
  refine A_h (MW s K be er st na pi (pF n tr 20) bi sz nu as' im at' op sp us (nI (pN n)) (nI k) ip) rfl ?_
  refine A_aload_n hE 64 dX9_cutsAs_63 rfl rfl ?_
  refine A_iconst hE 65 dX9_cutsAs_64 rfl (1) rfl ?_
  refine A_callSi hE 68 (c_X9_above 1) [] dX9_cutsAs_65 rfl mkX9_159 rfl rfl rfl rfl rfl rfl (Nat.le_of_ble_eq_true rfl) (Nat.le_of_ble_eq_true rfl) rfl (fun x65 h65 g65 hp65 hw65 => ?_)
  obtain ⟨rfl, rfl⟩ := hp65
  obtain rfl := Option.some.inj hw65
  rw [show abv 1 = 0 from rfl]
  refine A_iload_n hE 69 dX9_cutsAs_68 rfl rfl ?_
  refine A_callVi hE 72 (c_mcu_0 s K be er st na pi (pF n tr 20) bi sz nu as' im at' op sp us (nI (pN n)) (nI k) ip (pN n) k (pN_le (hn30)) hk x) [0, 1, 2, 3, 4, 5, 6, 7, 8, 9, 10, 11, 12] dX9_cutsAs_69 rfl mkX9_207 rfl rfl rfl rfl rfl rfl rfl (Nat.le_of_ble_eq_true rfl) (Nat.le_of_ble_eq_true rfl) rfl (fun x69 h69 g69 hp69 hw69 => ?_)
  obtain ⟨rfl, rfl⟩ := hp69
  obtain rfl := Option.some.inj hw69
  refine A_h (MW s K be er st na pi (apF (cuT 0) (pN n) (pF n tr 20)) bi sz nu as' im at' op sp us (nI (apN (cuT 0) (pN n))) (nI k) ip) rfl ?_
  refine A_iconst hE 73 dX9_cutsAs_72 rfl (4) rfl ?_
  refine A_isub hE 74 dX9_cutsAs_73 rfl ?_
  refine A_iret hE dX9_cutsAs_74 ⟨rfl, rfl⟩
set_option maxRecDepth 100000 in
theorem c_mcu_4 (s K be er st na pi tr bi sz nu as' : Nat → Int32) (im at' op sp us tn sk ip : Int32) (n k : Nat) (hn30 : n ≤ 30) (hk : k < 8) (x : Int32) : AMet yX9_cutsAs cX9_cutsAs 3 (some (.int)) 3 0 0 [.ref 0, .int 4, .int x] (MW s K be er st na pi tr bi sz nu as' im at' op sp us (nI n) (nI k) ip) (pI fun r h => r = cuV (nI k) 4 x ∧ h = MW s K be er st na pi (apF (cuT 4) n tr) bi sz nu as' im at' op sp us (nI (apN (cuT 4) n)) (nI k) ip) := by
  refine AMet.of (by decide +kernel) rfl (fun E ad0 hE => ?_)
  refine A_iload_n hE 1 dX9_cutsAs_0 rfl rfl ?_
  refine A_tabIn hE 75 dX9_cutsAs_1 (by decide) (by decide) (off := 74) (by decide) rfl ?_
  refine A_aload_n hE 76 dX9_cutsAs_75 rfl rfl ?_
  refine A_bipush hE 78 dX9_cutsAs_76 rfl (50) (by decide) ?_
  refine A_callVv hE 81 (c_X9_begins s K be er st na pi tr bi sz nu as' im at' op sp us (nI n) (nI k) ip n k (hn30) 50) [0, 1, 2, 3, 4, 5, 6, 7, 8, 9, 10, 11, 12] dX9_cutsAs_78 rfl mkX9_204 rfl rfl rfl rfl rfl rfl rfl (Nat.le_of_ble_eq_true rfl) (Nat.le_of_ble_eq_true rfl) rfl (fun h78 g78 hp78 hw78 => ?_)
  obtain rfl := hp78
  obtain rfl := Option.some.inj hw78
  refine A_h (MW s K be er st na pi (pF n tr 50) bi sz nu as' im at' op sp us (nI (pN n)) (nI k) ip) rfl ?_
  refine A_aload_n hE 82 dX9_cutsAs_81 rfl rfl ?_
  refine A_iconst hE 83 dX9_cutsAs_82 rfl (4) rfl ?_
  refine A_callSi hE 86 (c_X9_above 4) [] dX9_cutsAs_83 rfl mkX9_159 rfl rfl rfl rfl rfl rfl (Nat.le_of_ble_eq_true rfl) (Nat.le_of_ble_eq_true rfl) rfl (fun x83 h83 g83 hp83 hw83 => ?_)
  obtain ⟨rfl, rfl⟩ := hp83
  obtain rfl := Option.some.inj hw83
  rw [show abv 4 = 1 from rfl]
  refine A_iload_n hE 87 dX9_cutsAs_86 rfl rfl ?_
  refine A_callVi hE 90 (c_mcu_1 s K be er st na pi (pF n tr 50) bi sz nu as' im at' op sp us (nI (pN n)) (nI k) ip (pN n) k (pN_le (hn30)) hk x) [0, 1, 2, 3, 4, 5, 6, 7, 8, 9, 10, 11, 12] dX9_cutsAs_87 rfl mkX9_207 rfl rfl rfl rfl rfl rfl rfl (Nat.le_of_ble_eq_true rfl) (Nat.le_of_ble_eq_true rfl) rfl (fun x87 h87 g87 hp87 hw87 => ?_)
  obtain ⟨rfl, rfl⟩ := hp87
  obtain rfl := Option.some.inj hw87
  refine A_h (MW s K be er st na pi (apF (cuT 1) (pN n) (pF n tr 50)) bi sz nu as' im at' op sp us (nI (apN (cuT 1) (pN n))) (nI k) ip) rfl ?_
  refine A_iconst hE 91 dX9_cutsAs_90 rfl (3) rfl ?_
  refine A_imul hE 92 dX9_cutsAs_91 rfl ?_
  refine A_iret hE dX9_cutsAs_92 ⟨rfl, rfl⟩
theorem c_mcu (f : Nat) (hf : f < 7) (s K be er st na pi tr bi sz nu as' : Nat → Int32) (im at' op sp us tn sk ip : Int32) (n k : Nat) (hn30 : n ≤ 30) (hk : k < 8) (x : Int32) : AMet yX9_cutsAs cX9_cutsAs 3 (some .int) 3 0 0 [.ref 0, .int (nI f), .int x] (MW s K be er st na pi tr bi sz nu as' im at' op sp us (nI n) (nI k) ip) (pI fun r h => r = cuV (nI k) f x ∧ h = MW s K be er st na pi (apF (cuT f) n tr) bi sz nu as' im at' op sp us (nI (apN (cuT f) n)) (nI k) ip) := by
  match f, hf with
  | 0, _ => exact (c_mcu_0 s K be er st na pi tr bi sz nu as' im at' op sp us tn sk ip n k hn30 hk x).mono rfl
  | 1, _ => exact (c_mcu_1 s K be er st na pi tr bi sz nu as' im at' op sp us tn sk ip n k hn30 hk x).mono rfl
  | 2, _ => exact (c_mcu_2 s K be er st na pi tr bi sz nu as' im at' op sp us tn sk ip n k hn30 hk x).mono rfl
  | 3, _ => exact (c_mcu_3 s K be er st na pi tr bi sz nu as' im at' op sp us tn sk ip n k hn30 hk x).mono rfl
  | 4, _ => exact (c_mcu_4 s K be er st na pi tr bi sz nu as' im at' op sp us tn sk ip n k hn30 hk x).mono rfl
  | 5, _ => exact (c_mcu_5 s K be er st na pi tr bi sz nu as' im at' op sp us tn sk ip n k hn30 hk x).mono rfl
  | 6, _ => exact (c_mcu_6 s K be er st na pi tr bi sz nu as' im at' op sp us tn sk ip n k hn30 hk x).mono rfl

set_option maxRecDepth 100000 in
theorem c_msa_0 (s K be er st na pi tr bi sz nu as' : Nat → Int32) (im at' op sp us tn sk ip : Int32) (n k : Nat) (hn30 : n ≤ 30) (hk : k < 8) (kd : Nat) (hK : kd < 7) (hKd : its s k 0 = nI kd) (x : Int32) : AMet yX9_saysAs cX9_saysAs 3 (some (.int)) 4 0 0 [.ref 0, .int 0, .int x] (MW s K be er st na pi tr bi sz nu as' im at' op sp us (nI n) (nI k) ip) (pI fun r h => r = saV (nI k) (its s k 1) kd 0 x ∧ h = MW s K be er st na pi (apF (saT kd 0) n tr) bi sz nu as' im at' op sp us (nI (apN (saT kd 0) n)) (nI k) ip) := by
  refine AMet.of (by decide +kernel) rfl (fun E ad0 hE => ?_)
  refine A_iload_n hE 1 dX9_saysAs_0 rfl rfl ?_
  refine A_tabIn hE 44 dX9_saysAs_1 (by decide) (by decide) (off := 43) (by decide) rfl ?_
  refine A_aload_n hE 45 dX9_saysAs_44 rfl rfl ?_
  refine A_bipush hE 47 dX9_saysAs_45 rfl (11) (by decide) ?_
  refine A_callVv hE 50 (c_X9_begins s K be er st na pi tr bi sz nu as' im at' op sp us (nI n) (nI k) ip n k (hn30) 11) [0, 1, 2, 3, 4, 5, 6, 7, 8, 9, 10, 11, 12] dX9_saysAs_47 rfl mkX9_204 rfl rfl rfl rfl rfl rfl rfl (Nat.le_of_ble_eq_true rfl) (Nat.le_of_ble_eq_true rfl) rfl (fun h47 g47 hp47 hw47 => ?_)
  obtain rfl := hp47
  obtain rfl := Option.some.inj hw47
  refine A_h (MW s K be er st na pi (pF n tr 11) bi sz nu as' im at' op sp us (nI (pN n)) (nI k) ip) rfl ?_
  refine A_aload_n hE 51 dX9_saysAs_50 rfl rfl ?_
  refine A_aload_n hE 52 dX9_saysAs_51 rfl rfl ?_
  refine A_callVi hE 55 (c_X9_kindNow s K be er st na pi (pF n tr 11) bi sz nu as' im at' op sp us (nI (pN n)) (nI k) ip (pN n) k hk) [0, 1, 2, 3, 4, 5, 6, 7, 8, 9, 10, 11, 12] dX9_saysAs_52 rfl mkX9_210 rfl rfl rfl rfl rfl rfl rfl (Nat.le_of_ble_eq_true rfl) (Nat.le_of_ble_eq_true rfl) rfl (fun x52 h52 g52 hp52 hw52 => ?_)
  obtain ⟨rfl, rfl⟩ := hp52
  obtain rfl := Option.some.inj hw52
  refine A_h (MW s K be er st na pi (pF n tr 11) bi sz nu as' im at' op sp us (nI (pN n)) (nI k) ip) rfl ?_
  rw [hKd]
  refine A_iload_n hE 56 dX9_saysAs_55 rfl rfl ?_
  refine A_callVi hE 59 (c_mcu kd hK s K be er st na pi (pF n tr 11) bi sz nu as' im at' op sp us (nI (pN n)) (nI k) ip (pN n) k (pN_le (hn30)) hk x) [0, 1, 2, 3, 4, 5, 6, 7, 8, 9, 10, 11, 12] dX9_saysAs_56 rfl mkX9_207 rfl rfl rfl rfl rfl rfl rfl (Nat.le_of_ble_eq_true rfl) (Nat.le_of_ble_eq_true rfl) rfl (fun x56 h56 g56 hp56 hw56 => ?_)
  obtain ⟨rfl, rfl⟩ := hp56
  obtain rfl := Option.some.inj hw56
  refine A_h (MW s K be er st na pi (apF (cuT kd) (pN n) (pF n tr 11)) bi sz nu as' im at' op sp us (nI (apN (cuT kd) (pN n))) (nI k) ip) rfl ?_
  refine A_iconst hE 60 dX9_saysAs_59 rfl (2) rfl ?_
  refine A_imul hE 61 dX9_saysAs_60 rfl ?_
  refine A_iret hE dX9_saysAs_61 ⟨rfl, rfl⟩
set_option maxRecDepth 100000 in
theorem c_msa_1 (s K be er st na pi tr bi sz nu as' : Nat → Int32) (im at' op sp us tn sk ip : Int32) (n k : Nat) (hn30 : n ≤ 30) (hk : k < 8) (kd : Nat) (hK : kd < 7) (hKd : its s k 0 = nI kd) (x : Int32) : AMet yX9_saysAs cX9_saysAs 3 (some (.int)) 5 0 0 [.ref 0, .int 1, .int x] (MW s K be er st na pi tr bi sz nu as' im at' op sp us (nI n) (nI k) ip) (pI fun r h => r = saV (nI k) (its s k 1) kd 1 x ∧ h = MW s K be er st na pi (apF (saT kd 1) n tr) bi sz nu as' im at' op sp us (nI (apN (saT kd 1) n)) (nI k) ip) := by
  refine AMet.of (by decide +kernel) rfl (fun E ad0 hE => ?_)
  refine A_iload_n hE 1 dX9_saysAs_0 rfl rfl ?_
  refine A_tabIn hE 120 dX9_saysAs_1 (by decide) (by decide) (off := 119) (by decide) rfl ?_
  refine A_aload_n hE 121 dX9_saysAs_120 rfl rfl ?_
  refine A_iload_n hE 122 dX9_saysAs_121 rfl rfl ?_
  refine A_callSi hE 125 (c_X9_above 1) [] dX9_saysAs_122 rfl mkX9_159 rfl rfl rfl rfl rfl rfl (Nat.le_of_ble_eq_true rfl) (Nat.le_of_ble_eq_true rfl) rfl (fun x122 h122 g122 hp122 hw122 => ?_)
  obtain ⟨rfl, rfl⟩ := hp122
  obtain rfl := Option.some.inj hw122
  rw [show abv 1 = 0 from rfl]
  refine A_iload_n hE 126 dX9_saysAs_125 rfl rfl ?_
  refine A_callVi hE 129 (c_msa_0 s K be er st na pi tr bi sz nu as' im at' op sp us (nI n) (nI k) ip n k (hn30) hk kd hK hKd x) [0, 1, 2, 3, 4, 5, 6, 7, 8, 9, 10, 11, 12] dX9_saysAs_126 rfl mkX9_213 rfl rfl rfl rfl rfl rfl rfl (Nat.le_of_ble_eq_true rfl) (Nat.le_of_ble_eq_true rfl) rfl (fun x126 h126 g126 hp126 hw126 => ?_)
  obtain ⟨rfl, rfl⟩ := hp126
  obtain rfl := Option.some.inj hw126
  refine A_h (MW s K be er st na pi (apF (saT kd 0) n tr) bi sz nu as' im at' op sp us (nI (apN (saT kd 0) n)) (nI k) ip) rfl ?_
  refine A_iret hE dX9_saysAs_129 ⟨rfl, rfl⟩
set_option maxRecDepth 100000 in
theorem c_msa_2 (s K be er st na pi tr bi sz nu as' : Nat → Int32) (im at' op sp us tn sk ip : Int32) (n k : Nat) (hn30 : n ≤ 30) (hk : k < 8) (kd : Nat) (hK : kd < 7) (hKd : its s k 0 = nI kd) (x : Int32) : AMet yX9_saysAs cX9_saysAs 3 (some (.int)) 5 0 0 [.ref 0, .int 2, .int x] (MW s K be er st na pi tr bi sz nu as' im at' op sp us (nI n) (nI k) ip) (pI fun r h => r = saV (nI k) (its s k 1) kd 2 x ∧ h = MW s K be er st na pi (apF (saT kd 2) n tr) bi sz nu as' im at' op sp us (nI (apN (saT kd 2) n)) (nI k) ip) := by
  refine AMet.of (by decide +kernel) rfl (fun E ad0 hE => ?_)
  refine A_iload_n hE 1 dX9_saysAs_0 rfl rfl ?_
  refine A_tabIn hE 62 dX9_saysAs_1 (by decide) (by decide) (off := 61) (by decide) rfl ?_
  refine A_aload_n hE 63 dX9_saysAs_62 rfl rfl ?_
  refine A_bipush hE 65 dX9_saysAs_63 rfl (30) (by decide) ?_
  refine A_callVv hE 68 (c_X9_begins s K be er st na pi tr bi sz nu as' im at' op sp us (nI n) (nI k) ip n k (hn30) 30) [0, 1, 2, 3, 4, 5, 6, 7, 8, 9, 10, 11, 12] dX9_saysAs_65 rfl mkX9_204 rfl rfl rfl rfl rfl rfl rfl (Nat.le_of_ble_eq_true rfl) (Nat.le_of_ble_eq_true rfl) rfl (fun h65 g65 hp65 hw65 => ?_)
  obtain rfl := hp65
  obtain rfl := Option.some.inj hw65
  refine A_h (MW s K be er st na pi (pF n tr 30) bi sz nu as' im at' op sp us (nI (pN n)) (nI k) ip) rfl ?_
  refine A_iconst hE 69 dX9_saysAs_68 rfl (0) rfl ?_
  refine A_aload_n hE 70 dX9_saysAs_69 rfl rfl ?_
  refine A_iconst hE 71 dX9_saysAs_70 rfl (2) rfl ?_
  refine A_callSi hE 74 (c_X9_above 2) [] dX9_saysAs_71 rfl mkX9_159 rfl rfl rfl rfl rfl rfl (Nat.le_of_ble_eq_true rfl) (Nat.le_of_ble_eq_true rfl) rfl (fun x71 h71 g71 hp71 hw71 => ?_)
  obtain ⟨rfl, rfl⟩ := hp71
  obtain rfl := Option.some.inj hw71
  rw [show abv 2 = 0 from rfl]
  refine A_iload_n hE 75 dX9_saysAs_74 rfl rfl ?_
  refine A_callVi hE 78 (c_msa_0 s K be er st na pi (pF n tr 30) bi sz nu as' im at' op sp us (nI (pN n)) (nI k) ip (pN n) k (pN_le (hn30)) hk kd hK hKd x) [0, 1, 2, 3, 4, 5, 6, 7, 8, 9, 10, 11, 12] dX9_saysAs_75 rfl mkX9_213 rfl rfl rfl rfl rfl rfl rfl (Nat.le_of_ble_eq_true rfl) (Nat.le_of_ble_eq_true rfl) rfl (fun x75 h75 g75 hp75 hw75 => ?_)
  obtain ⟨rfl, rfl⟩ := hp75
  obtain rfl := Option.some.inj hw75
  refine A_h (MW s K be er st na pi (apF (saT kd 0) (pN n) (pF n tr 30)) bi sz nu as' im at' op sp us (nI (apN (saT kd 0) (pN n))) (nI k) ip) rfl ?_
  refine A_isub hE 79 dX9_saysAs_78 rfl ?_
  refine A_iret hE dX9_saysAs_79 ⟨rfl, rfl⟩
set_option maxRecDepth 100000 in
theorem c_msa_3 (s K be er st na pi tr bi sz nu as' : Nat → Int32) (im at' op sp us tn sk ip : Int32) (n k : Nat) (hn30 : n ≤ 30) (hk : k < 8) (kd : Nat) (hK : kd < 7) (hKd : its s k 0 = nI kd) (x : Int32) : AMet yX9_saysAs cX9_saysAs 3 (some (.int)) 5 0 0 [.ref 0, .int 3, .int x] (MW s K be er st na pi tr bi sz nu as' im at' op sp us (nI n) (nI k) ip) (pI fun r h => r = saV (nI k) (its s k 1) kd 3 x ∧ h = MW s K be er st na pi (apF (saT kd 3) n tr) bi sz nu as' im at' op sp us (nI (apN (saT kd 3) n)) (nI k) ip) := by
  refine AMet.of (by decide +kernel) rfl (fun E ad0 hE => ?_)
  refine A_iload_n hE 1 dX9_saysAs_0 rfl rfl ?_
  refine A_tabIn hE 120 dX9_saysAs_1 (by decide) (by decide) (off := 119) (by decide) rfl ?_
  refine A_aload_n hE 121 dX9_saysAs_120 rfl rfl ?_
  refine A_iload_n hE 122 dX9_saysAs_121 rfl rfl ?_
  refine A_callSi hE 125 (c_X9_above 3) [] dX9_saysAs_122 rfl mkX9_159 rfl rfl rfl rfl rfl rfl (Nat.le_of_ble_eq_true rfl) (Nat.le_of_ble_eq_true rfl) rfl (fun x122 h122 g122 hp122 hw122 => ?_)
  obtain ⟨rfl, rfl⟩ := hp122
  obtain rfl := Option.some.inj hw122
  rw [show abv 3 = 0 from rfl]
  refine A_iload_n hE 126 dX9_saysAs_125 rfl rfl ?_
  refine A_callVi hE 129 (c_msa_0 s K be er st na pi tr bi sz nu as' im at' op sp us (nI n) (nI k) ip n k (hn30) hk kd hK hKd x) [0, 1, 2, 3, 4, 5, 6, 7, 8, 9, 10, 11, 12] dX9_saysAs_126 rfl mkX9_213 rfl rfl rfl rfl rfl rfl rfl (Nat.le_of_ble_eq_true rfl) (Nat.le_of_ble_eq_true rfl) rfl (fun x126 h126 g126 hp126 hw126 => ?_)
  obtain ⟨rfl, rfl⟩ := hp126
  obtain rfl := Option.some.inj hw126
  refine A_h (MW s K be er st na pi (apF (saT kd 0) n tr) bi sz nu as' im at' op sp us (nI (apN (saT kd 0) n)) (nI k) ip) rfl ?_
  refine A_iret hE dX9_saysAs_129 ⟨rfl, rfl⟩
set_option maxRecDepth 100000 in
theorem c_msa_4 (s K be er st na pi tr bi sz nu as' : Nat → Int32) (im at' op sp us tn sk ip : Int32) (n k : Nat) (hn30 : n ≤ 30) (hk : k < 8) (kd : Nat) (hK : kd < 7) (hKd : its s k 0 = nI kd) (x : Int32) : AMet yX9_saysAs cX9_saysAs 3 (some (.int)) 6 0 0 [.ref 0, .int 4, .int x] (MW s K be er st na pi tr bi sz nu as' im at' op sp us (nI n) (nI k) ip) (pI fun r h => r = saV (nI k) (its s k 1) kd 4 x ∧ h = MW s K be er st na pi (apF (saT kd 4) n tr) bi sz nu as' im at' op sp us (nI (apN (saT kd 4) n)) (nI k) ip) := by
  refine AMet.of (by decide +kernel) rfl (fun E ad0 hE => ?_)
  refine A_iload_n hE 1 dX9_saysAs_0 rfl rfl ?_
  refine A_tabIn hE 120 dX9_saysAs_1 (by decide) (by decide) (off := 119) (by decide) rfl ?_
  refine A_aload_n hE 121 dX9_saysAs_120 rfl rfl ?_
  refine A_iload_n hE 122 dX9_saysAs_121 rfl rfl ?_
  refine A_callSi hE 125 (c_X9_above 4) [] dX9_saysAs_122 rfl mkX9_159 rfl rfl rfl rfl rfl rfl (Nat.le_of_ble_eq_true rfl) (Nat.le_of_ble_eq_true rfl) rfl (fun x122 h122 g122 hp122 hw122 => ?_)
  obtain ⟨rfl, rfl⟩ := hp122
  obtain rfl := Option.some.inj hw122
  rw [show abv 4 = 1 from rfl]
  refine A_iload_n hE 126 dX9_saysAs_125 rfl rfl ?_
  refine A_callVi hE 129 (c_msa_1 s K be er st na pi tr bi sz nu as' im at' op sp us (nI n) (nI k) ip n k (hn30) hk kd hK hKd x) [0, 1, 2, 3, 4, 5, 6, 7, 8, 9, 10, 11, 12] dX9_saysAs_126 rfl mkX9_213 rfl rfl rfl rfl rfl rfl rfl (Nat.le_of_ble_eq_true rfl) (Nat.le_of_ble_eq_true rfl) rfl (fun x126 h126 g126 hp126 hw126 => ?_)
  obtain ⟨rfl, rfl⟩ := hp126
  obtain rfl := Option.some.inj hw126
  refine A_h (MW s K be er st na pi (apF (saT kd 1) n tr) bi sz nu as' im at' op sp us (nI (apN (saT kd 1) n)) (nI k) ip) rfl ?_
  refine A_iret hE dX9_saysAs_129 ⟨rfl, rfl⟩
set_option maxRecDepth 100000 in
theorem c_msa_5 (s K be er st na pi tr bi sz nu as' : Nat → Int32) (im at' op sp us tn sk ip : Int32) (n k : Nat) (hn30 : n ≤ 30) (hk : k < 8) (kd : Nat) (hK : kd < 7) (hKd : its s k 0 = nI kd) (x : Int32) : AMet yX9_saysAs cX9_saysAs 3 (some (.int)) 6 0 0 [.ref 0, .int 5, .int x] (MW s K be er st na pi tr bi sz nu as' im at' op sp us (nI n) (nI k) ip) (pI fun r h => r = saV (nI k) (its s k 1) kd 5 x ∧ h = MW s K be er st na pi (apF (saT kd 5) n tr) bi sz nu as' im at' op sp us (nI (apN (saT kd 5) n)) (nI k) ip) := by
  refine AMet.of (by decide +kernel) rfl (fun E ad0 hE => ?_)
  refine A_iload_n hE 1 dX9_saysAs_0 rfl rfl ?_
  refine A_tabIn hE 80 dX9_saysAs_1 (by decide) (by decide) (off := 79) (by decide) rfl ?_
  refine A_aload_n hE 81 dX9_saysAs_80 rfl rfl ?_
  refine A_bipush hE 83 dX9_saysAs_81 rfl (60) (by decide) ?_
  refine A_callVv hE 86 (c_X9_begins s K be er st na pi tr bi sz nu as' im at' op sp us (nI n) (nI k) ip n k (hn30) 60) [0, 1, 2, 3, 4, 5, 6, 7, 8, 9, 10, 11, 12] dX9_saysAs_83 rfl mkX9_204 rfl rfl rfl rfl rfl rfl rfl (Nat.le_of_ble_eq_true rfl) (Nat.le_of_ble_eq_true rfl) rfl (fun h83 g83 hp83 hw83 => ?_)
  obtain rfl := hp83
  obtain rfl := Option.some.inj hw83
  refine A_h (MW s K be er st na pi (pF n tr 60) bi sz nu as' im at' op sp us (nI (pN n)) (nI k) ip) rfl ?_
  refine A_aload_n hE 87 dX9_saysAs_86 rfl rfl ?_
  refine A_iconst hE 88 dX9_saysAs_87 rfl (5) rfl ?_
  refine A_callSi hE 91 (c_X9_above 5) [] dX9_saysAs_88 rfl mkX9_159 rfl rfl rfl rfl rfl rfl (Nat.le_of_ble_eq_true rfl) (Nat.le_of_ble_eq_true rfl) rfl (fun x88 h88 g88 hp88 hw88 => ?_)
  obtain ⟨rfl, rfl⟩ := hp88
  obtain rfl := Option.some.inj hw88
  rw [show abv 5 = 2 from rfl]
  refine A_iload_n hE 92 dX9_saysAs_91 rfl rfl ?_
  refine A_iconst hE 93 dX9_saysAs_92 rfl (1) rfl ?_
  refine A_iadd hE 94 dX9_saysAs_93 rfl ?_
  refine A_callVi hE 97 (c_msa_2 s K be er st na pi (pF n tr 60) bi sz nu as' im at' op sp us (nI (pN n)) (nI k) ip (pN n) k (pN_le (hn30)) hk kd hK hKd (x + 1)) [0, 1, 2, 3, 4, 5, 6, 7, 8, 9, 10, 11, 12] dX9_saysAs_94 rfl mkX9_213 rfl rfl rfl rfl rfl rfl rfl (Nat.le_of_ble_eq_true rfl) (Nat.le_of_ble_eq_true rfl) rfl (fun x94 h94 g94 hp94 hw94 => ?_)
  obtain ⟨rfl, rfl⟩ := hp94
  obtain rfl := Option.some.inj hw94
  refine A_h (MW s K be er st na pi (apF (saT kd 2) (pN n) (pF n tr 60)) bi sz nu as' im at' op sp us (nI (apN (saT kd 2) (pN n))) (nI k) ip) rfl ?_
  refine A_iret hE dX9_saysAs_97 ⟨rfl, rfl⟩
set_option maxRecDepth 100000 in
theorem c_msa_6 (s K be er st na pi tr bi sz nu as' : Nat → Int32) (im at' op sp us tn sk ip : Int32) (n k : Nat) (hn30 : n ≤ 30) (hk : k < 8) (kd : Nat) (hK : kd < 7) (hKd : its s k 0 = nI kd) (x : Int32) : AMet yX9_saysAs cX9_saysAs 3 (some (.int)) 5 0 0 [.ref 0, .int 6, .int x] (MW s K be er st na pi tr bi sz nu as' im at' op sp us (nI n) (nI k) ip) (pI fun r h => r = saV (nI k) (its s k 1) kd 6 x ∧ h = MW s K be er st na pi (apF (saT kd 6) n tr) bi sz nu as' im at' op sp us (nI (apN (saT kd 6) n)) (nI k) ip) := by
  refine AMet.of (by decide +kernel) rfl (fun E ad0 hE => ?_)
  refine A_iload_n hE 1 dX9_saysAs_0 rfl rfl ?_
  refine A_tabIn hE 98 dX9_saysAs_1 (by decide) (by decide) (off := 97) (by decide) rfl ?_
  refine A_aload_n hE 99 dX9_saysAs_98 rfl rfl ?_
  refine A_bipush hE 101 dX9_saysAs_99 rfl (71) (by decide) ?_
  refine A_callVv hE 104 (c_X9_begins s K be er st na pi tr bi sz nu as' im at' op sp us (nI n) (nI k) ip n k (hn30) 71) [0, 1, 2, 3, 4, 5, 6, 7, 8, 9, 10, 11, 12] dX9_saysAs_101 rfl mkX9_204 rfl rfl rfl rfl rfl rfl rfl (Nat.le_of_ble_eq_true rfl) (Nat.le_of_ble_eq_true rfl) rfl (fun h101 g101 hp101 hw101 => ?_)
  obtain rfl := hp101
  obtain rfl := Option.some.inj hw101
  refine A_h (MW s K be er st na pi (pF n tr 71) bi sz nu as' im at' op sp us (nI (pN n)) (nI k) ip) rfl ?_
  refine A_aload_n hE 105 dX9_saysAs_104 rfl rfl ?_
  refine A_bipush hE 107 dX9_saysAs_105 rfl (6) (by decide) ?_
  refine A_callSi hE 110 (c_X9_above 6) [] dX9_saysAs_107 rfl mkX9_159 rfl rfl rfl rfl rfl rfl (Nat.le_of_ble_eq_true rfl) (Nat.le_of_ble_eq_true rfl) rfl (fun x107 h107 g107 hp107 hw107 => ?_)
  obtain ⟨rfl, rfl⟩ := hp107
  obtain rfl := Option.some.inj hw107
  rw [show abv 6 = 0 from rfl]
  refine A_iload_n hE 111 dX9_saysAs_110 rfl rfl ?_
  refine A_callVi hE 114 (c_msa_0 s K be er st na pi (pF n tr 71) bi sz nu as' im at' op sp us (nI (pN n)) (nI k) ip (pN n) k (pN_le (hn30)) hk kd hK hKd x) [0, 1, 2, 3, 4, 5, 6, 7, 8, 9, 10, 11, 12] dX9_saysAs_111 rfl mkX9_213 rfl rfl rfl rfl rfl rfl rfl (Nat.le_of_ble_eq_true rfl) (Nat.le_of_ble_eq_true rfl) rfl (fun x111 h111 g111 hp111 hw111 => ?_)
  obtain ⟨rfl, rfl⟩ := hp111
  obtain rfl := Option.some.inj hw111
  refine A_h (MW s K be er st na pi (apF (saT kd 0) (pN n) (pF n tr 71)) bi sz nu as' im at' op sp us (nI (apN (saT kd 0) (pN n))) (nI k) ip) rfl ?_
  refine A_aload_n hE 115 dX9_saysAs_114 rfl rfl ?_
  refine A_callVi hE 118 (c_X9_mNow s K be er st na pi (apF (saT kd 0) (pN n) (pF n tr 71)) bi sz nu as' im at' op sp us (nI (apN (saT kd 0) (pN n))) (nI k) ip (apN (saT kd 0) (pN n)) k hk) [0, 1, 2, 3, 4, 5, 6, 7, 8, 9, 10, 11, 12] dX9_saysAs_115 rfl mkX9_216 rfl rfl rfl rfl rfl rfl rfl (Nat.le_of_ble_eq_true rfl) (Nat.le_of_ble_eq_true rfl) rfl (fun x115 h115 g115 hp115 hw115 => ?_)
  obtain ⟨rfl, rfl⟩ := hp115
  obtain rfl := Option.some.inj hw115
  refine A_h (MW s K be er st na pi (apF (saT kd 0) (pN n) (pF n tr 71)) bi sz nu as' im at' op sp us (nI (apN (saT kd 0) (pN n))) (nI k) ip) rfl ?_
  refine A_iadd hE 119 dX9_saysAs_118 rfl ?_
  refine A_iret hE dX9_saysAs_119 ⟨rfl, rfl⟩
theorem c_msa (f : Nat) (hf : f < 7) (s K be er st na pi tr bi sz nu as' : Nat → Int32) (im at' op sp us tn sk ip : Int32) (n k : Nat) (hn30 : n ≤ 30) (hk : k < 8) (kd : Nat) (hK : kd < 7) (hKd : its s k 0 = nI kd) (x : Int32) : AMet yX9_saysAs cX9_saysAs 3 (some .int) 6 0 0 [.ref 0, .int (nI f), .int x] (MW s K be er st na pi tr bi sz nu as' im at' op sp us (nI n) (nI k) ip) (pI fun r h => r = saV (nI k) (its s k 1) kd f x ∧ h = MW s K be er st na pi (apF (saT kd f) n tr) bi sz nu as' im at' op sp us (nI (apN (saT kd f) n)) (nI k) ip) := by
  match f, hf with
  | 0, _ => exact (c_msa_0 s K be er st na pi tr bi sz nu as' im at' op sp us tn sk ip n k hn30 hk kd hK hKd x).mono rfl
  | 1, _ => exact (c_msa_1 s K be er st na pi tr bi sz nu as' im at' op sp us tn sk ip n k hn30 hk kd hK hKd x).mono rfl
  | 2, _ => exact (c_msa_2 s K be er st na pi tr bi sz nu as' im at' op sp us tn sk ip n k hn30 hk kd hK hKd x).mono rfl
  | 3, _ => exact (c_msa_3 s K be er st na pi tr bi sz nu as' im at' op sp us tn sk ip n k hn30 hk kd hK hKd x).mono rfl
  | 4, _ => exact (c_msa_4 s K be er st na pi tr bi sz nu as' im at' op sp us tn sk ip n k hn30 hk kd hK hKd x).mono rfl
  | 5, _ => exact (c_msa_5 s K be er st na pi tr bi sz nu as' im at' op sp us tn sk ip n k hn30 hk kd hK hKd x).mono rfl
  | 6, _ => exact (c_msa_6 s K be er st na pi tr bi sz nu as' im at' op sp us tn sk ip n k hn30 hk kd hK hKd x).mono rfl

set_option maxRecDepth 100000 in
theorem c_mst_0 (s K be er st na pi tr bi sz nu as' : Nat → Int32) (im at' op sp us tn sk ip : Int32) (n k : Nat) (hn30 : n ≤ 30) (hk : k < 8) (kd : Nat) (hK : kd < 7) (hKd : its s k 0 = nI kd) (x : Int32) : AMet yX9_steelsAs cX9_steelsAs 3 (some (.int)) 7 0 0 [.ref 0, .int 0, .int x] (MW s K be er st na pi tr bi sz nu as' im at' op sp us (nI n) (nI k) ip) (pI fun r h => r = stV (nI k) (its s k 1) kd 0 x ∧ h = MW s K be er st na pi (apF (stT kd 0) n tr) bi sz nu as' im at' op sp us (nI (apN (stT kd 0) n)) (nI k) ip) := by
  refine AMet.of (by decide +kernel) rfl (fun E ad0 hE => ?_)
  refine A_iload_n hE 1 dX9_steelsAs_0 rfl rfl ?_
  refine A_tabIn hE 36 dX9_steelsAs_1 (by decide) (by decide) (off := 35) (by decide) rfl ?_
  refine A_aload_n hE 37 dX9_steelsAs_36 rfl rfl ?_
  refine A_bipush hE 39 dX9_steelsAs_37 rfl (12) (by decide) ?_
  refine A_callVv hE 42 (c_X9_begins s K be er st na pi tr bi sz nu as' im at' op sp us (nI n) (nI k) ip n k (hn30) 12) [0, 1, 2, 3, 4, 5, 6, 7, 8, 9, 10, 11, 12] dX9_steelsAs_39 rfl mkX9_204 rfl rfl rfl rfl rfl rfl rfl (Nat.le_of_ble_eq_true rfl) (Nat.le_of_ble_eq_true rfl) rfl (fun h39 g39 hp39 hw39 => ?_)
  obtain rfl := hp39
  obtain rfl := Option.some.inj hw39
  refine A_h (MW s K be er st na pi (pF n tr 12) bi sz nu as' im at' op sp us (nI (pN n)) (nI k) ip) rfl ?_
  refine A_aload_n hE 43 dX9_steelsAs_42 rfl rfl ?_
  refine A_aload_n hE 44 dX9_steelsAs_43 rfl rfl ?_
  refine A_callVi hE 47 (c_X9_kindNow s K be er st na pi (pF n tr 12) bi sz nu as' im at' op sp us (nI (pN n)) (nI k) ip (pN n) k hk) [0, 1, 2, 3, 4, 5, 6, 7, 8, 9, 10, 11, 12] dX9_steelsAs_44 rfl mkX9_210 rfl rfl rfl rfl rfl rfl rfl (Nat.le_of_ble_eq_true rfl) (Nat.le_of_ble_eq_true rfl) rfl (fun x44 h44 g44 hp44 hw44 => ?_)
  obtain ⟨rfl, rfl⟩ := hp44
  obtain rfl := Option.some.inj hw44
  refine A_h (MW s K be er st na pi (pF n tr 12) bi sz nu as' im at' op sp us (nI (pN n)) (nI k) ip) rfl ?_
  rw [hKd]
  refine A_iload_n hE 48 dX9_steelsAs_47 rfl rfl ?_
  refine A_callVi hE 51 (c_msa kd hK s K be er st na pi (pF n tr 12) bi sz nu as' im at' op sp us (nI (pN n)) (nI k) ip (pN n) k (pN_le (hn30)) hk kd hK hKd x) [0, 1, 2, 3, 4, 5, 6, 7, 8, 9, 10, 11, 12] dX9_steelsAs_48 rfl mkX9_213 rfl rfl rfl rfl rfl rfl rfl (Nat.le_of_ble_eq_true rfl) (Nat.le_of_ble_eq_true rfl) rfl (fun x48 h48 g48 hp48 hw48 => ?_)
  obtain ⟨rfl, rfl⟩ := hp48
  obtain rfl := Option.some.inj hw48
  refine A_h (MW s K be er st na pi (apF (saT kd kd) (pN n) (pF n tr 12)) bi sz nu as' im at' op sp us (nI (apN (saT kd kd) (pN n))) (nI k) ip) rfl ?_
  refine A_aload_n hE 52 dX9_steelsAs_51 rfl rfl ?_
  refine A_callVi hE 55 (c_X9_mNow s K be er st na pi (apF (saT kd kd) (pN n) (pF n tr 12)) bi sz nu as' im at' op sp us (nI (apN (saT kd kd) (pN n))) (nI k) ip (apN (saT kd kd) (pN n)) k hk) [0, 1, 2, 3, 4, 5, 6, 7, 8, 9, 10, 11, 12] dX9_steelsAs_52 rfl mkX9_216 rfl rfl rfl rfl rfl rfl rfl (Nat.le_of_ble_eq_true rfl) (Nat.le_of_ble_eq_true rfl) rfl (fun x52 h52 g52 hp52 hw52 => ?_)
  obtain ⟨rfl, rfl⟩ := hp52
  obtain rfl := Option.some.inj hw52
  refine A_h (MW s K be er st na pi (apF (saT kd kd) (pN n) (pF n tr 12)) bi sz nu as' im at' op sp us (nI (apN (saT kd kd) (pN n))) (nI k) ip) rfl ?_
  refine A_isub hE 56 dX9_steelsAs_55 rfl ?_
  refine A_iret hE dX9_steelsAs_56 ⟨rfl, rfl⟩
set_option maxRecDepth 100000 in
theorem c_mst_1 (s K be er st na pi tr bi sz nu as' : Nat → Int32) (im at' op sp us tn sk ip : Int32) (n k : Nat) (hn30 : n ≤ 30) (hk : k < 8) (kd : Nat) (hK : kd < 7) (hKd : its s k 0 = nI kd) (x : Int32) : AMet yX9_steelsAs cX9_steelsAs 3 (some (.int)) 8 0 0 [.ref 0, .int 1, .int x] (MW s K be er st na pi tr bi sz nu as' im at' op sp us (nI n) (nI k) ip) (pI fun r h => r = stV (nI k) (its s k 1) kd 1 x ∧ h = MW s K be er st na pi (apF (stT kd 1) n tr) bi sz nu as' im at' op sp us (nI (apN (stT kd 1) n)) (nI k) ip) := by
  refine AMet.of (by decide +kernel) rfl (fun E ad0 hE => ?_)
  refine A_iload_n hE 1 dX9_steelsAs_0 rfl rfl ?_
  refine A_tabIn hE 96 dX9_steelsAs_1 (by decide) (by decide) (off := 95) (by decide) rfl ?_
  refine A_aload_n hE 97 dX9_steelsAs_96 rfl rfl ?_
  refine A_iload_n hE 98 dX9_steelsAs_97 rfl rfl ?_
  refine A_callSi hE 101 (c_X9_above 1) [] dX9_steelsAs_98 rfl mkX9_159 rfl rfl rfl rfl rfl rfl (Nat.le_of_ble_eq_true rfl) (Nat.le_of_ble_eq_true rfl) rfl (fun x98 h98 g98 hp98 hw98 => ?_)
  obtain ⟨rfl, rfl⟩ := hp98
  obtain rfl := Option.some.inj hw98
  rw [show abv 1 = 0 from rfl]
  refine A_iload_n hE 102 dX9_steelsAs_101 rfl rfl ?_
  refine A_callVi hE 105 (c_mst_0 s K be er st na pi tr bi sz nu as' im at' op sp us (nI n) (nI k) ip n k (hn30) hk kd hK hKd x) [0, 1, 2, 3, 4, 5, 6, 7, 8, 9, 10, 11, 12] dX9_steelsAs_102 rfl mkX9_219 rfl rfl rfl rfl rfl rfl rfl (Nat.le_of_ble_eq_true rfl) (Nat.le_of_ble_eq_true rfl) rfl (fun x102 h102 g102 hp102 hw102 => ?_)
  obtain ⟨rfl, rfl⟩ := hp102
  obtain rfl := Option.some.inj hw102
  refine A_h (MW s K be er st na pi (apF (stT kd 0) n tr) bi sz nu as' im at' op sp us (nI (apN (stT kd 0) n)) (nI k) ip) rfl ?_
  refine A_iret hE dX9_steelsAs_105 ⟨rfl, rfl⟩
set_option maxRecDepth 100000 in
theorem c_mst_2 (s K be er st na pi tr bi sz nu as' : Nat → Int32) (im at' op sp us tn sk ip : Int32) (n k : Nat) (hn30 : n ≤ 30) (hk : k < 8) (kd : Nat) (hK : kd < 7) (hKd : its s k 0 = nI kd) (x : Int32) : AMet yX9_steelsAs cX9_steelsAs 3 (some (.int)) 8 0 0 [.ref 0, .int 2, .int x] (MW s K be er st na pi tr bi sz nu as' im at' op sp us (nI n) (nI k) ip) (pI fun r h => r = stV (nI k) (its s k 1) kd 2 x ∧ h = MW s K be er st na pi (apF (stT kd 2) n tr) bi sz nu as' im at' op sp us (nI (apN (stT kd 2) n)) (nI k) ip) := by
  refine AMet.of (by decide +kernel) rfl (fun E ad0 hE => ?_)
  refine A_iload_n hE 1 dX9_steelsAs_0 rfl rfl ?_
  refine A_tabIn hE 96 dX9_steelsAs_1 (by decide) (by decide) (off := 95) (by decide) rfl ?_
  refine A_aload_n hE 97 dX9_steelsAs_96 rfl rfl ?_
  refine A_iload_n hE 98 dX9_steelsAs_97 rfl rfl ?_
  refine A_callSi hE 101 (c_X9_above 2) [] dX9_steelsAs_98 rfl mkX9_159 rfl rfl rfl rfl rfl rfl (Nat.le_of_ble_eq_true rfl) (Nat.le_of_ble_eq_true rfl) rfl (fun x98 h98 g98 hp98 hw98 => ?_)
  obtain ⟨rfl, rfl⟩ := hp98
  obtain rfl := Option.some.inj hw98
  rw [show abv 2 = 0 from rfl]
  refine A_iload_n hE 102 dX9_steelsAs_101 rfl rfl ?_
  refine A_callVi hE 105 (c_mst_0 s K be er st na pi tr bi sz nu as' im at' op sp us (nI n) (nI k) ip n k (hn30) hk kd hK hKd x) [0, 1, 2, 3, 4, 5, 6, 7, 8, 9, 10, 11, 12] dX9_steelsAs_102 rfl mkX9_219 rfl rfl rfl rfl rfl rfl rfl (Nat.le_of_ble_eq_true rfl) (Nat.le_of_ble_eq_true rfl) rfl (fun x102 h102 g102 hp102 hw102 => ?_)
  obtain ⟨rfl, rfl⟩ := hp102
  obtain rfl := Option.some.inj hw102
  refine A_h (MW s K be er st na pi (apF (stT kd 0) n tr) bi sz nu as' im at' op sp us (nI (apN (stT kd 0) n)) (nI k) ip) rfl ?_
  refine A_iret hE dX9_steelsAs_105 ⟨rfl, rfl⟩
set_option maxRecDepth 100000 in
theorem c_mst_3 (s K be er st na pi tr bi sz nu as' : Nat → Int32) (im at' op sp us tn sk ip : Int32) (n k : Nat) (hn30 : n ≤ 30) (hk : k < 8) (kd : Nat) (hK : kd < 7) (hKd : its s k 0 = nI kd) (x : Int32) : AMet yX9_steelsAs cX9_steelsAs 3 (some (.int)) 8 0 0 [.ref 0, .int 3, .int x] (MW s K be er st na pi tr bi sz nu as' im at' op sp us (nI n) (nI k) ip) (pI fun r h => r = stV (nI k) (its s k 1) kd 3 x ∧ h = MW s K be er st na pi (apF (stT kd 3) n tr) bi sz nu as' im at' op sp us (nI (apN (stT kd 3) n)) (nI k) ip) := by
  refine AMet.of (by decide +kernel) rfl (fun E ad0 hE => ?_)
  refine A_iload_n hE 1 dX9_steelsAs_0 rfl rfl ?_
  refine A_tabIn hE 57 dX9_steelsAs_1 (by decide) (by decide) (off := 56) (by decide) rfl ?_
  refine A_aload_n hE 58 dX9_steelsAs_57 rfl rfl ?_
  refine A_bipush hE 60 dX9_steelsAs_58 rfl (40) (by decide) ?_
  refine A_callVv hE 63 (c_X9_begins s K be er st na pi tr bi sz nu as' im at' op sp us (nI n) (nI k) ip n k (hn30) 40) [0, 1, 2, 3, 4, 5, 6, 7, 8, 9, 10, 11, 12] dX9_steelsAs_60 rfl mkX9_204 rfl rfl rfl rfl rfl rfl rfl (Nat.le_of_ble_eq_true rfl) (Nat.le_of_ble_eq_true rfl) rfl (fun h60 g60 hp60 hw60 => ?_)
  obtain rfl := hp60
  obtain rfl := Option.some.inj hw60
  refine A_h (MW s K be er st na pi (pF n tr 40) bi sz nu as' im at' op sp us (nI (pN n)) (nI k) ip) rfl ?_
  refine A_aload_n hE 64 dX9_steelsAs_63 rfl rfl ?_
  refine A_iconst hE 65 dX9_steelsAs_64 rfl (3) rfl ?_
  refine A_callSi hE 68 (c_X9_above 3) [] dX9_steelsAs_65 rfl mkX9_159 rfl rfl rfl rfl rfl rfl (Nat.le_of_ble_eq_true rfl) (Nat.le_of_ble_eq_true rfl) rfl (fun x65 h65 g65 hp65 hw65 => ?_)
  obtain ⟨rfl, rfl⟩ := hp65
  obtain rfl := Option.some.inj hw65
  rw [show abv 3 = 0 from rfl]
  refine A_iload_n hE 69 dX9_steelsAs_68 rfl rfl ?_
  refine A_iconst hE 70 dX9_steelsAs_69 rfl (2) rfl ?_
  refine A_idiv hE 71 dX9_steelsAs_70 rfl (by decide) ?_
  refine A_callVi hE 74 (c_mst_0 s K be er st na pi (pF n tr 40) bi sz nu as' im at' op sp us (nI (pN n)) (nI k) ip (pN n) k (pN_le (hn30)) hk kd hK hKd (x / 2)) [0, 1, 2, 3, 4, 5, 6, 7, 8, 9, 10, 11, 12] dX9_steelsAs_71 rfl mkX9_219 rfl rfl rfl rfl rfl rfl rfl (Nat.le_of_ble_eq_true rfl) (Nat.le_of_ble_eq_true rfl) rfl (fun x71 h71 g71 hp71 hw71 => ?_)
  obtain ⟨rfl, rfl⟩ := hp71
  obtain rfl := Option.some.inj hw71
  refine A_h (MW s K be er st na pi (apF (stT kd 0) (pN n) (pF n tr 40)) bi sz nu as' im at' op sp us (nI (apN (stT kd 0) (pN n))) (nI k) ip) rfl ?_
  refine A_iret hE dX9_steelsAs_74 ⟨rfl, rfl⟩
set_option maxRecDepth 100000 in
theorem c_mst_4 (s K be er st na pi tr bi sz nu as' : Nat → Int32) (im at' op sp us tn sk ip : Int32) (n k : Nat) (hn30 : n ≤ 30) (hk : k < 8) (kd : Nat) (hK : kd < 7) (hKd : its s k 0 = nI kd) (x : Int32) : AMet yX9_steelsAs cX9_steelsAs 3 (some (.int)) 9 0 0 [.ref 0, .int 4, .int x] (MW s K be er st na pi tr bi sz nu as' im at' op sp us (nI n) (nI k) ip) (pI fun r h => r = stV (nI k) (its s k 1) kd 4 x ∧ h = MW s K be er st na pi (apF (stT kd 4) n tr) bi sz nu as' im at' op sp us (nI (apN (stT kd 4) n)) (nI k) ip) := by
  refine AMet.of (by decide +kernel) rfl (fun E ad0 hE => ?_)
  refine A_iload_n hE 1 dX9_steelsAs_0 rfl rfl ?_
  refine A_tabIn hE 75 dX9_steelsAs_1 (by decide) (by decide) (off := 74) (by decide) rfl ?_
  refine A_aload_n hE 76 dX9_steelsAs_75 rfl rfl ?_
  refine A_bipush hE 78 dX9_steelsAs_76 rfl (51) (by decide) ?_
  refine A_callVv hE 81 (c_X9_begins s K be er st na pi tr bi sz nu as' im at' op sp us (nI n) (nI k) ip n k (hn30) 51) [0, 1, 2, 3, 4, 5, 6, 7, 8, 9, 10, 11, 12] dX9_steelsAs_78 rfl mkX9_204 rfl rfl rfl rfl rfl rfl rfl (Nat.le_of_ble_eq_true rfl) (Nat.le_of_ble_eq_true rfl) rfl (fun h78 g78 hp78 hw78 => ?_)
  obtain rfl := hp78
  obtain rfl := Option.some.inj hw78
  refine A_h (MW s K be er st na pi (pF n tr 51) bi sz nu as' im at' op sp us (nI (pN n)) (nI k) ip) rfl ?_
  refine A_aload_n hE 82 dX9_steelsAs_81 rfl rfl ?_
  refine A_iconst hE 83 dX9_steelsAs_82 rfl (4) rfl ?_
  refine A_callSi hE 86 (c_X9_above 4) [] dX9_steelsAs_83 rfl mkX9_159 rfl rfl rfl rfl rfl rfl (Nat.le_of_ble_eq_true rfl) (Nat.le_of_ble_eq_true rfl) rfl (fun x83 h83 g83 hp83 hw83 => ?_)
  obtain ⟨rfl, rfl⟩ := hp83
  obtain rfl := Option.some.inj hw83
  rw [show abv 4 = 1 from rfl]
  refine A_iload_n hE 87 dX9_steelsAs_86 rfl rfl ?_
  refine A_callVi hE 90 (c_mst_1 s K be er st na pi (pF n tr 51) bi sz nu as' im at' op sp us (nI (pN n)) (nI k) ip (pN n) k (pN_le (hn30)) hk kd hK hKd x) [0, 1, 2, 3, 4, 5, 6, 7, 8, 9, 10, 11, 12] dX9_steelsAs_87 rfl mkX9_219 rfl rfl rfl rfl rfl rfl rfl (Nat.le_of_ble_eq_true rfl) (Nat.le_of_ble_eq_true rfl) rfl (fun x87 h87 g87 hp87 hw87 => ?_)
  obtain ⟨rfl, rfl⟩ := hp87
  obtain rfl := Option.some.inj hw87
  refine A_h (MW s K be er st na pi (apF (stT kd 1) (pN n) (pF n tr 51)) bi sz nu as' im at' op sp us (nI (apN (stT kd 1) (pN n))) (nI k) ip) rfl ?_
  refine A_aload_n hE 91 dX9_steelsAs_90 rfl rfl ?_
  refine A_get hE 94 dX9_steelsAs_91 rfl fkX9_201 rfl rfl ?_
  refine A_ixor hE 95 dX9_steelsAs_94 rfl ?_
  refine A_iret hE dX9_steelsAs_95 ⟨rfl, rfl⟩
set_option maxRecDepth 100000 in
theorem c_mst_5 (s K be er st na pi tr bi sz nu as' : Nat → Int32) (im at' op sp us tn sk ip : Int32) (n k : Nat) (hn30 : n ≤ 30) (hk : k < 8) (kd : Nat) (hK : kd < 7) (hKd : its s k 0 = nI kd) (x : Int32) : AMet yX9_steelsAs cX9_steelsAs 3 (some (.int)) 9 0 0 [.ref 0, .int 5, .int x] (MW s K be er st na pi tr bi sz nu as' im at' op sp us (nI n) (nI k) ip) (pI fun r h => r = stV (nI k) (its s k 1) kd 5 x ∧ h = MW s K be er st na pi (apF (stT kd 5) n tr) bi sz nu as' im at' op sp us (nI (apN (stT kd 5) n)) (nI k) ip) := by
  refine AMet.of (by decide +kernel) rfl (fun E ad0 hE => ?_)
  refine A_iload_n hE 1 dX9_steelsAs_0 rfl rfl ?_
  refine A_tabOut hE 96 dX9_steelsAs_1 (Or.inr (by decide)) rfl ?_
  refine A_aload_n hE 97 dX9_steelsAs_96 rfl rfl ?_
  refine A_iload_n hE 98 dX9_steelsAs_97 rfl rfl ?_
  refine A_callSi hE 101 (c_X9_above 5) [] dX9_steelsAs_98 rfl mkX9_159 rfl rfl rfl rfl rfl rfl (Nat.le_of_ble_eq_true rfl) (Nat.le_of_ble_eq_true rfl) rfl (fun x98 h98 g98 hp98 hw98 => ?_)
  obtain ⟨rfl, rfl⟩ := hp98
  obtain rfl := Option.some.inj hw98
  rw [show abv 5 = 2 from rfl]
  refine A_iload_n hE 102 dX9_steelsAs_101 rfl rfl ?_
  refine A_callVi hE 105 (c_mst_2 s K be er st na pi tr bi sz nu as' im at' op sp us (nI n) (nI k) ip n k (hn30) hk kd hK hKd x) [0, 1, 2, 3, 4, 5, 6, 7, 8, 9, 10, 11, 12] dX9_steelsAs_102 rfl mkX9_219 rfl rfl rfl rfl rfl rfl rfl (Nat.le_of_ble_eq_true rfl) (Nat.le_of_ble_eq_true rfl) rfl (fun x102 h102 g102 hp102 hw102 => ?_)
  obtain ⟨rfl, rfl⟩ := hp102
  obtain rfl := Option.some.inj hw102
  refine A_h (MW s K be er st na pi (apF (stT kd 2) n tr) bi sz nu as' im at' op sp us (nI (apN (stT kd 2) n)) (nI k) ip) rfl ?_
  refine A_iret hE dX9_steelsAs_105 ⟨rfl, rfl⟩
set_option maxRecDepth 100000 in
theorem c_mst_6 (s K be er st na pi tr bi sz nu as' : Nat → Int32) (im at' op sp us tn sk ip : Int32) (n k : Nat) (hn30 : n ≤ 30) (hk : k < 8) (kd : Nat) (hK : kd < 7) (hKd : its s k 0 = nI kd) (x : Int32) : AMet yX9_steelsAs cX9_steelsAs 3 (some (.int)) 8 0 0 [.ref 0, .int 6, .int x] (MW s K be er st na pi tr bi sz nu as' im at' op sp us (nI n) (nI k) ip) (pI fun r h => r = stV (nI k) (its s k 1) kd 6 x ∧ h = MW s K be er st na pi (apF (stT kd 6) n tr) bi sz nu as' im at' op sp us (nI (apN (stT kd 6) n)) (nI k) ip) := by
  refine AMet.of (by decide +kernel) rfl (fun E ad0 hE => ?_)
  refine A_iload_n hE 1 dX9_steelsAs_0 rfl rfl ?_
  refine A_tabOut hE 96 dX9_steelsAs_1 (Or.inr (by decide)) rfl ?_
  refine A_aload_n hE 97 dX9_steelsAs_96 rfl rfl ?_
  refine A_iload_n hE 98 dX9_steelsAs_97 rfl rfl ?_
  refine A_callSi hE 101 (c_X9_above 6) [] dX9_steelsAs_98 rfl mkX9_159 rfl rfl rfl rfl rfl rfl (Nat.le_of_ble_eq_true rfl) (Nat.le_of_ble_eq_true rfl) rfl (fun x98 h98 g98 hp98 hw98 => ?_)
  obtain ⟨rfl, rfl⟩ := hp98
  obtain rfl := Option.some.inj hw98
  rw [show abv 6 = 0 from rfl]
  refine A_iload_n hE 102 dX9_steelsAs_101 rfl rfl ?_
  refine A_callVi hE 105 (c_mst_0 s K be er st na pi tr bi sz nu as' im at' op sp us (nI n) (nI k) ip n k (hn30) hk kd hK hKd x) [0, 1, 2, 3, 4, 5, 6, 7, 8, 9, 10, 11, 12] dX9_steelsAs_102 rfl mkX9_219 rfl rfl rfl rfl rfl rfl rfl (Nat.le_of_ble_eq_true rfl) (Nat.le_of_ble_eq_true rfl) rfl (fun x102 h102 g102 hp102 hw102 => ?_)
  obtain ⟨rfl, rfl⟩ := hp102
  obtain rfl := Option.some.inj hw102
  refine A_h (MW s K be er st na pi (apF (stT kd 0) n tr) bi sz nu as' im at' op sp us (nI (apN (stT kd 0) n)) (nI k) ip) rfl ?_
  refine A_iret hE dX9_steelsAs_105 ⟨rfl, rfl⟩
theorem c_mst (f : Nat) (hf : f < 7) (s K be er st na pi tr bi sz nu as' : Nat → Int32) (im at' op sp us tn sk ip : Int32) (n k : Nat) (hn30 : n ≤ 30) (hk : k < 8) (kd : Nat) (hK : kd < 7) (hKd : its s k 0 = nI kd) (x : Int32) : AMet yX9_steelsAs cX9_steelsAs 3 (some .int) 9 0 0 [.ref 0, .int (nI f), .int x] (MW s K be er st na pi tr bi sz nu as' im at' op sp us (nI n) (nI k) ip) (pI fun r h => r = stV (nI k) (its s k 1) kd f x ∧ h = MW s K be er st na pi (apF (stT kd f) n tr) bi sz nu as' im at' op sp us (nI (apN (stT kd f) n)) (nI k) ip) := by
  match f, hf with
  | 0, _ => exact (c_mst_0 s K be er st na pi tr bi sz nu as' im at' op sp us tn sk ip n k hn30 hk kd hK hKd x).mono rfl
  | 1, _ => exact (c_mst_1 s K be er st na pi tr bi sz nu as' im at' op sp us tn sk ip n k hn30 hk kd hK hKd x).mono rfl
  | 2, _ => exact (c_mst_2 s K be er st na pi tr bi sz nu as' im at' op sp us tn sk ip n k hn30 hk kd hK hKd x).mono rfl
  | 3, _ => exact (c_mst_3 s K be er st na pi tr bi sz nu as' im at' op sp us tn sk ip n k hn30 hk kd hK hKd x).mono rfl
  | 4, _ => exact (c_mst_4 s K be er st na pi tr bi sz nu as' im at' op sp us tn sk ip n k hn30 hk kd hK hKd x).mono rfl
  | 5, _ => exact (c_mst_5 s K be er st na pi tr bi sz nu as' im at' op sp us tn sk ip n k hn30 hk kd hK hKd x).mono rfl
  | 6, _ => exact (c_mst_6 s K be er st na pi tr bi sz nu as' im at' op sp us tn sk ip n k hn30 hk kd hK hKd x).mono rfl

