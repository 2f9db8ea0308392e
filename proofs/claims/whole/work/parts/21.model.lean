/-- the reference's cells: its own, its twelve rows -/
abbrev MW (s K be er st na pi tr bi sz nu as' : Nat → Int32) (im at' op sp us tn sk ip : Int32) : List AE := [.inr (9, [.ref 1, .ref 2, .ref 3, .int im, .ref 4, .int at', .int op, .int sp, .int us, .ref 5, .ref 6, .ref 7, .int tn, .ref 8, .int sk, .int ip, .ref 9, .ref 10, .ref 11, .ref 12]), cI 383 s, cI 383 K, cI 49 be, cI 7 er, cI 124 st, cI 128 na, cI 64 pi, cI 30 tr, cI 4 bi, cI 4 sz, cI 96 nu, cI 24 as']
/-- what the reference's row says of a text -/
def MText (s : St) (u : Nat) (ss : Sp) : Prop := okT u ss ∧ s (49 + 125 * u) = nI ss.length ∧ ∀ i, i < ss.length → s (50 + 125 * u + 2 * i) = (ss.getD i (0, 0)).1 ∧ s (51 + 125 * u + 2 * i) = (ss.getD i (0, 0)).2
theorem MText.lo {s : St} {u k : Nat} {ss : Sp} {v : Int32} (hk : k < 49) (h : MText s u ss) : MText (upd s k v) u ss := by
  obtain ⟨h1, h2, h3⟩ := h
  refine ⟨h1, ?_, fun i hi => ?_⟩
  · rw [upd_n (by omega)]; exact h2
  · rw [upd_n (by omega), upd_n (by omega)]; exact h3 i hi
theorem div_m1 (x : Int32) : x / (-1) = -x := by
  apply Int32.toInt_inj.mp
  rw [Int32.toInt_div, show (-1 : Int32).toInt = -1 by decide, Int.tdiv_neg, Int.tdiv_one, Int32.toInt_neg]
theorem rm_m1 (x : Int32) : rm x (-1) = 0 := by
  apply Int32.toInt_inj.mp
  have e : (rm x (-1)).toInt = x.toInt.tmod (-1 : Int32).toInt := rem_toInt x (-1)
  rw [e, show (-1 : Int32).toInt = -1 by decide, Int.tmod_neg, Int.tmod_one]
  rfl
theorem nm_ix {u : Nat} (hu : u < 2) {v : Int32} (h : v = 115 ∨ v = 100 ∨ v = (if u = 0 then 118 else 108)) : v = nI v.toNatClampNeg ∧ v.toNatClampNeg < 128 := by
  obtain rfl | rfl : u = 0 ∨ u = 1 := by omega
  · rcases h with rfl | rfl | rfl <;> exact ⟨by decide, by decide⟩
  · rcases h with rfl | rfl | rfl <;> exact ⟨by decide, by decide⟩
theorem ix5 (h j : Nat) : (9 : Int32) + 5 * nI h + nI j = nI (9 + 5 * h + j) := by
  show nI 9 + nI 5 * nI h + nI j = _
  rw [pk_mul, nI_add, nI_add]
theorem ix125 (u : Nat) : (49 : Int32) + 125 * nI u = nI (49 + 125 * u) := by
  show nI 49 + nI 125 * nI u = _
  rw [pk_mul, nI_add]

set_option maxRecDepth 100000 in
theorem c_X9_error (s K be er st na pi tr bi sz nu as' : Nat → Int32) (im at' op sp us tn sk ip : Int32) (k : Nat) (hk : k < 7) : AMet yX9_error cX9_error 2 (some (.int)) 0 0 0 [.ref 0, .int (nI k)] (MW s K be er st na pi tr bi sz nu as' im at' op sp us tn sk ip) (pI fun x h => x = -1000000000 - nI k ∧ h = MW s K be (upd er k (er k + 1)) st na pi tr bi sz nu as' im at' op sp us tn sk ip) := by
  refine AMet.of (by decide +kernel) rfl (fun E ad0 hE => ?_)
  refine A_aload_n hE 1 dX9_error_0 rfl rfl ?_
  refine A_get hE 4 dX9_error_1 rfl fkX9_19 rfl rfl ?_
  refine A_iload_n hE 5 dX9_error_4 rfl rfl ?_
  refine A_dup2 hE 6 dX9_error_5 rfl rfl rfl ?_
  refine A_iald hE 7 k dX9_error_6 rfl rfl rfl hk rfl ?_
  refine A_iconst hE 8 dX9_error_7 rfl (1) rfl ?_
  refine A_iadd hE 9 dX9_error_8 rfl ?_
  refine A_iast hE 10 k dX9_error_9 rfl rfl rfl hk rfl rfl ?_
  refine A_ldc hE 12 dX9_error_10 rfl kkX9_46 ?_
  refine A_iload_n hE 13 dX9_error_12 rfl rfl ?_
  refine A_isub hE 14 dX9_error_13 rfl ?_
  refine A_iret hE dX9_error_14 ⟨rfl, rfl⟩
set_option maxRecDepth 100000 in
theorem c_X9_in (x y z : Int32) : AMet yX9_in cX9_in 3 (some (.boolean)) 0 0 0 [.int x, .int y, .int z] [] (pI fun r h => r = bI (decide (y ≤ x ∧ x ≤ z)) ∧ h = []) := by
  refine AMet.of (by decide +kernel) rfl (fun E ad0 hE => ?_)
  refine A_iload_n hE 1 dX9_in_0 rfl rfl ?_
  refine A_iload_n hE 2 dX9_in_1 rfl rfl ?_
  refine A_icmp_lt hE 5 14 dX9_in_2 rfl rfl (fun c2 => ?_) (fun c2 => ?_)
  · refine A_iconst hE 15 dX9_in_14 rfl (0) rfl ?_
    refine A_zret hE dX9_in_15 (by first | exact Or.inl rfl | exact Or.inr rfl) ⟨?_, rfl⟩
    exact bI_f (fun w => iN w.1 c2)
  · refine A_iload_n hE 6 dX9_in_5 rfl rfl ?_
    refine A_iload_n hE 7 dX9_in_6 rfl rfl ?_
    refine A_icmp_gt hE 10 14 dX9_in_7 rfl rfl (fun c7 => ?_) (fun c7 => ?_)
    · refine A_iconst hE 15 dX9_in_14 rfl (0) rfl ?_
      refine A_zret hE dX9_in_15 (by first | exact Or.inl rfl | exact Or.inr rfl) ⟨?_, rfl⟩
      exact bI_f (fun w => iM c7 w.2)
    · refine A_iconst hE 11 dX9_in_10 rfl (1) rfl ?_
      refine A_goto hE 15 dX9_in_11 rfl ?_
      refine A_zret hE dX9_in_15 (by first | exact Or.inl rfl | exact Or.inr rfl) ⟨?_, rfl⟩
      exact bI_t ⟨iL c2, Int32.not_lt.mp c7⟩
set_option maxRecDepth 100000 in
theorem c_X9_held (x y z : Int32) : AMet yX9_held cX9_held 3 (some (.int)) 0 0 0 [.int x, .int y, .int z] [] (pI fun r h => r = heldV x y z ∧ h = []) := by
  refine AMet.of (by decide +kernel) rfl (fun E ad0 hE => ?_)
  refine A_iload_n hE 1 dX9_held_0 rfl rfl ?_
  refine A_iload_n hE 2 dX9_held_1 rfl rfl ?_
  refine A_icmp_ge hE 5 9 dX9_held_2 rfl rfl (fun c2 => ?_) (fun c2 => ?_)
  · refine A_iload_n hE 10 dX9_held_9 rfl rfl ?_
    refine A_iload_n hE 11 dX9_held_10 rfl rfl ?_
    refine A_icmp_le hE 14 18 dX9_held_11 rfl rfl (fun c11 => ?_) (fun c11 => ?_)
    · refine A_iload_n hE 19 dX9_held_18 rfl rfl ?_
      refine A_iret hE dX9_held_19 ⟨?_, rfl⟩
      rw [heldV, if_neg (iN c2), if_neg (iN c11)]
    · refine A_iload_n hE 15 dX9_held_14 rfl rfl ?_
      refine A_goto hE 19 dX9_held_15 rfl ?_
      refine A_iret hE dX9_held_19 ⟨?_, rfl⟩
      rw [heldV, if_neg (iN c2), if_pos (iG c11)]
  · refine A_iload_n hE 6 dX9_held_5 rfl rfl ?_
    refine A_goto hE 19 dX9_held_6 rfl ?_
    refine A_iret hE dX9_held_19 ⟨?_, rfl⟩
    rw [heldV, if_pos (iG c2)]
set_option maxRecDepth 100000 in
theorem c_X9_restOf (x : Int32) : AMet yX9_restOf cX9_restOf 2 (some (.int)) 0 0 0 [.int x] [] (pI fun r h => r = restV x ∧ h = []) := by
  refine AMet.of (by decide +kernel) rfl (fun E ad0 hE => ?_)
  refine A_iload_n hE 1 dX9_restOf_0 rfl rfl ?_
  refine A_bipush hE 3 dX9_restOf_1 rfl (100) (by decide) ?_
  refine A_irem hE 4 dX9_restOf_3 rfl (by decide) ?_
  refine A_istore_n hE 5 dX9_restOf_4 rfl rfl rfl ?_
  refine A_iload_n hE 6 dX9_restOf_5 rfl rfl ?_
  refine A_if_ge hE 9 16 dX9_restOf_6 rfl rfl (fun c6 => ?_) (fun c6 => ?_)
  · refine A_iload_n hE 17 dX9_restOf_16 rfl rfl ?_
    refine A_iret hE dX9_restOf_17 ⟨?_, rfl⟩
    rw [restV, if_neg (iN c6)]
  · refine A_iload_n hE 10 dX9_restOf_9 rfl rfl ?_
    refine A_bipush hE 12 dX9_restOf_10 rfl (100) (by decide) ?_
    refine A_iadd hE 13 dX9_restOf_12 rfl ?_
    refine A_goto hE 17 dX9_restOf_13 rfl ?_
    refine A_iret hE dX9_restOf_17 ⟨?_, rfl⟩
    rw [restV, if_pos (iG c6)]
theorem home_iff {n : Nat} (hn : n ≤ 8) (h : Int32) : (0 ≤ h ∧ h ≤ nI n - 1) ↔ (0 ≤ h ∧ h < nI n) := by
  constructor
  · rintro ⟨a, b⟩
    obtain ⟨j, hj, rfl⟩ := nI_of (iN a)
    refine ⟨a, ?_⟩
    cases n with
    | zero => exact absurd (Int32.le_trans a b) (by decide)
    | succ n =>
      rw [nI_pred] at b
      have := (nI_leI hj (by omega)).mp b
      exact nI_lt (by omega) (by omega)
  · rintro ⟨a, b⟩
    obtain ⟨j, hj, rfl⟩ := nI_of (iN a)
    refine ⟨a, ?_⟩
    have hlt := (nI_ltI hj (by omega)).mp b
    cases n with
    | zero => omega
    | succ n => rw [nI_pred]; exact nI_le (by omega) (by omega)
theorem bI_iff {P Q : Prop} {i : Decidable P} {j : Decidable Q} (h : P ↔ Q) : bI (@decide P i) = bI (@decide Q j) := by
  by_cases p : P
  · rw [decide_eq_true p, decide_eq_true (h.mp p)]
  · rw [decide_eq_false p, decide_eq_false (fun q => p (h.mpr q))]

set_option maxRecDepth 100000 in
theorem c_X9_isHome (s K be er st na pi tr bi sz nu as' : Nat → Int32) (im at' op sp us tn sk ip : Int32) (i : Int32) (n : Nat) (hn : n ≤ 8) (w8 : s 8 = nI n) : AMet yX9_isHome cX9_isHome 2 (some (.boolean)) 1 0 0 [.ref 0, .int i] (MW s K be er st na pi tr bi sz nu as' im at' op sp us tn sk ip) (pI fun x h => x = bI (decide (0 ≤ i ∧ i < s 8)) ∧ h = MW s K be er st na pi tr bi sz nu as' im at' op sp us tn sk ip) := by
  refine AMet.of (by decide +kernel) rfl (fun E ad0 hE => ?_)
  refine A_iload_n hE 1 dX9_isHome_0 rfl rfl ?_
  refine A_iconst hE 2 dX9_isHome_1 rfl (0) rfl ?_
  refine A_aload_n hE 3 dX9_isHome_2 rfl rfl ?_
  refine A_get hE 6 dX9_isHome_3 rfl fkX9_7 rfl rfl ?_
  refine A_bipush hE 8 dX9_isHome_6 rfl (8) (by decide) ?_
  refine A_iald hE 9 8 dX9_isHome_8 rfl rfl rfl (by omega) rfl ?_
  refine A_iconst hE 10 dX9_isHome_9 rfl (1) rfl ?_
  refine A_isub hE 11 dX9_isHome_10 rfl ?_
  refine A_callSi hE 14 (c_X9_in i 0 (s 8 - 1)) [] dX9_isHome_11 rfl mkX9_47 rfl rfl rfl rfl rfl rfl (Nat.le_of_ble_eq_true rfl) (Nat.le_of_ble_eq_true rfl) rfl (fun x11 h11 g11 hp11 hw11 => ?_)
  obtain ⟨rfl, rfl⟩ := hp11
  obtain rfl := Option.some.inj hw11
  refine A_zret hE dX9_isHome_14 (bI_or _) ⟨?_, rfl⟩
  rw [w8]
  exact bI_iff (home_iff hn i)
set_option maxRecDepth 100000 in
theorem c_X9_its (s K be er st na pi tr bi sz nu as' : Nat → Int32) (im at' op sp us tn sk ip : Int32) (i j : Int32) (k q : Nat) (hi : i = nI k) (hj : j = nI q) (hk : k < 8) (hq : q < 5) : AMet yX9_its cX9_its 3 (some (.int)) 0 0 0 [.ref 0, .int i, .int j] (MW s K be er st na pi tr bi sz nu as' im at' op sp us tn sk ip) (pI fun x h => x = its s k q ∧ h = MW s K be er st na pi tr bi sz nu as' im at' op sp us tn sk ip) := by
  refine AMet.of (by decide +kernel) rfl (fun E ad0 hE => ?_)
  subst hi
  subst hj
  refine A_aload_n hE 1 dX9_its_0 rfl rfl ?_
  refine A_get hE 4 dX9_its_1 rfl fkX9_7 rfl rfl ?_
  refine A_bipush hE 6 dX9_its_4 rfl (9) (by decide) ?_
  refine A_iconst hE 7 dX9_its_6 rfl (5) rfl ?_
  refine A_iload_n hE 8 dX9_its_7 rfl rfl ?_
  refine A_imul hE 9 dX9_its_8 rfl ?_
  refine A_iadd hE 10 dX9_its_9 rfl ?_
  refine A_iload_n hE 11 dX9_its_10 rfl rfl ?_
  refine A_iadd hE 12 dX9_its_11 rfl ?_
  refine A_iald hE 13 (9 + 5 * k + q) dX9_its_12 rfl rfl (ix5 k q) (by omega) rfl ?_
  refine A_iret hE dX9_its_13 ⟨rfl, rfl⟩
set_option maxRecDepth 100000 in
theorem c_X9_lays1 (s K be er st na pi tr bi sz nu as' : Nat → Int32) (im at' op sp us tn sk ip : Int32) (i j : Int32) (k q : Nat) (hi : i = nI k) (hj : j = nI q) (hk : k < 8) (hq : q < 5) (v : Int32) : AMet yX9_lays1 cX9_lays1 4 none 0 0 0 [.ref 0, .int i, .int j, .int v] (MW s K be er st na pi tr bi sz nu as' im at' op sp us tn sk ip) (pV fun h => h = MW (upd s (9 + 5 * k + q) v) K be er st na pi tr bi sz nu as' im at' op sp us tn sk ip) := by
  refine AMet.of (by decide +kernel) rfl (fun E ad0 hE => ?_)
  subst hi
  subst hj
  refine A_aload_n hE 1 dX9_lays1_0 rfl rfl ?_
  refine A_get hE 4 dX9_lays1_1 rfl fkX9_7 rfl rfl ?_
  refine A_bipush hE 6 dX9_lays1_4 rfl (9) (by decide) ?_
  refine A_iconst hE 7 dX9_lays1_6 rfl (5) rfl ?_
  refine A_iload_n hE 8 dX9_lays1_7 rfl rfl ?_
  refine A_imul hE 9 dX9_lays1_8 rfl ?_
  refine A_iadd hE 10 dX9_lays1_9 rfl ?_
  refine A_iload_n hE 11 dX9_lays1_10 rfl rfl ?_
  refine A_iadd hE 12 dX9_lays1_11 rfl ?_
  refine A_iload_n hE 13 dX9_lays1_12 rfl rfl ?_
  refine A_iast hE 14 (9 + 5 * k + q) dX9_lays1_13 rfl rfl (ix5 k q) (by omega) rfl rfl ?_
  refine A_vret hE dX9_lays1_14 rfl
set_option maxRecDepth 100000 in
theorem c_X9_change1 (s K be er st na pi tr bi sz nu as' : Nat → Int32) (im at' op sp us tn sk ip : Int32) (i : Int32) (k : Nat) (v : Int32) (hi : i = nI k) (hk : k < 383) : AMet yX9_change1 cX9_change1 4 (some (.int)) 0 0 0 [.ref 0, .int i, .int v] (MW s K be er st na pi tr bi sz nu as' im at' op sp us tn sk ip) (pI fun x h => x = s k ∧ h = MW (upd s k v) K be er st na pi tr bi sz nu as' im at' op sp us tn sk ip) := by
  refine AMet.of (by decide +kernel) rfl (fun E ad0 hE => ?_)
  subst hi
  refine A_aload_n hE 1 dX9_change1_0 rfl rfl ?_
  refine A_get hE 4 dX9_change1_1 rfl fkX9_7 rfl rfl ?_
  refine A_iload_n hE 5 dX9_change1_4 rfl rfl ?_
  refine A_iald hE 6 k dX9_change1_5 rfl rfl rfl hk rfl ?_
  refine A_istore_n hE 7 dX9_change1_6 rfl rfl rfl ?_
  refine A_aload_n hE 8 dX9_change1_7 rfl rfl ?_
  refine A_get hE 11 dX9_change1_8 rfl fkX9_7 rfl rfl ?_
  refine A_iload_n hE 12 dX9_change1_11 rfl rfl ?_
  refine A_iload_n hE 13 dX9_change1_12 rfl rfl ?_
  refine A_iast hE 14 k dX9_change1_13 rfl rfl rfl hk rfl rfl ?_
  refine A_iload_n hE 15 dX9_change1_14 rfl rfl ?_
  refine A_iret hE dX9_change1_15 ⟨rfl, rfl⟩
set_option maxRecDepth 100000 in
theorem c_X9_hasText (s K be er st na pi tr bi sz nu as' : Nat → Int32) (im at' op sp us tn sk ip : Int32) (u : Nat) (hu : u < 2) : AMet yX9_hasText cX9_hasText 2 (some (.boolean)) 0 0 0 [.ref 0, .int (nI u)] (MW s K be er st na pi tr bi sz nu as' im at' op sp us tn sk ip) (pI fun x h => x = bI (decide (0 < s (49 + 125 * u))) ∧ h = MW s K be er st na pi tr bi sz nu as' im at' op sp us tn sk ip) := by
  refine AMet.of (by decide +kernel) rfl (fun E ad0 hE => ?_)
  refine A_aload_n hE 1 dX9_hasText_0 rfl rfl ?_
  refine A_get hE 4 dX9_hasText_1 rfl fkX9_7 rfl rfl ?_
  refine A_bipush hE 6 dX9_hasText_4 rfl (49) (by decide) ?_
  refine A_bipush hE 8 dX9_hasText_6 rfl (125) (by decide) ?_
  refine A_iload_n hE 9 dX9_hasText_8 rfl rfl ?_
  refine A_imul hE 10 dX9_hasText_9 rfl ?_
  refine A_iadd hE 11 dX9_hasText_10 rfl ?_
  refine A_iald hE 12 (49 + 125 * u) dX9_hasText_11 rfl rfl (ix125 u) (by omega) rfl ?_
  refine A_if_le hE 15 19 dX9_hasText_12 rfl rfl (fun c12 => ?_) (fun c12 => ?_)
  · refine A_iconst hE 20 dX9_hasText_19 rfl (0) rfl ?_
    refine A_zret hE dX9_hasText_20 (by first | exact Or.inl rfl | exact Or.inr rfl) ⟨?_, rfl⟩
    exact bI_f (iN c12)
  · refine A_iconst hE 16 dX9_hasText_15 rfl (1) rfl ?_
    refine A_goto hE 20 dX9_hasText_16 rfl ?_
    refine A_zret hE dX9_hasText_20 (by first | exact Or.inl rfl | exact Or.inr rfl) ⟨?_, rfl⟩
    exact bI_t (iG c12)
set_option maxRecDepth 100000 in
theorem c_X9_joined (c x y : Int32) (hop : opC c) : AMet yX9_joined cX9_joined 3 (some (.int)) 0 0 0 [.int c, .int x, .int y] [] (pI fun r h => r = jn c x y ∧ h = []) := by
  refine AMet.of (by decide +kernel) rfl (fun E ad0 hE => ?_)
  rcases hop with rfl | rfl | rfl | rfl | rfl | rfl | rfl | rfl | rfl | rfl
  · refine A_iload_n hE 1 dX9_joined_0 rfl rfl ?_
    refine A_tabIn hE 120 dX9_joined_1 (by decide) (by decide) (off := 119) (by decide) rfl ?_
    refine A_iload_n hE 121 dX9_joined_120 rfl rfl ?_
    refine A_iload_n hE 122 dX9_joined_121 rfl rfl ?_
    refine A_iadd hE 123 dX9_joined_122 rfl ?_
    refine A_iret hE dX9_joined_123 ⟨?_, rfl⟩
    rfl
  · refine A_iload_n hE 1 dX9_joined_0 rfl rfl ?_
    refine A_tabIn hE 124 dX9_joined_1 (by decide) (by decide) (off := 123) (by decide) rfl ?_
    refine A_iload_n hE 125 dX9_joined_124 rfl rfl ?_
    refine A_iload_n hE 126 dX9_joined_125 rfl rfl ?_
    refine A_isub hE 127 dX9_joined_126 rfl ?_
    refine A_iret hE dX9_joined_127 ⟨?_, rfl⟩
    rfl
  · refine A_iload_n hE 1 dX9_joined_0 rfl rfl ?_
    refine A_tabIn hE 128 dX9_joined_1 (by decide) (by decide) (off := 127) (by decide) rfl ?_
    refine A_iload_n hE 129 dX9_joined_128 rfl rfl ?_
    refine A_iload_n hE 130 dX9_joined_129 rfl rfl ?_
    refine A_imul hE 131 dX9_joined_130 rfl ?_
    refine A_iret hE dX9_joined_131 ⟨?_, rfl⟩
    rfl
  · refine A_iload_n hE 1 dX9_joined_0 rfl rfl ?_
    refine A_tabIn hE 132 dX9_joined_1 (by decide) (by decide) (off := 131) (by decide) rfl ?_
    refine A_iload_n hE 133 dX9_joined_132 rfl rfl ?_
    refine A_if_ne hE 136 140 dX9_joined_133 rfl rfl (fun c133 => ?_) (fun c133 => ?_)
    · refine A_iload_n hE 141 dX9_joined_140 rfl rfl ?_
      refine A_iconst hE 142 dX9_joined_141 rfl (-1) rfl ?_
      refine A_icmp_ne hE 145 150 dX9_joined_142 rfl rfl (fun c142 => ?_) (fun c142 => ?_)
      · refine A_iload_n hE 151 dX9_joined_150 rfl rfl ?_
        refine A_iload_n hE 152 dX9_joined_151 rfl rfl ?_
        refine A_idiv hE 153 dX9_joined_152 rfl c133 ?_
        refine A_iret hE dX9_joined_153 ⟨?_, rfl⟩
        show x / y = if y = 0 then 0 else x / y
        rw [if_neg c133]
      · refine A_iload_n hE 146 dX9_joined_145 rfl rfl ?_
        refine A_ineg hE 147 dX9_joined_146 rfl ?_
        refine A_goto hE 153 dX9_joined_147 rfl ?_
        refine A_iret hE dX9_joined_153 ⟨?_, rfl⟩
        show -x = if y = 0 then 0 else x / y
        rw [if_neg c133, c142, div_m1]
    · refine A_iconst hE 137 dX9_joined_136 rfl (0) rfl ?_
      refine A_goto hE 153 dX9_joined_137 rfl ?_
      refine A_iret hE dX9_joined_153 ⟨?_, rfl⟩
      show (0 : Int32) = if y = 0 then 0 else x / y
      rw [if_pos c133]
  · refine A_iload_n hE 1 dX9_joined_0 rfl rfl ?_
    refine A_tabIn hE 154 dX9_joined_1 (by decide) (by decide) (off := 153) (by decide) rfl ?_
    refine A_iload_n hE 155 dX9_joined_154 rfl rfl ?_
    refine A_if_eq hE 158 163 dX9_joined_155 rfl rfl (fun c155 => ?_) (fun c155 => ?_)
    · refine A_iconst hE 164 dX9_joined_163 rfl (0) rfl ?_
      refine A_goto hE 170 dX9_joined_164 rfl ?_
      refine A_iret hE dX9_joined_170 ⟨?_, rfl⟩
      show (0 : Int32) = if y = 0 then 0 else rm x y
      rw [if_pos c155]
    · refine A_iload_n hE 159 dX9_joined_158 rfl rfl ?_
      refine A_iconst hE 160 dX9_joined_159 rfl (-1) rfl ?_
      refine A_icmp_ne hE 163 167 dX9_joined_160 rfl rfl (fun c160 => ?_) (fun c160 => ?_)
      · refine A_iload_n hE 168 dX9_joined_167 rfl rfl ?_
        refine A_iload_n hE 169 dX9_joined_168 rfl rfl ?_
        refine A_irem hE 170 dX9_joined_169 rfl c155 ?_
        refine A_iret hE dX9_joined_170 ⟨?_, rfl⟩
        show rm x y = if y = 0 then 0 else rm x y
        rw [if_neg c155]
      · refine A_iconst hE 164 dX9_joined_163 rfl (0) rfl ?_
        refine A_goto hE 170 dX9_joined_164 rfl ?_
        refine A_iret hE dX9_joined_170 ⟨?_, rfl⟩
        show (0 : Int32) = if y = 0 then 0 else rm x y
        rw [if_neg c155, c160, rm_m1]
  · refine A_iload_n hE 1 dX9_joined_0 rfl rfl ?_
    refine A_tabIn hE 171 dX9_joined_1 (by decide) (by decide) (off := 170) (by decide) rfl ?_
    refine A_iload_n hE 172 dX9_joined_171 rfl rfl ?_
    refine A_iload_n hE 173 dX9_joined_172 rfl rfl ?_
    refine A_icmp_ge hE 176 180 dX9_joined_173 rfl rfl (fun c173 => ?_) (fun c173 => ?_)
    · refine A_iconst hE 181 dX9_joined_180 rfl (0) rfl ?_
      refine A_iret hE dX9_joined_181 ⟨?_, rfl⟩
      show (0 : Int32) = bI (decide (x < y))
      exact bI_f (iN c173)
    · refine A_iconst hE 177 dX9_joined_176 rfl (1) rfl ?_
      refine A_goto hE 181 dX9_joined_177 rfl ?_
      refine A_iret hE dX9_joined_181 ⟨?_, rfl⟩
      show (1 : Int32) = bI (decide (x < y))
      exact bI_t (iG c173)
  · refine A_iload_n hE 1 dX9_joined_0 rfl rfl ?_
    refine A_tabIn hE 182 dX9_joined_1 (by decide) (by decide) (off := 181) (by decide) rfl ?_
    refine A_iload_n hE 183 dX9_joined_182 rfl rfl ?_
    refine A_iload_n hE 184 dX9_joined_183 rfl rfl ?_
    refine A_icmp_le hE 187 191 dX9_joined_184 rfl rfl (fun c184 => ?_) (fun c184 => ?_)
    · refine A_iconst hE 192 dX9_joined_191 rfl (0) rfl ?_
      refine A_iret hE dX9_joined_192 ⟨?_, rfl⟩
      show (0 : Int32) = bI (decide (y < x))
      exact bI_f (iN c184)
    · refine A_iconst hE 188 dX9_joined_187 rfl (1) rfl ?_
      refine A_goto hE 192 dX9_joined_188 rfl ?_
      refine A_iret hE dX9_joined_192 ⟨?_, rfl⟩
      show (1 : Int32) = bI (decide (y < x))
      exact bI_t (iG c184)
  · refine A_iload_n hE 1 dX9_joined_0 rfl rfl ?_
    refine A_tabIn hE 193 dX9_joined_1 (by decide) (by decide) (off := 192) (by decide) rfl ?_
    refine A_iload_n hE 194 dX9_joined_193 rfl rfl ?_
    refine A_iload_n hE 195 dX9_joined_194 rfl rfl ?_
    refine A_icmp_ne hE 198 202 dX9_joined_195 rfl rfl (fun c195 => ?_) (fun c195 => ?_)
    · refine A_iconst hE 203 dX9_joined_202 rfl (0) rfl ?_
      refine A_iret hE dX9_joined_203 ⟨?_, rfl⟩
      show (0 : Int32) = bI (decide (x = y))
      exact bI_f c195
    · refine A_iconst hE 199 dX9_joined_198 rfl (1) rfl ?_
      refine A_goto hE 203 dX9_joined_199 rfl ?_
      refine A_iret hE dX9_joined_203 ⟨?_, rfl⟩
      show (1 : Int32) = bI (decide (x = y))
      exact bI_t c195
  · refine A_iload_n hE 1 dX9_joined_0 rfl rfl ?_
    refine A_tabIn hE 204 dX9_joined_1 (by decide) (by decide) (off := 203) (by decide) rfl ?_
    refine A_iload_n hE 205 dX9_joined_204 rfl rfl ?_
    refine A_if_eq hE 208 216 dX9_joined_205 rfl rfl (fun c205 => ?_) (fun c205 => ?_)
    · refine A_iconst hE 217 dX9_joined_216 rfl (0) rfl ?_
      refine A_iret hE dX9_joined_217 ⟨?_, rfl⟩
      show (0 : Int32) = bI (decide (¬ x = 0 ∧ ¬ y = 0))
      exact bI_f (fun z => z.1 c205)
    · refine A_iload_n hE 209 dX9_joined_208 rfl rfl ?_
      refine A_if_eq hE 212 216 dX9_joined_209 rfl rfl (fun c209 => ?_) (fun c209 => ?_)
      · refine A_iconst hE 217 dX9_joined_216 rfl (0) rfl ?_
        refine A_iret hE dX9_joined_217 ⟨?_, rfl⟩
        show (0 : Int32) = bI (decide (¬ x = 0 ∧ ¬ y = 0))
        exact bI_f (fun z => z.2 c209)
      · refine A_iconst hE 213 dX9_joined_212 rfl (1) rfl ?_
        refine A_goto hE 217 dX9_joined_213 rfl ?_
        refine A_iret hE dX9_joined_217 ⟨?_, rfl⟩
        show (1 : Int32) = bI (decide (¬ x = 0 ∧ ¬ y = 0))
        exact bI_t ⟨c205, c209⟩
  · refine A_iload_n hE 1 dX9_joined_0 rfl rfl ?_
    refine A_tabOut hE 218 dX9_joined_1 (Or.inr (by decide)) rfl ?_
    refine A_iload_n hE 219 dX9_joined_218 rfl rfl ?_
    refine A_if_ne hE 222 226 dX9_joined_219 rfl rfl (fun c219 => ?_) (fun c219 => ?_)
    · refine A_iconst hE 227 dX9_joined_226 rfl (1) rfl ?_
      refine A_goto hE 231 dX9_joined_227 rfl ?_
      refine A_iret hE dX9_joined_231 ⟨?_, rfl⟩
      show (1 : Int32) = bI (decide (¬ x = 0 ∨ ¬ y = 0))
      exact bI_t (Or.inl c219)
    · refine A_iload_n hE 223 dX9_joined_222 rfl rfl ?_
      refine A_if_eq hE 226 230 dX9_joined_223 rfl rfl (fun c223 => ?_) (fun c223 => ?_)
      · refine A_iconst hE 231 dX9_joined_230 rfl (0) rfl ?_
        refine A_iret hE dX9_joined_231 ⟨?_, rfl⟩
        show (0 : Int32) = bI (decide (¬ x = 0 ∨ ¬ y = 0))
        exact bI_f (fun z => z.elim (fun w => w c219) (fun w => w c223))
      · refine A_iconst hE 227 dX9_joined_226 rfl (1) rfl ?_
        refine A_goto hE 231 dX9_joined_227 rfl ?_
        refine A_iret hE dX9_joined_231 ⟨?_, rfl⟩
        show (1 : Int32) = bI (decide (¬ x = 0 ∨ ¬ y = 0))
        exact bI_t (Or.inr c223)
set_option maxRecDepth 100000 in
theorem c_X9_worked (s K be er st na pi tr bi sz nu as' : Nat → Int32) (im at' op sp us tn sk ip : Int32) (u : Nat) (ss : Sp) (a b c : Int32) (hu : u < 2) (hm : MText s u ss) (hne : ¬ ss = []) (hna : ∀ v : Int32, (v = 115 ∨ v = 100 ∨ v = (if u = 0 then 118 else 108)) → na v.toNatClampNeg = nmF u a b c v) : AMet yX9_worked cX9_worked 7 (some (.int)) 1 0 0 [.ref 0, .int (nI u)] (MW s K be er st na pi tr bi sz nu as' im at' op sp us tn sk ip) (pI fun x h => x = (evL (nmF u a b c) ss []).headD 0 ∧ ∃ pi' : Nat → Int32, h = MW s K be er st na pi' tr bi sz nu as' im at' op sp us tn sk ip) := by
  refine AMet.of (by decide +kernel) rfl (fun E ad0 hE => ?_)
  obtain ⟨⟨hlen, hdp, hokS⟩, hct, hgS⟩ := hm
  have loop : ∀ (rs : Sp) (i : Nat) (stk : List Int32) (pi : Nat → Int32), i + rs.length = ss.length → (∀ j, j < rs.length → s (50 + 125 * u + 2 * (i + j)) = (rs.getD j (0, 0)).1 ∧ s (51 + 125 * u + 2 * (i + j)) = (rs.getD j (0, 0)).2) → (∀ x ∈ rs, okS u x) → dpt rs stk.length = some 1 → stk.length ≤ i → HoldR pi stk → (evL (nmF u a b c) ss []).headD 0 = (evL (nmF u a b c) rs stk).headD 0 → AW E (rmD 1 0 0) 7 (QM E ad0 13 0 0 (pI fun x h => x = (evL (nmF u a b c) ss []).headD 0 ∧ ∃ pi' : Nat → Int32, h = MW s K be er st na pi' tr bi sz nu as' im at' op sp us tn sk ip)) ad0 13 0 0 13 [(0, .ref 0), (2, .int (nI (49 + 125 * u))), (3, .int (nI stk.length)), (4, .int (nI i))] [] (MW s K be er st na pi tr bi sz nu as' im at' op sp us tn sk ip) := by
    intro rs
    induction rs with
    | nil =>
      intro i stk pi hi hg2 hok hd hs hH hr
      have hi2 : i = ss.length := by simpa using hi
      subst hi2
      have h1 : stk.length = 1 := by simpa [dpt] using hd
      obtain ⟨x, rfl⟩ := List.length_eq_one_iff.mp h1
      refine A_iload hE 15 dX9_worked_13 rfl rfl ?_
      refine A_aload_n hE 16 dX9_worked_15 rfl rfl ?_
      refine A_get hE 19 dX9_worked_16 rfl fkX9_7 rfl rfl ?_
      refine A_iload_n hE 20 dX9_worked_19 rfl rfl ?_
      refine A_iald hE 21 (49 + 125 * u) dX9_worked_20 rfl rfl rfl (by omega) rfl ?_
      rw [hct]
      refine A_icmp_ge hE 24 163 dX9_worked_21 rfl rfl (fun c21 => ?_) (fun c21 => absurd (nI_le (Nat.le_refl _) (by omega)) c21)
      refine A_aload_n hE 164 dX9_worked_163 rfl rfl ?_
      refine A_get hE 167 dX9_worked_164 rfl fkX9_28 rfl rfl ?_
      refine A_iconst hE 168 dX9_worked_167 rfl (0) rfl ?_
      refine A_iald hE 169 0 dX9_worked_168 rfl rfl rfl (by omega) rfl ?_
      refine A_iret hE dX9_worked_169 ⟨?_, pi, rfl⟩
      rw [hr]
      exact hH.top
    | cons q rs ih =>
      obtain ⟨w, v⟩ := q
      intro i stk pi hi hg2 hok hd hs hH hr
      simp only [List.length_cons] at hi
      have hil : i < ss.length := by omega
      have hg0 : s (50 + 125 * u + 2 * i) = w ∧ s (51 + 125 * u + 2 * i) = v := by simpa using hg2 0 (by simp)
      have hgn : ∀ j, j < rs.length → s (50 + 125 * u + 2 * (i + 1 + j)) = (rs.getD j (0, 0)).1 ∧ s (51 + 125 * u + 2 * (i + 1 + j)) = (rs.getD j (0, 0)).2 := fun j hj => by have h3 := hg2 (j + 1) (by simp; omega); rw [show i + 1 + j = i + (j + 1) by omega]; simpa using h3
      have hokn : ∀ x ∈ rs, okS u x := fun x hx => hok x (List.mem_cons_of_mem _ hx)
      rcases hok (w, v) List.mem_cons_self with ⟨hw, n, hn, hv⟩ | ⟨hw, hv⟩ | ⟨hw, hv⟩ | ⟨hw, hv⟩
      · have hw : w = 0 := hw
        have hv : v = nI n := hv
        subst hw; subst hv
        refine A_iload hE 15 dX9_worked_13 rfl rfl ?_
        refine A_aload_n hE 16 dX9_worked_15 rfl rfl ?_
        refine A_get hE 19 dX9_worked_16 rfl fkX9_7 rfl rfl ?_
        refine A_iload_n hE 20 dX9_worked_19 rfl rfl ?_
        refine A_iald hE 21 (49 + 125 * u) dX9_worked_20 rfl rfl rfl (by omega) rfl ?_
        rw [hct]
        refine A_icmp_ge hE 24 163 dX9_worked_21 rfl rfl (fun c21 => absurd c21 (nI_ge hil (by omega))) (fun c21 => ?_)
        refine A_aload_n hE 25 dX9_worked_24 rfl rfl ?_
        refine A_get hE 28 dX9_worked_25 rfl fkX9_7 rfl rfl ?_
        refine A_iload_n hE 29 dX9_worked_28 rfl rfl ?_
        refine A_iconst hE 30 dX9_worked_29 rfl (1) rfl ?_
        refine A_iadd hE 31 dX9_worked_30 rfl ?_
        refine A_iconst hE 32 dX9_worked_31 rfl (2) rfl ?_
        refine A_iload hE 34 dX9_worked_32 rfl rfl ?_
        refine A_imul hE 35 dX9_worked_34 rfl ?_
        refine A_iadd hE 36 dX9_worked_35 rfl ?_
        refine A_iald hE 37 (50 + 125 * u + 2 * i) dX9_worked_36 rfl rfl (by show nI (49 + 125 * u) + nI 1 + nI 2 * nI i = _; rw [pk_mul, nI_add, nI_add]; congr 1; omega) (by omega) rfl ?_
        rw [hg0.1]
        refine A_istore hE 39 dX9_worked_37 rfl rfl rfl ?_
        refine A_aload_n hE 40 dX9_worked_39 rfl rfl ?_
        refine A_get hE 43 dX9_worked_40 rfl fkX9_7 rfl rfl ?_
        refine A_iload_n hE 44 dX9_worked_43 rfl rfl ?_
        refine A_iconst hE 45 dX9_worked_44 rfl (2) rfl ?_
        refine A_iadd hE 46 dX9_worked_45 rfl ?_
        refine A_iconst hE 47 dX9_worked_46 rfl (2) rfl ?_
        refine A_iload hE 49 dX9_worked_47 rfl rfl ?_
        refine A_imul hE 50 dX9_worked_49 rfl ?_
        refine A_iadd hE 51 dX9_worked_50 rfl ?_
        refine A_iald hE 52 (51 + 125 * u + 2 * i) dX9_worked_51 rfl rfl (by show nI (49 + 125 * u) + nI 2 + nI 2 * nI i = _; rw [pk_mul, nI_add, nI_add]; congr 1; omega) (by omega) rfl ?_
        rw [hg0.2]
        refine A_istore hE 54 dX9_worked_52 rfl rfl rfl ?_
        refine A_iload hE 56 dX9_worked_54 rfl rfl ?_
        refine A_if_eq hE 59 65 dX9_worked_56 rfl rfl (fun c56 => ?_) (fun c56 => absurd rfl c56)
        refine A_aload_n hE 66 dX9_worked_65 rfl rfl ?_
        refine A_get hE 69 dX9_worked_66 rfl fkX9_28 rfl rfl ?_
        refine A_iload_n hE 70 dX9_worked_69 rfl rfl ?_
        refine A_iload hE 72 dX9_worked_70 rfl rfl ?_
        refine A_if_ne hE 75 80 dX9_worked_72 rfl rfl (fun c72 => absurd rfl c72) (fun c72 => ?_)
        refine A_iload hE 77 dX9_worked_75 rfl rfl ?_
        refine A_goto hE 87 dX9_worked_77 rfl ?_
        refine A_iast hE 88 stk.length dX9_worked_87 rfl rfl rfl (by omega) rfl rfl ?_
        refine A_iinc hE 91 dX9_worked_88 rfl rfl (1) rfl rfl rfl ?_
        refine A_goto hE 157 dX9_worked_91 rfl ?_
        refine A_iinc hE 160 dX9_worked_157 rfl rfl (1) rfl rfl rfl ?_
        rw [nI_1, nI_1]
        refine A_lv [0, 2, 3, 4] rfl ?_
        refine A_goto hE 13 dX9_worked_160 rfl ?_
        exact ih (i + 1) (nI n :: stk) _ (by omega) hgn hokn hd (by simp; omega) (hH.push _) hr
      · have hw : w = 1 := hw
        have hv : v = 115 ∨ v = 100 ∨ v = (if u = 0 then 118 else 108) := hv
        subst hw
        refine A_iload hE 15 dX9_worked_13 rfl rfl ?_
        refine A_aload_n hE 16 dX9_worked_15 rfl rfl ?_
        refine A_get hE 19 dX9_worked_16 rfl fkX9_7 rfl rfl ?_
        refine A_iload_n hE 20 dX9_worked_19 rfl rfl ?_
        refine A_iald hE 21 (49 + 125 * u) dX9_worked_20 rfl rfl rfl (by omega) rfl ?_
        rw [hct]
        refine A_icmp_ge hE 24 163 dX9_worked_21 rfl rfl (fun c21 => absurd c21 (nI_ge hil (by omega))) (fun c21 => ?_)
        refine A_aload_n hE 25 dX9_worked_24 rfl rfl ?_
        refine A_get hE 28 dX9_worked_25 rfl fkX9_7 rfl rfl ?_
        refine A_iload_n hE 29 dX9_worked_28 rfl rfl ?_
        refine A_iconst hE 30 dX9_worked_29 rfl (1) rfl ?_
        refine A_iadd hE 31 dX9_worked_30 rfl ?_
        refine A_iconst hE 32 dX9_worked_31 rfl (2) rfl ?_
        refine A_iload hE 34 dX9_worked_32 rfl rfl ?_
        refine A_imul hE 35 dX9_worked_34 rfl ?_
        refine A_iadd hE 36 dX9_worked_35 rfl ?_
        refine A_iald hE 37 (50 + 125 * u + 2 * i) dX9_worked_36 rfl rfl (by show nI (49 + 125 * u) + nI 1 + nI 2 * nI i = _; rw [pk_mul, nI_add, nI_add]; congr 1; omega) (by omega) rfl ?_
        rw [hg0.1]
        refine A_istore hE 39 dX9_worked_37 rfl rfl rfl ?_
        refine A_aload_n hE 40 dX9_worked_39 rfl rfl ?_
        refine A_get hE 43 dX9_worked_40 rfl fkX9_7 rfl rfl ?_
        refine A_iload_n hE 44 dX9_worked_43 rfl rfl ?_
        refine A_iconst hE 45 dX9_worked_44 rfl (2) rfl ?_
        refine A_iadd hE 46 dX9_worked_45 rfl ?_
        refine A_iconst hE 47 dX9_worked_46 rfl (2) rfl ?_
        refine A_iload hE 49 dX9_worked_47 rfl rfl ?_
        refine A_imul hE 50 dX9_worked_49 rfl ?_
        refine A_iadd hE 51 dX9_worked_50 rfl ?_
        refine A_iald hE 52 (51 + 125 * u + 2 * i) dX9_worked_51 rfl rfl (by show nI (49 + 125 * u) + nI 2 + nI 2 * nI i = _; rw [pk_mul, nI_add, nI_add]; congr 1; omega) (by omega) rfl ?_
        rw [hg0.2]
        refine A_istore hE 54 dX9_worked_52 rfl rfl rfl ?_
        refine A_iload hE 56 dX9_worked_54 rfl rfl ?_
        refine A_if_eq hE 59 65 dX9_worked_56 rfl rfl (fun c56 => absurd c56 (by decide)) (fun c56 => ?_)
        refine A_iload hE 61 dX9_worked_59 rfl rfl ?_
        refine A_iconst hE 62 dX9_worked_61 rfl (1) rfl ?_
        refine A_icmp_ne hE 65 94 dX9_worked_62 rfl rfl (fun c62 => absurd rfl c62) (fun c62 => ?_)
        refine A_aload_n hE 66 dX9_worked_65 rfl rfl ?_
        refine A_get hE 69 dX9_worked_66 rfl fkX9_28 rfl rfl ?_
        refine A_iload_n hE 70 dX9_worked_69 rfl rfl ?_
        refine A_iload hE 72 dX9_worked_70 rfl rfl ?_
        refine A_if_ne hE 75 80 dX9_worked_72 rfl rfl (fun c72 => ?_) (fun c72 => absurd c72 (by decide))
        refine A_aload_n hE 81 dX9_worked_80 rfl rfl ?_
        refine A_get hE 84 dX9_worked_81 rfl fkX9_25 rfl rfl ?_
        refine A_iload hE 86 dX9_worked_84 rfl rfl ?_
        refine A_iald hE 87 v.toNatClampNeg dX9_worked_86 rfl rfl (nm_ix hu hv).1 (nm_ix hu hv).2 rfl ?_
        rw [hna v hv]
        refine A_iast hE 88 stk.length dX9_worked_87 rfl rfl rfl (by omega) rfl rfl ?_
        refine A_iinc hE 91 dX9_worked_88 rfl rfl (1) rfl rfl rfl ?_
        refine A_goto hE 157 dX9_worked_91 rfl ?_
        refine A_iinc hE 160 dX9_worked_157 rfl rfl (1) rfl rfl rfl ?_
        rw [nI_1, nI_1]
        refine A_lv [0, 2, 3, 4] rfl ?_
        refine A_goto hE 13 dX9_worked_160 rfl ?_
        exact ih (i + 1) (nmF u a b c v :: stk) _ (by omega) hgn hokn hd (by simp; omega) (hH.push _) hr
      · have hw : w = 2 := hw
        subst hw
        have hd : (if 1 ≤ stk.length then dpt rs stk.length else none) = some 1 := hd
        have h1 : 1 ≤ stk.length := by by_cases z : 1 ≤ stk.length <;> simp_all
        rw [if_pos h1] at hd
        obtain ⟨x, r, rfl⟩ : ∃ x r, stk = x :: r := by cases stk <;> simp_all
        have hr : (evL (nmF u a b c) ss []).headD 0 = (evL (nmF u a b c) rs ((if x = 0 then 1 else 0) :: r)).headD 0 := hr
        have hpop := hH.pop
        refine A_iload hE 15 dX9_worked_13 rfl rfl ?_
        refine A_aload_n hE 16 dX9_worked_15 rfl rfl ?_
        refine A_get hE 19 dX9_worked_16 rfl fkX9_7 rfl rfl ?_
        refine A_iload_n hE 20 dX9_worked_19 rfl rfl ?_
        refine A_iald hE 21 (49 + 125 * u) dX9_worked_20 rfl rfl rfl (by omega) rfl ?_
        rw [hct]
        refine A_icmp_ge hE 24 163 dX9_worked_21 rfl rfl (fun c21 => absurd c21 (nI_ge hil (by omega))) (fun c21 => ?_)
        refine A_aload_n hE 25 dX9_worked_24 rfl rfl ?_
        refine A_get hE 28 dX9_worked_25 rfl fkX9_7 rfl rfl ?_
        refine A_iload_n hE 29 dX9_worked_28 rfl rfl ?_
        refine A_iconst hE 30 dX9_worked_29 rfl (1) rfl ?_
        refine A_iadd hE 31 dX9_worked_30 rfl ?_
        refine A_iconst hE 32 dX9_worked_31 rfl (2) rfl ?_
        refine A_iload hE 34 dX9_worked_32 rfl rfl ?_
        refine A_imul hE 35 dX9_worked_34 rfl ?_
        refine A_iadd hE 36 dX9_worked_35 rfl ?_
        refine A_iald hE 37 (50 + 125 * u + 2 * i) dX9_worked_36 rfl rfl (by show nI (49 + 125 * u) + nI 1 + nI 2 * nI i = _; rw [pk_mul, nI_add, nI_add]; congr 1; omega) (by omega) rfl ?_
        rw [hg0.1]
        refine A_istore hE 39 dX9_worked_37 rfl rfl rfl ?_
        refine A_aload_n hE 40 dX9_worked_39 rfl rfl ?_
        refine A_get hE 43 dX9_worked_40 rfl fkX9_7 rfl rfl ?_
        refine A_iload_n hE 44 dX9_worked_43 rfl rfl ?_
        refine A_iconst hE 45 dX9_worked_44 rfl (2) rfl ?_
        refine A_iadd hE 46 dX9_worked_45 rfl ?_
        refine A_iconst hE 47 dX9_worked_46 rfl (2) rfl ?_
        refine A_iload hE 49 dX9_worked_47 rfl rfl ?_
        refine A_imul hE 50 dX9_worked_49 rfl ?_
        refine A_iadd hE 51 dX9_worked_50 rfl ?_
        refine A_iald hE 52 (51 + 125 * u + 2 * i) dX9_worked_51 rfl rfl (by show nI (49 + 125 * u) + nI 2 + nI 2 * nI i = _; rw [pk_mul, nI_add, nI_add]; congr 1; omega) (by omega) rfl ?_
        rw [hg0.2]
        refine A_istore hE 54 dX9_worked_52 rfl rfl rfl ?_
        refine A_iload hE 56 dX9_worked_54 rfl rfl ?_
        refine A_if_eq hE 59 65 dX9_worked_56 rfl rfl (fun c56 => absurd c56 (by decide)) (fun c56 => ?_)
        refine A_iload hE 61 dX9_worked_59 rfl rfl ?_
        refine A_iconst hE 62 dX9_worked_61 rfl (1) rfl ?_
        refine A_icmp_ne hE 65 94 dX9_worked_62 rfl rfl (fun c62 => ?_) (fun c62 => absurd c62 (by decide))
        refine A_iload hE 96 dX9_worked_94 rfl rfl ?_
        refine A_iconst hE 97 dX9_worked_96 rfl (2) rfl ?_
        refine A_icmp_ne hE 100 127 dX9_worked_97 rfl rfl (fun c97 => absurd rfl c97) (fun c97 => ?_)
        refine A_aload_n hE 101 dX9_worked_100 rfl rfl ?_
        refine A_get hE 104 dX9_worked_101 rfl fkX9_28 rfl rfl ?_
        refine A_iload_n hE 105 dX9_worked_104 rfl rfl ?_
        refine A_iconst hE 106 dX9_worked_105 rfl (1) rfl ?_
        refine A_isub hE 107 dX9_worked_106 rfl ?_
        refine A_aload_n hE 108 dX9_worked_107 rfl rfl ?_
        refine A_get hE 111 dX9_worked_108 rfl fkX9_28 rfl rfl ?_
        refine A_iload_n hE 112 dX9_worked_111 rfl rfl ?_
        refine A_iconst hE 113 dX9_worked_112 rfl (1) rfl ?_
        refine A_isub hE 114 dX9_worked_113 rfl ?_
        refine A_iald hE 115 r.length dX9_worked_114 rfl rfl (nI_pred _) (by simp at hs; omega) rfl ?_
        rw [hH.top]
        refine A_if_ne hE 118 122 dX9_worked_115 rfl rfl (fun c115 => ?_) (fun c115 => ?_)
        · refine A_iconst hE 123 dX9_worked_122 rfl (0) rfl ?_
          refine A_iast hE 124 r.length dX9_worked_123 rfl rfl (nI_pred _) (by simp at hs; omega) rfl rfl ?_
          refine A_goto hE 157 dX9_worked_124 rfl ?_
          refine A_iinc hE 160 dX9_worked_157 rfl rfl (1) rfl rfl rfl ?_
          rw [nI_1]
          refine A_lv [0, 2, 3, 4] rfl ?_
          refine A_goto hE 13 dX9_worked_160 rfl ?_
          exact ih (i + 1) (0 :: r) _ (by omega) hgn hokn hd (by simp at hs ⊢; omega) (hpop.push _) (by rw [hr, if_neg c115])
        · refine A_iconst hE 119 dX9_worked_118 rfl (1) rfl ?_
          refine A_goto hE 123 dX9_worked_119 rfl ?_
          refine A_iast hE 124 r.length dX9_worked_123 rfl rfl (nI_pred _) (by simp at hs; omega) rfl rfl ?_
          refine A_goto hE 157 dX9_worked_124 rfl ?_
          refine A_iinc hE 160 dX9_worked_157 rfl rfl (1) rfl rfl rfl ?_
          rw [nI_1]
          refine A_lv [0, 2, 3, 4] rfl ?_
          refine A_goto hE 13 dX9_worked_160 rfl ?_
          exact ih (i + 1) (1 :: r) _ (by omega) hgn hokn hd (by simp at hs ⊢; omega) (hpop.push _) (by rw [hr, if_pos c115])
      · have hw : w = 3 := hw
        subst hw
        have hd : (if 2 ≤ stk.length then dpt rs (stk.length - 1) else none) = some 1 := hd
        have h1 : 2 ≤ stk.length := by by_cases z : 2 ≤ stk.length <;> simp_all
        rw [if_pos h1] at hd
        obtain ⟨y, x, r, rfl⟩ : ∃ y x r, stk = y :: x :: r := by
          cases stk with
          | nil => simp at h1
          | cons y t => cases t with
            | nil => simp at h1
            | cons x r => exact ⟨y, x, r, rfl⟩
        have hr : (evL (nmF u a b c) ss []).headD 0 = (evL (nmF u a b c) rs (jn v x y :: r)).headD 0 := hr
        have hpop := hH.pop
        have hpop2 := hpop.pop
        refine A_iload hE 15 dX9_worked_13 rfl rfl ?_
        refine A_aload_n hE 16 dX9_worked_15 rfl rfl ?_
        refine A_get hE 19 dX9_worked_16 rfl fkX9_7 rfl rfl ?_
        refine A_iload_n hE 20 dX9_worked_19 rfl rfl ?_
        refine A_iald hE 21 (49 + 125 * u) dX9_worked_20 rfl rfl rfl (by omega) rfl ?_
        rw [hct]
        refine A_icmp_ge hE 24 163 dX9_worked_21 rfl rfl (fun c21 => absurd c21 (nI_ge hil (by omega))) (fun c21 => ?_)
        refine A_aload_n hE 25 dX9_worked_24 rfl rfl ?_
        refine A_get hE 28 dX9_worked_25 rfl fkX9_7 rfl rfl ?_
        refine A_iload_n hE 29 dX9_worked_28 rfl rfl ?_
        refine A_iconst hE 30 dX9_worked_29 rfl (1) rfl ?_
        refine A_iadd hE 31 dX9_worked_30 rfl ?_
        refine A_iconst hE 32 dX9_worked_31 rfl (2) rfl ?_
        refine A_iload hE 34 dX9_worked_32 rfl rfl ?_
        refine A_imul hE 35 dX9_worked_34 rfl ?_
        refine A_iadd hE 36 dX9_worked_35 rfl ?_
        refine A_iald hE 37 (50 + 125 * u + 2 * i) dX9_worked_36 rfl rfl (by show nI (49 + 125 * u) + nI 1 + nI 2 * nI i = _; rw [pk_mul, nI_add, nI_add]; congr 1; omega) (by omega) rfl ?_
        rw [hg0.1]
        refine A_istore hE 39 dX9_worked_37 rfl rfl rfl ?_
        refine A_aload_n hE 40 dX9_worked_39 rfl rfl ?_
        refine A_get hE 43 dX9_worked_40 rfl fkX9_7 rfl rfl ?_
        refine A_iload_n hE 44 dX9_worked_43 rfl rfl ?_
        refine A_iconst hE 45 dX9_worked_44 rfl (2) rfl ?_
        refine A_iadd hE 46 dX9_worked_45 rfl ?_
        refine A_iconst hE 47 dX9_worked_46 rfl (2) rfl ?_
        refine A_iload hE 49 dX9_worked_47 rfl rfl ?_
        refine A_imul hE 50 dX9_worked_49 rfl ?_
        refine A_iadd hE 51 dX9_worked_50 rfl ?_
        refine A_iald hE 52 (51 + 125 * u + 2 * i) dX9_worked_51 rfl rfl (by show nI (49 + 125 * u) + nI 2 + nI 2 * nI i = _; rw [pk_mul, nI_add, nI_add]; congr 1; omega) (by omega) rfl ?_
        rw [hg0.2]
        refine A_istore hE 54 dX9_worked_52 rfl rfl rfl ?_
        refine A_iload hE 56 dX9_worked_54 rfl rfl ?_
        refine A_if_eq hE 59 65 dX9_worked_56 rfl rfl (fun c56 => absurd c56 (by decide)) (fun c56 => ?_)
        refine A_iload hE 61 dX9_worked_59 rfl rfl ?_
        refine A_iconst hE 62 dX9_worked_61 rfl (1) rfl ?_
        refine A_icmp_ne hE 65 94 dX9_worked_62 rfl rfl (fun c62 => ?_) (fun c62 => absurd c62 (by decide))
        refine A_iload hE 96 dX9_worked_94 rfl rfl ?_
        refine A_iconst hE 97 dX9_worked_96 rfl (2) rfl ?_
        refine A_icmp_ne hE 100 127 dX9_worked_97 rfl rfl (fun c97 => ?_) (fun c97 => absurd c97 (by decide))
        refine A_iinc hE 130 dX9_worked_127 rfl rfl (-1) rfl rfl rfl ?_
        rw [show nI (y :: x :: r).length + (-1) = nI (r.length + 1) from nI_m1 (r.length + 1)]
        refine A_aload_n hE 131 dX9_worked_130 rfl rfl ?_
        refine A_get hE 134 dX9_worked_131 rfl fkX9_28 rfl rfl ?_
        refine A_iload_n hE 135 dX9_worked_134 rfl rfl ?_
        refine A_iconst hE 136 dX9_worked_135 rfl (1) rfl ?_
        refine A_isub hE 137 dX9_worked_136 rfl ?_
        refine A_iload hE 139 dX9_worked_137 rfl rfl ?_
        refine A_aload_n hE 140 dX9_worked_139 rfl rfl ?_
        refine A_get hE 143 dX9_worked_140 rfl fkX9_28 rfl rfl ?_
        refine A_iload_n hE 144 dX9_worked_143 rfl rfl ?_
        refine A_iconst hE 145 dX9_worked_144 rfl (1) rfl ?_
        refine A_isub hE 146 dX9_worked_145 rfl ?_
        refine A_iald hE 147 r.length dX9_worked_146 rfl rfl (nI_pred _) (by simp at hs; omega) rfl ?_
        rw [hpop.top]
        refine A_aload_n hE 148 dX9_worked_147 rfl rfl ?_
        refine A_get hE 151 dX9_worked_148 rfl fkX9_28 rfl rfl ?_
        refine A_iload_n hE 152 dX9_worked_151 rfl rfl ?_
        refine A_iald hE 153 (r.length + 1) dX9_worked_152 rfl rfl rfl (by simp at hs; omega) rfl ?_
        rw [show pi (r.length + 1) = y from hH.top]
        refine A_callSi hE 156 (c_X9_joined v x y hv) [] dX9_worked_153 rfl mkX9_107 rfl rfl rfl rfl rfl rfl (Nat.le_of_ble_eq_true rfl) (Nat.le_of_ble_eq_true rfl) rfl (fun x153 h153 g153 hp153 hw153 => ?_)
        obtain ⟨rfl, rfl⟩ := hp153
        obtain rfl := Option.some.inj hw153
        refine A_iast hE 157 r.length dX9_worked_156 rfl rfl (nI_pred _) (by simp at hs; omega) rfl rfl ?_
        refine A_iinc hE 160 dX9_worked_157 rfl rfl (1) rfl rfl rfl ?_
        rw [nI_1]
        refine A_lv [0, 2, 3, 4] rfl ?_
        refine A_goto hE 13 dX9_worked_160 rfl ?_
        exact ih (i + 1) (jn v x y :: r) _ (by omega) hgn hokn hd (by simp at hs ⊢; omega) (hpop2.push _) hr
  refine A_bipush hE 2 dX9_worked_0 rfl (49) (by decide) ?_
  refine A_bipush hE 4 dX9_worked_2 rfl (125) (by decide) ?_
  refine A_iload_n hE 5 dX9_worked_4 rfl rfl ?_
  refine A_imul hE 6 dX9_worked_5 rfl ?_
  refine A_iadd hE 7 dX9_worked_6 rfl ?_
  refine A_istore_n hE 8 dX9_worked_7 rfl rfl rfl ?_
  refine A_iconst hE 9 dX9_worked_8 rfl (0) rfl ?_
  refine A_istore_n hE 10 dX9_worked_9 rfl rfl rfl ?_
  refine A_iconst hE 11 dX9_worked_10 rfl (0) rfl ?_
  refine A_istore hE 13 dX9_worked_11 rfl rfl rfl ?_
  rw [ix125]
  refine A_lv [0, 2, 3, 4] rfl ?_
  exact loop ss 0 [] pi (Nat.zero_add _) (fun j hj => by rw [Nat.zero_add]; exact hgS j hj) hokS (hdp.resolve_left hne) (Nat.le_refl _) (fun j hj => by simp at hj) rfl
