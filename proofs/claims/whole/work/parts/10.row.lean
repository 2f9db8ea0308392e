set_option maxRecDepth 100000 in
theorem c_X3_has (n : Nat) (f : Nat → Int32) (sz i : Int32) : AMet yX3_has cX3_has 2 (some (.boolean)) 0 0 0 [.ref 0, .int i] [cRow 1 sz, cI n f] (pI fun x h => x = bI (decide (0 ≤ i ∧ i < sz)) ∧ h = [cRow 1 sz, cI n f]) := by
  refine AMet.of (by decide +kernel) rfl (fun E ad0 hE => ?_)
  refine A_iload_n hE 1 dX3_has_0 rfl rfl ?_
  refine A_if_lt hE 4 16 dX3_has_1 rfl rfl (fun c1 => ?_) (fun c1 => ?_)
  · refine A_iconst hE 17 dX3_has_16 rfl (0) rfl ?_
    refine A_zret hE dX3_has_17 (by first | exact Or.inl rfl | exact Or.inr rfl) ⟨?_, rfl⟩
    exact bI_f (fun z => iN z.1 c1)
  · refine A_iload_n hE 5 dX3_has_4 rfl rfl ?_
    refine A_aload_n hE 6 dX3_has_5 rfl rfl ?_
    refine A_get hE 9 dX3_has_6 rfl fkX3_7 rfl rfl ?_
    refine A_icmp_ge hE 12 16 dX3_has_9 rfl rfl (fun c9 => ?_) (fun c9 => ?_)
    · refine A_iconst hE 17 dX3_has_16 rfl (0) rfl ?_
      refine A_zret hE dX3_has_17 (by first | exact Or.inl rfl | exact Or.inr rfl) ⟨?_, rfl⟩
      exact bI_f (fun z => absurd z.2 (iN c9))
    · refine A_iconst hE 13 dX3_has_12 rfl (1) rfl ?_
      refine A_goto hE 17 dX3_has_13 rfl ?_
      refine A_zret hE dX3_has_17 (by first | exact Or.inl rfl | exact Or.inr rfl) ⟨?_, rfl⟩
      exact bI_t ⟨iL c1, iG c9⟩
set_option maxRecDepth 100000 in
theorem c_X3_hasRun (n : Nat) (f : Nat → Int32) (sz i k : Int32) : AMet yX3_hasRun cX3_hasRun 3 (some (.boolean)) 0 0 0 [.ref 0, .int i, .int k] [cRow 1 sz, cI n f] (pI fun x h => x = bI (decide (0 ≤ k ∧ k ≤ sz ∧ 0 ≤ i ∧ i ≤ sz - k)) ∧ h = [cRow 1 sz, cI n f]) := by
  refine AMet.of (by decide +kernel) rfl (fun E ad0 hE => ?_)
  refine A_iload_n hE 1 dX3_hasRun_0 rfl rfl ?_
  refine A_if_lt hE 4 30 dX3_hasRun_1 rfl rfl (fun c1 => ?_) (fun c1 => ?_)
  · refine A_iconst hE 31 dX3_hasRun_30 rfl (0) rfl ?_
    refine A_zret hE dX3_hasRun_31 (by first | exact Or.inl rfl | exact Or.inr rfl) ⟨?_, rfl⟩
    exact bI_f (fun z => iN z.1 c1)
  · refine A_iload_n hE 5 dX3_hasRun_4 rfl rfl ?_
    refine A_aload_n hE 6 dX3_hasRun_5 rfl rfl ?_
    refine A_get hE 9 dX3_hasRun_6 rfl fkX3_7 rfl rfl ?_
    refine A_icmp_gt hE 12 30 dX3_hasRun_9 rfl rfl (fun c9 => ?_) (fun c9 => ?_)
    · refine A_iconst hE 31 dX3_hasRun_30 rfl (0) rfl ?_
      refine A_zret hE dX3_hasRun_31 (by first | exact Or.inl rfl | exact Or.inr rfl) ⟨?_, rfl⟩
      exact bI_f (fun z => iM c9 z.2.1)
    · refine A_iload_n hE 13 dX3_hasRun_12 rfl rfl ?_
      refine A_if_lt hE 16 30 dX3_hasRun_13 rfl rfl (fun c13 => ?_) (fun c13 => ?_)
      · refine A_iconst hE 31 dX3_hasRun_30 rfl (0) rfl ?_
        refine A_zret hE dX3_hasRun_31 (by first | exact Or.inl rfl | exact Or.inr rfl) ⟨?_, rfl⟩
        exact bI_f (fun z => iN z.2.2.1 c13)
      · refine A_iload_n hE 17 dX3_hasRun_16 rfl rfl ?_
        refine A_aload_n hE 18 dX3_hasRun_17 rfl rfl ?_
        refine A_get hE 21 dX3_hasRun_18 rfl fkX3_7 rfl rfl ?_
        refine A_iload_n hE 22 dX3_hasRun_21 rfl rfl ?_
        refine A_isub hE 23 dX3_hasRun_22 rfl ?_
        refine A_icmp_gt hE 26 30 dX3_hasRun_23 rfl rfl (fun c23 => ?_) (fun c23 => ?_)
        · refine A_iconst hE 31 dX3_hasRun_30 rfl (0) rfl ?_
          refine A_zret hE dX3_hasRun_31 (by first | exact Or.inl rfl | exact Or.inr rfl) ⟨?_, rfl⟩
          exact bI_f (fun z => iM c23 z.2.2.2)
        · refine A_iconst hE 27 dX3_hasRun_26 rfl (1) rfl ?_
          refine A_goto hE 31 dX3_hasRun_27 rfl ?_
          refine A_zret hE dX3_hasRun_31 (by first | exact Or.inl rfl | exact Or.inr rfl) ⟨?_, rfl⟩
          exact bI_t ⟨iL c1, Int32.not_lt.mp c9, iL c13, Int32.not_lt.mp c23⟩
set_option maxRecDepth 100000 in
theorem c_X3_add (n : Nat) (f : Nat → Int32) (k : Nat) (v : Int32) (hk : k ≤ n) (hn : Nat.ble n 1000 = true) : AMet yX3_add cX3_add 2 none 0 0 0 [.ref 0, .int v] [cRow 1 (nI k), cI n f] (pV fun h => h = [cRow 1 (nI (if k < n then k + 1 else k)), cI n (if k < n then upd f k v else f)]) := by
  refine AMet.of (by decide +kernel) rfl (fun E ad0 hE => ?_)
  have hn2 : n ≤ 1000 := Nat.le_of_ble_eq_true hn
  refine A_aload_n hE 1 dX3_add_0 rfl rfl ?_
  refine A_get hE 4 dX3_add_1 rfl fkX3_7 rfl rfl ?_
  refine A_aload_n hE 5 dX3_add_4 rfl rfl ?_
  refine A_get hE 8 dX3_add_5 rfl fkX3_19 rfl rfl ?_
  refine A_alen hE 9 dX3_add_8 rfl rfl ?_
  refine A_icmp_ge hE 12 32 dX3_add_9 rfl rfl (fun c9 => ?_) (fun c9 => ?_)
  · refine A_vret hE dX3_add_32 ?_
    have hk2 : ¬ k < n := fun z => absurd c9 (nI_ge z (by omega))
    rw [if_neg hk2, if_neg hk2]
  · have hk2 : k < n := (nI_ltI (by omega) (by omega)).mp (iG c9)
    refine A_aload_n hE 13 dX3_add_12 rfl rfl ?_
    refine A_get hE 16 dX3_add_13 rfl fkX3_19 rfl rfl ?_
    refine A_aload_n hE 17 dX3_add_16 rfl rfl ?_
    refine A_get hE 20 dX3_add_17 rfl fkX3_7 rfl rfl ?_
    refine A_iload_n hE 21 dX3_add_20 rfl rfl ?_
    refine A_iast hE 22 k dX3_add_21 rfl rfl rfl hk2 hn rfl ?_
    refine A_aload_n hE 23 dX3_add_22 rfl rfl ?_
    refine A_dup hE 24 dX3_add_23 rfl rfl ?_
    refine A_get hE 27 dX3_add_24 rfl fkX3_7 rfl rfl ?_
    refine A_iconst hE 28 dX3_add_27 rfl (1) rfl ?_
    refine A_iadd hE 29 dX3_add_28 rfl ?_
    refine A_put hE 32 dX3_add_29 rfl fkX3_7 rfl rfl rfl rfl ?_
    refine A_vret hE dX3_add_32 ?_
    rw [if_pos hk2, if_pos hk2, nI_1]
set_option maxRecDepth 100000 in
theorem c_X3_empty (n : Nat) (f : Nat → Int32) (sz : Int32) : AMet yX3_empty cX3_empty 1 none 0 0 0 [.ref 0] [cRow 1 sz, cI n f] (pV fun h => h = [cRow 1 0, cI n f]) := by
  refine AMet.of (by decide +kernel) rfl (fun E ad0 hE => ?_)
  refine A_aload_n hE 1 dX3_empty_0 rfl rfl ?_
  refine A_iconst hE 2 dX3_empty_1 rfl (0) rfl ?_
  refine A_put hE 5 dX3_empty_2 rfl fkX3_7 rfl rfl rfl rfl ?_
  refine A_vret hE dX3_empty_5 rfl
set_option maxRecDepth 100000 in
theorem c_X3_takeOver (n n2 : Nat) (f g : Nat → Int32) (sz : Int32) (k2 : Nat) (h1 : k2 ≤ n) (h2 : k2 ≤ n2) (hn : Nat.ble n 1000 = true) (hn2 : Nat.ble n2 1000 = true) : AMet yX3_takeOver cX3_takeOver 3 none 1 0 0 [.ref 0, .ref 2] [cRow 1 sz, cI n f, cRow 3 (nI k2), cI n2 g] (pV fun h => h = [cRow 1 (nI k2), cI n (fun z => if z < k2 then g z else f z), cRow 3 (nI k2), cI n2 g]) := by
  refine AMet.of (by decide +kernel) rfl (fun E ad0 hE => ?_)
  have hn' : n ≤ 1000 := Nat.le_of_ble_eq_true hn
  have hn2' : n2 ≤ 1000 := Nat.le_of_ble_eq_true hn2
  have loop : ∀ (m j : Nat), k2 - j = m → j ≤ k2 → AW E (rmD 1 0 0) 3 (QM E ad0 4 0 0 (pV fun h => h = [cRow 1 (nI k2), cI n (fun z => if z < k2 then g z else f z), cRow 3 (nI k2), cI n2 g])) ad0 4 0 0 6 [(0, .ref 0), (1, .ref 2), (2, .int (nI j))] [] [cRow 1 (nI j), cI n (fun z => if z < j then g z else f z), cRow 3 (nI k2), cI n2 g] := by
    intro m
    induction m with
    | zero =>
      intro j hm hj
      obtain rfl : j = k2 := by omega
      refine A_iload_n hE 7 dX3_takeOver_6 rfl rfl ?_
      refine A_aload_n hE 8 dX3_takeOver_7 rfl rfl ?_
      refine A_get hE 11 dX3_takeOver_8 rfl fkX3_7 rfl rfl ?_
      refine A_icmp_ge hE 14 30 dX3_takeOver_11 rfl rfl (fun c11 => ?_) (fun c11 => absurd (nI_le (Nat.le_refl j) (by omega)) c11)
      refine A_vret hE dX3_takeOver_30 rfl
    | succ m ih =>
      intro j hm hj
      have hlt : j < k2 := by omega
      refine A_iload_n hE 7 dX3_takeOver_6 rfl rfl ?_
      refine A_aload_n hE 8 dX3_takeOver_7 rfl rfl ?_
      refine A_get hE 11 dX3_takeOver_8 rfl fkX3_7 rfl rfl ?_
      refine A_icmp_ge hE 14 30 dX3_takeOver_11 rfl rfl (fun c11 => absurd c11 (nI_ge hlt (by omega))) (fun c11 => ?_)
      refine A_aload_n hE 15 dX3_takeOver_14 rfl rfl ?_
      refine A_aload_n hE 16 dX3_takeOver_15 rfl rfl ?_
      refine A_get hE 19 dX3_takeOver_16 rfl fkX3_19 rfl rfl ?_
      refine A_iload_n hE 20 dX3_takeOver_19 rfl rfl ?_
      refine A_iald hE 21 j dX3_takeOver_20 rfl rfl rfl (by omega) hn2 ?_
      refine A_callVv hE 24 (c_X3_add n (fun z => if z < j then g z else f z) j (g j) (by omega) hn) [0, 1] dX3_takeOver_21 rfl mkX3_26 rfl rfl rfl rfl rfl rfl rfl (Nat.le_of_ble_eq_true rfl) (Nat.le_of_ble_eq_true rfl) rfl (fun h21 g21 hp21 hw21 => ?_)
      obtain rfl := hp21
      rw [if_pos (show j < n by omega), if_pos (show j < n by omega)] at hw21
      obtain rfl := Option.some.inj hw21
      rw [show upd (fun z => if z < j then g z else f z) j (g j) = (fun z => if z < j + 1 then g z else f z) by
        funext z
        by_cases hz : z = j
        · subst hz; rw [upd_s, if_pos (by omega)]
        · rw [upd_n hz]; by_cases h2 : z < j
          · rw [if_pos h2, if_pos (by omega)]
          · rw [if_neg h2, if_neg (by omega)]]
      refine A_iinc hE 27 dX3_takeOver_24 rfl rfl (1) rfl rfl rfl ?_
      rw [nI_1]
      refine A_lv [0, 1, 2] rfl ?_
      refine A_goto hE 6 dX3_takeOver_27 rfl ?_
      exact ih (j + 1) (by omega) (by omega)
  refine A_lv [0, 1] rfl ?_
  refine A_aload_n hE 1 dX3_takeOver_0 rfl rfl ?_
  refine A_callVv hE 4 (c_X3_empty n f sz) [0, 1] dX3_takeOver_1 rfl mkX3_23 rfl rfl rfl rfl rfl rfl rfl (Nat.le_of_ble_eq_true rfl) (Nat.le_of_ble_eq_true rfl) rfl (fun h1 g1 hp1 hw1 => ?_)
  obtain rfl := hp1
  obtain rfl := Option.some.inj hw1
  refine A_iconst hE 5 dX3_takeOver_4 rfl (0) rfl ?_
  refine A_istore_n hE 6 dX3_takeOver_5 rfl rfl rfl ?_
  refine A_lv [0, 1, 2] rfl ?_
  refine (show _ = _ by funext z; rw [if_neg (Nat.not_lt_zero z)] : f = (fun z => if z < 0 then g z else f z)) ▸ ?_
  exact loop k2 0 (by omega) (Nat.zero_le _)
