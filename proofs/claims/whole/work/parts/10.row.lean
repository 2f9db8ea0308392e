set_option maxRecDepth 100000 in
theorem c_X3_has (n : Nat) (f : Nat → Int32) (sz i : Int32) : AMet yX3_has cX3_has 2 (some (.boolean)) 0 0 0 [.ref 0, .int i] [cRow 1 sz, cI n f] (pI fun x h => x = bI (decide (0 ≤ i ∧ i < sz)) ∧ h = [cRow 1 sz, cI n f]) := by
  refine AMet.of (by decide +kernel) rfl (fun E ad0 hE => ?_)
  refine A_iload_n hE 1 dX3_has_0 rfl rfl ?_
  refine A_if_lt hE 4 16 dX3_has_1 rfl rfl (fun c1 => ?_) (fun c1 => ?_)
  · refine A_iconst hE 17 dX3_has_16 rfl (0) rfl ?_
    refine A_zret hE dX3_has_17 (by first | exact Or.inl rfl | exact Or.inr rfl) ⟨?_, rfl⟩
    exact bI_f (fun z => iN z.1 c1)
  · refine A_iload_n hE 5 dX3_has_4 rfl rfl ?_
    refine A_aload_n hE 6 dX3_has_5 rfl rfl ?_
    refine A_get hE 9 dX3_has_6 rfl fkX3_7 rfl rfl ?_
    refine A_icmp_ge hE 12 16 dX3_has_9 rfl rfl (fun c9 => ?_) (fun c9 => ?_)
    · refine A_iconst hE 17 dX3_has_16 rfl (0) rfl ?_
      refine A_zret hE dX3_has_17 (by first | exact Or.inl rfl | exact Or.inr rfl) ⟨?_, rfl⟩
      exact bI_f (fun z => absurd z.2 (iN c9))
    · refine A_iconst hE 13 dX3_has_12 rfl (1) rfl ?_
      refine A_goto hE 17 dX3_has_13 rfl ?_
      refine A_zret hE dX3_has_17 (by first | exact Or.inl rfl | exact Or.inr rfl) ⟨?_, rfl⟩
      exact bI_t ⟨iL c1, iG c9⟩
set_option maxRecDepth 100000 in
theorem c_X3_hasRun (n : Nat) (f : Nat → Int32) (sz i k : Int32) : AMet yX3_hasRun cX3_hasRun 3 (some (.boolean)) 0 0 0 [.ref 0, .int i, .int k] [cRow 1 sz, cI n f] (pI fun x h => x = bI (decide (0 ≤ k ∧ k ≤ sz ∧ 0 ≤ i ∧ i ≤ sz - k)) ∧ h = [cRow 1 sz, cI n f]) := by
  refine AMet.of (by decide +kernel) rfl (fun E ad0 hE => ?_)
  refine A_iload_n hE 1 dX3_hasRun_0 rfl rfl ?_
  refine A_if_lt hE 4 30 dX3_hasRun_1 rfl rfl (fun c1 => ?_) (fun c1 => ?_)
  · refine A_iconst hE 31 dX3_hasRun_30 rfl (0) rfl ?_
    refine A_zret hE dX3_hasRun_31 (by first | exact Or.inl rfl | exact Or.inr rfl) ⟨?_, rfl⟩
    exact bI_f (fun z => iN z.1 c1)
  · refine A_iload_n hE 5 dX3_hasRun_4 rfl rfl ?_
    refine A_aload_n hE 6 dX3_hasRun_5 rfl rfl ?_
    refine A_get hE 9 dX3_hasRun_6 rfl fkX3_7 rfl rfl ?_
    refine A_icmp_gt hE 12 30 dX3_hasRun_9 rfl rfl (fun c9 => ?_) (fun c9 => ?_)
    · refine A_iconst hE 31 dX3_hasRun_30 rfl (0) rfl ?_
      refine A_zret hE dX3_hasRun_31 (by first | exact Or.inl rfl | exact Or.inr rfl) ⟨?_, rfl⟩
      exact bI_f (fun z => iM c9 z.2.1)
    · refine A_iload_n hE 13 dX3_hasRun_12 rfl rfl ?_
      refine A_if_lt hE 16 30 dX3_hasRun_13 rfl rfl (fun c13 => ?_) (fun c13 => ?_)
      · refine A_iconst hE 31 dX3_hasRun_30 rfl (0) rfl ?_
        refine A_zret hE dX3_hasRun_31 (by first | exact Or.inl rfl | exact Or.inr rfl) ⟨?_, rfl⟩
        exact bI_f (fun z => iN z.2.2.1 c13)
      · refine A_iload_n hE 17 dX3_hasRun_16 rfl rfl ?_
        refine A_aload_n hE 18 dX3_hasRun_17 rfl rfl ?_
        refine A_get hE 21 dX3_hasRun_18 rfl fkX3_7 rfl rfl ?_
        refine A_iload_n hE 22 dX3_hasRun_21 rfl rfl ?_
        refine A_isub hE 23 dX3_hasRun_22 rfl ?_
        refine A_icmp_gt hE 26 30 dX3_hasRun_23 rfl rfl (fun c23 => ?_) (fun c23 => ?_)
        · refine A_iconst hE 31 dX3_hasRun_30 rfl (0) rfl ?_
          refine A_zret hE dX3_hasRun_31 (by first | exact Or.inl rfl | exact Or.inr rfl) ⟨?_, rfl⟩
          exact bI_f (fun z => iM c23 z.2.2.2)
        · refine A_iconst hE 27 dX3_hasRun_26 rfl (1) rfl ?_
          refine A_goto hE 31 dX3_hasRun_27 rfl ?_
          refine A_zret hE dX3_hasRun_31 (by first | exact Or.inl rfl | exact Or.inr rfl) ⟨?_, rfl⟩
          exact bI_t ⟨iL c1, Int32.not_lt.mp c9, iL c13, Int32.not_lt.mp c23⟩
set_option maxRecDepth 100000 in
theorem c_X3_add (n : Nat) (f : Nat → Int32) (k : Nat) (v : Int32) (hk : k ≤ n) (hn : Nat.ble n 1000 = true) : AMet yX3_add cX3_add 2 none 0 0 0 [.ref 0, .int v] [cRow 1 (nI k), cI n f] (pV fun h => h = [cRow 1 (nI (if k < n then k + 1 else k)), cI n (if k < n then upd f k v else f)]) := by
  refine AMet.of (by decide +kernel) rfl (fun E ad0 hE => ?_)
  have hn2 : n ≤ 1000 := Nat.le_of_ble_eq_true hn
  refine A_aload_n hE 1 dX3_add_0 rfl rfl ?_
  refine A_get hE 4 dX3_add_1 rfl fkX3_7 rfl rfl ?_
  refine A_aload_n hE 5 dX3_add_4 rfl rfl ?_
  refine A_get hE 8 dX3_add_5 rfl fkX3_19 rfl rfl ?_
  refine A_alen hE 9 dX3_add_8 rfl rfl ?_
  refine A_icmp_ge hE 12 32 dX3_add_9 rfl rfl (fun c9 => ?_) (fun c9 => ?_)
  · refine A_vret hE dX3_add_32 ?_
    have hk2 : ¬ k < n := fun z => absurd c9 (nI_ge z (by omega))
    rw [if_neg hk2, if_neg hk2]
  · have hk2 : k < n := (nI_ltI (by omega) (by omega)).mp (iG c9)
    refine A_aload_n hE 13 dX3_add_12 rfl rfl ?_
    refine A_get hE 16 dX3_add_13 rfl fkX3_19 rfl rfl ?_
    refine A_aload_n hE 17 dX3_add_16 rfl rfl ?_
    refine A_get hE 20 dX3_add_17 rfl fkX3_7 rfl rfl ?_
    refine A_iload_n hE 21 dX3_add_20 rfl rfl ?_
    refine A_iast hE 22 k dX3_add_21 rfl rfl rfl hk2 hn rfl ?_
    refine A_aload_n hE 23 dX3_add_22 rfl rfl ?_
    refine A_dup hE 24 dX3_add_23 rfl rfl ?_
    refine A_get hE 27 dX3_add_24 rfl fkX3_7 rfl rfl ?_
    refine A_iconst hE 28 dX3_add_27 rfl (1) rfl ?_
    refine A_iadd hE 29 dX3_add_28 rfl ?_
    refine A_put hE 32 dX3_add_29 rfl fkX3_7 rfl rfl rfl rfl ?_
    refine A_vret hE dX3_add_32 ?_
    rw [if_pos hk2, if_pos hk2, nI_1]
set_option maxRecDepth 100000 in
theorem c_X3_empty (n : Nat) (f : Nat → Int32) (sz : Int32) : AMet yX3_empty cX3_empty 1 none 0 0 0 [.ref 0] [cRow 1 sz, cI n f] (pV fun h => h = [cRow 1 0, cI n f]) := by
  refine AMet.of (by decide +kernel) rfl (fun E ad0 hE => ?_)
  refine A_aload_n hE 1 dX3_empty_0 rfl rfl ?_
  refine A_iconst hE 2 dX3_empty_1 rfl (0) rfl ?_
  refine A_put hE 5 dX3_empty_2 rfl fkX3_7 rfl rfl rfl rfl ?_
  refine A_vret hE dX3_empty_5 rfl
