/-- the class's reader: its cell, the row of steps, the tape -/
abbrev RdW (u n : Nat) (tp : Nat → Int32) (pl ft : Int32) (k : Nat) (f : Nat → Int32) : List AE := [.inr (1, [.ref 1, .ref 3, .retAddr (2 + (1 + u)), .int pl, .int ft]), cRow 2 (nI k), cI 60 f, cRow 4 (nI n), cI 60 tp]
def StepC (u : Nat) (f : Nat → Int32) (ss : Sp) : Prop := ∀ i, i < ss.length → f i = encS u (ss.getD i (0, 0))
theorem StepC.push {u : Nat} {f : Nat → Int32} {ss : Sp} (h : StepC u f ss) (x : Int32 × Int32) {v : Int32} (hv : v = encS u x) : StepC u (upd f ss.length v) (ss ++ [x]) := by
  intro i hi
  rw [List.length_append] at hi
  have hi : i < ss.length + 1 := hi
  by_cases e : i = ss.length
  · subst e
    rw [upd_s, hv]
    simp
  · have hlt : i < ss.length := by omega
    have e2 : (ss ++ [x]).getD i (0, 0) = ss.getD i (0, 0) := by simp [List.getElem?_append_left hlt]
    rw [upd_n e, e2]
    exact h i hlt
theorem enc_3 (u : Nat) (c : Int32) : -c = encS u (3, c) := rfl
theorem enc_0 (u : Nat) (c : Int32) : c = encS u (0, c) := rfl
theorem enc_2 (u : Nat) : (-33 : Int32) = encS u (2, 0) := rfl
/-- where a reader of the class comes to -/
def PstC (u n : Nat) (tp : Nat → Int32) (R : PR) : List AE → Prop := fun h => (∃ (b : Nat) (s2 : Sp) (f' : Nat → Int32), R = (b, some s2) ∧ StepC u f' s2 ∧ h = RdW u n tp (nI b) (-1) s2.length f') ∨ (∃ (b : Nat) (pl : Int32) (k : Nat) (f' : Nat → Int32), R = (b, none) ∧ b ≤ n ∧ k ≤ 60 ∧ h = RdW u n tp pl (nI b) k f')
def dc : Nat → Nat
  | 0 => 5
  | k + 1 => dc k + 7
theorem dc_ge : ∀ k, 5 ≤ dc k
  | 0 => Nat.le_refl _
  | k + 1 => Nat.le_trans (dc_ge k) (Nat.le_add_right _ _)
theorem lk_by {q : Nat → Int32} {n a : Nat} (hby : ∀ i, i < n → ∃ b : Nat, b < 256 ∧ q i = nI b) (h : ¬ lk q n a = -1) : ∃ b : Nat, b < 256 ∧ lk q n a = nI b := by
  have h2 := lk_lt h
  obtain ⟨b, h3, h4⟩ := hby a h2
  exact ⟨b, h3, by rw [lk, if_pos h2, h4]⟩
theorem lk_no {q : Nat → Int32} {n a : Nat} (hby : ∀ i, i < n → ∃ b : Nat, b < 256 ∧ q i = nI b) (h : a < n) : ¬ lk q n a = -1 := by
  obtain ⟨b, h3, h4⟩ := hby a h
  rw [lk, if_pos h, h4]
  intro z
  have := nI_pos' (n := b) (by omega)
  rw [z] at this
  exact absurd this (by decide)
theorem bI_dec {P Q : Prop} {i : Decidable P} {j : Decidable Q} (h : P ↔ Q) : bI (@decide P i) = bI (@decide Q j) := bI_iff h

set_option maxRecDepth 100000 in
theorem c_next (q : Nat → Int32) (n u : Nat) (tp : Nat → Int32) (h60 : n ≤ 60) (hq : ∀ i, i < n → tp i = q i) (a k : Nat) (f : Nat → Int32) (ha : a ≤ 1000) : AMet yX1_next cX1_next 1 (some (.int)) 1 0 0 [.ref 0] (RdW u n tp (nI a) (-1) k f) (pI fun x h => x = lk q n a ∧ h = RdW u n tp (nI a) (-1) k f) := by
  refine AMet.of (by decide +kernel) rfl (fun E ad0 hE => ?_)
  refine A_aload_n hE 1 dX1_next_0 rfl rfl ?_
  refine A_get hE 4 dX1_next_1 rfl fkX1_33 rfl rfl ?_
  refine A_if_ge hE 7 36 dX1_next_4 rfl rfl (fun c4 => absurd c4 (by decide)) (fun c4 => ?_)
  refine A_aload_n hE 8 dX1_next_7 rfl rfl ?_
  refine A_get hE 11 dX1_next_8 rfl fkX1_20 rfl rfl ?_
  refine A_aload_n hE 12 dX1_next_11 rfl rfl ?_
  refine A_get hE 15 dX1_next_12 rfl fkX1_29 rfl rfl ?_
  refine A_callVi hE 18 (c_X3_has 60 tp (nI n) (nI a)) [3, 4] dX1_next_15 rfl mkX1_53 rfl rfl rfl rfl rfl rfl rfl (Nat.le_of_ble_eq_true rfl) (Nat.le_of_ble_eq_true rfl) rfl (fun x15 h15 g15 hp15 hw15 => ?_)
  obtain ⟨rfl, rfl⟩ := hp15
  obtain rfl := Option.some.inj hw15
  refine A_h (RdW u n tp (nI a) (-1) k f) rfl ?_
  refine A_if_eq hE 21 36 dX1_next_18 rfl rfl (fun c18 => ?_) (fun c18 => ?_)
  · refine A_iconst hE 37 dX1_next_36 rfl (-1) rfl ?_
    refine A_iret hE dX1_next_37 ⟨?_, rfl⟩
    exact (lk_end (Nat.not_lt.mp (fun z => bI_0 c18 ⟨nI_pos' (by omega), nI_lt z (by omega)⟩))).symm
  · have hlt : a < n := (nI_ltI (by omega) (by omega)).mp (bI_1 c18).2
    refine A_aload_n hE 22 dX1_next_21 rfl rfl ?_
    refine A_get hE 25 dX1_next_22 rfl fkX1_20 rfl rfl ?_
    refine A_get hE 28 dX1_next_25 rfl fkX1_57 rfl rfl ?_
    refine A_aload_n hE 29 dX1_next_28 rfl rfl ?_
    refine A_get hE 32 dX1_next_29 rfl fkX1_29 rfl rfl ?_
    refine A_iald hE 33 a dX1_next_32 rfl rfl rfl (by omega) rfl ?_
    refine A_goto hE 37 dX1_next_33 rfl ?_
    refine A_iret hE dX1_next_37 ⟨?_, rfl⟩
    rw [lk, if_pos hlt, hq a hlt]
set_option maxRecDepth 100000 in
theorem c_nextF (u n : Nat) (tp : Nat → Int32) (pl ft : Int32) (k : Nat) (f : Nat → Int32) (hft : 0 ≤ ft) : AMet yX1_next cX1_next 1 (some (.int)) 1 0 0 [.ref 0] (RdW u n tp pl ft k f) (pI fun x h => x = -1 ∧ h = RdW u n tp pl ft k f) := by
  refine AMet.of (by decide +kernel) rfl (fun E ad0 hE => ?_)
  refine A_aload_n hE 1 dX1_next_0 rfl rfl ?_
  refine A_get hE 4 dX1_next_1 rfl fkX1_33 rfl rfl ?_
  refine A_if_ge hE 7 36 dX1_next_4 rfl rfl (fun c4 => ?_) (fun c4 => absurd hft c4)
  refine A_iconst hE 37 dX1_next_36 rfl (-1) rfl ?_
  refine A_iret hE dX1_next_37 ⟨rfl, rfl⟩
set_option maxRecDepth 100000 in
theorem c_isNext (q : Nat → Int32) (n u : Nat) (tp : Nat → Int32) (h60 : n ≤ 60) (hq : ∀ i, i < n → tp i = q i) (a k : Nat) (c : Int32) (f : Nat → Int32) (ha : a ≤ 1000) : AMet yX1_isNext cX1_isNext 2 (some (.boolean)) 2 0 0 [.ref 0, .int c] (RdW u n tp (nI a) (-1) k f) (pI fun x h => x = bI (decide (lk q n a = c)) ∧ h = RdW u n tp (nI a) (-1) k f) := by
  refine AMet.of (by decide +kernel) rfl (fun E ad0 hE => ?_)
  refine A_aload_n hE 1 dX1_isNext_0 rfl rfl ?_
  refine A_callVi hE 4 (c_next q n u tp h60 hq a k f ha) [0, 1, 2, 3, 4] dX1_isNext_1 rfl mkX1_46 rfl rfl rfl rfl rfl rfl rfl (Nat.le_of_ble_eq_true rfl) (Nat.le_of_ble_eq_true rfl) rfl (fun x1 h1 g1 hp1 hw1 => ?_)
  obtain ⟨rfl, rfl⟩ := hp1
  obtain rfl := Option.some.inj hw1
  refine A_h (RdW u n tp (nI a) (-1) k f) rfl ?_
  refine A_iload_n hE 5 dX1_isNext_4 rfl rfl ?_
  refine A_icmp_ne hE 8 12 dX1_isNext_5 rfl rfl (fun c5 => ?_) (fun c5 => ?_)
  · refine A_iconst hE 13 dX1_isNext_12 rfl (0) rfl ?_
    refine A_zret hE dX1_isNext_13 (by first | exact Or.inl rfl | exact Or.inr rfl) ⟨?_, rfl⟩
    exact bI_f c5
  · refine A_iconst hE 9 dX1_isNext_8 rfl (1) rfl ?_
    refine A_goto hE 13 dX1_isNext_9 rfl ?_
    refine A_zret hE dX1_isNext_13 (by first | exact Or.inl rfl | exact Or.inr rfl) ⟨?_, rfl⟩
    exact bI_t c5
set_option maxRecDepth 100000 in
theorem c_isNextF (u n : Nat) (tp : Nat → Int32) (pl ft : Int32) (k : Nat) (f : Nat → Int32) (c : Int32) (hft : 0 ≤ ft) (hc : ¬ (-1 : Int32) = c) : AMet yX1_isNext cX1_isNext 2 (some (.boolean)) 2 0 0 [.ref 0, .int c] (RdW u n tp pl ft k f) (pI fun x h => x = 0 ∧ h = RdW u n tp pl ft k f) := by
  refine AMet.of (by decide +kernel) rfl (fun E ad0 hE => ?_)
  refine A_aload_n hE 1 dX1_isNext_0 rfl rfl ?_
  refine A_callVi hE 4 (c_nextF u n tp pl ft k f hft) [0, 1, 2, 3, 4] dX1_isNext_1 rfl mkX1_46 rfl rfl rfl rfl rfl rfl rfl (Nat.le_of_ble_eq_true rfl) (Nat.le_of_ble_eq_true rfl) rfl (fun x1 h1 g1 hp1 hw1 => ?_)
  obtain ⟨rfl, rfl⟩ := hp1
  obtain rfl := Option.some.inj hw1
  refine A_h (RdW u n tp pl ft k f) rfl ?_
  refine A_iload_n hE 5 dX1_isNext_4 rfl rfl ?_
  refine A_icmp_ne hE 8 12 dX1_isNext_5 rfl rfl (fun c5 => ?_) (fun c5 => absurd c5 hc)
  refine A_iconst hE 13 dX1_isNext_12 rfl (0) rfl ?_
  refine A_zret hE dX1_isNext_13 (by first | exact Or.inl rfl | exact Or.inr rfl) ⟨rfl, rfl⟩
set_option maxRecDepth 100000 in
theorem c_fail (u n : Nat) (tp : Nat → Int32) (a k : Nat) (f : Nat → Int32) : AMet yX1_fail cX1_fail 1 none 0 0 0 [.ref 0] (RdW u n tp (nI a) (-1) k f) (pV fun h => h = RdW u n tp (nI a) (nI a) k f) := by
  refine AMet.of (by decide +kernel) rfl (fun E ad0 hE => ?_)
  refine A_aload_n hE 1 dX1_fail_0 rfl rfl ?_
  refine A_get hE 4 dX1_fail_1 rfl fkX1_33 rfl rfl ?_
  refine A_if_ge hE 7 15 dX1_fail_4 rfl rfl (fun c4 => absurd c4 (by decide)) (fun c4 => ?_)
  refine A_aload_n hE 8 dX1_fail_7 rfl rfl ?_
  refine A_aload_n hE 9 dX1_fail_8 rfl rfl ?_
  refine A_get hE 12 dX1_fail_9 rfl fkX1_29 rfl rfl ?_
  refine A_put hE 15 dX1_fail_12 rfl fkX1_33 rfl rfl rfl rfl ?_
  refine A_vret hE dX1_fail_15 rfl
set_option maxRecDepth 100000 in
theorem c_failF (u n : Nat) (tp : Nat → Int32) (pl ft : Int32) (k : Nat) (f : Nat → Int32) (hft : 0 ≤ ft) : AMet yX1_fail cX1_fail 1 none 0 0 0 [.ref 0] (RdW u n tp pl ft k f) (pV fun h => h = RdW u n tp pl ft k f) := by
  refine AMet.of (by decide +kernel) rfl (fun E ad0 hE => ?_)
  refine A_aload_n hE 1 dX1_fail_0 rfl rfl ?_
  refine A_get hE 4 dX1_fail_1 rfl fkX1_33 rfl rfl ?_
  refine A_if_ge hE 7 15 dX1_fail_4 rfl rfl (fun c4 => ?_) (fun c4 => absurd hft c4)
  refine A_vret hE dX1_fail_15 rfl
set_option maxRecDepth 100000 in
theorem c_isDigit (q : Nat → Int32) (n u : Nat) (tp : Nat → Int32) (h60 : n ≤ 60) (hq : ∀ i, i < n → tp i = q i) (a k : Nat) (f : Nat → Int32) (ha : a ≤ 1000) : AMet yX1_isDigit cX1_isDigit 1 (some (.boolean)) 2 0 0 [.ref 0] (RdW u n tp (nI a) (-1) k f) (pI fun x h => x = bI (isD (lk q n a)) ∧ h = RdW u n tp (nI a) (-1) k f) := by
  refine AMet.of (by decide +kernel) rfl (fun E ad0 hE => ?_)
  refine A_aload_n hE 1 dX1_isDigit_0 rfl rfl ?_
  refine A_callVi hE 4 (c_next q n u tp h60 hq a k f ha) [0, 1, 2, 3, 4] dX1_isDigit_1 rfl mkX1_46 rfl rfl rfl rfl rfl rfl rfl (Nat.le_of_ble_eq_true rfl) (Nat.le_of_ble_eq_true rfl) rfl (fun x1 h1 g1 hp1 hw1 => ?_)
  obtain ⟨rfl, rfl⟩ := hp1
  obtain rfl := Option.some.inj hw1
  refine A_h (RdW u n tp (nI a) (-1) k f) rfl ?_
  refine A_bipush hE 6 dX1_isDigit_4 rfl (48) (by decide) ?_
  refine A_icmp_lt hE 9 22 dX1_isDigit_6 rfl rfl (fun c6 => ?_) (fun c6 => ?_)
  · refine A_iconst hE 23 dX1_isDigit_22 rfl (0) rfl ?_
    refine A_zret hE dX1_isDigit_23 (by first | exact Or.inl rfl | exact Or.inr rfl) ⟨?_, rfl⟩
    exact bI_f (fun z => iN z.1 c6)
  · refine A_aload_n hE 10 dX1_isDigit_9 rfl rfl ?_
    refine A_callVi hE 13 (c_next q n u tp h60 hq a k f ha) [0, 1, 2, 3, 4] dX1_isDigit_10 rfl mkX1_46 rfl rfl rfl rfl rfl rfl rfl (Nat.le_of_ble_eq_true rfl) (Nat.le_of_ble_eq_true rfl) rfl (fun x10 h10 g10 hp10 hw10 => ?_)
    obtain ⟨rfl, rfl⟩ := hp10
    obtain rfl := Option.some.inj hw10
    refine A_h (RdW u n tp (nI a) (-1) k f) rfl ?_
    refine A_bipush hE 15 dX1_isDigit_13 rfl (57) (by decide) ?_
    refine A_icmp_gt hE 18 22 dX1_isDigit_15 rfl rfl (fun c15 => ?_) (fun c15 => ?_)
    · refine A_iconst hE 23 dX1_isDigit_22 rfl (0) rfl ?_
      refine A_zret hE dX1_isDigit_23 (by first | exact Or.inl rfl | exact Or.inr rfl) ⟨?_, rfl⟩
      exact bI_f (fun z => iM c15 z.2)
    · refine A_iconst hE 19 dX1_isDigit_18 rfl (1) rfl ?_
      refine A_goto hE 23 dX1_isDigit_19 rfl ?_
      refine A_zret hE dX1_isDigit_23 (by first | exact Or.inl rfl | exact Or.inr rfl) ⟨?_, rfl⟩
      exact bI_t ⟨iL c6, Int32.not_lt.mp c15⟩
set_option maxRecDepth 100000 in
theorem c_nameNext (q : Nat → Int32) (n u : Nat) (tp : Nat → Int32) (h60 : n ≤ 60) (hq : ∀ i, i < n → tp i = q i) (a k : Nat) (f : Nat → Int32) (ha : a ≤ 1000) (hu : u < 2) (hby : ∀ i, i < n → ∃ b : Nat, b < 256 ∧ q i = nI b) : AMet yX1_nameNext cX1_nameNext 1 (some (.int)) 4 0 0 [.ref 0] (RdW u n tp (nI a) (-1) k f) (pI fun x h => x = (if isN u (lk q n a) = true then nmI u (lk q n a) else -1) ∧ h = RdW u n tp (nI a) (-1) k f) := by
  refine AMet.of (by decide +kernel) rfl (fun E ad0 hE => ?_)
  refine A_aload_n hE 1 dX1_nameNext_0 rfl rfl ?_
  refine A_callVi hE 4 (c_next q n u tp h60 hq a k f ha) [0, 1, 2, 3, 4] dX1_nameNext_1 rfl mkX1_46 rfl rfl rfl rfl rfl rfl rfl (Nat.le_of_ble_eq_true rfl) (Nat.le_of_ble_eq_true rfl) rfl (fun x1 h1 g1 hp1 hw1 => ?_)
  obtain ⟨rfl, rfl⟩ := hp1
  obtain rfl := Option.some.inj hw1
  refine A_h (RdW u n tp (nI a) (-1) k f) rfl ?_
  refine A_iconst hE 5 dX1_nameNext_4 rfl (-1) rfl ?_
  refine A_icmp_ne hE 8 12 dX1_nameNext_5 rfl rfl (fun c5 => ?_) (fun c5 => ?_)
  · obtain ⟨b, hb, eb⟩ := lk_by hby c5
    refine A_aload_n hE 13 dX1_nameNext_12 rfl rfl ?_
    refine A_get hE 16 dX1_nameNext_13 rfl fkX1_25 rfl rfl ?_
    refine A_aload_n hE 17 dX1_nameNext_16 rfl rfl ?_
    refine A_callVi hE 20 (c_next q n u tp h60 hq a k f ha) [0, 1, 2, 3, 4] dX1_nameNext_17 rfl mkX1_46 rfl rfl rfl rfl rfl rfl rfl (Nat.le_of_ble_eq_true rfl) (Nat.le_of_ble_eq_true rfl) rfl (fun x17 h17 g17 hp17 hw17 => ?_)
    obtain ⟨rfl, rfl⟩ := hp17
    obtain rfl := Option.some.inj hw17
    refine A_h (RdW u n tp (nI a) (-1) k f) rfl ?_
    refine A_i2c hE 21 dX1_nameNext_20 rfl ?_
    rw [eb, chr_ok b hb]
    refine A_callK hE 24 (1 + u) (by omega) (c_J0_indexOf_0f7a4 (1 + u) (by omega) (su_len u hu) (nI b) (nI_pos' (by omega)) (nI_le (b := 255) (by omega) (by omega))) dX1_nameNext_21 rfl mqX1_101 rfl rfl rfl rfl rfl (Nat.le_of_ble_eq_true rfl) (Nat.le_of_ble_eq_true rfl) rfl (fun x21 hp => ?_)
    obtain ⟨rfl, -⟩ := hp
    refine A_iret hE dX1_nameNext_24 ⟨?_, rfl⟩
    have h := ix_ok u hu b hb
    by_cases z : isN u (nI b) = true
    · rw [if_pos z] at h ⊢; exact h
    · rw [if_neg z] at h ⊢; exact h
  · refine A_iconst hE 9 dX1_nameNext_8 rfl (-1) rfl ?_
    refine A_goto hE 24 dX1_nameNext_9 rfl ?_
    refine A_iret hE dX1_nameNext_24 ⟨?_, rfl⟩
    show (-1 : Int32) = if isN u (lk q n a) = true then nmI u (lk q n a) else -1
    rw [c5]
    obtain rfl | rfl : u = 0 ∨ u = 1 := by omega
    · decide
    · decide
set_option maxRecDepth 100000 in
theorem c_readNumber (q : Nat → Int32) (n u : Nat) (tp : Nat → Int32) (h60 : n ≤ 60) (hq : ∀ i, i < n → tp i = q i) (a : Nat) (ss : Sp) (f : Nat → Int32) (ha : a ≤ n) (hss : ss.length < 60) : AMet yX1_readNumber cX1_readNumber 3 none 3 0 0 [.ref 0] (RdW u n tp (nI a) (-1) ss.length f) (pV fun h => h = RdW u n tp (nI (nuV q n 4 a 0).2) (-1) (ss ++ [(0, (nuV q n 4 a 0).1)]).length (upd f ss.length (nuV q n 4 a 0).1)) := by
  refine AMet.of (by decide +kernel) rfl (fun E ad0 hE => ?_)
  have fin : ∀ (b : Nat) (v x : Int32), nuV q n 4 a 0 = (v, b) → AW E (rmD 3 0 0) 3 (QM E ad0 5 0 0 (pV fun h => h = RdW u n tp (nI (nuV q n 4 a 0).2) (-1) (ss ++ [(0, (nuV q n 4 a 0).1)]).length (upd f ss.length (nuV q n 4 a 0).1))) ad0 5 0 0 45 [(0, .ref 0), (1, .int v), (2, .int x)] [] (RdW u n tp (nI b) (-1) ss.length f) := by
    intro b v x hx
    refine A_aload_n hE 46 dX1_readNumber_45 rfl rfl ?_
    refine A_get hE 49 dX1_readNumber_46 rfl fkX1_14 rfl rfl ?_
    refine A_iload_n hE 50 dX1_readNumber_49 rfl rfl ?_
    refine A_callVv hE 53 (c_X3_add 60 f ss.length (v) (by omega) rfl) [1, 2] dX1_readNumber_50 rfl mkX1_68 rfl rfl rfl rfl rfl rfl rfl (Nat.le_of_ble_eq_true rfl) (Nat.le_of_ble_eq_true rfl) rfl (fun h50 g50 hp50 hw50 => ?_)
    obtain rfl := hp50
    obtain rfl := Option.some.inj hw50
    refine A_h (RdW u n tp (nI b) (-1) (ss ++ [(0, v)]).length (upd f ss.length (v))) (by rw [if_pos (show ss.length < 60 by omega), if_pos (show ss.length < 60 by omega), len_push]; rfl) ?_
    refine A_vret hE dX1_readNumber_53 ?_
    rw [hx]
  have loop : ∀ (m i b : Nat) (v : Int32), i + m = 4 → b ≤ n → nuV q n 4 a 0 = nuV q n m b v → AW E (rmD 3 0 0) 3 (QM E ad0 5 0 0 (pV fun h => h = RdW u n tp (nI (nuV q n 4 a 0).2) (-1) (ss ++ [(0, (nuV q n 4 a 0).1)]).length (upd f ss.length (nuV q n 4 a 0).1))) ad0 5 0 0 4 [(0, .ref 0), (1, .int v), (2, .int (nI i))] [] (RdW u n tp (nI b) (-1) ss.length f) := by
    intro m
    induction m with
    | zero =>
      intro i b v hi hb hx
      obtain rfl : i = 4 := by omega
      refine A_iload_n hE 5 dX1_readNumber_4 rfl rfl ?_
      refine A_iconst hE 6 dX1_readNumber_5 rfl (4) rfl ?_
      refine A_icmp_ge hE 9 45 dX1_readNumber_6 rfl rfl (fun c6 => ?_) (fun c6 => absurd (by decide) c6)
      exact fin b v _ hx
    | succ m ih =>
      intro i b v hi hb hx
      refine A_iload_n hE 5 dX1_readNumber_4 rfl rfl ?_
      refine A_iconst hE 6 dX1_readNumber_5 rfl (4) rfl ?_
      refine A_icmp_ge hE 9 45 dX1_readNumber_6 rfl rfl (fun c6 => absurd c6 (nI_ge (b := 4) (by omega) (by omega))) (fun c6 => ?_)
      refine A_aload_n hE 10 dX1_readNumber_9 rfl rfl ?_
      refine A_callVi hE 13 (c_isDigit q n u tp h60 hq b ss.length f (by omega)) [0, 1, 2, 3, 4] dX1_readNumber_10 rfl mkX1_83 rfl rfl rfl rfl rfl rfl rfl (Nat.le_of_ble_eq_true rfl) (Nat.le_of_ble_eq_true rfl) rfl (fun x10 h10 g10 hp10 hw10 => ?_)
      obtain ⟨rfl, rfl⟩ := hp10
      obtain rfl := Option.some.inj hw10
      refine A_h (RdW u n tp (nI b) (-1) ss.length f) rfl ?_
      refine A_if_eq hE 16 45 dX1_readNumber_13 rfl rfl (fun c13 => ?_) (fun c13 => ?_)
      · have hd : isD (lk q n b) = false := biF c13
        exact fin b v _ (hx.trans (by rw [nuV, if_neg (fT hd)]))
      · have hd : isD (lk q n b) = true := biT c13
        have hlt : b < n := lk_lt (fun z => by rw [z] at hd; exact absurd hd (by decide))
        refine A_iload_n hE 17 dX1_readNumber_16 rfl rfl ?_
        refine A_bipush hE 19 dX1_readNumber_17 rfl (10) (by decide) ?_
        refine A_imul hE 20 dX1_readNumber_19 rfl ?_
        refine A_aload_n hE 21 dX1_readNumber_20 rfl rfl ?_
        refine A_callVi hE 24 (c_next q n u tp h60 hq b ss.length f (by omega)) [0, 1, 2, 3, 4] dX1_readNumber_21 rfl mkX1_46 rfl rfl rfl rfl rfl rfl rfl (Nat.le_of_ble_eq_true rfl) (Nat.le_of_ble_eq_true rfl) rfl (fun x21 h21 g21 hp21 hw21 => ?_)
        obtain ⟨rfl, rfl⟩ := hp21
        obtain rfl := Option.some.inj hw21
        refine A_h (RdW u n tp (nI b) (-1) ss.length f) rfl ?_
        refine A_iadd hE 25 dX1_readNumber_24 rfl ?_
        refine A_bipush hE 27 dX1_readNumber_25 rfl (48) (by decide) ?_
        refine A_isub hE 28 dX1_readNumber_27 rfl ?_
        refine A_istore_n hE 29 dX1_readNumber_28 rfl rfl rfl ?_
        refine A_aload_n hE 30 dX1_readNumber_29 rfl rfl ?_
        refine A_dup hE 31 dX1_readNumber_30 rfl rfl ?_
        refine A_get hE 34 dX1_readNumber_31 rfl fkX1_29 rfl rfl ?_
        refine A_iconst hE 35 dX1_readNumber_34 rfl (1) rfl ?_
        refine A_iadd hE 36 dX1_readNumber_35 rfl ?_
        rw [nI_1]
        refine A_put hE 39 dX1_readNumber_36 rfl fkX1_29 rfl rfl rfl rfl ?_
        refine A_iinc hE 42 dX1_readNumber_39 rfl rfl (1) rfl rfl rfl ?_
        rw [nI_1, Int32.mul_comm v 10]
        refine A_lv [0, 1, 2] rfl ?_
        refine A_goto hE 4 dX1_readNumber_42 rfl ?_
        exact ih (i + 1) (b + 1) _ (by omega) hlt (hx.trans (by rw [nuV, if_pos hd]))
  refine A_iconst hE 1 dX1_readNumber_0 rfl (0) rfl ?_
  refine A_istore_n hE 2 dX1_readNumber_1 rfl rfl rfl ?_
  refine A_iconst hE 3 dX1_readNumber_2 rfl (0) rfl ?_
  refine A_istore_n hE 4 dX1_readNumber_3 rfl rfl rfl ?_
  refine A_lv [0, 1, 2] rfl ?_
  exact loop 4 0 a 0 rfl ha rfl
