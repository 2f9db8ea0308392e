abbrev tq (s : St) : Nat → Int32 := fun i => s (299 + i)
theorem frN {a b : Nat} (h : a < b) : Nat.blt a b = true := Nat.ble_eq_true_of_le h
theorem loB {a b : Nat} (h : a ≤ b) : Nat.ble a b = true := Nat.ble_eq_true_of_le h
/-- the reference's steps -/
def StepR (st : Nat → Int32) (ss : Sp) : Prop := ∀ i, i < ss.length → st (2 * i) = (ss.getD i (0, 0)).1 ∧ st (2 * i + 1) = (ss.getD i (0, 0)).2
theorem StepR.push {st : Nat → Int32} {ss : Sp} (h : StepR st ss) (w v : Int32) : StepR (upd (upd st (2 * ss.length) w) (2 * ss.length + 1) v) (ss ++ [(w, v)]) := by
  intro i hi
  rw [List.length_append] at hi
  have hi : i < ss.length + 1 := hi
  by_cases e : i = ss.length
  · subst e
    rw [upd_n (by omega), upd_s, upd_s]
    simp
  · have hlt : i < ss.length := by omega
    have e2 : (ss ++ [(w, v)]).getD i (0, 0) = ss.getD i (0, 0) := by simp [List.getElem?_append_left hlt]
    rw [upd_n (by omega), upd_n (by omega), upd_n (by omega), upd_n (by omega), e2]
    exact h i hlt
theorem len_push (ss : Sp) (x : Int32 × Int32) : (ss ++ [x]).length = ss.length + 1 := by simp
/-- where a reader of the reference comes to -/
def PstR (s K be er na pi tr bi sz nu as' : Nat → Int32) (im us tn sk ip o : Int32) (R : PR) : Int32 → List AE → Prop := fun x h => (∃ (b : Nat) (s2 : Sp) (st' : Nat → Int32), R = (b, some s2) ∧ StepR st' s2 ∧ x = 1 ∧ h = MW s K be er st' na pi tr bi sz nu as' im (nI b) o (nI s2.length) us tn sk ip) ∨ (∃ (b : Nat) (st' : Nat → Int32) (op' sp' : Int32), R = (b, none) ∧ x = 0 ∧ h = MW s K be er st' na pi tr bi sz nu as' im (nI b) op' sp' us tn sk ip)
def dq : Nat → Nat
  | 0 => 1
  | k + 1 => dq k + 6
theorem dq_pos : ∀ k, 0 < dq k
  | 0 => Nat.one_pos
  | k + 1 => Nat.succ_pos _

set_option maxRecDepth 100000 in
theorem c_X9_look (s K be er st na pi tr bi sz nu as' : Nat → Int32) (im at' op sp us tn sk ip : Int32) (n a : Nat) (hn : s 6 = nI n) (h60 : n ≤ 60) (ha31 : a < 1000) : AMet yX9_look cX9_look 1 (some (.int)) 0 0 0 [.ref 0] (MW s K be er st na pi tr bi sz nu as' im (nI a) op sp us tn sk ip) (pI fun x h => x = lk (tq s) n a ∧ h = MW s K be er st na pi tr bi sz nu as' im (nI a) op sp us tn sk ip) := by
  refine AMet.of (by decide +kernel) rfl (fun E ad0 hE => ?_)
  refine A_aload_n hE 1 dX9_look_0 rfl rfl ?_
  refine A_get hE 4 dX9_look_1 rfl fkX9_57 rfl rfl ?_
  refine A_aload_n hE 5 dX9_look_4 rfl rfl ?_
  refine A_get hE 8 dX9_look_5 rfl fkX9_7 rfl rfl ?_
  refine A_bipush hE 10 dX9_look_8 rfl (6) (by decide) ?_
  refine A_iald hE 11 6 dX9_look_10 rfl rfl rfl (by omega) rfl ?_
  rw [hn]
  refine A_icmp_ge hE 14 30 dX9_look_11 rfl rfl (fun c11 => ?_) (fun c11 => ?_)
  · refine A_iconst hE 31 dX9_look_30 rfl (-1) rfl ?_
    refine A_iret hE dX9_look_31 ⟨?_, rfl⟩
    exact (lk_end (Nat.not_lt.mp (fun z => nI_ge z (by omega) c11))).symm
  · have hlt : a < n := Nat.lt_of_not_le (fun z => c11 (nI_le z (by omega)))
    refine A_aload_n hE 15 dX9_look_14 rfl rfl ?_
    refine A_get hE 18 dX9_look_15 rfl fkX9_7 rfl rfl ?_
    refine A_sipush hE 21 dX9_look_18 rfl (299) (by decide) ?_
    refine A_aload_n hE 22 dX9_look_21 rfl rfl ?_
    refine A_get hE 25 dX9_look_22 rfl fkX9_57 rfl rfl ?_
    refine A_iadd hE 26 dX9_look_25 rfl ?_
    refine A_iald hE 27 (299 + a) dX9_look_26 rfl rfl (nI_add 299 a) (by omega) rfl ?_
    refine A_goto hE 31 dX9_look_27 rfl ?_
    refine A_iret hE dX9_look_31 ⟨?_, rfl⟩
    exact (if_pos hlt).symm
set_option maxRecDepth 100000 in
theorem c_X9_isName (s K be er st na pi tr bi sz nu as' : Nat → Int32) (im at' op sp us tn sk ip : Int32) (u : Nat) (hu : u < 2) (c : Int32) : AMet yX9_isName cX9_isName 2 (some (.boolean)) 0 0 0 [.ref 0, .int c] (MW s K be er st na pi tr bi sz nu as' im at' op sp (nI u) tn sk ip) (pI fun x h => x = bI (isN u c) ∧ h = MW s K be er st na pi tr bi sz nu as' im at' op sp (nI u) tn sk ip) := by
  refine AMet.of (by decide +kernel) rfl (fun E ad0 hE => ?_)
  obtain rfl | rfl : u = 0 ∨ u = 1 := by omega
  · refine A_iload_n hE 1 dX9_isName_0 rfl rfl ?_
    refine A_bipush hE 3 dX9_isName_1 rfl (115) (by decide) ?_
    refine A_icmp_eq hE 6 30 dX9_isName_3 rfl rfl (fun c3 => ?_) (fun c3 => ?_)
    · refine A_iconst hE 31 dX9_isName_30 rfl (1) rfl ?_
      refine A_goto hE 35 dX9_isName_31 rfl ?_
      refine A_zret hE dX9_isName_35 (by first | exact Or.inl rfl | exact Or.inr rfl) ⟨?_, rfl⟩
      exact bI_t (Or.inl c3)
    · refine A_iload_n hE 7 dX9_isName_6 rfl rfl ?_
      refine A_bipush hE 9 dX9_isName_7 rfl (100) (by decide) ?_
      refine A_icmp_eq hE 12 30 dX9_isName_9 rfl rfl (fun c9 => ?_) (fun c9 => ?_)
      · refine A_iconst hE 31 dX9_isName_30 rfl (1) rfl ?_
        refine A_goto hE 35 dX9_isName_31 rfl ?_
        refine A_zret hE dX9_isName_35 (by first | exact Or.inl rfl | exact Or.inr rfl) ⟨?_, rfl⟩
        exact bI_t (Or.inr (Or.inl c9))
      · refine A_iload_n hE 13 dX9_isName_12 rfl rfl ?_
        refine A_aload_n hE 14 dX9_isName_13 rfl rfl ?_
        refine A_get hE 17 dX9_isName_14 rfl fkX9_61 rfl rfl ?_
        refine A_if_ne hE 20 25 dX9_isName_17 rfl rfl (fun c17 => absurd rfl c17) (fun c17 => ?_)
        refine A_bipush hE 22 dX9_isName_20 rfl (118) (by decide) ?_
        refine A_goto hE 27 dX9_isName_22 rfl ?_
        refine A_icmp_ne hE 30 34 dX9_isName_27 rfl rfl (fun c27 => ?_) (fun c27 => ?_)
        · refine A_iconst hE 35 dX9_isName_34 rfl (0) rfl ?_
          refine A_zret hE dX9_isName_35 (by first | exact Or.inl rfl | exact Or.inr rfl) ⟨?_, rfl⟩
          exact bI_f (fun z => z.elim c3 (fun z => z.elim c9 c27))
        · refine A_iconst hE 31 dX9_isName_30 rfl (1) rfl ?_
          refine A_goto hE 35 dX9_isName_31 rfl ?_
          refine A_zret hE dX9_isName_35 (by first | exact Or.inl rfl | exact Or.inr rfl) ⟨?_, rfl⟩
          exact bI_t (Or.inr (Or.inr c27))
  · refine A_iload_n hE 1 dX9_isName_0 rfl rfl ?_
    refine A_bipush hE 3 dX9_isName_1 rfl (115) (by decide) ?_
    refine A_icmp_eq hE 6 30 dX9_isName_3 rfl rfl (fun c3 => ?_) (fun c3 => ?_)
    · refine A_iconst hE 31 dX9_isName_30 rfl (1) rfl ?_
      refine A_goto hE 35 dX9_isName_31 rfl ?_
      refine A_zret hE dX9_isName_35 (by first | exact Or.inl rfl | exact Or.inr rfl) ⟨?_, rfl⟩
      exact bI_t (Or.inl c3)
    · refine A_iload_n hE 7 dX9_isName_6 rfl rfl ?_
      refine A_bipush hE 9 dX9_isName_7 rfl (100) (by decide) ?_
      refine A_icmp_eq hE 12 30 dX9_isName_9 rfl rfl (fun c9 => ?_) (fun c9 => ?_)
      · refine A_iconst hE 31 dX9_isName_30 rfl (1) rfl ?_
        refine A_goto hE 35 dX9_isName_31 rfl ?_
        refine A_zret hE dX9_isName_35 (by first | exact Or.inl rfl | exact Or.inr rfl) ⟨?_, rfl⟩
        exact bI_t (Or.inr (Or.inl c9))
      · refine A_iload_n hE 13 dX9_isName_12 rfl rfl ?_
        refine A_aload_n hE 14 dX9_isName_13 rfl rfl ?_
        refine A_get hE 17 dX9_isName_14 rfl fkX9_61 rfl rfl ?_
        refine A_if_ne hE 20 25 dX9_isName_17 rfl rfl (fun c17 => ?_) (fun c17 => absurd c17 (by decide))
        refine A_bipush hE 27 dX9_isName_25 rfl (108) (by decide) ?_
        refine A_icmp_ne hE 30 34 dX9_isName_27 rfl rfl (fun c27 => ?_) (fun c27 => ?_)
        · refine A_iconst hE 35 dX9_isName_34 rfl (0) rfl ?_
          refine A_zret hE dX9_isName_35 (by first | exact Or.inl rfl | exact Or.inr rfl) ⟨?_, rfl⟩
          exact bI_f (fun z => z.elim c3 (fun z => z.elim c9 c27))
        · refine A_iconst hE 31 dX9_isName_30 rfl (1) rfl ?_
          refine A_goto hE 35 dX9_isName_31 rfl ?_
          refine A_zret hE dX9_isName_35 (by first | exact Or.inl rfl | exact Or.inr rfl) ⟨?_, rfl⟩
          exact bI_t (Or.inr (Or.inr c27))
set_option maxRecDepth 100000 in
theorem c_X9_step1 (s K be er st na pi tr bi sz nu as' : Nat → Int32) (im at' op sp us tn sk ip : Int32) (w v : Int32) (k : Nat) (hk : k < 62) : AMet yX9_step1 cX9_step1 3 none 0 0 0 [.ref 0, .int w, .int v] (MW s K be er st na pi tr bi sz nu as' im at' op (nI k) us tn sk ip) (pV fun h => h = MW s K be er (upd (upd st (2 * k) w) (2 * k + 1) v) na pi tr bi sz nu as' im at' op (nI (k + 1)) us tn sk ip) := by
  refine AMet.of (by decide +kernel) rfl (fun E ad0 hE => ?_)
  refine A_aload_n hE 1 dX9_step1_0 rfl rfl ?_
  refine A_get hE 4 dX9_step1_1 rfl fkX9_22 rfl rfl ?_
  refine A_iconst hE 5 dX9_step1_4 rfl (2) rfl ?_
  refine A_aload_n hE 6 dX9_step1_5 rfl rfl ?_
  refine A_get hE 9 dX9_step1_6 rfl fkX9_64 rfl rfl ?_
  refine A_imul hE 10 dX9_step1_9 rfl ?_
  refine A_iload_n hE 11 dX9_step1_10 rfl rfl ?_
  refine A_iast hE 12 (2 * k) dX9_step1_11 rfl rfl (pk_mul 2 k) (by omega) rfl rfl ?_
  refine A_aload_n hE 13 dX9_step1_12 rfl rfl ?_
  refine A_get hE 16 dX9_step1_13 rfl fkX9_22 rfl rfl ?_
  refine A_iconst hE 17 dX9_step1_16 rfl (2) rfl ?_
  refine A_aload_n hE 18 dX9_step1_17 rfl rfl ?_
  refine A_get hE 21 dX9_step1_18 rfl fkX9_64 rfl rfl ?_
  refine A_imul hE 22 dX9_step1_21 rfl ?_
  refine A_iconst hE 23 dX9_step1_22 rfl (1) rfl ?_
  refine A_iadd hE 24 dX9_step1_23 rfl ?_
  refine A_iload_n hE 25 dX9_step1_24 rfl rfl ?_
  refine A_iast hE 26 (2 * k + 1) dX9_step1_25 rfl rfl (by show nI 2 * nI k + nI 1 = _; rw [pk_mul, nI_add]) (by omega) rfl rfl ?_
  refine A_aload_n hE 27 dX9_step1_26 rfl rfl ?_
  refine A_dup hE 28 dX9_step1_27 rfl rfl ?_
  refine A_get hE 31 dX9_step1_28 rfl fkX9_64 rfl rfl ?_
  refine A_iconst hE 32 dX9_step1_31 rfl (1) rfl ?_
  refine A_iadd hE 33 dX9_step1_32 rfl ?_
  rw [nI_1]
  refine A_put hE 36 dX9_step1_33 rfl fkX9_64 rfl rfl rfl rfl ?_
  refine A_vret hE dX9_step1_36 rfl
set_option maxRecDepth 100000 in
theorem c_opens_no (s K be er st na pi tr bi sz nu as' : Nat → Int32) (im at' op sp us tn sk ip : Int32) (h5 : op = 5) : AMet yX9_opens cX9_opens 1 (some (.boolean)) 0 0 0 [.ref 0] (MW s K be er st na pi tr bi sz nu as' im at' op sp us tn sk ip) (pI fun x h => x = 0 ∧ h = MW s K be er st na pi tr bi sz nu as' im at' op sp us tn sk ip) := by
  refine AMet.of (by decide +kernel) rfl (fun E ad0 hE => ?_)
  refine A_aload_n hE 1 dX9_opens_0 rfl rfl ?_
  refine A_get hE 4 dX9_opens_1 rfl fkX9_91 rfl rfl ?_
  refine A_iconst hE 5 dX9_opens_4 rfl (5) rfl ?_
  refine A_icmp_ne hE 8 10 dX9_opens_5 rfl rfl (fun c5 => absurd h5 c5) (fun c5 => ?_)
  refine A_iconst hE 9 dX9_opens_8 rfl (0) rfl ?_
  refine A_zret hE dX9_opens_9 (by first | exact Or.inl rfl | exact Or.inr rfl) ⟨rfl, rfl⟩
set_option maxRecDepth 100000 in
theorem c_opens_yes (s K be er st na pi tr bi sz nu as' : Nat → Int32) (im at' op sp us tn sk ip : Int32) (o a : Nat) (ho : o < 5) : AMet yX9_opens cX9_opens 1 (some (.boolean)) 0 0 0 [.ref 0] (MW s K be er st na pi tr bi sz nu as' im (nI a) (nI o) sp us tn sk ip) (pI fun x h => x = 1 ∧ h = MW s K be er st na pi tr bi sz nu as' im (nI (a + 1)) (nI (o + 1)) sp us tn sk ip) := by
  refine AMet.of (by decide +kernel) rfl (fun E ad0 hE => ?_)
  refine A_aload_n hE 1 dX9_opens_0 rfl rfl ?_
  refine A_get hE 4 dX9_opens_1 rfl fkX9_91 rfl rfl ?_
  refine A_iconst hE 5 dX9_opens_4 rfl (5) rfl ?_
  refine A_icmp_ne hE 8 10 dX9_opens_5 rfl rfl (fun c5 => ?_) (fun c5 => absurd ((nI_eq (by omega) (b := 5) (by omega)).mp c5) (by omega))
  refine A_aload_n hE 11 dX9_opens_10 rfl rfl ?_
  refine A_dup hE 12 dX9_opens_11 rfl rfl ?_
  refine A_get hE 15 dX9_opens_12 rfl fkX9_91 rfl rfl ?_
  refine A_iconst hE 16 dX9_opens_15 rfl (1) rfl ?_
  refine A_iadd hE 17 dX9_opens_16 rfl ?_
  rw [nI_1]
  refine A_put hE 20 dX9_opens_17 rfl fkX9_91 rfl rfl rfl rfl ?_
  refine A_aload_n hE 21 dX9_opens_20 rfl rfl ?_
  refine A_dup hE 22 dX9_opens_21 rfl rfl ?_
  refine A_get hE 25 dX9_opens_22 rfl fkX9_57 rfl rfl ?_
  refine A_iconst hE 26 dX9_opens_25 rfl (1) rfl ?_
  refine A_iadd hE 27 dX9_opens_26 rfl ?_
  rw [nI_1]
  refine A_put hE 30 dX9_opens_27 rfl fkX9_57 rfl rfl rfl rfl ?_
  refine A_iconst hE 31 dX9_opens_30 rfl (1) rfl ?_
  refine A_zret hE dX9_opens_31 (by first | exact Or.inl rfl | exact Or.inr rfl) ⟨rfl, rfl⟩
set_option maxRecDepth 100000 in
theorem c_X9_product (s K be er na pi tr bi sz nu as' : Nat → Int32) (im tn sk ip : Int32) (n u o : Nat) (hn : s 6 = nI n) (h60 : n ≤ 60) (d : Nat) (P : Pz) (hgo : GoP n u P) (hsub : ∀ (st : Nat → Int32) (a : Nat) (ss : Sp), a ≤ n → ss.length ≤ a → StepR st ss → AMet yX9_one cX9_one 4 (some (.boolean)) (d) 0 0 [.ref 0] (MW s K be er st na pi tr bi sz nu as' im (nI a) (nI o) (nI ss.length) (nI u) tn sk ip) (pI (PstR s K be er na pi tr bi sz nu as' im (nI u) tn sk ip (nI o) (P a ss)))) (st0 : Nat → Int32) (a0 : Nat) (ss0 : Sp) (ha : a0 ≤ n) (hss : ss0.length ≤ a0) (hst : StepR st0 ss0) : AMet yX9_product cX9_product 2 (some (.boolean)) (d + 1) 0 0 [.ref 0] (MW s K be er st0 na pi tr bi sz nu as' im (nI a0) (nI o) (nI ss0.length) (nI u) tn sk ip) (pI (PstR s K be er na pi tr bi sz nu as' im (nI u) tn sk ip (nI o) (chP (tq s) n opP P a0 ss0))) := by
  refine AMet.of (by decide +kernel) rfl (fun E ad0 hE => ?_)
  have loop : ∀ (f a : Nat) (ss : Sp) (st : Nat → Int32), n ≤ a + f → a ≤ n → ss.length ≤ a → StepR st ss → chP (tq s) n opP P a0 ss0 = tlP (tq s) n opP P f a ss → AW E (rmD (d + 1) 0 0) 2 (QM E ad0 13 0 0 (pI (PstR s K be er na pi tr bi sz nu as' im (nI u) tn sk ip (nI o) (chP (tq s) n opP P a0 ss0)))) ad0 13 0 0 9 [(0, .ref 0)] [] (MW s K be er st na pi tr bi sz nu as' im (nI a) (nI o) (nI ss.length) (nI u) tn sk ip) := by
    intro f
    induction f with
    | zero =>
      intro a ss st hf ha hss hst hx
      have hl : lk (tq s) n a = -1 := lk_end (by omega)
      refine A_aload_n hE 10 dX9_product_9 rfl rfl ?_
      refine A_callVi hE 13 (c_X9_look s K be er st na pi tr bi sz nu as' im (nI a) (nI o) (nI ss.length) (nI u) tn sk ip n a hn h60 (by omega)) [0, 1, 2, 3, 4, 5, 6, 7, 8, 9, 10, 11, 12] dX9_product_10 rfl mkX9_71 rfl rfl rfl rfl rfl (frN (Nat.succ_pos _)) (loB (by show _ ≤ 32 * (d + 1) + 20; omega)) (Nat.le_of_ble_eq_true rfl) (Nat.le_of_ble_eq_true rfl) rfl (fun x10 h10 g10 hp10 hw10 => ?_)
      obtain ⟨rfl, rfl⟩ := hp10
      obtain rfl := Option.some.inj hw10
      refine A_h (MW s K be er st na pi tr bi sz nu as' im (nI a) (nI o) (nI ss.length) (nI u) tn sk ip) rfl ?_
      rw [hl]
      refine A_bipush hE 15 dX9_product_13 rfl (42) (by decide) ?_
      refine A_icmp_eq hE 18 36 dX9_product_15 rfl rfl (fun c15 => absurd c15 (by decide)) (fun c15 => ?_)
      refine A_aload_n hE 19 dX9_product_18 rfl rfl ?_
      refine A_callVi hE 22 (c_X9_look s K be er st na pi tr bi sz nu as' im (nI a) (nI o) (nI ss.length) (nI u) tn sk ip n a hn h60 (by omega)) [0, 1, 2, 3, 4, 5, 6, 7, 8, 9, 10, 11, 12] dX9_product_19 rfl mkX9_71 rfl rfl rfl rfl rfl (frN (Nat.succ_pos _)) (loB (by show _ ≤ 32 * (d + 1) + 20; omega)) (Nat.le_of_ble_eq_true rfl) (Nat.le_of_ble_eq_true rfl) rfl (fun x19 h19 g19 hp19 hw19 => ?_)
      obtain ⟨rfl, rfl⟩ := hp19
      obtain rfl := Option.some.inj hw19
      refine A_h (MW s K be er st na pi tr bi sz nu as' im (nI a) (nI o) (nI ss.length) (nI u) tn sk ip) rfl ?_
      rw [hl]
      refine A_bipush hE 24 dX9_product_22 rfl (47) (by decide) ?_
      refine A_icmp_eq hE 27 36 dX9_product_24 rfl rfl (fun c24 => absurd c24 (by decide)) (fun c24 => ?_)
      refine A_aload_n hE 28 dX9_product_27 rfl rfl ?_
      refine A_callVi hE 31 (c_X9_look s K be er st na pi tr bi sz nu as' im (nI a) (nI o) (nI ss.length) (nI u) tn sk ip n a hn h60 (by omega)) [0, 1, 2, 3, 4, 5, 6, 7, 8, 9, 10, 11, 12] dX9_product_28 rfl mkX9_71 rfl rfl rfl rfl rfl (frN (Nat.succ_pos _)) (loB (by show _ ≤ 32 * (d + 1) + 20; omega)) (Nat.le_of_ble_eq_true rfl) (Nat.le_of_ble_eq_true rfl) rfl (fun x28 h28 g28 hp28 hw28 => ?_)
      obtain ⟨rfl, rfl⟩ := hp28
      obtain rfl := Option.some.inj hw28
      refine A_h (MW s K be er st na pi tr bi sz nu as' im (nI a) (nI o) (nI ss.length) (nI u) tn sk ip) rfl ?_
      rw [hl]
      refine A_bipush hE 33 dX9_product_31 rfl (37) (by decide) ?_
      refine A_icmp_ne hE 36 69 dX9_product_33 rfl rfl (fun c33 => ?_) (fun c33 => absurd c33 (by decide))
      refine A_iconst hE 70 dX9_product_69 rfl (1) rfl ?_
      refine A_zret hE dX9_product_70 (by first | exact Or.inl rfl | exact Or.inr rfl) ?_
      exact Or.inl ⟨a, ss, st, hx, hst, rfl, rfl⟩
    | succ f ih =>
      intro a ss st hf ha hss hst hx
      refine A_aload_n hE 10 dX9_product_9 rfl rfl ?_
      refine A_callVi hE 13 (c_X9_look s K be er st na pi tr bi sz nu as' im (nI a) (nI o) (nI ss.length) (nI u) tn sk ip n a hn h60 (by omega)) [0, 1, 2, 3, 4, 5, 6, 7, 8, 9, 10, 11, 12] dX9_product_10 rfl mkX9_71 rfl rfl rfl rfl rfl (frN (Nat.succ_pos _)) (loB (by show _ ≤ 32 * (d + 1) + 20; omega)) (Nat.le_of_ble_eq_true rfl) (Nat.le_of_ble_eq_true rfl) rfl (fun x10 h10 g10 hp10 hw10 => ?_)
      obtain ⟨rfl, rfl⟩ := hp10
      obtain rfl := Option.some.inj hw10
      refine A_h (MW s K be er st na pi tr bi sz nu as' im (nI a) (nI o) (nI ss.length) (nI u) tn sk ip) rfl ?_
      refine A_bipush hE 15 dX9_product_13 rfl (42) (by decide) ?_
      refine A_icmp_eq hE 18 36 dX9_product_15 rfl rfl (fun c15 => ?_) (fun c15 => ?_)
      · have hc : opP (lk (tq s) n a) = true := decide_eq_true (Or.inl c15)
        have hlt : a < n := lk_lt (fun z => opC_m1 (z ▸ opP_C _ hc))
        refine A_aload_n hE 37 dX9_product_36 rfl rfl ?_
        refine A_callVi hE 40 (c_X9_look s K be er st na pi tr bi sz nu as' im (nI a) (nI o) (nI ss.length) (nI u) tn sk ip n a hn h60 (by omega)) [0, 1, 2, 3, 4, 5, 6, 7, 8, 9, 10, 11, 12] dX9_product_37 rfl mkX9_71 rfl rfl rfl rfl rfl (frN (Nat.succ_pos _)) (loB (by show _ ≤ 32 * (d + 1) + 20; omega)) (Nat.le_of_ble_eq_true rfl) (Nat.le_of_ble_eq_true rfl) rfl (fun x37 h37 g37 hp37 hw37 => ?_)
        obtain ⟨rfl, rfl⟩ := hp37
        obtain rfl := Option.some.inj hw37
        refine A_h (MW s K be er st na pi tr bi sz nu as' im (nI a) (nI o) (nI ss.length) (nI u) tn sk ip) rfl ?_
        refine A_istore_n hE 41 dX9_product_40 rfl rfl rfl ?_
        refine A_aload_n hE 42 dX9_product_41 rfl rfl ?_
        refine A_dup hE 43 dX9_product_42 rfl rfl ?_
        refine A_get hE 46 dX9_product_43 rfl fkX9_57 rfl rfl ?_
        refine A_iconst hE 47 dX9_product_46 rfl (1) rfl ?_
        refine A_iadd hE 48 dX9_product_47 rfl ?_
        rw [nI_1]
        refine A_put hE 51 dX9_product_48 rfl fkX9_57 rfl rfl rfl rfl ?_
        refine A_aload_n hE 52 dX9_product_51 rfl rfl ?_
        refine A_callVi hE 55 (hsub st (a + 1) ss hlt (by omega) hst) [0, 1, 2, 3, 4, 5, 6, 7, 8, 9, 10, 11, 12] dX9_product_52 rfl mkX9_88 rfl rfl rfl rfl rfl (frN (Nat.lt_succ_self _)) (loB (by show _ ≤ 32 * (d + 1) + 20; omega)) (Nat.le_of_ble_eq_true rfl) (Nat.le_of_ble_eq_true rfl) rfl (fun x52 h52 g52 hp52 hw52 => ?_)
        rcases hp52 with ⟨b, s2, st2, e52, hs52, rfl, rfl⟩ | ⟨b3, st3, op3, sp3, e52, rfl, rfl⟩
        · obtain rfl := Option.some.inj hw52
          refine A_h (MW s K be er st2 na pi tr bi sz nu as' im (nI b) (nI o) (nI s2.length) (nI u) tn sk ip) rfl ?_
          obtain ⟨g1, g2, g3⟩ := hgo.get hlt e52
          refine A_if_ne hE 58 60 dX9_product_55 rfl rfl (fun c55 => ?_) (fun c55 => absurd c55 (by decide))
          refine A_aload_n hE 61 dX9_product_60 rfl rfl ?_
          refine A_iconst hE 62 dX9_product_61 rfl (3) rfl ?_
          refine A_iload_n hE 63 dX9_product_62 rfl rfl ?_
          refine A_callVv hE 66 (c_X9_step1 s K be er st2 na pi tr bi sz nu as' im (nI b) (nI o) (nI s2.length) (nI u) tn sk ip 3 (lk (tq s) n a) s2.length (by omega)) [0, 1, 2, 3, 4, 5, 6, 7, 8, 9, 10, 11, 12] dX9_product_63 rfl mkX9_75 rfl rfl rfl rfl rfl (frN (Nat.succ_pos _)) (loB (by show _ ≤ 32 * (d + 1) + 20; omega)) (Nat.le_of_ble_eq_true rfl) (Nat.le_of_ble_eq_true rfl) rfl (fun h63 g63 hp63 hw63 => ?_)
          obtain rfl := hp63
          obtain rfl := Option.some.inj hw63
          refine A_h (MW s K be er (upd (upd st2 (2 * s2.length) 3) (2 * s2.length + 1) (lk (tq s) n a)) na pi tr bi sz nu as' im (nI b) (nI o) (nI (s2 ++ [(3, (lk (tq s) n a))]).length) (nI u) tn sk ip) (by rw [len_push]; rfl) ?_
          refine A_lv [0] rfl ?_
          refine A_goto hE 9 dX9_product_66 rfl ?_
          exact ih b (s2 ++ [(3, (lk (tq s) n a))]) _ (by omega) g2 (by rw [len_push]; omega) (hs52.push 3 (lk (tq s) n a)) (hx.trans (by rw [tlP, if_pos hc, e52]; rfl))
        · obtain rfl := Option.some.inj hw52
          refine A_h (MW s K be er st3 na pi tr bi sz nu as' im (nI b3) op3 sp3 (nI u) tn sk ip) rfl ?_
          refine A_if_ne hE 58 60 dX9_product_55 rfl rfl (fun c55 => absurd rfl c55) (fun c55 => ?_)
          refine A_iconst hE 59 dX9_product_58 rfl (0) rfl ?_
          refine A_zret hE dX9_product_59 (by first | exact Or.inl rfl | exact Or.inr rfl) ?_
          exact Or.inr ⟨b3, st3, op3, sp3, hx.trans (by rw [tlP, if_pos hc, e52]; rfl), rfl, rfl⟩
      · refine A_aload_n hE 19 dX9_product_18 rfl rfl ?_
        refine A_callVi hE 22 (c_X9_look s K be er st na pi tr bi sz nu as' im (nI a) (nI o) (nI ss.length) (nI u) tn sk ip n a hn h60 (by omega)) [0, 1, 2, 3, 4, 5, 6, 7, 8, 9, 10, 11, 12] dX9_product_19 rfl mkX9_71 rfl rfl rfl rfl rfl (frN (Nat.succ_pos _)) (loB (by show _ ≤ 32 * (d + 1) + 20; omega)) (Nat.le_of_ble_eq_true rfl) (Nat.le_of_ble_eq_true rfl) rfl (fun x19 h19 g19 hp19 hw19 => ?_)
        obtain ⟨rfl, rfl⟩ := hp19
        obtain rfl := Option.some.inj hw19
        refine A_h (MW s K be er st na pi tr bi sz nu as' im (nI a) (nI o) (nI ss.length) (nI u) tn sk ip) rfl ?_
        refine A_bipush hE 24 dX9_product_22 rfl (47) (by decide) ?_
        refine A_icmp_eq hE 27 36 dX9_product_24 rfl rfl (fun c24 => ?_) (fun c24 => ?_)
        · have hc : opP (lk (tq s) n a) = true := decide_eq_true (Or.inr (Or.inl c24))
          have hlt : a < n := lk_lt (fun z => opC_m1 (z ▸ opP_C _ hc))
          refine A_aload_n hE 37 dX9_product_36 rfl rfl ?_
          refine A_callVi hE 40 (c_X9_look s K be er st na pi tr bi sz nu as' im (nI a) (nI o) (nI ss.length) (nI u) tn sk ip n a hn h60 (by omega)) [0, 1, 2, 3, 4, 5, 6, 7, 8, 9, 10, 11, 12] dX9_product_37 rfl mkX9_71 rfl rfl rfl rfl rfl (frN (Nat.succ_pos _)) (loB (by show _ ≤ 32 * (d + 1) + 20; omega)) (Nat.le_of_ble_eq_true rfl) (Nat.le_of_ble_eq_true rfl) rfl (fun x37 h37 g37 hp37 hw37 => ?_)
          obtain ⟨rfl, rfl⟩ := hp37
          obtain rfl := Option.some.inj hw37
          refine A_h (MW s K be er st na pi tr bi sz nu as' im (nI a) (nI o) (nI ss.length) (nI u) tn sk ip) rfl ?_
          refine A_istore_n hE 41 dX9_product_40 rfl rfl rfl ?_
          refine A_aload_n hE 42 dX9_product_41 rfl rfl ?_
          refine A_dup hE 43 dX9_product_42 rfl rfl ?_
          refine A_get hE 46 dX9_product_43 rfl fkX9_57 rfl rfl ?_
          refine A_iconst hE 47 dX9_product_46 rfl (1) rfl ?_
          refine A_iadd hE 48 dX9_product_47 rfl ?_
          rw [nI_1]
          refine A_put hE 51 dX9_product_48 rfl fkX9_57 rfl rfl rfl rfl ?_
          refine A_aload_n hE 52 dX9_product_51 rfl rfl ?_
          refine A_callVi hE 55 (hsub st (a + 1) ss hlt (by omega) hst) [0, 1, 2, 3, 4, 5, 6, 7, 8, 9, 10, 11, 12] dX9_product_52 rfl mkX9_88 rfl rfl rfl rfl rfl (frN (Nat.lt_succ_self _)) (loB (by show _ ≤ 32 * (d + 1) + 20; omega)) (Nat.le_of_ble_eq_true rfl) (Nat.le_of_ble_eq_true rfl) rfl (fun x52 h52 g52 hp52 hw52 => ?_)
          rcases hp52 with ⟨b, s2, st2, e52, hs52, rfl, rfl⟩ | ⟨b3, st3, op3, sp3, e52, rfl, rfl⟩
          · obtain rfl := Option.some.inj hw52
            refine A_h (MW s K be er st2 na pi tr bi sz nu as' im (nI b) (nI o) (nI s2.length) (nI u) tn sk ip) rfl ?_
            obtain ⟨g1, g2, g3⟩ := hgo.get hlt e52
            refine A_if_ne hE 58 60 dX9_product_55 rfl rfl (fun c55 => ?_) (fun c55 => absurd c55 (by decide))
            refine A_aload_n hE 61 dX9_product_60 rfl rfl ?_
            refine A_iconst hE 62 dX9_product_61 rfl (3) rfl ?_
            refine A_iload_n hE 63 dX9_product_62 rfl rfl ?_
            refine A_callVv hE 66 (c_X9_step1 s K be er st2 na pi tr bi sz nu as' im (nI b) (nI o) (nI s2.length) (nI u) tn sk ip 3 (lk (tq s) n a) s2.length (by omega)) [0, 1, 2, 3, 4, 5, 6, 7, 8, 9, 10, 11, 12] dX9_product_63 rfl mkX9_75 rfl rfl rfl rfl rfl (frN (Nat.succ_pos _)) (loB (by show _ ≤ 32 * (d + 1) + 20; omega)) (Nat.le_of_ble_eq_true rfl) (Nat.le_of_ble_eq_true rfl) rfl (fun h63 g63 hp63 hw63 => ?_)
            obtain rfl := hp63
            obtain rfl := Option.some.inj hw63
            refine A_h (MW s K be er (upd (upd st2 (2 * s2.length) 3) (2 * s2.length + 1) (lk (tq s) n a)) na pi tr bi sz nu as' im (nI b) (nI o) (nI (s2 ++ [(3, (lk (tq s) n a))]).length) (nI u) tn sk ip) (by rw [len_push]; rfl) ?_
            refine A_lv [0] rfl ?_
            refine A_goto hE 9 dX9_product_66 rfl ?_
            exact ih b (s2 ++ [(3, (lk (tq s) n a))]) _ (by omega) g2 (by rw [len_push]; omega) (hs52.push 3 (lk (tq s) n a)) (hx.trans (by rw [tlP, if_pos hc, e52]; rfl))
          · obtain rfl := Option.some.inj hw52
            refine A_h (MW s K be er st3 na pi tr bi sz nu as' im (nI b3) op3 sp3 (nI u) tn sk ip) rfl ?_
            refine A_if_ne hE 58 60 dX9_product_55 rfl rfl (fun c55 => absurd rfl c55) (fun c55 => ?_)
            refine A_iconst hE 59 dX9_product_58 rfl (0) rfl ?_
            refine A_zret hE dX9_product_59 (by first | exact Or.inl rfl | exact Or.inr rfl) ?_
            exact Or.inr ⟨b3, st3, op3, sp3, hx.trans (by rw [tlP, if_pos hc, e52]; rfl), rfl, rfl⟩
        · refine A_aload_n hE 28 dX9_product_27 rfl rfl ?_
          refine A_callVi hE 31 (c_X9_look s K be er st na pi tr bi sz nu as' im (nI a) (nI o) (nI ss.length) (nI u) tn sk ip n a hn h60 (by omega)) [0, 1, 2, 3, 4, 5, 6, 7, 8, 9, 10, 11, 12] dX9_product_28 rfl mkX9_71 rfl rfl rfl rfl rfl (frN (Nat.succ_pos _)) (loB (by show _ ≤ 32 * (d + 1) + 20; omega)) (Nat.le_of_ble_eq_true rfl) (Nat.le_of_ble_eq_true rfl) rfl (fun x28 h28 g28 hp28 hw28 => ?_)
          obtain ⟨rfl, rfl⟩ := hp28
          obtain rfl := Option.some.inj hw28
          refine A_h (MW s K be er st na pi tr bi sz nu as' im (nI a) (nI o) (nI ss.length) (nI u) tn sk ip) rfl ?_
          refine A_bipush hE 33 dX9_product_31 rfl (37) (by decide) ?_
          refine A_icmp_ne hE 36 69 dX9_product_33 rfl rfl (fun c33 => ?_) (fun c33 => ?_)
          · refine A_iconst hE 70 dX9_product_69 rfl (1) rfl ?_
            refine A_zret hE dX9_product_70 (by first | exact Or.inl rfl | exact Or.inr rfl) ?_
            exact Or.inl ⟨a, ss, st, hx.trans (by rw [tlP, if_neg (fun z => (of_decide_eq_true z).elim c15 (fun z => z.elim c24 c33))]), hst, rfl, rfl⟩
          · have hc : opP (lk (tq s) n a) = true := decide_eq_true (Or.inr (Or.inr c33))
            have hlt : a < n := lk_lt (fun z => opC_m1 (z ▸ opP_C _ hc))
            refine A_aload_n hE 37 dX9_product_36 rfl rfl ?_
            refine A_callVi hE 40 (c_X9_look s K be er st na pi tr bi sz nu as' im (nI a) (nI o) (nI ss.length) (nI u) tn sk ip n a hn h60 (by omega)) [0, 1, 2, 3, 4, 5, 6, 7, 8, 9, 10, 11, 12] dX9_product_37 rfl mkX9_71 rfl rfl rfl rfl rfl (frN (Nat.succ_pos _)) (loB (by show _ ≤ 32 * (d + 1) + 20; omega)) (Nat.le_of_ble_eq_true rfl) (Nat.le_of_ble_eq_true rfl) rfl (fun x37 h37 g37 hp37 hw37 => ?_)
            obtain ⟨rfl, rfl⟩ := hp37
            obtain rfl := Option.some.inj hw37
            refine A_h (MW s K be er st na pi tr bi sz nu as' im (nI a) (nI o) (nI ss.length) (nI u) tn sk ip) rfl ?_
            refine A_istore_n hE 41 dX9_product_40 rfl rfl rfl ?_
            refine A_aload_n hE 42 dX9_product_41 rfl rfl ?_
            refine A_dup hE 43 dX9_product_42 rfl rfl ?_
            refine A_get hE 46 dX9_product_43 rfl fkX9_57 rfl rfl ?_
            refine A_iconst hE 47 dX9_product_46 rfl (1) rfl ?_
            refine A_iadd hE 48 dX9_product_47 rfl ?_
            rw [nI_1]
            refine A_put hE 51 dX9_product_48 rfl fkX9_57 rfl rfl rfl rfl ?_
            refine A_aload_n hE 52 dX9_product_51 rfl rfl ?_
            refine A_callVi hE 55 (hsub st (a + 1) ss hlt (by omega) hst) [0, 1, 2, 3, 4, 5, 6, 7, 8, 9, 10, 11, 12] dX9_product_52 rfl mkX9_88 rfl rfl rfl rfl rfl (frN (Nat.lt_succ_self _)) (loB (by show _ ≤ 32 * (d + 1) + 20; omega)) (Nat.le_of_ble_eq_true rfl) (Nat.le_of_ble_eq_true rfl) rfl (fun x52 h52 g52 hp52 hw52 => ?_)
            rcases hp52 with ⟨b, s2, st2, e52, hs52, rfl, rfl⟩ | ⟨b3, st3, op3, sp3, e52, rfl, rfl⟩
            · obtain rfl := Option.some.inj hw52
              refine A_h (MW s K be er st2 na pi tr bi sz nu as' im (nI b) (nI o) (nI s2.length) (nI u) tn sk ip) rfl ?_
              obtain ⟨g1, g2, g3⟩ := hgo.get hlt e52
              refine A_if_ne hE 58 60 dX9_product_55 rfl rfl (fun c55 => ?_) (fun c55 => absurd c55 (by decide))
              refine A_aload_n hE 61 dX9_product_60 rfl rfl ?_
              refine A_iconst hE 62 dX9_product_61 rfl (3) rfl ?_
              refine A_iload_n hE 63 dX9_product_62 rfl rfl ?_
              refine A_callVv hE 66 (c_X9_step1 s K be er st2 na pi tr bi sz nu as' im (nI b) (nI o) (nI s2.length) (nI u) tn sk ip 3 (lk (tq s) n a) s2.length (by omega)) [0, 1, 2, 3, 4, 5, 6, 7, 8, 9, 10, 11, 12] dX9_product_63 rfl mkX9_75 rfl rfl rfl rfl rfl (frN (Nat.succ_pos _)) (loB (by show _ ≤ 32 * (d + 1) + 20; omega)) (Nat.le_of_ble_eq_true rfl) (Nat.le_of_ble_eq_true rfl) rfl (fun h63 g63 hp63 hw63 => ?_)
              obtain rfl := hp63
              obtain rfl := Option.some.inj hw63
              refine A_h (MW s K be er (upd (upd st2 (2 * s2.length) 3) (2 * s2.length + 1) (lk (tq s) n a)) na pi tr bi sz nu as' im (nI b) (nI o) (nI (s2 ++ [(3, (lk (tq s) n a))]).length) (nI u) tn sk ip) (by rw [len_push]; rfl) ?_
              refine A_lv [0] rfl ?_
              refine A_goto hE 9 dX9_product_66 rfl ?_
              exact ih b (s2 ++ [(3, (lk (tq s) n a))]) _ (by omega) g2 (by rw [len_push]; omega) (hs52.push 3 (lk (tq s) n a)) (hx.trans (by rw [tlP, if_pos hc, e52]; rfl))
            · obtain rfl := Option.some.inj hw52
              refine A_h (MW s K be er st3 na pi tr bi sz nu as' im (nI b3) op3 sp3 (nI u) tn sk ip) rfl ?_
              refine A_if_ne hE 58 60 dX9_product_55 rfl rfl (fun c55 => absurd rfl c55) (fun c55 => ?_)
              refine A_iconst hE 59 dX9_product_58 rfl (0) rfl ?_
              refine A_zret hE dX9_product_59 (by first | exact Or.inl rfl | exact Or.inr rfl) ?_
              exact Or.inr ⟨b3, st3, op3, sp3, hx.trans (by rw [tlP, if_pos hc, e52]; rfl), rfl, rfl⟩
  refine A_aload_n hE 1 dX9_product_0 rfl rfl ?_
  refine A_callVi hE 4 (hsub st0 a0 ss0 ha hss hst) [0, 1, 2, 3, 4, 5, 6, 7, 8, 9, 10, 11, 12] dX9_product_1 rfl mkX9_88 rfl rfl rfl rfl rfl (frN (Nat.lt_succ_self _)) (loB (by show _ ≤ 32 * (d + 1) + 20; omega)) (Nat.le_of_ble_eq_true rfl) (Nat.le_of_ble_eq_true rfl) rfl (fun x1 h1 g1 hp1 hw1 => ?_)
  rcases hp1 with ⟨b, s2, st2, e1, hs1, rfl, rfl⟩ | ⟨b3, st3, op3, sp3, e1, rfl, rfl⟩
  · obtain rfl := Option.some.inj hw1
    refine A_h (MW s K be er st2 na pi tr bi sz nu as' im (nI b) (nI o) (nI s2.length) (nI u) tn sk ip) rfl ?_
    obtain ⟨g1, g2, g3⟩ := hgo.get ha e1
    refine A_if_ne hE 7 9 dX9_product_4 rfl rfl (fun c4 => ?_) (fun c4 => absurd c4 (by decide))
    refine A_lv [0] rfl ?_
    exact loop 60 b s2 st2 (by omega) g2 (by omega) hs1 (by rw [chP, e1]; rfl)
  · obtain rfl := Option.some.inj hw1
    refine A_h (MW s K be er st3 na pi tr bi sz nu as' im (nI b3) op3 sp3 (nI u) tn sk ip) rfl ?_
    refine A_if_ne hE 7 9 dX9_product_4 rfl rfl (fun c4 => absurd rfl c4) (fun c4 => ?_)
    refine A_iconst hE 8 dX9_product_7 rfl (0) rfl ?_
    refine A_zret hE dX9_product_8 (by first | exact Or.inl rfl | exact Or.inr rfl) ?_
    exact Or.inr ⟨b3, st3, op3, sp3, by rw [chP, e1]; rfl, rfl, rfl⟩
set_option maxRecDepth 100000 in
theorem c_X9_sum (s K be er na pi tr bi sz nu as' : Nat → Int32) (im tn sk ip : Int32) (n u o : Nat) (hn : s 6 = nI n) (h60 : n ≤ 60) (d : Nat) (P : Pz) (hgo : GoP n u P) (hsub : ∀ (st : Nat → Int32) (a : Nat) (ss : Sp), a ≤ n → ss.length ≤ a → StepR st ss → AMet yX9_product cX9_product 2 (some (.boolean)) (d) 0 0 [.ref 0] (MW s K be er st na pi tr bi sz nu as' im (nI a) (nI o) (nI ss.length) (nI u) tn sk ip) (pI (PstR s K be er na pi tr bi sz nu as' im (nI u) tn sk ip (nI o) (P a ss)))) (st0 : Nat → Int32) (a0 : Nat) (ss0 : Sp) (ha : a0 ≤ n) (hss : ss0.length ≤ a0) (hst : StepR st0 ss0) : AMet yX9_sum cX9_sum 2 (some (.boolean)) (d + 1) 0 0 [.ref 0] (MW s K be er st0 na pi tr bi sz nu as' im (nI a0) (nI o) (nI ss0.length) (nI u) tn sk ip) (pI (PstR s K be er na pi tr bi sz nu as' im (nI u) tn sk ip (nI o) (chP (tq s) n opS P a0 ss0))) := by
  refine AMet.of (by decide +kernel) rfl (fun E ad0 hE => ?_)
  have loop : ∀ (f a : Nat) (ss : Sp) (st : Nat → Int32), n ≤ a + f → a ≤ n → ss.length ≤ a → StepR st ss → chP (tq s) n opS P a0 ss0 = tlP (tq s) n opS P f a ss → AW E (rmD (d + 1) 0 0) 2 (QM E ad0 13 0 0 (pI (PstR s K be er na pi tr bi sz nu as' im (nI u) tn sk ip (nI o) (chP (tq s) n opS P a0 ss0)))) ad0 13 0 0 9 [(0, .ref 0)] [] (MW s K be er st na pi tr bi sz nu as' im (nI a) (nI o) (nI ss.length) (nI u) tn sk ip) := by
    intro f
    induction f with
    | zero =>
      intro a ss st hf ha hss hst hx
      have hl : lk (tq s) n a = -1 := lk_end (by omega)
      refine A_aload_n hE 10 dX9_sum_9 rfl rfl ?_
      refine A_callVi hE 13 (c_X9_look s K be er st na pi tr bi sz nu as' im (nI a) (nI o) (nI ss.length) (nI u) tn sk ip n a hn h60 (by omega)) [0, 1, 2, 3, 4, 5, 6, 7, 8, 9, 10, 11, 12] dX9_sum_10 rfl mkX9_71 rfl rfl rfl rfl rfl (frN (Nat.succ_pos _)) (loB (by show _ ≤ 32 * (d + 1) + 20; omega)) (Nat.le_of_ble_eq_true rfl) (Nat.le_of_ble_eq_true rfl) rfl (fun x10 h10 g10 hp10 hw10 => ?_)
      obtain ⟨rfl, rfl⟩ := hp10
      obtain rfl := Option.some.inj hw10
      refine A_h (MW s K be er st na pi tr bi sz nu as' im (nI a) (nI o) (nI ss.length) (nI u) tn sk ip) rfl ?_
      rw [hl]
      refine A_bipush hE 15 dX9_sum_13 rfl (43) (by decide) ?_
      refine A_icmp_eq hE 18 27 dX9_sum_15 rfl rfl (fun c15 => absurd c15 (by decide)) (fun c15 => ?_)
      refine A_aload_n hE 19 dX9_sum_18 rfl rfl ?_
      refine A_callVi hE 22 (c_X9_look s K be er st na pi tr bi sz nu as' im (nI a) (nI o) (nI ss.length) (nI u) tn sk ip n a hn h60 (by omega)) [0, 1, 2, 3, 4, 5, 6, 7, 8, 9, 10, 11, 12] dX9_sum_19 rfl mkX9_71 rfl rfl rfl rfl rfl (frN (Nat.succ_pos _)) (loB (by show _ ≤ 32 * (d + 1) + 20; omega)) (Nat.le_of_ble_eq_true rfl) (Nat.le_of_ble_eq_true rfl) rfl (fun x19 h19 g19 hp19 hw19 => ?_)
      obtain ⟨rfl, rfl⟩ := hp19
      obtain rfl := Option.some.inj hw19
      refine A_h (MW s K be er st na pi tr bi sz nu as' im (nI a) (nI o) (nI ss.length) (nI u) tn sk ip) rfl ?_
      rw [hl]
      refine A_bipush hE 24 dX9_sum_22 rfl (45) (by decide) ?_
      refine A_icmp_ne hE 27 60 dX9_sum_24 rfl rfl (fun c24 => ?_) (fun c24 => absurd c24 (by decide))
      refine A_iconst hE 61 dX9_sum_60 rfl (1) rfl ?_
      refine A_zret hE dX9_sum_61 (by first | exact Or.inl rfl | exact Or.inr rfl) ?_
      exact Or.inl ⟨a, ss, st, hx, hst, rfl, rfl⟩
    | succ f ih =>
      intro a ss st hf ha hss hst hx
      refine A_aload_n hE 10 dX9_sum_9 rfl rfl ?_
      refine A_callVi hE 13 (c_X9_look s K be er st na pi tr bi sz nu as' im (nI a) (nI o) (nI ss.length) (nI u) tn sk ip n a hn h60 (by omega)) [0, 1, 2, 3, 4, 5, 6, 7, 8, 9, 10, 11, 12] dX9_sum_10 rfl mkX9_71 rfl rfl rfl rfl rfl (frN (Nat.succ_pos _)) (loB (by show _ ≤ 32 * (d + 1) + 20; omega)) (Nat.le_of_ble_eq_true rfl) (Nat.le_of_ble_eq_true rfl) rfl (fun x10 h10 g10 hp10 hw10 => ?_)
      obtain ⟨rfl, rfl⟩ := hp10
      obtain rfl := Option.some.inj hw10
      refine A_h (MW s K be er st na pi tr bi sz nu as' im (nI a) (nI o) (nI ss.length) (nI u) tn sk ip) rfl ?_
      refine A_bipush hE 15 dX9_sum_13 rfl (43) (by decide) ?_
      refine A_icmp_eq hE 18 27 dX9_sum_15 rfl rfl (fun c15 => ?_) (fun c15 => ?_)
      · have hc : opS (lk (tq s) n a) = true := decide_eq_true (Or.inl c15)
        have hlt : a < n := lk_lt (fun z => opC_m1 (z ▸ opS_C _ hc))
        refine A_aload_n hE 28 dX9_sum_27 rfl rfl ?_
        refine A_callVi hE 31 (c_X9_look s K be er st na pi tr bi sz nu as' im (nI a) (nI o) (nI ss.length) (nI u) tn sk ip n a hn h60 (by omega)) [0, 1, 2, 3, 4, 5, 6, 7, 8, 9, 10, 11, 12] dX9_sum_28 rfl mkX9_71 rfl rfl rfl rfl rfl (frN (Nat.succ_pos _)) (loB (by show _ ≤ 32 * (d + 1) + 20; omega)) (Nat.le_of_ble_eq_true rfl) (Nat.le_of_ble_eq_true rfl) rfl (fun x28 h28 g28 hp28 hw28 => ?_)
        obtain ⟨rfl, rfl⟩ := hp28
        obtain rfl := Option.some.inj hw28
        refine A_h (MW s K be er st na pi tr bi sz nu as' im (nI a) (nI o) (nI ss.length) (nI u) tn sk ip) rfl ?_
        refine A_istore_n hE 32 dX9_sum_31 rfl rfl rfl ?_
        refine A_aload_n hE 33 dX9_sum_32 rfl rfl ?_
        refine A_dup hE 34 dX9_sum_33 rfl rfl ?_
        refine A_get hE 37 dX9_sum_34 rfl fkX9_57 rfl rfl ?_
        refine A_iconst hE 38 dX9_sum_37 rfl (1) rfl ?_
        refine A_iadd hE 39 dX9_sum_38 rfl ?_
        rw [nI_1]
        refine A_put hE 42 dX9_sum_39 rfl fkX9_57 rfl rfl rfl rfl ?_
        refine A_aload_n hE 43 dX9_sum_42 rfl rfl ?_
        refine A_callVi hE 46 (hsub st (a + 1) ss hlt (by omega) hst) [0, 1, 2, 3, 4, 5, 6, 7, 8, 9, 10, 11, 12] dX9_sum_43 rfl mkX9_85 rfl rfl rfl rfl rfl (frN (Nat.lt_succ_self _)) (loB (by show _ ≤ 32 * (d + 1) + 20; omega)) (Nat.le_of_ble_eq_true rfl) (Nat.le_of_ble_eq_true rfl) rfl (fun x43 h43 g43 hp43 hw43 => ?_)
        rcases hp43 with ⟨b, s2, st2, e43, hs43, rfl, rfl⟩ | ⟨b3, st3, op3, sp3, e43, rfl, rfl⟩
        · obtain rfl := Option.some.inj hw43
          refine A_h (MW s K be er st2 na pi tr bi sz nu as' im (nI b) (nI o) (nI s2.length) (nI u) tn sk ip) rfl ?_
          obtain ⟨g1, g2, g3⟩ := hgo.get hlt e43
          refine A_if_ne hE 49 51 dX9_sum_46 rfl rfl (fun c46 => ?_) (fun c46 => absurd c46 (by decide))
          refine A_aload_n hE 52 dX9_sum_51 rfl rfl ?_
          refine A_iconst hE 53 dX9_sum_52 rfl (3) rfl ?_
          refine A_iload_n hE 54 dX9_sum_53 rfl rfl ?_
          refine A_callVv hE 57 (c_X9_step1 s K be er st2 na pi tr bi sz nu as' im (nI b) (nI o) (nI s2.length) (nI u) tn sk ip 3 (lk (tq s) n a) s2.length (by omega)) [0, 1, 2, 3, 4, 5, 6, 7, 8, 9, 10, 11, 12] dX9_sum_54 rfl mkX9_75 rfl rfl rfl rfl rfl (frN (Nat.succ_pos _)) (loB (by show _ ≤ 32 * (d + 1) + 20; omega)) (Nat.le_of_ble_eq_true rfl) (Nat.le_of_ble_eq_true rfl) rfl (fun h54 g54 hp54 hw54 => ?_)
          obtain rfl := hp54
          obtain rfl := Option.some.inj hw54
          refine A_h (MW s K be er (upd (upd st2 (2 * s2.length) 3) (2 * s2.length + 1) (lk (tq s) n a)) na pi tr bi sz nu as' im (nI b) (nI o) (nI (s2 ++ [(3, (lk (tq s) n a))]).length) (nI u) tn sk ip) (by rw [len_push]; rfl) ?_
          refine A_lv [0] rfl ?_
          refine A_goto hE 9 dX9_sum_57 rfl ?_
          exact ih b (s2 ++ [(3, (lk (tq s) n a))]) _ (by omega) g2 (by rw [len_push]; omega) (hs43.push 3 (lk (tq s) n a)) (hx.trans (by rw [tlP, if_pos hc, e43]; rfl))
        · obtain rfl := Option.some.inj hw43
          refine A_h (MW s K be er st3 na pi tr bi sz nu as' im (nI b3) op3 sp3 (nI u) tn sk ip) rfl ?_
          refine A_if_ne hE 49 51 dX9_sum_46 rfl rfl (fun c46 => absurd rfl c46) (fun c46 => ?_)
          refine A_iconst hE 50 dX9_sum_49 rfl (0) rfl ?_
          refine A_zret hE dX9_sum_50 (by first | exact Or.inl rfl | exact Or.inr rfl) ?_
          exact Or.inr ⟨b3, st3, op3, sp3, hx.trans (by rw [tlP, if_pos hc, e43]; rfl), rfl, rfl⟩
      · refine A_aload_n hE 19 dX9_sum_18 rfl rfl ?_
        refine A_callVi hE 22 (c_X9_look s K be er st na pi tr bi sz nu as' im (nI a) (nI o) (nI ss.length) (nI u) tn sk ip n a hn h60 (by omega)) [0, 1, 2, 3, 4, 5, 6, 7, 8, 9, 10, 11, 12] dX9_sum_19 rfl mkX9_71 rfl rfl rfl rfl rfl (frN (Nat.succ_pos _)) (loB (by show _ ≤ 32 * (d + 1) + 20; omega)) (Nat.le_of_ble_eq_true rfl) (Nat.le_of_ble_eq_true rfl) rfl (fun x19 h19 g19 hp19 hw19 => ?_)
        obtain ⟨rfl, rfl⟩ := hp19
        obtain rfl := Option.some.inj hw19
        refine A_h (MW s K be er st na pi tr bi sz nu as' im (nI a) (nI o) (nI ss.length) (nI u) tn sk ip) rfl ?_
        refine A_bipush hE 24 dX9_sum_22 rfl (45) (by decide) ?_
        refine A_icmp_ne hE 27 60 dX9_sum_24 rfl rfl (fun c24 => ?_) (fun c24 => ?_)
        · refine A_iconst hE 61 dX9_sum_60 rfl (1) rfl ?_
          refine A_zret hE dX9_sum_61 (by first | exact Or.inl rfl | exact Or.inr rfl) ?_
          exact Or.inl ⟨a, ss, st, hx.trans (by rw [tlP, if_neg (fun z => (of_decide_eq_true z).elim c15 c24)]), hst, rfl, rfl⟩
        · have hc : opS (lk (tq s) n a) = true := decide_eq_true (Or.inr c24)
          have hlt : a < n := lk_lt (fun z => opC_m1 (z ▸ opS_C _ hc))
          refine A_aload_n hE 28 dX9_sum_27 rfl rfl ?_
          refine A_callVi hE 31 (c_X9_look s K be er st na pi tr bi sz nu as' im (nI a) (nI o) (nI ss.length) (nI u) tn sk ip n a hn h60 (by omega)) [0, 1, 2, 3, 4, 5, 6, 7, 8, 9, 10, 11, 12] dX9_sum_28 rfl mkX9_71 rfl rfl rfl rfl rfl (frN (Nat.succ_pos _)) (loB (by show _ ≤ 32 * (d + 1) + 20; omega)) (Nat.le_of_ble_eq_true rfl) (Nat.le_of_ble_eq_true rfl) rfl (fun x28 h28 g28 hp28 hw28 => ?_)
          obtain ⟨rfl, rfl⟩ := hp28
          obtain rfl := Option.some.inj hw28
          refine A_h (MW s K be er st na pi tr bi sz nu as' im (nI a) (nI o) (nI ss.length) (nI u) tn sk ip) rfl ?_
          refine A_istore_n hE 32 dX9_sum_31 rfl rfl rfl ?_
          refine A_aload_n hE 33 dX9_sum_32 rfl rfl ?_
          refine A_dup hE 34 dX9_sum_33 rfl rfl ?_
          refine A_get hE 37 dX9_sum_34 rfl fkX9_57 rfl rfl ?_
          refine A_iconst hE 38 dX9_sum_37 rfl (1) rfl ?_
          refine A_iadd hE 39 dX9_sum_38 rfl ?_
          rw [nI_1]
          refine A_put hE 42 dX9_sum_39 rfl fkX9_57 rfl rfl rfl rfl ?_
          refine A_aload_n hE 43 dX9_sum_42 rfl rfl ?_
          refine A_callVi hE 46 (hsub st (a + 1) ss hlt (by omega) hst) [0, 1, 2, 3, 4, 5, 6, 7, 8, 9, 10, 11, 12] dX9_sum_43 rfl mkX9_85 rfl rfl rfl rfl rfl (frN (Nat.lt_succ_self _)) (loB (by show _ ≤ 32 * (d + 1) + 20; omega)) (Nat.le_of_ble_eq_true rfl) (Nat.le_of_ble_eq_true rfl) rfl (fun x43 h43 g43 hp43 hw43 => ?_)
          rcases hp43 with ⟨b, s2, st2, e43, hs43, rfl, rfl⟩ | ⟨b3, st3, op3, sp3, e43, rfl, rfl⟩
          · obtain rfl := Option.some.inj hw43
            refine A_h (MW s K be er st2 na pi tr bi sz nu as' im (nI b) (nI o) (nI s2.length) (nI u) tn sk ip) rfl ?_
            obtain ⟨g1, g2, g3⟩ := hgo.get hlt e43
            refine A_if_ne hE 49 51 dX9_sum_46 rfl rfl (fun c46 => ?_) (fun c46 => absurd c46 (by decide))
            refine A_aload_n hE 52 dX9_sum_51 rfl rfl ?_
            refine A_iconst hE 53 dX9_sum_52 rfl (3) rfl ?_
            refine A_iload_n hE 54 dX9_sum_53 rfl rfl ?_
            refine A_callVv hE 57 (c_X9_step1 s K be er st2 na pi tr bi sz nu as' im (nI b) (nI o) (nI s2.length) (nI u) tn sk ip 3 (lk (tq s) n a) s2.length (by omega)) [0, 1, 2, 3, 4, 5, 6, 7, 8, 9, 10, 11, 12] dX9_sum_54 rfl mkX9_75 rfl rfl rfl rfl rfl (frN (Nat.succ_pos _)) (loB (by show _ ≤ 32 * (d + 1) + 20; omega)) (Nat.le_of_ble_eq_true rfl) (Nat.le_of_ble_eq_true rfl) rfl (fun h54 g54 hp54 hw54 => ?_)
            obtain rfl := hp54
            obtain rfl := Option.some.inj hw54
            refine A_h (MW s K be er (upd (upd st2 (2 * s2.length) 3) (2 * s2.length + 1) (lk (tq s) n a)) na pi tr bi sz nu as' im (nI b) (nI o) (nI (s2 ++ [(3, (lk (tq s) n a))]).length) (nI u) tn sk ip) (by rw [len_push]; rfl) ?_
            refine A_lv [0] rfl ?_
            refine A_goto hE 9 dX9_sum_57 rfl ?_
            exact ih b (s2 ++ [(3, (lk (tq s) n a))]) _ (by omega) g2 (by rw [len_push]; omega) (hs43.push 3 (lk (tq s) n a)) (hx.trans (by rw [tlP, if_pos hc, e43]; rfl))
          · obtain rfl := Option.some.inj hw43
            refine A_h (MW s K be er st3 na pi tr bi sz nu as' im (nI b3) op3 sp3 (nI u) tn sk ip) rfl ?_
            refine A_if_ne hE 49 51 dX9_sum_46 rfl rfl (fun c46 => absurd rfl c46) (fun c46 => ?_)
            refine A_iconst hE 50 dX9_sum_49 rfl (0) rfl ?_
            refine A_zret hE dX9_sum_50 (by first | exact Or.inl rfl | exact Or.inr rfl) ?_
            exact Or.inr ⟨b3, st3, op3, sp3, hx.trans (by rw [tlP, if_pos hc, e43]; rfl), rfl, rfl⟩
  refine A_aload_n hE 1 dX9_sum_0 rfl rfl ?_
  refine A_callVi hE 4 (hsub st0 a0 ss0 ha hss hst) [0, 1, 2, 3, 4, 5, 6, 7, 8, 9, 10, 11, 12] dX9_sum_1 rfl mkX9_85 rfl rfl rfl rfl rfl (frN (Nat.lt_succ_self _)) (loB (by show _ ≤ 32 * (d + 1) + 20; omega)) (Nat.le_of_ble_eq_true rfl) (Nat.le_of_ble_eq_true rfl) rfl (fun x1 h1 g1 hp1 hw1 => ?_)
  rcases hp1 with ⟨b, s2, st2, e1, hs1, rfl, rfl⟩ | ⟨b3, st3, op3, sp3, e1, rfl, rfl⟩
  · obtain rfl := Option.some.inj hw1
    refine A_h (MW s K be er st2 na pi tr bi sz nu as' im (nI b) (nI o) (nI s2.length) (nI u) tn sk ip) rfl ?_
    obtain ⟨g1, g2, g3⟩ := hgo.get ha e1
    refine A_if_ne hE 7 9 dX9_sum_4 rfl rfl (fun c4 => ?_) (fun c4 => absurd c4 (by decide))
    refine A_lv [0] rfl ?_
    exact loop 60 b s2 st2 (by omega) g2 (by omega) hs1 (by rw [chP, e1]; rfl)
  · obtain rfl := Option.some.inj hw1
    refine A_h (MW s K be er st3 na pi tr bi sz nu as' im (nI b3) op3 sp3 (nI u) tn sk ip) rfl ?_
    refine A_if_ne hE 7 9 dX9_sum_4 rfl rfl (fun c4 => absurd rfl c4) (fun c4 => ?_)
    refine A_iconst hE 8 dX9_sum_7 rfl (0) rfl ?_
    refine A_zret hE dX9_sum_8 (by first | exact Or.inl rfl | exact Or.inr rfl) ?_
    exact Or.inr ⟨b3, st3, op3, sp3, by rw [chP, e1]; rfl, rfl, rfl⟩
set_option maxRecDepth 100000 in
theorem c_X9_compared (s K be er na pi tr bi sz nu as' : Nat → Int32) (im tn sk ip : Int32) (n u o : Nat) (hn : s 6 = nI n) (h60 : n ≤ 60) (d : Nat) (P : Pz) (hgo : GoP n u P) (hsub : ∀ (st : Nat → Int32) (a : Nat) (ss : Sp), a ≤ n → ss.length ≤ a → StepR st ss → AMet yX9_sum cX9_sum 2 (some (.boolean)) (d) 0 0 [.ref 0] (MW s K be er st na pi tr bi sz nu as' im (nI a) (nI o) (nI ss.length) (nI u) tn sk ip) (pI (PstR s K be er na pi tr bi sz nu as' im (nI u) tn sk ip (nI o) (P a ss)))) (st : Nat → Int32) (a : Nat) (ss : Sp) (ha : a ≤ n) (hss : ss.length ≤ a) (hst : StepR st ss) : AMet yX9_compared cX9_compared 2 (some (.boolean)) (d + 1) 0 0 [.ref 0] (MW s K be er st na pi tr bi sz nu as' im (nI a) (nI o) (nI ss.length) (nI u) tn sk ip) (pI (PstR s K be er na pi tr bi sz nu as' im (nI u) tn sk ip (nI o) (cmP (tq s) n P a ss))) := by
  refine AMet.of (by decide +kernel) rfl (fun E ad0 hE => ?_)
  refine A_aload_n hE 1 dX9_compared_0 rfl rfl ?_
  refine A_callVi hE 4 (hsub st a ss ha hss hst) [0, 1, 2, 3, 4, 5, 6, 7, 8, 9, 10, 11, 12] dX9_compared_1 rfl mkX9_82 rfl rfl rfl rfl rfl (frN (Nat.lt_succ_self _)) (loB (by show _ ≤ 32 * (d + 1) + 20; omega)) (Nat.le_of_ble_eq_true rfl) (Nat.le_of_ble_eq_true rfl) rfl (fun x1 h1 g1 hp1 hw1 => ?_)
  rcases hp1 with ⟨b, s2, st2, e1, hs1, rfl, rfl⟩ | ⟨b3, st3, op3, sp3, e1, rfl, rfl⟩
  · obtain rfl := Option.some.inj hw1
    refine A_h (MW s K be er st2 na pi tr bi sz nu as' im (nI b) (nI o) (nI s2.length) (nI u) tn sk ip) rfl ?_
    obtain ⟨g1, g2, g3⟩ := hgo.get ha e1
    refine A_if_ne hE 7 9 dX9_compared_4 rfl rfl (fun c4 => ?_) (fun c4 => absurd c4 (by decide))
    refine A_aload_n hE 10 dX9_compared_9 rfl rfl ?_
    refine A_callVi hE 13 (c_X9_look s K be er st2 na pi tr bi sz nu as' im (nI b) (nI o) (nI s2.length) (nI u) tn sk ip n b hn h60 (by omega)) [0, 1, 2, 3, 4, 5, 6, 7, 8, 9, 10, 11, 12] dX9_compared_10 rfl mkX9_71 rfl rfl rfl rfl rfl (frN (Nat.succ_pos _)) (loB (by show _ ≤ 32 * (d + 1) + 20; omega)) (Nat.le_of_ble_eq_true rfl) (Nat.le_of_ble_eq_true rfl) rfl (fun x10 h10 g10 hp10 hw10 => ?_)
    obtain ⟨rfl, rfl⟩ := hp10
    obtain rfl := Option.some.inj hw10
    refine A_h (MW s K be er st2 na pi tr bi sz nu as' im (nI b) (nI o) (nI s2.length) (nI u) tn sk ip) rfl ?_
    refine A_istore_n hE 14 dX9_compared_13 rfl rfl rfl ?_
    refine A_iload_n hE 15 dX9_compared_14 rfl rfl ?_
    refine A_bipush hE 17 dX9_compared_15 rfl (60) (by decide) ?_
    refine A_icmp_eq hE 20 34 dX9_compared_17 rfl rfl (fun c17 => ?_) (fun c17 => ?_)
    · have hc : opB (lk (tq s) n b) = true := decide_eq_true (Or.inl c17)
      have hlt : b < n := lk_lt (fun z => opC_m1 (z ▸ opB_C _ hc))
      refine A_aload_n hE 35 dX9_compared_34 rfl rfl ?_
      refine A_dup hE 36 dX9_compared_35 rfl rfl ?_
      refine A_get hE 39 dX9_compared_36 rfl fkX9_57 rfl rfl ?_
      refine A_iconst hE 40 dX9_compared_39 rfl (1) rfl ?_
      refine A_iadd hE 41 dX9_compared_40 rfl ?_
      rw [nI_1]
      refine A_put hE 44 dX9_compared_41 rfl fkX9_57 rfl rfl rfl rfl ?_
      refine A_aload_n hE 45 dX9_compared_44 rfl rfl ?_
      refine A_callVi hE 48 (hsub st2 (b + 1) s2 hlt (by omega) hs1) [0, 1, 2, 3, 4, 5, 6, 7, 8, 9, 10, 11, 12] dX9_compared_45 rfl mkX9_82 rfl rfl rfl rfl rfl (frN (Nat.lt_succ_self _)) (loB (by show _ ≤ 32 * (d + 1) + 20; omega)) (Nat.le_of_ble_eq_true rfl) (Nat.le_of_ble_eq_true rfl) rfl (fun x45 h45 g45 hp45 hw45 => ?_)
      rcases hp45 with ⟨b4, s4, st4, e45, hs45, rfl, rfl⟩ | ⟨b3, st3, op3, sp3, e45, rfl, rfl⟩
      · obtain rfl := Option.some.inj hw45
        refine A_h (MW s K be er st4 na pi tr bi sz nu as' im (nI b4) (nI o) (nI s4.length) (nI u) tn sk ip) rfl ?_
        obtain ⟨g4, g5, g6⟩ := hgo.get hlt e45
        refine A_if_ne hE 51 53 dX9_compared_48 rfl rfl (fun c48 => ?_) (fun c48 => absurd c48 (by decide))
        refine A_aload_n hE 54 dX9_compared_53 rfl rfl ?_
        refine A_iconst hE 55 dX9_compared_54 rfl (3) rfl ?_
        refine A_iload_n hE 56 dX9_compared_55 rfl rfl ?_
        refine A_callVv hE 59 (c_X9_step1 s K be er st4 na pi tr bi sz nu as' im (nI b4) (nI o) (nI s4.length) (nI u) tn sk ip 3 (lk (tq s) n b) s4.length (by omega)) [0, 1, 2, 3, 4, 5, 6, 7, 8, 9, 10, 11, 12] dX9_compared_56 rfl mkX9_75 rfl rfl rfl rfl rfl (frN (Nat.succ_pos _)) (loB (by show _ ≤ 32 * (d + 1) + 20; omega)) (Nat.le_of_ble_eq_true rfl) (Nat.le_of_ble_eq_true rfl) rfl (fun h56 g56 hp56 hw56 => ?_)
        obtain rfl := hp56
        obtain rfl := Option.some.inj hw56
        refine A_h (MW s K be er (upd (upd st4 (2 * s4.length) 3) (2 * s4.length + 1) (lk (tq s) n b)) na pi tr bi sz nu as' im (nI b4) (nI o) (nI (s4 ++ [(3, (lk (tq s) n b))]).length) (nI u) tn sk ip) (by rw [len_push]; rfl) ?_
        refine A_iconst hE 60 dX9_compared_59 rfl (1) rfl ?_
        refine A_zret hE dX9_compared_60 (by first | exact Or.inl rfl | exact Or.inr rfl) ?_
        exact Or.inl ⟨b4, s4 ++ [(3, lk (tq s) n b)], _, by rw [cmP, e1]; show (if opB (lk (tq s) n b) = true then _ else _) = _; rw [if_pos hc, e45]; rfl, hs45.push 3 (lk (tq s) n b), rfl, rfl⟩
      · obtain rfl := Option.some.inj hw45
        refine A_h (MW s K be er st3 na pi tr bi sz nu as' im (nI b3) op3 sp3 (nI u) tn sk ip) rfl ?_
        refine A_if_ne hE 51 53 dX9_compared_48 rfl rfl (fun c48 => absurd rfl c48) (fun c48 => ?_)
        refine A_iconst hE 52 dX9_compared_51 rfl (0) rfl ?_
        refine A_zret hE dX9_compared_52 (by first | exact Or.inl rfl | exact Or.inr rfl) ?_
        exact Or.inr ⟨b3, st3, op3, sp3, by rw [cmP, e1]; show (if opB (lk (tq s) n b) = true then _ else _) = _; rw [if_pos hc, e45]; rfl, rfl, rfl⟩
    · refine A_iload_n hE 21 dX9_compared_20 rfl rfl ?_
      refine A_bipush hE 23 dX9_compared_21 rfl (61) (by decide) ?_
      refine A_icmp_eq hE 26 34 dX9_compared_23 rfl rfl (fun c23 => ?_) (fun c23 => ?_)
      · have hc : opB (lk (tq s) n b) = true := decide_eq_true (Or.inr (Or.inl c23))
        have hlt : b < n := lk_lt (fun z => opC_m1 (z ▸ opB_C _ hc))
        refine A_aload_n hE 35 dX9_compared_34 rfl rfl ?_
        refine A_dup hE 36 dX9_compared_35 rfl rfl ?_
        refine A_get hE 39 dX9_compared_36 rfl fkX9_57 rfl rfl ?_
        refine A_iconst hE 40 dX9_compared_39 rfl (1) rfl ?_
        refine A_iadd hE 41 dX9_compared_40 rfl ?_
        rw [nI_1]
        refine A_put hE 44 dX9_compared_41 rfl fkX9_57 rfl rfl rfl rfl ?_
        refine A_aload_n hE 45 dX9_compared_44 rfl rfl ?_
        refine A_callVi hE 48 (hsub st2 (b + 1) s2 hlt (by omega) hs1) [0, 1, 2, 3, 4, 5, 6, 7, 8, 9, 10, 11, 12] dX9_compared_45 rfl mkX9_82 rfl rfl rfl rfl rfl (frN (Nat.lt_succ_self _)) (loB (by show _ ≤ 32 * (d + 1) + 20; omega)) (Nat.le_of_ble_eq_true rfl) (Nat.le_of_ble_eq_true rfl) rfl (fun x45 h45 g45 hp45 hw45 => ?_)
        rcases hp45 with ⟨b4, s4, st4, e45, hs45, rfl, rfl⟩ | ⟨b3, st3, op3, sp3, e45, rfl, rfl⟩
        · obtain rfl := Option.some.inj hw45
          refine A_h (MW s K be er st4 na pi tr bi sz nu as' im (nI b4) (nI o) (nI s4.length) (nI u) tn sk ip) rfl ?_
          obtain ⟨g4, g5, g6⟩ := hgo.get hlt e45
          refine A_if_ne hE 51 53 dX9_compared_48 rfl rfl (fun c48 => ?_) (fun c48 => absurd c48 (by decide))
          refine A_aload_n hE 54 dX9_compared_53 rfl rfl ?_
          refine A_iconst hE 55 dX9_compared_54 rfl (3) rfl ?_
          refine A_iload_n hE 56 dX9_compared_55 rfl rfl ?_
          refine A_callVv hE 59 (c_X9_step1 s K be er st4 na pi tr bi sz nu as' im (nI b4) (nI o) (nI s4.length) (nI u) tn sk ip 3 (lk (tq s) n b) s4.length (by omega)) [0, 1, 2, 3, 4, 5, 6, 7, 8, 9, 10, 11, 12] dX9_compared_56 rfl mkX9_75 rfl rfl rfl rfl rfl (frN (Nat.succ_pos _)) (loB (by show _ ≤ 32 * (d + 1) + 20; omega)) (Nat.le_of_ble_eq_true rfl) (Nat.le_of_ble_eq_true rfl) rfl (fun h56 g56 hp56 hw56 => ?_)
          obtain rfl := hp56
          obtain rfl := Option.some.inj hw56
          refine A_h (MW s K be er (upd (upd st4 (2 * s4.length) 3) (2 * s4.length + 1) (lk (tq s) n b)) na pi tr bi sz nu as' im (nI b4) (nI o) (nI (s4 ++ [(3, (lk (tq s) n b))]).length) (nI u) tn sk ip) (by rw [len_push]; rfl) ?_
          refine A_iconst hE 60 dX9_compared_59 rfl (1) rfl ?_
          refine A_zret hE dX9_compared_60 (by first | exact Or.inl rfl | exact Or.inr rfl) ?_
          exact Or.inl ⟨b4, s4 ++ [(3, lk (tq s) n b)], _, by rw [cmP, e1]; show (if opB (lk (tq s) n b) = true then _ else _) = _; rw [if_pos hc, e45]; rfl, hs45.push 3 (lk (tq s) n b), rfl, rfl⟩
        · obtain rfl := Option.some.inj hw45
          refine A_h (MW s K be er st3 na pi tr bi sz nu as' im (nI b3) op3 sp3 (nI u) tn sk ip) rfl ?_
          refine A_if_ne hE 51 53 dX9_compared_48 rfl rfl (fun c48 => absurd rfl c48) (fun c48 => ?_)
          refine A_iconst hE 52 dX9_compared_51 rfl (0) rfl ?_
          refine A_zret hE dX9_compared_52 (by first | exact Or.inl rfl | exact Or.inr rfl) ?_
          exact Or.inr ⟨b3, st3, op3, sp3, by rw [cmP, e1]; show (if opB (lk (tq s) n b) = true then _ else _) = _; rw [if_pos hc, e45]; rfl, rfl, rfl⟩
      · refine A_iload_n hE 27 dX9_compared_26 rfl rfl ?_
        refine A_bipush hE 29 dX9_compared_27 rfl (62) (by decide) ?_
        refine A_icmp_eq hE 32 34 dX9_compared_29 rfl rfl (fun c29 => ?_) (fun c29 => ?_)
        · have hc : opB (lk (tq s) n b) = true := decide_eq_true (Or.inr (Or.inr c29))
          have hlt : b < n := lk_lt (fun z => opC_m1 (z ▸ opB_C _ hc))
          refine A_aload_n hE 35 dX9_compared_34 rfl rfl ?_
          refine A_dup hE 36 dX9_compared_35 rfl rfl ?_
          refine A_get hE 39 dX9_compared_36 rfl fkX9_57 rfl rfl ?_
          refine A_iconst hE 40 dX9_compared_39 rfl (1) rfl ?_
          refine A_iadd hE 41 dX9_compared_40 rfl ?_
          rw [nI_1]
          refine A_put hE 44 dX9_compared_41 rfl fkX9_57 rfl rfl rfl rfl ?_
          refine A_aload_n hE 45 dX9_compared_44 rfl rfl ?_
          refine A_callVi hE 48 (hsub st2 (b + 1) s2 hlt (by omega) hs1) [0, 1, 2, 3, 4, 5, 6, 7, 8, 9, 10, 11, 12] dX9_compared_45 rfl mkX9_82 rfl rfl rfl rfl rfl (frN (Nat.lt_succ_self _)) (loB (by show _ ≤ 32 * (d + 1) + 20; omega)) (Nat.le_of_ble_eq_true rfl) (Nat.le_of_ble_eq_true rfl) rfl (fun x45 h45 g45 hp45 hw45 => ?_)
          rcases hp45 with ⟨b4, s4, st4, e45, hs45, rfl, rfl⟩ | ⟨b3, st3, op3, sp3, e45, rfl, rfl⟩
          · obtain rfl := Option.some.inj hw45
            refine A_h (MW s K be er st4 na pi tr bi sz nu as' im (nI b4) (nI o) (nI s4.length) (nI u) tn sk ip) rfl ?_
            obtain ⟨g4, g5, g6⟩ := hgo.get hlt e45
            refine A_if_ne hE 51 53 dX9_compared_48 rfl rfl (fun c48 => ?_) (fun c48 => absurd c48 (by decide))
            refine A_aload_n hE 54 dX9_compared_53 rfl rfl ?_
            refine A_iconst hE 55 dX9_compared_54 rfl (3) rfl ?_
            refine A_iload_n hE 56 dX9_compared_55 rfl rfl ?_
            refine A_callVv hE 59 (c_X9_step1 s K be er st4 na pi tr bi sz nu as' im (nI b4) (nI o) (nI s4.length) (nI u) tn sk ip 3 (lk (tq s) n b) s4.length (by omega)) [0, 1, 2, 3, 4, 5, 6, 7, 8, 9, 10, 11, 12] dX9_compared_56 rfl mkX9_75 rfl rfl rfl rfl rfl (frN (Nat.succ_pos _)) (loB (by show _ ≤ 32 * (d + 1) + 20; omega)) (Nat.le_of_ble_eq_true rfl) (Nat.le_of_ble_eq_true rfl) rfl (fun h56 g56 hp56 hw56 => ?_)
            obtain rfl := hp56
            obtain rfl := Option.some.inj hw56
            refine A_h (MW s K be er (upd (upd st4 (2 * s4.length) 3) (2 * s4.length + 1) (lk (tq s) n b)) na pi tr bi sz nu as' im (nI b4) (nI o) (nI (s4 ++ [(3, (lk (tq s) n b))]).length) (nI u) tn sk ip) (by rw [len_push]; rfl) ?_
            refine A_iconst hE 60 dX9_compared_59 rfl (1) rfl ?_
            refine A_zret hE dX9_compared_60 (by first | exact Or.inl rfl | exact Or.inr rfl) ?_
            exact Or.inl ⟨b4, s4 ++ [(3, lk (tq s) n b)], _, by rw [cmP, e1]; show (if opB (lk (tq s) n b) = true then _ else _) = _; rw [if_pos hc, e45]; rfl, hs45.push 3 (lk (tq s) n b), rfl, rfl⟩
          · obtain rfl := Option.some.inj hw45
            refine A_h (MW s K be er st3 na pi tr bi sz nu as' im (nI b3) op3 sp3 (nI u) tn sk ip) rfl ?_
            refine A_if_ne hE 51 53 dX9_compared_48 rfl rfl (fun c48 => absurd rfl c48) (fun c48 => ?_)
            refine A_iconst hE 52 dX9_compared_51 rfl (0) rfl ?_
            refine A_zret hE dX9_compared_52 (by first | exact Or.inl rfl | exact Or.inr rfl) ?_
            exact Or.inr ⟨b3, st3, op3, sp3, by rw [cmP, e1]; show (if opB (lk (tq s) n b) = true then _ else _) = _; rw [if_pos hc, e45]; rfl, rfl, rfl⟩
        · refine A_iconst hE 33 dX9_compared_32 rfl (1) rfl ?_
          refine A_zret hE dX9_compared_33 (by first | exact Or.inl rfl | exact Or.inr rfl) ?_
          exact Or.inl ⟨b, s2, st2, by rw [cmP, e1]; show (if opB (lk (tq s) n b) = true then _ else _) = _; rw [if_neg (fun z => (of_decide_eq_true z).elim c17 (fun z => z.elim c23 c29))], hs1, rfl, rfl⟩
  · obtain rfl := Option.some.inj hw1
    refine A_h (MW s K be er st3 na pi tr bi sz nu as' im (nI b3) op3 sp3 (nI u) tn sk ip) rfl ?_
    refine A_if_ne hE 7 9 dX9_compared_4 rfl rfl (fun c4 => absurd rfl c4) (fun c4 => ?_)
    refine A_iconst hE 8 dX9_compared_7 rfl (0) rfl ?_
    refine A_zret hE dX9_compared_8 (by first | exact Or.inl rfl | exact Or.inr rfl) ?_
    exact Or.inr ⟨b3, st3, op3, sp3, by rw [cmP, e1]; rfl, rfl, rfl⟩
set_option maxRecDepth 100000 in
theorem c_X9_both (s K be er na pi tr bi sz nu as' : Nat → Int32) (im tn sk ip : Int32) (n u o : Nat) (hn : s 6 = nI n) (h60 : n ≤ 60) (d : Nat) (P : Pz) (hgo : GoP n u P) (hsub : ∀ (st : Nat → Int32) (a : Nat) (ss : Sp), a ≤ n → ss.length ≤ a → StepR st ss → AMet yX9_compared cX9_compared 2 (some (.boolean)) (d) 0 0 [.ref 0] (MW s K be er st na pi tr bi sz nu as' im (nI a) (nI o) (nI ss.length) (nI u) tn sk ip) (pI (PstR s K be er na pi tr bi sz nu as' im (nI u) tn sk ip (nI o) (P a ss)))) (st0 : Nat → Int32) (a0 : Nat) (ss0 : Sp) (ha : a0 ≤ n) (hss : ss0.length ≤ a0) (hst : StepR st0 ss0) : AMet yX9_both cX9_both 1 (some (.boolean)) (d + 1) 0 0 [.ref 0] (MW s K be er st0 na pi tr bi sz nu as' im (nI a0) (nI o) (nI ss0.length) (nI u) tn sk ip) (pI (PstR s K be er na pi tr bi sz nu as' im (nI u) tn sk ip (nI o) (chP (tq s) n opA P a0 ss0))) := by
  refine AMet.of (by decide +kernel) rfl (fun E ad0 hE => ?_)
  have loop : ∀ (f a : Nat) (ss : Sp) (st : Nat → Int32), n ≤ a + f → a ≤ n → ss.length ≤ a → StepR st ss → chP (tq s) n opA P a0 ss0 = tlP (tq s) n opA P f a ss → AW E (rmD (d + 1) 0 0) 1 (QM E ad0 13 0 0 (pI (PstR s K be er na pi tr bi sz nu as' im (nI u) tn sk ip (nI o) (chP (tq s) n opA P a0 ss0)))) ad0 13 0 0 9 [(0, .ref 0)] [] (MW s K be er st na pi tr bi sz nu as' im (nI a) (nI o) (nI ss.length) (nI u) tn sk ip) := by
    intro f
    induction f with
    | zero =>
      intro a ss st hf ha hss hst hx
      have hl : lk (tq s) n a = -1 := lk_end (by omega)
      refine A_aload_n hE 10 dX9_both_9 rfl rfl ?_
      refine A_callVi hE 13 (c_X9_look s K be er st na pi tr bi sz nu as' im (nI a) (nI o) (nI ss.length) (nI u) tn sk ip n a hn h60 (by omega)) [0, 1, 2, 3, 4, 5, 6, 7, 8, 9, 10, 11, 12] dX9_both_10 rfl mkX9_71 rfl rfl rfl rfl rfl (frN (Nat.succ_pos _)) (loB (by show _ ≤ 32 * (d + 1) + 20; omega)) (Nat.le_of_ble_eq_true rfl) (Nat.le_of_ble_eq_true rfl) rfl (fun x10 h10 g10 hp10 hw10 => ?_)
      obtain ⟨rfl, rfl⟩ := hp10
      obtain rfl := Option.some.inj hw10
      refine A_h (MW s K be er st na pi tr bi sz nu as' im (nI a) (nI o) (nI ss.length) (nI u) tn sk ip) rfl ?_
      rw [hl]
      refine A_bipush hE 15 dX9_both_13 rfl (38) (by decide) ?_
      refine A_icmp_ne hE 18 47 dX9_both_15 rfl rfl (fun c15 => ?_) (fun c15 => absurd c15 (by decide))
      refine A_iconst hE 48 dX9_both_47 rfl (1) rfl ?_
      refine A_zret hE dX9_both_48 (by first | exact Or.inl rfl | exact Or.inr rfl) ?_
      exact Or.inl ⟨a, ss, st, hx, hst, rfl, rfl⟩
    | succ f ih =>
      intro a ss st hf ha hss hst hx
      refine A_aload_n hE 10 dX9_both_9 rfl rfl ?_
      refine A_callVi hE 13 (c_X9_look s K be er st na pi tr bi sz nu as' im (nI a) (nI o) (nI ss.length) (nI u) tn sk ip n a hn h60 (by omega)) [0, 1, 2, 3, 4, 5, 6, 7, 8, 9, 10, 11, 12] dX9_both_10 rfl mkX9_71 rfl rfl rfl rfl rfl (frN (Nat.succ_pos _)) (loB (by show _ ≤ 32 * (d + 1) + 20; omega)) (Nat.le_of_ble_eq_true rfl) (Nat.le_of_ble_eq_true rfl) rfl (fun x10 h10 g10 hp10 hw10 => ?_)
      obtain ⟨rfl, rfl⟩ := hp10
      obtain rfl := Option.some.inj hw10
      refine A_h (MW s K be er st na pi tr bi sz nu as' im (nI a) (nI o) (nI ss.length) (nI u) tn sk ip) rfl ?_
      refine A_bipush hE 15 dX9_both_13 rfl (38) (by decide) ?_
      refine A_icmp_ne hE 18 47 dX9_both_15 rfl rfl (fun c15 => ?_) (fun c15 => ?_)
      · refine A_iconst hE 48 dX9_both_47 rfl (1) rfl ?_
        refine A_zret hE dX9_both_48 (by first | exact Or.inl rfl | exact Or.inr rfl) ?_
        exact Or.inl ⟨a, ss, st, hx.trans (by rw [tlP, if_neg (fun (z : opA (lk (tq s) n a) = true) => c15 (of_decide_eq_true z))]), hst, rfl, rfl⟩
      · have hc : opA (lk (tq s) n a) = true := decide_eq_true (c15)
        have hlt : a < n := lk_lt (fun z => opC_m1 (z ▸ opA_C _ hc))
        have hcv : lk (tq s) n a = 38 := c15
        refine A_aload_n hE 19 dX9_both_18 rfl rfl ?_
        refine A_dup hE 20 dX9_both_19 rfl rfl ?_
        refine A_get hE 23 dX9_both_20 rfl fkX9_57 rfl rfl ?_
        refine A_iconst hE 24 dX9_both_23 rfl (1) rfl ?_
        refine A_iadd hE 25 dX9_both_24 rfl ?_
        rw [nI_1]
        refine A_put hE 28 dX9_both_25 rfl fkX9_57 rfl rfl rfl rfl ?_
        refine A_aload_n hE 29 dX9_both_28 rfl rfl ?_
        refine A_callVi hE 32 (hsub st (a + 1) ss hlt (by omega) hst) [0, 1, 2, 3, 4, 5, 6, 7, 8, 9, 10, 11, 12] dX9_both_29 rfl mkX9_79 rfl rfl rfl rfl rfl (frN (Nat.lt_succ_self _)) (loB (by show _ ≤ 32 * (d + 1) + 20; omega)) (Nat.le_of_ble_eq_true rfl) (Nat.le_of_ble_eq_true rfl) rfl (fun x29 h29 g29 hp29 hw29 => ?_)
        rcases hp29 with ⟨b, s2, st2, e29, hs29, rfl, rfl⟩ | ⟨b3, st3, op3, sp3, e29, rfl, rfl⟩
        · obtain rfl := Option.some.inj hw29
          refine A_h (MW s K be er st2 na pi tr bi sz nu as' im (nI b) (nI o) (nI s2.length) (nI u) tn sk ip) rfl ?_
          obtain ⟨g1, g2, g3⟩ := hgo.get hlt e29
          refine A_if_ne hE 35 37 dX9_both_32 rfl rfl (fun c32 => ?_) (fun c32 => absurd c32 (by decide))
          refine A_aload_n hE 38 dX9_both_37 rfl rfl ?_
          refine A_iconst hE 39 dX9_both_38 rfl (3) rfl ?_
          refine A_bipush hE 41 dX9_both_39 rfl (38) (by decide) ?_
          refine A_callVv hE 44 (c_X9_step1 s K be er st2 na pi tr bi sz nu as' im (nI b) (nI o) (nI s2.length) (nI u) tn sk ip 3 38 s2.length (by omega)) [0, 1, 2, 3, 4, 5, 6, 7, 8, 9, 10, 11, 12] dX9_both_41 rfl mkX9_75 rfl rfl rfl rfl rfl (frN (Nat.succ_pos _)) (loB (by show _ ≤ 32 * (d + 1) + 20; omega)) (Nat.le_of_ble_eq_true rfl) (Nat.le_of_ble_eq_true rfl) rfl (fun h41 g41 hp41 hw41 => ?_)
          obtain rfl := hp41
          obtain rfl := Option.some.inj hw41
          refine A_h (MW s K be er (upd (upd st2 (2 * s2.length) 3) (2 * s2.length + 1) 38) na pi tr bi sz nu as' im (nI b) (nI o) (nI (s2 ++ [(3, 38)]).length) (nI u) tn sk ip) (by rw [len_push]; rfl) ?_
          refine A_lv [0] rfl ?_
          refine A_goto hE 9 dX9_both_44 rfl ?_
          exact ih b (s2 ++ [(3, 38)]) _ (by omega) g2 (by rw [len_push]; omega) (hs29.push 3 38) (hx.trans (by rw [tlP, if_pos hc, hcv, e29]; rfl))
        · obtain rfl := Option.some.inj hw29
          refine A_h (MW s K be er st3 na pi tr bi sz nu as' im (nI b3) op3 sp3 (nI u) tn sk ip) rfl ?_
          refine A_if_ne hE 35 37 dX9_both_32 rfl rfl (fun c32 => absurd rfl c32) (fun c32 => ?_)
          refine A_iconst hE 36 dX9_both_35 rfl (0) rfl ?_
          refine A_zret hE dX9_both_36 (by first | exact Or.inl rfl | exact Or.inr rfl) ?_
          exact Or.inr ⟨b3, st3, op3, sp3, hx.trans (by rw [tlP, if_pos hc, e29]; rfl), rfl, rfl⟩
  refine A_aload_n hE 1 dX9_both_0 rfl rfl ?_
  refine A_callVi hE 4 (hsub st0 a0 ss0 ha hss hst) [0, 1, 2, 3, 4, 5, 6, 7, 8, 9, 10, 11, 12] dX9_both_1 rfl mkX9_79 rfl rfl rfl rfl rfl (frN (Nat.lt_succ_self _)) (loB (by show _ ≤ 32 * (d + 1) + 20; omega)) (Nat.le_of_ble_eq_true rfl) (Nat.le_of_ble_eq_true rfl) rfl (fun x1 h1 g1 hp1 hw1 => ?_)
  rcases hp1 with ⟨b, s2, st2, e1, hs1, rfl, rfl⟩ | ⟨b3, st3, op3, sp3, e1, rfl, rfl⟩
  · obtain rfl := Option.some.inj hw1
    refine A_h (MW s K be er st2 na pi tr bi sz nu as' im (nI b) (nI o) (nI s2.length) (nI u) tn sk ip) rfl ?_
    obtain ⟨g1, g2, g3⟩ := hgo.get ha e1
    refine A_if_ne hE 7 9 dX9_both_4 rfl rfl (fun c4 => ?_) (fun c4 => absurd c4 (by decide))
    refine A_lv [0] rfl ?_
    exact loop 60 b s2 st2 (by omega) g2 (by omega) hs1 (by rw [chP, e1]; rfl)
  · obtain rfl := Option.some.inj hw1
    refine A_h (MW s K be er st3 na pi tr bi sz nu as' im (nI b3) op3 sp3 (nI u) tn sk ip) rfl ?_
    refine A_if_ne hE 7 9 dX9_both_4 rfl rfl (fun c4 => absurd rfl c4) (fun c4 => ?_)
    refine A_iconst hE 8 dX9_both_7 rfl (0) rfl ?_
    refine A_zret hE dX9_both_8 (by first | exact Or.inl rfl | exact Or.inr rfl) ?_
    exact Or.inr ⟨b3, st3, op3, sp3, by rw [chP, e1]; rfl, rfl, rfl⟩
set_option maxRecDepth 100000 in
theorem c_X9_whole (s K be er na pi tr bi sz nu as' : Nat → Int32) (im tn sk ip : Int32) (n u o : Nat) (hn : s 6 = nI n) (h60 : n ≤ 60) (d : Nat) (P : Pz) (hgo : GoP n u P) (hsub : ∀ (st : Nat → Int32) (a : Nat) (ss : Sp), a ≤ n → ss.length ≤ a → StepR st ss → AMet yX9_both cX9_both 1 (some (.boolean)) (d) 0 0 [.ref 0] (MW s K be er st na pi tr bi sz nu as' im (nI a) (nI o) (nI ss.length) (nI u) tn sk ip) (pI (PstR s K be er na pi tr bi sz nu as' im (nI u) tn sk ip (nI o) (P a ss)))) (st0 : Nat → Int32) (a0 : Nat) (ss0 : Sp) (ha : a0 ≤ n) (hss : ss0.length ≤ a0) (hst : StepR st0 ss0) : AMet yX9_whole cX9_whole 1 (some (.boolean)) (d + 1) 0 0 [.ref 0] (MW s K be er st0 na pi tr bi sz nu as' im (nI a0) (nI o) (nI ss0.length) (nI u) tn sk ip) (pI (PstR s K be er na pi tr bi sz nu as' im (nI u) tn sk ip (nI o) (chP (tq s) n opW P a0 ss0))) := by
  refine AMet.of (by decide +kernel) rfl (fun E ad0 hE => ?_)
  have loop : ∀ (f a : Nat) (ss : Sp) (st : Nat → Int32), n ≤ a + f → a ≤ n → ss.length ≤ a → StepR st ss → chP (tq s) n opW P a0 ss0 = tlP (tq s) n opW P f a ss → AW E (rmD (d + 1) 0 0) 1 (QM E ad0 13 0 0 (pI (PstR s K be er na pi tr bi sz nu as' im (nI u) tn sk ip (nI o) (chP (tq s) n opW P a0 ss0)))) ad0 13 0 0 9 [(0, .ref 0)] [] (MW s K be er st na pi tr bi sz nu as' im (nI a) (nI o) (nI ss.length) (nI u) tn sk ip) := by
    intro f
    induction f with
    | zero =>
      intro a ss st hf ha hss hst hx
      have hl : lk (tq s) n a = -1 := lk_end (by omega)
      refine A_aload_n hE 10 dX9_whole_9 rfl rfl ?_
      refine A_callVi hE 13 (c_X9_look s K be er st na pi tr bi sz nu as' im (nI a) (nI o) (nI ss.length) (nI u) tn sk ip n a hn h60 (by omega)) [0, 1, 2, 3, 4, 5, 6, 7, 8, 9, 10, 11, 12] dX9_whole_10 rfl mkX9_71 rfl rfl rfl rfl rfl (frN (Nat.succ_pos _)) (loB (by show _ ≤ 32 * (d + 1) + 20; omega)) (Nat.le_of_ble_eq_true rfl) (Nat.le_of_ble_eq_true rfl) rfl (fun x10 h10 g10 hp10 hw10 => ?_)
      obtain ⟨rfl, rfl⟩ := hp10
      obtain rfl := Option.some.inj hw10
      refine A_h (MW s K be er st na pi tr bi sz nu as' im (nI a) (nI o) (nI ss.length) (nI u) tn sk ip) rfl ?_
      rw [hl]
      refine A_bipush hE 15 dX9_whole_13 rfl (124) (by decide) ?_
      refine A_icmp_ne hE 18 47 dX9_whole_15 rfl rfl (fun c15 => ?_) (fun c15 => absurd c15 (by decide))
      refine A_iconst hE 48 dX9_whole_47 rfl (1) rfl ?_
      refine A_zret hE dX9_whole_48 (by first | exact Or.inl rfl | exact Or.inr rfl) ?_
      exact Or.inl ⟨a, ss, st, hx, hst, rfl, rfl⟩
    | succ f ih =>
      intro a ss st hf ha hss hst hx
      refine A_aload_n hE 10 dX9_whole_9 rfl rfl ?_
      refine A_callVi hE 13 (c_X9_look s K be er st na pi tr bi sz nu as' im (nI a) (nI o) (nI ss.length) (nI u) tn sk ip n a hn h60 (by omega)) [0, 1, 2, 3, 4, 5, 6, 7, 8, 9, 10, 11, 12] dX9_whole_10 rfl mkX9_71 rfl rfl rfl rfl rfl (frN (Nat.succ_pos _)) (loB (by show _ ≤ 32 * (d + 1) + 20; omega)) (Nat.le_of_ble_eq_true rfl) (Nat.le_of_ble_eq_true rfl) rfl (fun x10 h10 g10 hp10 hw10 => ?_)
      obtain ⟨rfl, rfl⟩ := hp10
      obtain rfl := Option.some.inj hw10
      refine A_h (MW s K be er st na pi tr bi sz nu as' im (nI a) (nI o) (nI ss.length) (nI u) tn sk ip) rfl ?_
      refine A_bipush hE 15 dX9_whole_13 rfl (124) (by decide) ?_
      refine A_icmp_ne hE 18 47 dX9_whole_15 rfl rfl (fun c15 => ?_) (fun c15 => ?_)
      · refine A_iconst hE 48 dX9_whole_47 rfl (1) rfl ?_
        refine A_zret hE dX9_whole_48 (by first | exact Or.inl rfl | exact Or.inr rfl) ?_
        exact Or.inl ⟨a, ss, st, hx.trans (by rw [tlP, if_neg (fun (z : opW (lk (tq s) n a) = true) => c15 (of_decide_eq_true z))]), hst, rfl, rfl⟩
      · have hc : opW (lk (tq s) n a) = true := decide_eq_true (c15)
        have hlt : a < n := lk_lt (fun z => opC_m1 (z ▸ opW_C _ hc))
        have hcv : lk (tq s) n a = 124 := c15
        refine A_aload_n hE 19 dX9_whole_18 rfl rfl ?_
        refine A_dup hE 20 dX9_whole_19 rfl rfl ?_
        refine A_get hE 23 dX9_whole_20 rfl fkX9_57 rfl rfl ?_
        refine A_iconst hE 24 dX9_whole_23 rfl (1) rfl ?_
        refine A_iadd hE 25 dX9_whole_24 rfl ?_
        rw [nI_1]
        refine A_put hE 28 dX9_whole_25 rfl fkX9_57 rfl rfl rfl rfl ?_
        refine A_aload_n hE 29 dX9_whole_28 rfl rfl ?_
        refine A_callVi hE 32 (hsub st (a + 1) ss hlt (by omega) hst) [0, 1, 2, 3, 4, 5, 6, 7, 8, 9, 10, 11, 12] dX9_whole_29 rfl mkX9_67 rfl rfl rfl rfl rfl (frN (Nat.lt_succ_self _)) (loB (by show _ ≤ 32 * (d + 1) + 20; omega)) (Nat.le_of_ble_eq_true rfl) (Nat.le_of_ble_eq_true rfl) rfl (fun x29 h29 g29 hp29 hw29 => ?_)
        rcases hp29 with ⟨b, s2, st2, e29, hs29, rfl, rfl⟩ | ⟨b3, st3, op3, sp3, e29, rfl, rfl⟩
        · obtain rfl := Option.some.inj hw29
          refine A_h (MW s K be er st2 na pi tr bi sz nu as' im (nI b) (nI o) (nI s2.length) (nI u) tn sk ip) rfl ?_
          obtain ⟨g1, g2, g3⟩ := hgo.get hlt e29
          refine A_if_ne hE 35 37 dX9_whole_32 rfl rfl (fun c32 => ?_) (fun c32 => absurd c32 (by decide))
          refine A_aload_n hE 38 dX9_whole_37 rfl rfl ?_
          refine A_iconst hE 39 dX9_whole_38 rfl (3) rfl ?_
          refine A_bipush hE 41 dX9_whole_39 rfl (124) (by decide) ?_
          refine A_callVv hE 44 (c_X9_step1 s K be er st2 na pi tr bi sz nu as' im (nI b) (nI o) (nI s2.length) (nI u) tn sk ip 3 124 s2.length (by omega)) [0, 1, 2, 3, 4, 5, 6, 7, 8, 9, 10, 11, 12] dX9_whole_41 rfl mkX9_75 rfl rfl rfl rfl rfl (frN (Nat.succ_pos _)) (loB (by show _ ≤ 32 * (d + 1) + 20; omega)) (Nat.le_of_ble_eq_true rfl) (Nat.le_of_ble_eq_true rfl) rfl (fun h41 g41 hp41 hw41 => ?_)
          obtain rfl := hp41
          obtain rfl := Option.some.inj hw41
          refine A_h (MW s K be er (upd (upd st2 (2 * s2.length) 3) (2 * s2.length + 1) 124) na pi tr bi sz nu as' im (nI b) (nI o) (nI (s2 ++ [(3, 124)]).length) (nI u) tn sk ip) (by rw [len_push]; rfl) ?_
          refine A_lv [0] rfl ?_
          refine A_goto hE 9 dX9_whole_44 rfl ?_
          exact ih b (s2 ++ [(3, 124)]) _ (by omega) g2 (by rw [len_push]; omega) (hs29.push 3 124) (hx.trans (by rw [tlP, if_pos hc, hcv, e29]; rfl))
        · obtain rfl := Option.some.inj hw29
          refine A_h (MW s K be er st3 na pi tr bi sz nu as' im (nI b3) op3 sp3 (nI u) tn sk ip) rfl ?_
          refine A_if_ne hE 35 37 dX9_whole_32 rfl rfl (fun c32 => absurd rfl c32) (fun c32 => ?_)
          refine A_iconst hE 36 dX9_whole_35 rfl (0) rfl ?_
          refine A_zret hE dX9_whole_36 (by first | exact Or.inl rfl | exact Or.inr rfl) ?_
          exact Or.inr ⟨b3, st3, op3, sp3, hx.trans (by rw [tlP, if_pos hc, e29]; rfl), rfl, rfl⟩
  refine A_aload_n hE 1 dX9_whole_0 rfl rfl ?_
  refine A_callVi hE 4 (hsub st0 a0 ss0 ha hss hst) [0, 1, 2, 3, 4, 5, 6, 7, 8, 9, 10, 11, 12] dX9_whole_1 rfl mkX9_67 rfl rfl rfl rfl rfl (frN (Nat.lt_succ_self _)) (loB (by show _ ≤ 32 * (d + 1) + 20; omega)) (Nat.le_of_ble_eq_true rfl) (Nat.le_of_ble_eq_true rfl) rfl (fun x1 h1 g1 hp1 hw1 => ?_)
  rcases hp1 with ⟨b, s2, st2, e1, hs1, rfl, rfl⟩ | ⟨b3, st3, op3, sp3, e1, rfl, rfl⟩
  · obtain rfl := Option.some.inj hw1
    refine A_h (MW s K be er st2 na pi tr bi sz nu as' im (nI b) (nI o) (nI s2.length) (nI u) tn sk ip) rfl ?_
    obtain ⟨g1, g2, g3⟩ := hgo.get ha e1
    refine A_if_ne hE 7 9 dX9_whole_4 rfl rfl (fun c4 => ?_) (fun c4 => absurd c4 (by decide))
    refine A_lv [0] rfl ?_
    exact loop 60 b s2 st2 (by omega) g2 (by omega) hs1 (by rw [chP, e1]; rfl)
  · obtain rfl := Option.some.inj hw1
    refine A_h (MW s K be er st3 na pi tr bi sz nu as' im (nI b3) op3 sp3 (nI u) tn sk ip) rfl ?_
    refine A_if_ne hE 7 9 dX9_whole_4 rfl rfl (fun c4 => absurd rfl c4) (fun c4 => ?_)
    refine A_iconst hE 8 dX9_whole_7 rfl (0) rfl ?_
    refine A_zret hE dX9_whole_8 (by first | exact Or.inl rfl | exact Or.inr rfl) ?_
    exact Or.inr ⟨b3, st3, op3, sp3, by rw [chP, e1]; rfl, rfl, rfl⟩
