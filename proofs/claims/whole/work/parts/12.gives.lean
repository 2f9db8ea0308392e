theorem nI_m1 (n : Nat) : nI (n + 1) + (-1) = nI n := by
  have e : (-1 : Int32) = nI 4294967295 := by decide
  rw [e, nI_add, show n + 1 + 4294967295 = n + 4294967296 by omega, ← nI_add, show nI 4294967296 = 0 by decide, Int32.add_zero]
def HoldR (hold : Nat → Int32) (stk : List Int32) : Prop := ∀ j, j < stk.length → hold j = stk.getD (stk.length - 1 - j) 0
theorem HoldR.push {hold : Nat → Int32} {stk : List Int32} (h : HoldR hold stk) (x : Int32) : HoldR (upd hold stk.length x) (x :: stk) := by
  intro j hj
  by_cases e : j = stk.length
  · subst e
    rw [upd_s]
    simp
  · rw [upd_n e]
    have hj2 : j < stk.length := by simp at hj; omega
    rw [h j hj2]
    rw [show (x :: stk).length - 1 - j = (stk.length - 1 - j) + 1 by simp; omega]
    simp
theorem HoldR.pop {hold : Nat → Int32} {x : Int32} {r : List Int32} (h : HoldR hold (x :: r)) : HoldR hold r := by
  intro j hj
  rw [h j (by simp; omega)]
  rw [show (x :: r).length - 1 - j = (r.length - 1 - j) + 1 by simp; omega]
  simp
theorem HoldR.top {hold : Nat → Int32} {x : Int32} {r : List Int32} (h : HoldR hold (x :: r)) : hold r.length = x := by
  rw [h r.length (by simp)]
  simp
abbrev LawO (a b u : Nat) : AE := .inr (0, [.ref a, .ref b, .int (nI u)])
/-- what a law's row of steps holds -/
def LawC (u : Nat) (ss : Sp) (g : Nat → Int32) : Prop := okT u ss ∧ ∀ j, j < ss.length → g j = encS u (ss.getD j (0, 0))
abbrev LawW (u : Nat) (ss : Sp) (g hold : Nat → Int32) : List AE := [LawO 1 3 u, cRow 2 (nI ss.length), cI 60 g, cI 60 hold]
theorem opC_neg {v : Int32} (h : opC v) : -v < 0 ∧ ¬ -v = -33 ∧ - -v = v := by
  rcases h with rfl | rfl | rfl | rfl | rfl | rfl | rfl | rfl | rfl | rfl <;> decide
theorem nm_worth {u : Nat} (hu : u < 2) {v a b c : Int32} (h : v = 115 ∨ v = 100 ∨ v = (if u = 0 then 118 else 108)) : ¬ (10000 + nmI u v) < 0 ∧ (if 10000 + nmI u v = 10000 then a else if 10000 + nmI u v = 10001 then b else if 10000 + nmI u v = 10002 then c else 10000 + nmI u v) = nmF u a b c v := by
  obtain rfl | rfl : u = 0 ∨ u = 1 := by omega
  · rcases h with rfl | rfl | rfl
    · exact ⟨by decide, rfl⟩
    · exact ⟨by decide, rfl⟩
    · exact ⟨by decide, rfl⟩
  · rcases h with rfl | rfl | rfl
    · exact ⟨by decide, rfl⟩
    · exact ⟨by decide, rfl⟩
    · exact ⟨by decide, rfl⟩
theorem num_worth {n : Nat} (hn : n < 10000) (a b c : Int32) : (if nI n = 10000 then a else if nI n = 10001 then b else if nI n = 10002 then c else nI n) = nI n := by
  rw [if_neg (show ¬ nI n = 10000 from fun z => absurd ((nI_eq (b := 10000) (by omega) (by omega)).mp z) (by omega)), if_neg (show ¬ nI n = 10001 from fun z => absurd ((nI_eq (b := 10001) (by omega) (by omega)).mp z) (by omega)), if_neg (show ¬ nI n = 10002 from fun z => absurd ((nI_eq (b := 10002) (by omega) (by omega)).mp z) (by omega))]

set_option maxRecDepth 100000 in
theorem c_X0_takeSteps (u : Nat) (ss ss2 : Sp) (g hold g2 : Nat → Int32) (n1 : Nat) (h2 : ss2.length ≤ 60) : AMet yX0_takeSteps cX0_takeSteps 2 none 2 0 0 [.ref 0, .ref 4] [LawO 1 3 u, cRow 2 (nI n1), cI 60 g, cI 60 hold, cRow 5 (nI ss2.length), cI 60 g2] (pV fun h => h = [LawO 1 3 u, cRow 2 (nI ss2.length), cI 60 (fun z => if z < ss2.length then g2 z else g z), cI 60 hold, cRow 5 (nI ss2.length), cI 60 g2]) := by
  refine AMet.of (by decide +kernel) rfl (fun E ad0 hE => ?_)
  refine A_aload_n hE 1 dX0_takeSteps_0 rfl rfl ?_
  refine A_get hE 4 dX0_takeSteps_1 rfl fkX0_14 rfl rfl ?_
  refine A_aload_n hE 5 dX0_takeSteps_4 rfl rfl ?_
  refine A_callVv hE 8 (c_X3_takeOver 60 60 g g2 (nI n1) ss2.length h2 h2 rfl rfl) [1, 2, 4, 5] dX0_takeSteps_5 rfl mkX0_28 rfl rfl rfl rfl rfl rfl rfl (Nat.le_of_ble_eq_true rfl) (Nat.le_of_ble_eq_true rfl) rfl (fun h5 g5 hp5 hw5 => ?_)
  obtain rfl := hp5
  obtain rfl := Option.some.inj hw5
  refine A_vret hE dX0_takeSteps_8 rfl
set_option maxRecDepth 100000 in
theorem c_X0_gives (u : Nat) (ss : Sp) (g hold : Nat → Int32) (a b c : Int32) (hu : u < 2) (hg : LawC u ss g) : AMet yX0_gives cX0_gives 7 (some (.int)) 1 0 0 [.ref 0, .int a, .int b, .int c] (LawW u ss g hold) (pI fun x h => x = lawV u ss a b c ∧ ∃ hold' : Nat → Int32, h = LawW u ss g hold') := by
  refine AMet.of (by decide +kernel) rfl (fun E ad0 hE => ?_)
  obtain ⟨⟨hlen, hdp, hokS⟩, hgS⟩ := hg
  have fin : ∀ hold : Nat → Int32, hold 0 = rawV u ss a b c → AW E (rmD 1 0 0) 7 (QM E ad0 4 0 0 (pI fun x h => x = lawV u ss a b c ∧ ∃ hold' : Nat → Int32, h = LawW u ss g hold')) ad0 4 0 0 161 [(0, .ref 0)] [] (LawW u ss g hold) := by
    intro hold h0
    obtain rfl | rfl : u = 0 ∨ u = 1 := by omega
    · refine A_aload_n hE 162 dX0_gives_161 rfl rfl ?_
      refine A_get hE 165 dX0_gives_162 rfl fkX0_24 rfl rfl ?_
      refine A_if_ne hE 168 186 dX0_gives_165 rfl rfl (fun c165 => absurd rfl c165) (fun c165 => ?_)
      refine A_iconst hE 169 dX0_gives_168 rfl (0) rfl ?_
      refine A_bipush hE 171 dX0_gives_169 rfl (99) (by decide) ?_
      refine A_aload_n hE 172 dX0_gives_171 rfl rfl ?_
      refine A_get hE 175 dX0_gives_172 rfl fkX0_20 rfl rfl ?_
      refine A_iconst hE 176 dX0_gives_175 rfl (0) rfl ?_
      refine A_iald hE 177 0 dX0_gives_176 rfl rfl rfl (by omega) rfl ?_
      rw [h0]
      refine A_callSi hE 180 (c_J9_min_7cf53 99 (rawV 0 ss a b c)) [] dX0_gives_177 rfl mkX0_46 rfl rfl rfl rfl rfl rfl (Nat.le_of_ble_eq_true rfl) (Nat.le_of_ble_eq_true rfl) rfl (fun x177 h177 g177 hp177 hw177 => ?_)
      obtain ⟨rfl, rfl⟩ := hp177
      obtain rfl := Option.some.inj hw177
      refine A_callSi hE 183 (c_J9_max_7cf53 0 (if rawV 0 ss a b c < 99 then rawV 0 ss a b c else 99)) [] dX0_gives_180 rfl mkX0_52 rfl rfl rfl rfl rfl rfl (Nat.le_of_ble_eq_true rfl) (Nat.le_of_ble_eq_true rfl) rfl (fun x180 h180 g180 hp180 hw180 => ?_)
      obtain ⟨rfl, rfl⟩ := hp180
      obtain rfl := Option.some.inj hw180
      refine A_goto hE 197 dX0_gives_183 rfl ?_
      refine A_iret hE dX0_gives_197 ⟨?_, hold, rfl⟩
      rw [clampV_eq]
      rfl
    · refine A_aload_n hE 162 dX0_gives_161 rfl rfl ?_
      refine A_get hE 165 dX0_gives_162 rfl fkX0_24 rfl rfl ?_
      refine A_if_ne hE 168 186 dX0_gives_165 rfl rfl (fun c165 => ?_) (fun c165 => absurd c165 (by decide))
      refine A_aload_n hE 187 dX0_gives_186 rfl rfl ?_
      refine A_get hE 190 dX0_gives_187 rfl fkX0_20 rfl rfl ?_
      refine A_iconst hE 191 dX0_gives_190 rfl (0) rfl ?_
      refine A_iald hE 192 0 dX0_gives_191 rfl rfl rfl (by omega) rfl ?_
      rw [h0]
      refine A_bipush hE 194 dX0_gives_192 rfl (100) (by decide) ?_
      refine A_callSi hE 197 (c_J9_floorMod_7cf53 (rawV 1 ss a b c)) [] dX0_gives_194 rfl mkX0_55 rfl rfl rfl rfl rfl rfl (Nat.le_of_ble_eq_true rfl) (Nat.le_of_ble_eq_true rfl) rfl (fun x194 h194 g194 hp194 hw194 => ?_)
      obtain ⟨rfl, rfl⟩ := hp194
      obtain rfl := Option.some.inj hw194
      refine A_iret hE dX0_gives_197 ⟨?_, hold, rfl⟩
      rfl
  have loop : ∀ (rs : Sp) (i : Nat) (stk : List Int32) (hold : Nat → Int32), i + rs.length = ss.length → (∀ j, j < rs.length → g (i + j) = encS u (rs.getD j (0, 0))) → (∀ x ∈ rs, okS u x) → dpt rs stk.length = some 1 → stk.length ≤ i → HoldR hold stk → rawV u ss a b c = (evL (nmF u a b c) rs stk).headD 0 → AW E (rmD 1 0 0) 7 (QM E ad0 4 0 0 (pI fun x h => x = lawV u ss a b c ∧ ∃ hold' : Nat → Int32, h = LawW u ss g hold')) ad0 4 0 0 13 [(0, .ref 0), (1, .int a), (2, .int b), (3, .int c), (4, .int (nI stk.length)), (5, .int (nI i))] [] (LawW u ss g hold) := by
    intro rs
    induction rs with
    | nil =>
      intro i stk hold hi hg2 hok hd hs hH hr
      have hi2 : i = ss.length := by simpa using hi
      subst hi2
      have h1 : stk.length = 1 := by simpa [dpt] using hd
      obtain ⟨x, rfl⟩ := List.length_eq_one_iff.mp h1
      refine A_iload hE 15 dX0_gives_13 rfl rfl ?_
      refine A_aload_n hE 16 dX0_gives_15 rfl rfl ?_
      refine A_get hE 19 dX0_gives_16 rfl fkX0_14 rfl rfl ?_
      refine A_get hE 22 dX0_gives_19 rfl fkX0_32 rfl rfl ?_
      refine A_icmp_ge hE 25 161 dX0_gives_22 rfl rfl (fun c22 => ?_) (fun c22 => absurd (nI_le (Nat.le_refl _) (by omega)) c22)
      refine A_lv [0] rfl ?_
      exact fin hold (hH.top.trans hr.symm)
    | cons q rs ih =>
      obtain ⟨w, v⟩ := q
      intro i stk hold hi hg2 hok hd hs hH hr
      simp only [List.length_cons] at hi
      have hil : i < ss.length := by omega
      have hgi : g i = encS u (w, v) := by simpa using hg2 0 (by simp)
      have hgn : ∀ j, j < rs.length → g (i + 1 + j) = encS u (rs.getD j (0, 0)) := fun j hj => by have h3 := hg2 (j + 1) (by simp; omega); rw [show i + 1 + j = i + (j + 1) by omega, h3]; simp
      have hokn : ∀ x ∈ rs, okS u x := fun x hx => hok x (List.mem_cons_of_mem _ hx)
      have push : ∀ (st X : Int32), g i = st → ¬ st < 0 → (if st = 10000 then a else if st = 10001 then b else if st = 10002 then c else st) = X → dpt rs (stk.length + 1) = some 1 → rawV u ss a b c = (evL (nmF u a b c) rs (X :: stk)).headD 0 → AW E (rmD 1 0 0) 7 (QM E ad0 4 0 0 (pI fun x h => x = lawV u ss a b c ∧ ∃ hold' : Nat → Int32, h = LawW u ss g hold')) ad0 4 0 0 13 [(0, .ref 0), (1, .int a), (2, .int b), (3, .int c), (4, .int (nI stk.length)), (5, .int (nI i))] [] (LawW u ss g hold) := by
        intro st X hst hneg hX hd2 hr2
        refine A_iload hE 15 dX0_gives_13 rfl rfl ?_
        refine A_aload_n hE 16 dX0_gives_15 rfl rfl ?_
        refine A_get hE 19 dX0_gives_16 rfl fkX0_14 rfl rfl ?_
        refine A_get hE 22 dX0_gives_19 rfl fkX0_32 rfl rfl ?_
        refine A_icmp_ge hE 25 161 dX0_gives_22 rfl rfl (fun c22 => absurd c22 (nI_ge hil (by omega))) (fun c22 => ?_)
        refine A_aload_n hE 26 dX0_gives_25 rfl rfl ?_
        refine A_get hE 29 dX0_gives_26 rfl fkX0_14 rfl rfl ?_
        refine A_get hE 32 dX0_gives_29 rfl fkX0_35 rfl rfl ?_
        refine A_iload hE 34 dX0_gives_32 rfl rfl ?_
        refine A_iald hE 35 i dX0_gives_34 rfl rfl rfl (by omega) rfl ?_
        rw [hst]
        refine A_istore hE 37 dX0_gives_35 rfl rfl rfl ?_
        refine A_iload hE 39 dX0_gives_37 rfl rfl ?_
        refine A_if_lt hE 42 73 dX0_gives_39 rfl rfl (fun c39 => absurd c39 hneg) (fun c39 => ?_)
        refine A_iload hE 44 dX0_gives_42 rfl rfl ?_
        refine A_aload_n hE 45 dX0_gives_44 rfl rfl ?_
        refine A_get hE 48 dX0_gives_45 rfl fkX0_20 rfl rfl ?_
        refine A_alen hE 49 dX0_gives_48 rfl rfl ?_
        refine A_icmp_ge hE 52 73 dX0_gives_49 rfl rfl (fun c49 => absurd c49 (nI_ge (show stk.length < 60 by omega) (by omega))) (fun c49 => ?_)
        refine A_aload_n hE 53 dX0_gives_52 rfl rfl ?_
        refine A_get hE 56 dX0_gives_53 rfl fkX0_20 rfl rfl ?_
        refine A_iload hE 58 dX0_gives_56 rfl rfl ?_
        refine A_iload hE 60 dX0_gives_58 rfl rfl ?_
        refine A_iload_n hE 61 dX0_gives_60 rfl rfl ?_
        refine A_iload_n hE 62 dX0_gives_61 rfl rfl ?_
        refine A_iload_n hE 63 dX0_gives_62 rfl rfl ?_
        refine A_callSi hE 66 (c_X0_worth st a b c) [] dX0_gives_63 rfl mkX0_38 rfl rfl rfl rfl rfl rfl (Nat.le_of_ble_eq_true rfl) (Nat.le_of_ble_eq_true rfl) rfl (fun x63 h63 g63 hp63 hw63 => ?_)
        obtain ⟨rfl, rfl⟩ := hp63
        obtain rfl := Option.some.inj hw63
        rw [hX]
        refine A_iast hE 67 stk.length dX0_gives_66 rfl rfl rfl (by omega) rfl rfl ?_
        refine A_iinc hE 70 dX0_gives_67 rfl rfl (1) rfl rfl rfl ?_
        refine A_goto hE 155 dX0_gives_70 rfl ?_
        refine A_iinc hE 158 dX0_gives_155 rfl rfl (1) rfl rfl rfl ?_
        rw [nI_1, nI_1]
        refine A_lv [0, 1, 2, 3, 4, 5] rfl ?_
        refine A_goto hE 13 dX0_gives_158 rfl ?_
        exact ih (i + 1) (X :: stk) _ (by omega) hgn hokn hd2 (by simp; omega) (hH.push X) hr2
      rcases hok (w, v) List.mem_cons_self with ⟨hw, n, hn, hv⟩ | ⟨hw, hv⟩ | ⟨hw, hv⟩ | ⟨hw, hv⟩
      · subst hw; subst hv
        exact push (nI n) (nI n) hgi (nI_pos (by omega)) (num_worth hn a b c) hd hr
      · subst hw
        exact push (10000 + nmI u v) (nmF u a b c v) hgi (nm_worth hu hv (a := a) (b := b) (c := c)).1 (nm_worth hu hv).2 hd hr
      · subst hw; subst hv
        have hgi : g i = -33 := hgi
        have hd : (if 1 ≤ stk.length then dpt rs stk.length else none) = some 1 := hd
        have h1 : 1 ≤ stk.length := by by_cases z : 1 ≤ stk.length <;> simp_all
        rw [if_pos h1] at hd
        obtain ⟨x, r, rfl⟩ : ∃ x r, stk = x :: r := by cases stk <;> simp_all
        have hr : rawV u ss a b c = (evL (nmF u a b c) rs ((if x = 0 then 1 else 0) :: r)).headD 0 := hr
        have hpop := hH.pop
        refine A_iload hE 15 dX0_gives_13 rfl rfl ?_
        refine A_aload_n hE 16 dX0_gives_15 rfl rfl ?_
        refine A_get hE 19 dX0_gives_16 rfl fkX0_14 rfl rfl ?_
        refine A_get hE 22 dX0_gives_19 rfl fkX0_32 rfl rfl ?_
        refine A_icmp_ge hE 25 161 dX0_gives_22 rfl rfl (fun c22 => absurd c22 (nI_ge hil (by omega))) (fun c22 => ?_)
        refine A_aload_n hE 26 dX0_gives_25 rfl rfl ?_
        refine A_get hE 29 dX0_gives_26 rfl fkX0_14 rfl rfl ?_
        refine A_get hE 32 dX0_gives_29 rfl fkX0_35 rfl rfl ?_
        refine A_iload hE 34 dX0_gives_32 rfl rfl ?_
        refine A_iald hE 35 i dX0_gives_34 rfl rfl rfl (by omega) rfl ?_
        rw [hgi]
        refine A_istore hE 37 dX0_gives_35 rfl rfl rfl ?_
        refine A_iload hE 39 dX0_gives_37 rfl rfl ?_
        refine A_if_lt hE 42 73 dX0_gives_39 rfl rfl (fun c39 => ?_) (fun c39 => absurd (show (-33 : Int32) < 0 by decide) c39)
        refine A_iload hE 75 dX0_gives_73 rfl rfl ?_
        refine A_bipush hE 77 dX0_gives_75 rfl (-33) (by decide) ?_
        refine A_icmp_ne hE 80 115 dX0_gives_77 rfl rfl (fun c77 => absurd rfl c77) (fun c77 => ?_)
        refine A_iload hE 82 dX0_gives_80 rfl rfl ?_
        refine A_iconst hE 83 dX0_gives_82 rfl (1) rfl ?_
        refine A_icmp_lt hE 86 115 dX0_gives_83 rfl rfl (fun c83 => absurd c83 (nI_nlt (b := 1) (by simp) (by simp at hs ⊢; omega))) (fun c83 => ?_)
        refine A_aload_n hE 87 dX0_gives_86 rfl rfl ?_
        refine A_get hE 90 dX0_gives_87 rfl fkX0_20 rfl rfl ?_
        refine A_iload hE 92 dX0_gives_90 rfl rfl ?_
        refine A_iconst hE 93 dX0_gives_92 rfl (1) rfl ?_
        refine A_isub hE 94 dX0_gives_93 rfl ?_
        refine A_aload_n hE 95 dX0_gives_94 rfl rfl ?_
        refine A_get hE 98 dX0_gives_95 rfl fkX0_20 rfl rfl ?_
        refine A_iload hE 100 dX0_gives_98 rfl rfl ?_
        refine A_iconst hE 101 dX0_gives_100 rfl (1) rfl ?_
        refine A_isub hE 102 dX0_gives_101 rfl ?_
        refine A_iald hE 103 r.length dX0_gives_102 rfl rfl (nI_pred _) (by simp at hs; omega) rfl ?_
        rw [hH.top]
        refine A_if_ne hE 106 110 dX0_gives_103 rfl rfl (fun c103 => ?_) (fun c103 => ?_)
        · refine A_iconst hE 111 dX0_gives_110 rfl (0) rfl ?_
          refine A_iast hE 112 r.length dX0_gives_111 rfl rfl (nI_pred _) (by simp at hs; omega) rfl rfl ?_
          refine A_goto hE 155 dX0_gives_112 rfl ?_
          refine A_iinc hE 158 dX0_gives_155 rfl rfl (1) rfl rfl rfl ?_
          rw [nI_1]
          refine A_lv [0, 1, 2, 3, 4, 5] rfl ?_
          refine A_goto hE 13 dX0_gives_158 rfl ?_
          exact ih (i + 1) (0 :: r) _ (by omega) hgn hokn hd (by simp at hs ⊢; omega) (hpop.push _) (by rw [hr, if_neg c103])
        · refine A_iconst hE 107 dX0_gives_106 rfl (1) rfl ?_
          refine A_goto hE 111 dX0_gives_107 rfl ?_
          refine A_iast hE 112 r.length dX0_gives_111 rfl rfl (nI_pred _) (by simp at hs; omega) rfl rfl ?_
          refine A_goto hE 155 dX0_gives_112 rfl ?_
          refine A_iinc hE 158 dX0_gives_155 rfl rfl (1) rfl rfl rfl ?_
          rw [nI_1]
          refine A_lv [0, 1, 2, 3, 4, 5] rfl ?_
          refine A_goto hE 13 dX0_gives_158 rfl ?_
          exact ih (i + 1) (1 :: r) _ (by omega) hgn hokn hd (by simp at hs ⊢; omega) (hpop.push _) (by rw [hr, if_pos c103])
      · subst hw
        have hgi : g i = -v := hgi
        obtain ⟨o1, o2, o3⟩ := opC_neg hv
        have hd : (if 2 ≤ stk.length then dpt rs (stk.length - 1) else none) = some 1 := hd
        have h1 : 2 ≤ stk.length := by by_cases z : 2 ≤ stk.length <;> simp_all
        rw [if_pos h1] at hd
        obtain ⟨y, x, r, rfl⟩ : ∃ y x r, stk = y :: x :: r := by
          cases stk with
          | nil => simp at h1
          | cons y t => cases t with
            | nil => simp at h1
            | cons x r => exact ⟨y, x, r, rfl⟩
        have hr : rawV u ss a b c = (evL (nmF u a b c) rs (jn v x y :: r)).headD 0 := hr
        have hpop := hH.pop
        have hpop2 := hpop.pop
        refine A_iload hE 15 dX0_gives_13 rfl rfl ?_
        refine A_aload_n hE 16 dX0_gives_15 rfl rfl ?_
        refine A_get hE 19 dX0_gives_16 rfl fkX0_14 rfl rfl ?_
        refine A_get hE 22 dX0_gives_19 rfl fkX0_32 rfl rfl ?_
        refine A_icmp_ge hE 25 161 dX0_gives_22 rfl rfl (fun c22 => absurd c22 (nI_ge hil (by omega))) (fun c22 => ?_)
        refine A_aload_n hE 26 dX0_gives_25 rfl rfl ?_
        refine A_get hE 29 dX0_gives_26 rfl fkX0_14 rfl rfl ?_
        refine A_get hE 32 dX0_gives_29 rfl fkX0_35 rfl rfl ?_
        refine A_iload hE 34 dX0_gives_32 rfl rfl ?_
        refine A_iald hE 35 i dX0_gives_34 rfl rfl rfl (by omega) rfl ?_
        rw [hgi]
        refine A_istore hE 37 dX0_gives_35 rfl rfl rfl ?_
        refine A_iload hE 39 dX0_gives_37 rfl rfl ?_
        refine A_if_lt hE 42 73 dX0_gives_39 rfl rfl (fun c39 => ?_) (fun c39 => absurd o1 c39)
        refine A_iload hE 75 dX0_gives_73 rfl rfl ?_
        refine A_bipush hE 77 dX0_gives_75 rfl (-33) (by decide) ?_
        refine A_icmp_ne hE 80 115 dX0_gives_77 rfl rfl (fun c77 => ?_) (fun c77 => absurd c77 o2)
        refine A_iload hE 117 dX0_gives_115 rfl rfl ?_
        refine A_iconst hE 118 dX0_gives_117 rfl (2) rfl ?_
        refine A_icmp_lt hE 121 155 dX0_gives_118 rfl rfl (fun c118 => absurd c118 (nI_nlt (b := 2) (by simp) (by simp at hs ⊢; omega))) (fun c118 => ?_)
        refine A_iinc hE 124 dX0_gives_121 rfl rfl (-1) rfl rfl rfl ?_
        rw [show nI (y :: x :: r).length + (-1) = nI (r.length + 1) from nI_m1 (r.length + 1)]
        refine A_aload_n hE 125 dX0_gives_124 rfl rfl ?_
        refine A_get hE 128 dX0_gives_125 rfl fkX0_20 rfl rfl ?_
        refine A_iload hE 130 dX0_gives_128 rfl rfl ?_
        refine A_iconst hE 131 dX0_gives_130 rfl (1) rfl ?_
        refine A_isub hE 132 dX0_gives_131 rfl ?_
        refine A_iload hE 134 dX0_gives_132 rfl rfl ?_
        refine A_ineg hE 135 dX0_gives_134 rfl ?_
        rw [o3]
        refine A_aload_n hE 136 dX0_gives_135 rfl rfl ?_
        refine A_get hE 139 dX0_gives_136 rfl fkX0_20 rfl rfl ?_
        refine A_iload hE 141 dX0_gives_139 rfl rfl ?_
        refine A_iconst hE 142 dX0_gives_141 rfl (1) rfl ?_
        refine A_isub hE 143 dX0_gives_142 rfl ?_
        refine A_iald hE 144 r.length dX0_gives_143 rfl rfl (nI_pred _) (by simp at hs; omega) rfl ?_
        rw [hpop.top]
        refine A_aload_n hE 145 dX0_gives_144 rfl rfl ?_
        refine A_get hE 148 dX0_gives_145 rfl fkX0_20 rfl rfl ?_
        refine A_iload hE 150 dX0_gives_148 rfl rfl ?_
        refine A_iald hE 151 (r.length + 1) dX0_gives_150 rfl rfl rfl (by simp at hs; omega) rfl ?_
        rw [show hold (r.length + 1) = y from hH.top]
        refine A_callSi hE 154 (c_X0_combine v x y hv) [] dX0_gives_151 rfl mkX0_42 rfl rfl rfl rfl rfl rfl (Nat.le_of_ble_eq_true rfl) (Nat.le_of_ble_eq_true rfl) rfl (fun x151 h151 g151 hp151 hw151 => ?_)
        obtain ⟨rfl, rfl⟩ := hp151
        obtain rfl := Option.some.inj hw151
        refine A_iast hE 155 r.length dX0_gives_154 rfl rfl (nI_pred _) (by simp at hs; omega) rfl rfl ?_
        refine A_iinc hE 158 dX0_gives_155 rfl rfl (1) rfl rfl rfl ?_
        rw [nI_1]
        refine A_lv [0, 1, 2, 3, 4, 5] rfl ?_
        refine A_goto hE 13 dX0_gives_158 rfl ?_
        exact ih (i + 1) (jn v x y :: r) _ (by omega) hgn hokn hd (by simp at hs ⊢; omega) (hpop2.push _) hr
  refine A_lv [0, 1, 2, 3] rfl ?_
  refine A_aload_n hE 1 dX0_gives_0 rfl rfl ?_
  refine A_get hE 4 dX0_gives_1 rfl fkX0_20 rfl rfl ?_
  refine A_iconst hE 5 dX0_gives_4 rfl (0) rfl ?_
  refine A_iload_n hE 6 dX0_gives_5 rfl rfl ?_
  refine A_iast hE 7 0 dX0_gives_6 rfl rfl rfl (by omega) rfl rfl ?_
  refine A_iconst hE 8 dX0_gives_7 rfl (0) rfl ?_
  refine A_istore hE 10 dX0_gives_8 rfl rfl rfl ?_
  refine A_iconst hE 11 dX0_gives_10 rfl (0) rfl ?_
  refine A_istore hE 13 dX0_gives_11 rfl rfl rfl ?_
  refine A_lv [0, 1, 2, 3, 4, 5] rfl ?_
  by_cases hss : ss = []
  · subst hss
    refine A_iload hE 15 dX0_gives_13 rfl rfl ?_
    refine A_aload_n hE 16 dX0_gives_15 rfl rfl ?_
    refine A_get hE 19 dX0_gives_16 rfl fkX0_14 rfl rfl ?_
    refine A_get hE 22 dX0_gives_19 rfl fkX0_32 rfl rfl ?_
    refine A_icmp_ge hE 25 161 dX0_gives_22 rfl rfl (fun c22 => ?_) (fun c22 => absurd (by decide) c22)
    refine A_lv [0] rfl ?_
    exact fin _ upd_s
  · exact loop ss 0 [] _ (Nat.zero_add _) (fun j hj => by rw [Nat.zero_add]; exact hgS j hj) hokS (hdp.resolve_left hss) (Nat.le_refl _) (fun j hj => by simp at hj) (by cases ss with | nil => exact absurd rfl hss | cons q rs => rfl)
