theorem biF {b : Bool} (h : bI b = 0) : b = false := by
  cases b with
  | false => rfl
  | true => exact absurd h (by decide)
theorem biT {b : Bool} (h : ¬ bI b = 0) : b = true := by
  cases b with
  | false => exact absurd rfl h
  | true => rfl
theorem fT {b : Bool} (h : b = false) : ¬ b = true := by rw [h]; decide
theorem on_nm {q : Nat → Int32} {n u a : Nat} {ss : Sp} (k : Nat) (h : isN u (lk q n a) = true) : onP q n u k a ss = (a + 1, some (ss ++ [(1, lk q n a)])) := by
  cases k with
  | zero => exact if_pos h
  | succ k => exact if_pos h
theorem on_dg {q : Nat → Int32} {n u a : Nat} {ss : Sp} (k : Nat) (h : isN u (lk q n a) = false) (h2 : isD (lk q n a) = true) : onP q n u k a ss = ((nuV q n 4 a 0).2, some (ss ++ [(0, (nuV q n 4 a 0).1)])) := by
  cases k with
  | zero => exact (if_neg (fT h)).trans (if_pos h2)
  | succ k => exact (if_neg (fT h)).trans (if_pos h2)
theorem on_0 {q : Nat → Int32} {n u a : Nat} {ss : Sp} (h : isN u (lk q n a) = false) (h2 : isD (lk q n a) = false) : onP q n u 0 a ss = (a, none) := (if_neg (fT h)).trans (if_neg (fT h2))
theorem on_bg {q : Nat → Int32} {n u a : Nat} {ss : Sp} (k : Nat) (h : isN u (lk q n a) = false) (h2 : isD (lk q n a) = false) (h3 : lk q n a = 33) : onP q n u (k + 1) a ss = bnd (onP q n u k (a + 1) ss) (fun b s2 => (b, some (s2 ++ [(2, 0)]))) := (if_neg (fT h)).trans ((if_neg (fT h2)).trans (if_pos h3))
theorem on_pr {q : Nat → Int32} {n u a : Nat} {ss : Sp} (k : Nat) (h : isN u (lk q n a) = false) (h2 : isD (lk q n a) = false) (h3 : ¬ lk q n a = 33) (h4 : lk q n a = 40) : onP q n u (k + 1) a ss = bnd (whP q n (onP q n u k) (a + 1) ss) (fun b s2 => if lk q n b = 41 then (b + 1, some s2) else (b, none)) := (if_neg (fT h)).trans ((if_neg (fT h2)).trans ((if_neg h3).trans (if_pos h4)))
theorem on_ot {q : Nat → Int32} {n u a : Nat} {ss : Sp} (k : Nat) (h : isN u (lk q n a) = false) (h2 : isD (lk q n a) = false) (h3 : ¬ lk q n a = 33) (h4 : ¬ lk q n a = 40) : onP q n u k a ss = (a, none) := by
  cases k with
  | zero => exact on_0 h h2
  | succ k => exact (if_neg (fT h)).trans ((if_neg (fT h2)).trans ((if_neg h3).trans (if_neg h4)))
def cpS (s : St) (u : Nat) (L : Int32) (st : Nat → Int32) (j : Nat) : St := fun z => if 50 + 125 * u ≤ z ∧ z < 50 + 125 * u + j then st (z - (50 + 125 * u)) else if z = 49 + 125 * u then L else s z
theorem cp_0 {s : St} {u : Nat} {L : Int32} {st : Nat → Int32} : upd s (49 + 125 * u) L = cpS s u L st 0 := by
  funext z
  unfold cpS
  rw [if_neg (by omega)]
  by_cases h : z = 49 + 125 * u
  · rw [h, upd_s, if_pos rfl]
  · rw [upd_n h, if_neg h]
theorem cp_step {s : St} {u : Nat} {L : Int32} {st : Nat → Int32} {j : Nat} : upd (cpS s u L st j) (50 + 125 * u + j) (st j) = cpS s u L st (j + 1) := by
  funext z
  by_cases h : z = 50 + 125 * u + j
  · rw [h, upd_s, cpS, if_pos (by omega), show 50 + 125 * u + j - (50 + 125 * u) = j by omega]
  · rw [upd_n h]
    unfold cpS
    by_cases h2 : 50 + 125 * u ≤ z ∧ z < 50 + 125 * u + j
    · rw [if_pos h2, if_pos (by omega)]
    · rw [if_neg h2, if_neg (show ¬ (50 + 125 * u ≤ z ∧ z < 50 + 125 * u + (j + 1)) by omega)]
theorem cp_text {s : St} {u : Nat} {st : Nat → Int32} {ss : Sp} (hok : okT u ss) (hst : StepR st ss) : MText (cpS s u (nI ss.length) st (2 * ss.length)) u ss := by
  refine ⟨hok, ?_, fun i hi => ?_⟩
  · unfold cpS
    rw [if_neg (by omega), if_pos rfl]
  · obtain ⟨h1, h2⟩ := hst i hi
    unfold cpS
    rw [if_pos (by omega), if_pos (by omega), show 50 + 125 * u + 2 * i - (50 + 125 * u) = 2 * i by omega, show 51 + 125 * u + 2 * i - (50 + 125 * u) = 2 * i + 1 by omega]
    exact ⟨h1, h2⟩
theorem cp_else {s : St} {u : Nat} {L : Int32} {st : Nat → Int32} {j z : Nat} (hj : j ≤ 124) (hz : z < 49 + 125 * u ∨ 174 + 125 * u ≤ z) : cpS s u L st j z = s z := by
  unfold cpS
  rw [if_neg (by omega), if_neg (by omega)]
/-- what text does: its answer, the state behind it -/
def TxR (s : St) (n u : Nat) (x : Int32) (s' : St) : Prop := (∃ s2, txP (tq s) n u = (n, some s2) ∧ x = 1 ∧ MText s' u s2 ∧ ∀ z, z < 49 + 125 * u ∨ 174 + 125 * u ≤ z → s' z = upd s 6 0 z) ∨ (∃ b, (txP (tq s) n u = (b, none) ∨ (¬ b = n ∧ ∃ s2, txP (tq s) n u = (b, some s2))) ∧ x = -10 - nI b ∧ s' = upd s 6 0)

set_option maxRecDepth 100000 in
theorem c_one_of (s K be er na pi tr bi sz nu as' : Nat → Int32) (im tn sk ip : Int32) (n u o : Nat) (hn : s 6 = nI n) (h60 : n ≤ 60) (hu : u < 2) (k : Nat) (hok : o + k = 5) (hr1 : ∀ j, k = j + 1 → ∀ (st : Nat → Int32) (a : Nat) (ss : Sp), a ≤ n → ss.length ≤ a → StepR st ss → AMet yX9_one cX9_one 4 (some (.boolean)) (dq j) 0 0 [.ref 0] (MW s K be er st na pi tr bi sz nu as' im (nI a) (nI (o + 1)) (nI ss.length) (nI u) tn sk ip) (pI (PstR s K be er na pi tr bi sz nu as' im (nI u) tn sk ip (nI (o + 1)) (onP (tq s) n u j a ss)))) (hr2 : ∀ j, k = j + 1 → ∀ (st : Nat → Int32) (a : Nat) (ss : Sp), a ≤ n → ss.length ≤ a → StepR st ss → AMet yX9_whole cX9_whole 1 (some (.boolean)) (dq j + 1 + 1 + 1 + 1 + 1) 0 0 [.ref 0] (MW s K be er st na pi tr bi sz nu as' im (nI a) (nI (o + 1)) (nI ss.length) (nI u) tn sk ip) (pI (PstR s K be er na pi tr bi sz nu as' im (nI u) tn sk ip (nI (o + 1)) (whP (tq s) n (onP (tq s) n u j) a ss)))) (st : Nat → Int32) (a : Nat) (ss : Sp) (ha : a ≤ n) (hss : ss.length ≤ a) (hst : StepR st ss) : AMet yX9_one cX9_one 4 (some (.boolean)) (dq k) 0 0 [.ref 0] (MW s K be er st na pi tr bi sz nu as' im (nI a) (nI o) (nI ss.length) (nI u) tn sk ip) (pI (PstR s K be er na pi tr bi sz nu as' im (nI u) tn sk ip (nI o) (onP (tq s) n u k a ss))) := by
  refine AMet.of (by decide +kernel) rfl (fun E ad0 hE => ?_)
  have hdq := dq_pos k
  refine A_aload_n hE 1 dX9_one_0 rfl rfl ?_
  refine A_callVi hE 4 (c_X9_look s K be er st na pi tr bi sz nu as' im (nI a) (nI o) (nI ss.length) (nI u) tn sk ip n a hn h60 (by omega)) [0, 1, 2, 3, 4, 5, 6, 7, 8, 9, 10, 11, 12] dX9_one_1 rfl mkX9_71 rfl rfl rfl rfl rfl (frN hdq) (loB (by show _ ≤ 32 * (dq k) + 20; omega)) (Nat.le_of_ble_eq_true rfl) (Nat.le_of_ble_eq_true rfl) rfl (fun x1 h1 g1 hp1 hw1 => ?_)
  obtain ⟨rfl, rfl⟩ := hp1
  obtain rfl := Option.some.inj hw1
  refine A_h (MW s K be er st na pi tr bi sz nu as' im (nI a) (nI o) (nI ss.length) (nI u) tn sk ip) rfl ?_
  refine A_istore_n hE 5 dX9_one_4 rfl rfl rfl ?_
  refine A_aload_n hE 6 dX9_one_5 rfl rfl ?_
  refine A_iload_n hE 7 dX9_one_6 rfl rfl ?_
  refine A_callVi hE 10 (c_X9_isName s K be er st na pi tr bi sz nu as' im (nI a) (nI o) (nI ss.length) (nI u) tn sk ip u hu (lk (tq s) n a)) [0, 1, 2, 3, 4, 5, 6, 7, 8, 9, 10, 11, 12] dX9_one_7 rfl mkX9_94 rfl rfl rfl rfl rfl (frN hdq) (loB (by show _ ≤ 32 * (dq k) + 20; omega)) (Nat.le_of_ble_eq_true rfl) (Nat.le_of_ble_eq_true rfl) rfl (fun x7 h7 g7 hp7 hw7 => ?_)
  obtain ⟨rfl, rfl⟩ := hp7
  obtain rfl := Option.some.inj hw7
  refine A_h (MW s K be er st na pi tr bi sz nu as' im (nI a) (nI o) (nI ss.length) (nI u) tn sk ip) rfl ?_
  refine A_if_eq hE 13 31 dX9_one_10 rfl rfl (fun c10 => ?_) (fun c10 => ?_)
  · have hN := biF c10
    refine A_iload_n hE 32 dX9_one_31 rfl rfl ?_
    refine A_bipush hE 34 dX9_one_32 rfl (48) (by decide) ?_
    refine A_bipush hE 36 dX9_one_34 rfl (57) (by decide) ?_
    refine A_callSi hE 39 (c_X9_in (lk (tq s) n a) 48 57) [] dX9_one_36 rfl mkX9_47 rfl rfl rfl rfl (frN hdq) (loB (by show _ ≤ 32 * (dq k) + 20; omega)) (Nat.le_of_ble_eq_true rfl) (Nat.le_of_ble_eq_true rfl) rfl (fun x36 h36 g36 hp36 hw36 => ?_)
    obtain ⟨rfl, rfl⟩ := hp36
    obtain rfl := Option.some.inj hw36
    refine A_if_eq hE 42 102 dX9_one_39 rfl rfl (fun c39 => ?_) (fun c39 => ?_)
    · have hD : isD (lk (tq s) n a) = false := biF c39
      refine A_iload_n hE 103 dX9_one_102 rfl rfl ?_
      refine A_bipush hE 105 dX9_one_103 rfl (33) (by decide) ?_
      refine A_icmp_ne hE 108 142 dX9_one_105 rfl rfl (fun c105 => ?_) (fun c105 => ?_)
      · refine A_iload_n hE 143 dX9_one_142 rfl rfl ?_
        refine A_bipush hE 145 dX9_one_143 rfl (40) (by decide) ?_
        refine A_icmp_ne hE 148 171 dX9_one_145 rfl rfl (fun c145 => ?_) (fun c145 => ?_)
        · refine A_iconst hE 172 dX9_one_171 rfl (0) rfl ?_
          refine A_zret hE dX9_one_172 (by first | exact Or.inl rfl | exact Or.inr rfl) ?_
          exact Or.inr ⟨a, st, _, _, on_ot k hN hD c105 c145, rfl, rfl⟩
        · have hlt : a < n := lk_lt (fun z => by rw [z] at c145; exact absurd c145 (by decide))
          rcases k with _ | j
          · refine A_aload_n hE 149 dX9_one_148 rfl rfl ?_
            refine A_callVi hE 152 (c_opens_no s K be er st na pi tr bi sz nu as' im (nI a) (nI o) (nI ss.length) (nI u) tn sk ip (by rw [show o = 5 by omega]; rfl)) [0, 1, 2, 3, 4, 5, 6, 7, 8, 9, 10, 11, 12] dX9_one_149 rfl mkX9_98 rfl rfl rfl rfl rfl (frN hdq) (loB (by show _ ≤ 32 * (dq 0) + 20; omega)) (Nat.le_of_ble_eq_true rfl) (Nat.le_of_ble_eq_true rfl) rfl (fun x149 h149 g149 hp149 hw149 => ?_)
            obtain ⟨rfl, rfl⟩ := hp149
            obtain rfl := Option.some.inj hw149
            refine A_h (MW s K be er st na pi tr bi sz nu as' im (nI a) (nI o) (nI ss.length) (nI u) tn sk ip) rfl ?_
            refine A_if_eq hE 155 171 dX9_one_152 rfl rfl (fun c152 => ?_) (fun c152 => absurd rfl c152)
            refine A_iconst hE 172 dX9_one_171 rfl (0) rfl ?_
            refine A_zret hE dX9_one_172 (by first | exact Or.inl rfl | exact Or.inr rfl) ?_
            exact Or.inr ⟨a, st, _, _, on_0 hN hD, rfl, rfl⟩
          · refine A_aload_n hE 149 dX9_one_148 rfl rfl ?_
            refine A_callVi hE 152 (c_opens_yes s K be er st na pi tr bi sz nu as' im (nI a) (nI o) (nI ss.length) (nI u) tn sk ip o a (by omega)) [0, 1, 2, 3, 4, 5, 6, 7, 8, 9, 10, 11, 12] dX9_one_149 rfl mkX9_98 rfl rfl rfl rfl rfl (frN hdq) (loB (by show _ ≤ 32 * (dq (j + 1)) + 20; omega)) (Nat.le_of_ble_eq_true rfl) (Nat.le_of_ble_eq_true rfl) rfl (fun x149 h149 g149 hp149 hw149 => ?_)
            obtain ⟨rfl, rfl⟩ := hp149
            obtain rfl := Option.some.inj hw149
            refine A_h (MW s K be er st na pi tr bi sz nu as' im (nI (a + 1)) (nI (o + 1)) (nI ss.length) (nI u) tn sk ip) rfl ?_
            refine A_if_eq hE 155 171 dX9_one_152 rfl rfl (fun c152 => absurd c152 (by decide)) (fun c152 => ?_)
            refine A_aload_n hE 156 dX9_one_155 rfl rfl ?_
            refine A_callVi hE 159 (hr2 j rfl st (a + 1) ss hlt (by omega) hst) [0, 1, 2, 3, 4, 5, 6, 7, 8, 9, 10, 11, 12] dX9_one_156 rfl mkX9_101 rfl rfl rfl rfl rfl (frN (show dq j + 1 + 1 + 1 + 1 + 1 < dq (j + 1) by simp only [dq]; omega)) (loB (by show _ ≤ 32 * (dq (j + 1)) + 20; simp only [dq]; omega)) (Nat.le_of_ble_eq_true rfl) (Nat.le_of_ble_eq_true rfl) rfl (fun x156 h156 g156 hp156 hw156 => ?_)
            rcases hp156 with ⟨b, s2, st2, e156, hs156, rfl, rfl⟩ | ⟨b3, st3, op3, sp3, e156, rfl, rfl⟩
            · obtain rfl := Option.some.inj hw156
              refine A_h (MW s K be er st2 na pi tr bi sz nu as' im (nI b) (nI (o + 1)) (nI s2.length) (nI u) tn sk ip) rfl ?_
              obtain ⟨g1, g2, g3⟩ := (wh_go (on_go j)).2.2.2.2.get hlt e156
              refine A_if_eq hE 162 171 dX9_one_159 rfl rfl (fun c159 => absurd c159 (by decide)) (fun c159 => ?_)
              refine A_aload_n hE 163 dX9_one_162 rfl rfl ?_
              refine A_callVi hE 166 (c_X9_look s K be er st2 na pi tr bi sz nu as' im (nI b) (nI (o + 1)) (nI s2.length) (nI u) tn sk ip n b hn h60 (by omega)) [0, 1, 2, 3, 4, 5, 6, 7, 8, 9, 10, 11, 12] dX9_one_163 rfl mkX9_71 rfl rfl rfl rfl rfl (frN hdq) (loB (by show _ ≤ 32 * (dq (j + 1)) + 20; omega)) (Nat.le_of_ble_eq_true rfl) (Nat.le_of_ble_eq_true rfl) rfl (fun x163 h163 g163 hp163 hw163 => ?_)
              obtain ⟨rfl, rfl⟩ := hp163
              obtain rfl := Option.some.inj hw163
              refine A_h (MW s K be er st2 na pi tr bi sz nu as' im (nI b) (nI (o + 1)) (nI s2.length) (nI u) tn sk ip) rfl ?_
              refine A_bipush hE 168 dX9_one_166 rfl (41) (by decide) ?_
              refine A_icmp_eq hE 171 173 dX9_one_168 rfl rfl (fun c168 => ?_) (fun c168 => ?_)
              · refine A_aload_n hE 174 dX9_one_173 rfl rfl ?_
                refine A_dup hE 175 dX9_one_174 rfl rfl ?_
                refine A_get hE 178 dX9_one_175 rfl fkX9_57 rfl rfl ?_
                refine A_iconst hE 179 dX9_one_178 rfl (1) rfl ?_
                refine A_iadd hE 180 dX9_one_179 rfl ?_
                rw [nI_1]
                refine A_put hE 183 dX9_one_180 rfl fkX9_57 rfl rfl rfl rfl ?_
                refine A_aload_n hE 184 dX9_one_183 rfl rfl ?_
                refine A_dup hE 185 dX9_one_184 rfl rfl ?_
                refine A_get hE 188 dX9_one_185 rfl fkX9_91 rfl rfl ?_
                refine A_iconst hE 189 dX9_one_188 rfl (1) rfl ?_
                refine A_isub hE 190 dX9_one_189 rfl ?_
                rw [nI_pred]
                refine A_put hE 193 dX9_one_190 rfl fkX9_91 rfl rfl rfl rfl ?_
                refine A_iconst hE 194 dX9_one_193 rfl (1) rfl ?_
                refine A_zret hE dX9_one_194 (by first | exact Or.inl rfl | exact Or.inr rfl) ?_
                exact Or.inl ⟨b + 1, s2, st2, by rw [on_pr j hN hD c105 c145, e156]; show (if lk (tq s) n b = 41 then _ else _) = _; rw [if_pos c168], hs156, rfl, rfl⟩
              · refine A_iconst hE 172 dX9_one_171 rfl (0) rfl ?_
                refine A_zret hE dX9_one_172 (by first | exact Or.inl rfl | exact Or.inr rfl) ?_
                exact Or.inr ⟨b, st2, _, _, by rw [on_pr j hN hD c105 c145, e156]; show (if lk (tq s) n b = 41 then _ else _) = _; rw [if_neg c168], rfl, rfl⟩
            · obtain rfl := Option.some.inj hw156
              refine A_h (MW s K be er st3 na pi tr bi sz nu as' im (nI b3) op3 sp3 (nI u) tn sk ip) rfl ?_
              refine A_if_eq hE 162 171 dX9_one_159 rfl rfl (fun c159 => ?_) (fun c159 => absurd rfl c159)
              refine A_iconst hE 172 dX9_one_171 rfl (0) rfl ?_
              refine A_zret hE dX9_one_172 (by first | exact Or.inl rfl | exact Or.inr rfl) ?_
              exact Or.inr ⟨b3, st3, op3, sp3, by rw [on_pr j hN hD c105 c145, e156]; rfl, rfl, rfl⟩
      · have hlt : a < n := lk_lt (fun z => by rw [z] at c105; exact absurd c105 (by decide))
        rcases k with _ | j
        · refine A_aload_n hE 109 dX9_one_108 rfl rfl ?_
          refine A_callVi hE 112 (c_opens_no s K be er st na pi tr bi sz nu as' im (nI a) (nI o) (nI ss.length) (nI u) tn sk ip (by rw [show o = 5 by omega]; rfl)) [0, 1, 2, 3, 4, 5, 6, 7, 8, 9, 10, 11, 12] dX9_one_109 rfl mkX9_98 rfl rfl rfl rfl rfl (frN hdq) (loB (by show _ ≤ 32 * (dq 0) + 20; omega)) (Nat.le_of_ble_eq_true rfl) (Nat.le_of_ble_eq_true rfl) rfl (fun x109 h109 g109 hp109 hw109 => ?_)
          obtain ⟨rfl, rfl⟩ := hp109
          obtain rfl := Option.some.inj hw109
          refine A_h (MW s K be er st na pi tr bi sz nu as' im (nI a) (nI o) (nI ss.length) (nI u) tn sk ip) rfl ?_
          refine A_if_eq hE 115 122 dX9_one_112 rfl rfl (fun c112 => ?_) (fun c112 => absurd rfl c112)
          refine A_iconst hE 123 dX9_one_122 rfl (0) rfl ?_
          refine A_zret hE dX9_one_123 (by first | exact Or.inl rfl | exact Or.inr rfl) ?_
          exact Or.inr ⟨a, st, _, _, on_0 hN hD, rfl, rfl⟩
        · refine A_aload_n hE 109 dX9_one_108 rfl rfl ?_
          refine A_callVi hE 112 (c_opens_yes s K be er st na pi tr bi sz nu as' im (nI a) (nI o) (nI ss.length) (nI u) tn sk ip o a (by omega)) [0, 1, 2, 3, 4, 5, 6, 7, 8, 9, 10, 11, 12] dX9_one_109 rfl mkX9_98 rfl rfl rfl rfl rfl (frN hdq) (loB (by show _ ≤ 32 * (dq (j + 1)) + 20; omega)) (Nat.le_of_ble_eq_true rfl) (Nat.le_of_ble_eq_true rfl) rfl (fun x109 h109 g109 hp109 hw109 => ?_)
          obtain ⟨rfl, rfl⟩ := hp109
          obtain rfl := Option.some.inj hw109
          refine A_h (MW s K be er st na pi tr bi sz nu as' im (nI (a + 1)) (nI (o + 1)) (nI ss.length) (nI u) tn sk ip) rfl ?_
          refine A_if_eq hE 115 122 dX9_one_112 rfl rfl (fun c112 => absurd c112 (by decide)) (fun c112 => ?_)
          refine A_aload_n hE 116 dX9_one_115 rfl rfl ?_
          refine A_callVi hE 119 (hr1 j rfl st (a + 1) ss hlt (by omega) hst) [0, 1, 2, 3, 4, 5, 6, 7, 8, 9, 10, 11, 12] dX9_one_116 rfl mkX9_88 rfl rfl rfl rfl rfl (frN (show dq j < dq (j + 1) by simp only [dq]; omega)) (loB (by show _ ≤ 32 * (dq (j + 1)) + 20; simp only [dq]; omega)) (Nat.le_of_ble_eq_true rfl) (Nat.le_of_ble_eq_true rfl) rfl (fun x116 h116 g116 hp116 hw116 => ?_)
          rcases hp116 with ⟨b, s2, st2, e116, hs116, rfl, rfl⟩ | ⟨b3, st3, op3, sp3, e116, rfl, rfl⟩
          · obtain rfl := Option.some.inj hw116
            refine A_h (MW s K be er st2 na pi tr bi sz nu as' im (nI b) (nI (o + 1)) (nI s2.length) (nI u) tn sk ip) rfl ?_
            obtain ⟨g1, g2, g3⟩ := (on_go j).get hlt e116
            refine A_if_ne hE 122 124 dX9_one_119 rfl rfl (fun c119 => ?_) (fun c119 => absurd c119 (by decide))
            refine A_aload_n hE 125 dX9_one_124 rfl rfl ?_
            refine A_dup hE 126 dX9_one_125 rfl rfl ?_
            refine A_get hE 129 dX9_one_126 rfl fkX9_91 rfl rfl ?_
            refine A_iconst hE 130 dX9_one_129 rfl (1) rfl ?_
            refine A_isub hE 131 dX9_one_130 rfl ?_
            rw [nI_pred]
            refine A_put hE 134 dX9_one_131 rfl fkX9_91 rfl rfl rfl rfl ?_
            refine A_aload_n hE 135 dX9_one_134 rfl rfl ?_
            refine A_iconst hE 136 dX9_one_135 rfl (2) rfl ?_
            refine A_iconst hE 137 dX9_one_136 rfl (0) rfl ?_
            refine A_callVv hE 140 (c_X9_step1 s K be er st2 na pi tr bi sz nu as' im (nI b) (nI o) (nI s2.length) (nI u) tn sk ip 2 0 s2.length (by omega)) [0, 1, 2, 3, 4, 5, 6, 7, 8, 9, 10, 11, 12] dX9_one_137 rfl mkX9_75 rfl rfl rfl rfl rfl (frN hdq) (loB (by show _ ≤ 32 * (dq (j + 1)) + 20; omega)) (Nat.le_of_ble_eq_true rfl) (Nat.le_of_ble_eq_true rfl) rfl (fun h137 g137 hp137 hw137 => ?_)
            obtain rfl := hp137
            obtain rfl := Option.some.inj hw137
            refine A_h (MW s K be er (upd (upd st2 (2 * s2.length) 2) (2 * s2.length + 1) 0) na pi tr bi sz nu as' im (nI b) (nI o) (nI (s2 ++ [(2, 0)]).length) (nI u) tn sk ip) (by rw [len_push]; rfl) ?_
            refine A_iconst hE 141 dX9_one_140 rfl (1) rfl ?_
            refine A_zret hE dX9_one_141 (by first | exact Or.inl rfl | exact Or.inr rfl) ?_
            exact Or.inl ⟨b, s2 ++ [(2, 0)], _, by rw [on_bg j hN hD c105, e116]; rfl, hs116.push 2 0, rfl, rfl⟩
          · obtain rfl := Option.some.inj hw116
            refine A_h (MW s K be er st3 na pi tr bi sz nu as' im (nI b3) op3 sp3 (nI u) tn sk ip) rfl ?_
            refine A_if_ne hE 122 124 dX9_one_119 rfl rfl (fun c119 => absurd rfl c119) (fun c119 => ?_)
            refine A_iconst hE 123 dX9_one_122 rfl (0) rfl ?_
            refine A_zret hE dX9_one_123 (by first | exact Or.inl rfl | exact Or.inr rfl) ?_
            exact Or.inr ⟨b3, st3, op3, sp3, by rw [on_bg j hN hD c105, e116]; rfl, rfl, rfl⟩
    · have hD : isD (lk (tq s) n a) = true := biT c39
      refine A_iconst hE 43 dX9_one_42 rfl (0) rfl ?_
      refine A_istore_n hE 44 dX9_one_43 rfl rfl rfl ?_
      refine A_iconst hE 45 dX9_one_44 rfl (0) rfl ?_
      refine A_istore_n hE 46 dX9_one_45 rfl rfl rfl ?_
      refine A_lv [0, 2, 3] rfl ?_
      have fin : ∀ (b : Nat) (v : Int32) (x : Int32), nuV (tq s) n 4 a 0 = (v, b) → AW E (rmD (dq k) 0 0) 4 (QM E ad0 13 0 0 (pI (PstR s K be er na pi tr bi sz nu as' im (nI u) tn sk ip (nI o) (onP (tq s) n u k a ss)))) ad0 13 0 0 94 [(0, .ref 0), (2, .int v), (3, .int x)] [] (MW s K be er st na pi tr bi sz nu as' im (nI b) (nI o) (nI ss.length) (nI u) tn sk ip) := by
        intro b v x hx
        refine A_aload_n hE 95 dX9_one_94 rfl rfl ?_
        refine A_iconst hE 96 dX9_one_95 rfl (0) rfl ?_
        refine A_iload_n hE 97 dX9_one_96 rfl rfl ?_
        refine A_callVv hE 100 (c_X9_step1 s K be er st na pi tr bi sz nu as' im (nI b) (nI o) (nI ss.length) (nI u) tn sk ip 0 v ss.length (by omega)) [0, 1, 2, 3, 4, 5, 6, 7, 8, 9, 10, 11, 12] dX9_one_97 rfl mkX9_75 rfl rfl rfl rfl rfl (frN hdq) (loB (by show _ ≤ 32 * (dq k) + 20; omega)) (Nat.le_of_ble_eq_true rfl) (Nat.le_of_ble_eq_true rfl) rfl (fun h97 g97 hp97 hw97 => ?_)
        obtain rfl := hp97
        obtain rfl := Option.some.inj hw97
        refine A_h (MW s K be er (upd (upd st (2 * ss.length) 0) (2 * ss.length + 1) v) na pi tr bi sz nu as' im (nI b) (nI o) (nI (ss ++ [(0, v)]).length) (nI u) tn sk ip) (by rw [len_push]; rfl) ?_
        refine A_iconst hE 101 dX9_one_100 rfl (1) rfl ?_
        refine A_zret hE dX9_one_101 (by first | exact Or.inl rfl | exact Or.inr rfl) ?_
        exact Or.inl ⟨b, ss ++ [(0, v)], _, by rw [on_dg k hN hD, hx], hst.push 0 v, rfl, rfl⟩
      have loop : ∀ (m i b : Nat) (v : Int32), i + m = 4 → b ≤ n → nuV (tq s) n 4 a 0 = nuV (tq s) n m b v → AW E (rmD (dq k) 0 0) 4 (QM E ad0 13 0 0 (pI (PstR s K be er na pi tr bi sz nu as' im (nI u) tn sk ip (nI o) (onP (tq s) n u k a ss)))) ad0 13 0 0 46 [(0, .ref 0), (2, .int v), (3, .int (nI i))] [] (MW s K be er st na pi tr bi sz nu as' im (nI b) (nI o) (nI ss.length) (nI u) tn sk ip) := by
        intro m
        induction m with
        | zero =>
          intro i b v hi hb hx
          obtain rfl : i = 4 := by omega
          refine A_iload_n hE 47 dX9_one_46 rfl rfl ?_
          refine A_iconst hE 48 dX9_one_47 rfl (4) rfl ?_
          refine A_icmp_ge hE 51 94 dX9_one_48 rfl rfl (fun c48 => ?_) (fun c48 => absurd (by decide) c48)
          exact fin b v _ hx
        | succ m ih =>
          intro i b v hi hb hx
          refine A_iload_n hE 47 dX9_one_46 rfl rfl ?_
          refine A_iconst hE 48 dX9_one_47 rfl (4) rfl ?_
          refine A_icmp_ge hE 51 94 dX9_one_48 rfl rfl (fun c48 => absurd c48 (nI_ge (b := 4) (by omega) (by omega))) (fun c48 => ?_)
          refine A_aload_n hE 52 dX9_one_51 rfl rfl ?_
          refine A_callVi hE 55 (c_X9_look s K be er st na pi tr bi sz nu as' im (nI b) (nI o) (nI ss.length) (nI u) tn sk ip n b hn h60 (by omega)) [0, 1, 2, 3, 4, 5, 6, 7, 8, 9, 10, 11, 12] dX9_one_52 rfl mkX9_71 rfl rfl rfl rfl rfl (frN hdq) (loB (by show _ ≤ 32 * (dq k) + 20; omega)) (Nat.le_of_ble_eq_true rfl) (Nat.le_of_ble_eq_true rfl) rfl (fun x52 h52 g52 hp52 hw52 => ?_)
          obtain ⟨rfl, rfl⟩ := hp52
          obtain rfl := Option.some.inj hw52
          refine A_h (MW s K be er st na pi tr bi sz nu as' im (nI b) (nI o) (nI ss.length) (nI u) tn sk ip) rfl ?_
          refine A_bipush hE 57 dX9_one_55 rfl (48) (by decide) ?_
          refine A_bipush hE 59 dX9_one_57 rfl (57) (by decide) ?_
          refine A_callSi hE 62 (c_X9_in (lk (tq s) n b) 48 57) [] dX9_one_59 rfl mkX9_47 rfl rfl rfl rfl (frN hdq) (loB (by show _ ≤ 32 * (dq k) + 20; omega)) (Nat.le_of_ble_eq_true rfl) (Nat.le_of_ble_eq_true rfl) rfl (fun x59 h59 g59 hp59 hw59 => ?_)
          obtain ⟨rfl, rfl⟩ := hp59
          obtain rfl := Option.some.inj hw59
          refine A_if_eq hE 65 94 dX9_one_62 rfl rfl (fun c62 => ?_) (fun c62 => ?_)
          · have hd : isD (lk (tq s) n b) = false := biF c62
            exact fin b v _ (hx.trans (by rw [nuV, if_neg (fT hd)]))
          · have hd : isD (lk (tq s) n b) = true := biT c62
            have hlt : b < n := lk_lt (fun z => by rw [z] at hd; exact absurd hd (by decide))
            refine A_bipush hE 67 dX9_one_65 rfl (10) (by decide) ?_
            refine A_iload_n hE 68 dX9_one_67 rfl rfl ?_
            refine A_imul hE 69 dX9_one_68 rfl ?_
            refine A_aload_n hE 70 dX9_one_69 rfl rfl ?_
            refine A_callVi hE 73 (c_X9_look s K be er st na pi tr bi sz nu as' im (nI b) (nI o) (nI ss.length) (nI u) tn sk ip n b hn h60 (by omega)) [0, 1, 2, 3, 4, 5, 6, 7, 8, 9, 10, 11, 12] dX9_one_70 rfl mkX9_71 rfl rfl rfl rfl rfl (frN hdq) (loB (by show _ ≤ 32 * (dq k) + 20; omega)) (Nat.le_of_ble_eq_true rfl) (Nat.le_of_ble_eq_true rfl) rfl (fun x70 h70 g70 hp70 hw70 => ?_)
            obtain ⟨rfl, rfl⟩ := hp70
            obtain rfl := Option.some.inj hw70
            refine A_h (MW s K be er st na pi tr bi sz nu as' im (nI b) (nI o) (nI ss.length) (nI u) tn sk ip) rfl ?_
            refine A_iadd hE 74 dX9_one_73 rfl ?_
            refine A_bipush hE 76 dX9_one_74 rfl (48) (by decide) ?_
            refine A_isub hE 77 dX9_one_76 rfl ?_
            refine A_istore_n hE 78 dX9_one_77 rfl rfl rfl ?_
            refine A_aload_n hE 79 dX9_one_78 rfl rfl ?_
            refine A_dup hE 80 dX9_one_79 rfl rfl ?_
            refine A_get hE 83 dX9_one_80 rfl fkX9_57 rfl rfl ?_
            refine A_iconst hE 84 dX9_one_83 rfl (1) rfl ?_
            refine A_iadd hE 85 dX9_one_84 rfl ?_
            rw [nI_1]
            refine A_put hE 88 dX9_one_85 rfl fkX9_57 rfl rfl rfl rfl ?_
            refine A_iinc hE 91 dX9_one_88 rfl rfl (1) rfl rfl rfl ?_
            rw [nI_1]
            refine A_lv [0, 2, 3] rfl ?_
            refine A_goto hE 46 dX9_one_91 rfl ?_
            exact ih (i + 1) (b + 1) _ (by omega) hlt (hx.trans (by rw [nuV, if_pos hd]))
      refine A_lv [0, 2, 3] rfl ?_
      exact loop 4 0 a 0 rfl ha rfl
  · have hN := biT c10
    have hlt : a < n := lk_lt (fun z => by rw [z] at hN; have hv := of_decide_eq_true hN; revert hv; by_cases hu : u = 0 <;> simp [hu])
    refine A_aload_n hE 14 dX9_one_13 rfl rfl ?_
    refine A_dup hE 15 dX9_one_14 rfl rfl ?_
    refine A_get hE 18 dX9_one_15 rfl fkX9_57 rfl rfl ?_
    refine A_iconst hE 19 dX9_one_18 rfl (1) rfl ?_
    refine A_iadd hE 20 dX9_one_19 rfl ?_
    rw [nI_1]
    refine A_put hE 23 dX9_one_20 rfl fkX9_57 rfl rfl rfl rfl ?_
    refine A_aload_n hE 24 dX9_one_23 rfl rfl ?_
    refine A_iconst hE 25 dX9_one_24 rfl (1) rfl ?_
    refine A_iload_n hE 26 dX9_one_25 rfl rfl ?_
    refine A_callVv hE 29 (c_X9_step1 s K be er st na pi tr bi sz nu as' im (nI (a + 1)) (nI o) (nI ss.length) (nI u) tn sk ip 1 (lk (tq s) n a) ss.length (by omega)) [0, 1, 2, 3, 4, 5, 6, 7, 8, 9, 10, 11, 12] dX9_one_26 rfl mkX9_75 rfl rfl rfl rfl rfl (frN hdq) (loB (by show _ ≤ 32 * (dq k) + 20; omega)) (Nat.le_of_ble_eq_true rfl) (Nat.le_of_ble_eq_true rfl) rfl (fun h26 g26 hp26 hw26 => ?_)
    obtain rfl := hp26
    obtain rfl := Option.some.inj hw26
    refine A_h (MW s K be er (upd (upd st (2 * ss.length) 1) (2 * ss.length + 1) (lk (tq s) n a)) na pi tr bi sz nu as' im (nI (a + 1)) (nI o) (nI (ss ++ [(1, (lk (tq s) n a))]).length) (nI u) tn sk ip) (by rw [len_push]; rfl) ?_
    refine A_iconst hE 30 dX9_one_29 rfl (1) rfl ?_
    refine A_zret hE dX9_one_30 (by first | exact Or.inl rfl | exact Or.inr rfl) ?_
    exact Or.inl ⟨a + 1, ss ++ [(1, (lk (tq s) n a))], _, on_nm k hN, hst.push 1 (lk (tq s) n a), rfl, rfl⟩
theorem c_one (s K be er na pi tr bi sz nu as' : Nat → Int32) (im tn sk ip : Int32) (n u : Nat) (hn : s 6 = nI n) (h60 : n ≤ 60) (hu : u < 2) : ∀ (k o : Nat), o + k = 5 → ∀ (st : Nat → Int32) (a : Nat) (ss : Sp), a ≤ n → ss.length ≤ a → StepR st ss → AMet yX9_one cX9_one 4 (some (.boolean)) (dq k) 0 0 [.ref 0] (MW s K be er st na pi tr bi sz nu as' im (nI a) (nI o) (nI ss.length) (nI u) tn sk ip) (pI (PstR s K be er na pi tr bi sz nu as' im (nI u) tn sk ip (nI o) (onP (tq s) n u k a ss)))
  | 0, o, hok, st, a, ss, h1, h2, h3 => c_one_of s K be er na pi tr bi sz nu as' im tn sk ip n u o hn h60 hu 0 hok (fun j h => by omega) (fun j h => by omega) st a ss h1 h2 h3
  | k + 1, o, hok, st, a, ss, h1, h2, h3 => by
    refine c_one_of s K be er na pi tr bi sz nu as' im tn sk ip n u o hn h60 hu (k + 1) hok (fun j h => ?_) (fun j h => ?_) st a ss h1 h2 h3
    · obtain rfl : k = j := by omega
      exact fun st a ss h1 h2 h3 => c_one s K be er na pi tr bi sz nu as' im tn sk ip n u hn h60 hu k (o + 1) (by omega) st a ss h1 h2 h3
    · obtain rfl : k = j := by omega
      exact fun st a ss h1 h2 h3 => c_X9_whole s K be er na pi tr bi sz nu as' im tn sk ip n u (o + 1) hn h60 (dq k + 1 + 1 + 1 + 1) (boP (tq s) n (onP (tq s) n u k)) (wh_go (on_go k)).2.2.2.1 (fun st a ss h1 h2 h3 => c_X9_both s K be er na pi tr bi sz nu as' im tn sk ip n u (o + 1) hn h60 (dq k + 1 + 1 + 1) (coP (tq s) n (onP (tq s) n u k)) (wh_go (on_go k)).2.2.1 (fun st a ss h1 h2 h3 => c_X9_compared s K be er na pi tr bi sz nu as' im tn sk ip n u (o + 1) hn h60 (dq k + 1 + 1) (suP (tq s) n (onP (tq s) n u k)) (wh_go (on_go k)).2.1 (fun st a ss h1 h2 h3 => c_X9_sum s K be er na pi tr bi sz nu as' im tn sk ip n u (o + 1) hn h60 (dq k + 1) (prP (tq s) n (onP (tq s) n u k)) (wh_go (on_go k)).1 (fun st a ss h1 h2 h3 => c_X9_product s K be er na pi tr bi sz nu as' im tn sk ip n u (o + 1) hn h60 (dq k) (onP (tq s) n u k) (on_go k) (fun st a ss h1 h2 h3 => c_one s K be er na pi tr bi sz nu as' im tn sk ip n u hn h60 hu k (o + 1) (by omega) st a ss h1 h2 h3) st a ss h1 h2 h3) st a ss h1 h2 h3) st a ss h1 h2 h3) st a ss h1 h2 h3) st a ss h1 h2 h3
theorem c_whole5 (s K be er na pi tr bi sz nu as' : Nat → Int32) (im tn sk ip : Int32) (n u : Nat) (hn : s 6 = nI n) (h60 : n ≤ 60) (hu : u < 2) (st : Nat → Int32) (a : Nat) (ss : Sp) (h1 : a ≤ n) (h2 : ss.length ≤ a) (h3 : StepR st ss) : AMet yX9_whole cX9_whole 1 (some (.boolean)) (36) 0 0 [.ref 0] (MW s K be er st na pi tr bi sz nu as' im (nI a) (nI 0) (nI ss.length) (nI u) tn sk ip) (pI (PstR s K be er na pi tr bi sz nu as' im (nI u) tn sk ip (nI 0) (whP (tq s) n (onP (tq s) n u 5) a ss))) := c_X9_whole s K be er na pi tr bi sz nu as' im tn sk ip n u 0 hn h60 (dq 5 + 1 + 1 + 1 + 1) (boP (tq s) n (onP (tq s) n u 5)) (wh_go (on_go 5)).2.2.2.1 (fun st a ss h1 h2 h3 => c_X9_both s K be er na pi tr bi sz nu as' im tn sk ip n u 0 hn h60 (dq 5 + 1 + 1 + 1) (coP (tq s) n (onP (tq s) n u 5)) (wh_go (on_go 5)).2.2.1 (fun st a ss h1 h2 h3 => c_X9_compared s K be er na pi tr bi sz nu as' im tn sk ip n u 0 hn h60 (dq 5 + 1 + 1) (suP (tq s) n (onP (tq s) n u 5)) (wh_go (on_go 5)).2.1 (fun st a ss h1 h2 h3 => c_X9_sum s K be er na pi tr bi sz nu as' im tn sk ip n u 0 hn h60 (dq 5 + 1) (prP (tq s) n (onP (tq s) n u 5)) (wh_go (on_go 5)).1 (fun st a ss h1 h2 h3 => c_X9_product s K be er na pi tr bi sz nu as' im tn sk ip n u 0 hn h60 (dq 5) (onP (tq s) n u 5) (on_go 5) (fun st a ss h1 h2 h3 => c_one s K be er na pi tr bi sz nu as' im tn sk ip n u hn h60 hu 5 0 rfl st a ss h1 h2 h3) st a ss h1 h2 h3) st a ss h1 h2 h3) st a ss h1 h2 h3) st a ss h1 h2 h3) st a ss h1 h2 h3
set_option maxRecDepth 100000 in
theorem c_X9_text_ok (s K be er st na pi tr bi sz nu as' : Nat → Int32) (im at' op sp us tn sk ip : Int32) (n u : Nat) (hu : u < 2) (hn : s 6 = nI n) (h60 : n ≤ 60) : AMet yX9_text cX9_text 5 (some (.int)) 37 0 0 [.ref 0, .int (nI u)] (MW s K be er st na pi tr bi sz nu as' im at' op sp us tn sk ip) (pI fun x h => ∃ (s' st' : Nat → Int32) (at1 op' sp' us' : Int32), TxR s n u x s' ∧ h = MW s' K be er st' na pi tr bi sz nu as' im at1 op' sp' us' tn sk ip) := by
  refine AMet.of (by decide +kernel) rfl (fun E ad0 hE => ?_)
  refine A_iload_n hE 1 dX9_text_0 rfl rfl ?_
  refine A_iconst hE 2 dX9_text_1 rfl (0) rfl ?_
  refine A_iconst hE 3 dX9_text_2 rfl (1) rfl ?_
  refine A_callSi hE 6 (c_X9_in (nI u) 0 1) [] dX9_text_3 rfl mkX9_47 rfl rfl rfl rfl rfl rfl (Nat.le_of_ble_eq_true rfl) (Nat.le_of_ble_eq_true rfl) rfl (fun x3 h3 g3 hp3 hw3 => ?_)
  obtain ⟨rfl, rfl⟩ := hp3
  obtain rfl := Option.some.inj hw3
  refine A_if_ne hE 9 15 dX9_text_6 rfl rfl (fun c6 => ?_) (fun c6 => absurd ⟨nI_pos' (by omega), nI_le (b := 1) (by omega) (by omega)⟩ (bI_0 c6))
  refine A_aload_n hE 16 dX9_text_15 rfl rfl ?_
  refine A_iload_n hE 17 dX9_text_16 rfl rfl ?_
  refine A_put hE 20 dX9_text_17 rfl fkX9_61 rfl rfl rfl rfl ?_
  refine A_aload_n hE 21 dX9_text_20 rfl rfl ?_
  refine A_iconst hE 22 dX9_text_21 rfl (0) rfl ?_
  refine A_put hE 25 dX9_text_22 rfl fkX9_57 rfl rfl rfl rfl ?_
  refine A_aload_n hE 26 dX9_text_25 rfl rfl ?_
  refine A_iconst hE 27 dX9_text_26 rfl (0) rfl ?_
  refine A_put hE 30 dX9_text_27 rfl fkX9_91 rfl rfl rfl rfl ?_
  refine A_aload_n hE 31 dX9_text_30 rfl rfl ?_
  refine A_iconst hE 32 dX9_text_31 rfl (0) rfl ?_
  refine A_put hE 35 dX9_text_32 rfl fkX9_64 rfl rfl rfl rfl ?_
  refine A_h (MW s K be er st na pi tr bi sz nu as' im (nI 0) (nI 0) (nI ([] : Sp).length) (nI u) tn sk ip) rfl ?_
  refine A_aload_n hE 36 dX9_text_35 rfl rfl ?_
  refine A_callVi hE 39 (c_whole5 s K be er na pi tr bi sz nu as' im tn sk ip n u hn h60 hu st 0 [] (Nat.zero_le _) (Nat.le_refl _) (fun i hi => by cases hi)) [0, 1, 2, 3, 4, 5, 6, 7, 8, 9, 10, 11, 12] dX9_text_36 rfl mkX9_101 rfl rfl rfl rfl rfl rfl rfl (Nat.le_of_ble_eq_true rfl) (Nat.le_of_ble_eq_true rfl) rfl (fun x36 h36 g36 hp36 hw36 => ?_)
  rcases hp36 with ⟨b, s2, st2, e36, hs36, rfl, rfl⟩ | ⟨b3, st3, op3, sp3, e36, rfl, rfl⟩
  · obtain rfl := Option.some.inj hw36
    refine A_h (MW s K be er st2 na pi tr bi sz nu as' im (nI b) (nI 0) (nI s2.length) (nI u) tn sk ip) rfl ?_
    obtain ⟨g1, g2, g3⟩ := (wh_go (on_go 5)).2.2.2.2.get (Nat.zero_le _) e36
    refine A_if_eq hE 42 60 dX9_text_39 rfl rfl (fun c39 => absurd c39 (by decide)) (fun c39 => ?_)
    refine A_aload_n hE 43 dX9_text_42 rfl rfl ?_
    refine A_get hE 46 dX9_text_43 rfl fkX9_57 rfl rfl ?_
    refine A_aload_n hE 47 dX9_text_46 rfl rfl ?_
    refine A_get hE 50 dX9_text_47 rfl fkX9_7 rfl rfl ?_
    refine A_bipush hE 52 dX9_text_50 rfl (6) (by decide) ?_
    refine A_iald hE 53 6 dX9_text_52 rfl rfl rfl (by omega) rfl ?_
    rw [hn]
    refine A_icmp_ne hE 56 60 dX9_text_53 rfl rfl (fun c53 => ?_) (fun c53 => ?_)
    · have hb : ¬ b = n := fun z => c53 (by rw [z])
      refine A_iconst hE 61 dX9_text_60 rfl (0) rfl ?_
      refine A_istore_n hE 62 dX9_text_61 rfl rfl rfl ?_
      refine A_aload_n hE 63 dX9_text_62 rfl rfl ?_
      refine A_get hE 66 dX9_text_63 rfl fkX9_7 rfl rfl ?_
      refine A_bipush hE 68 dX9_text_66 rfl (6) (by decide) ?_
      refine A_iconst hE 69 dX9_text_68 rfl (0) rfl ?_
      refine A_iast hE 70 6 dX9_text_69 rfl rfl rfl (by omega) rfl rfl ?_
      refine A_iload_n hE 71 dX9_text_70 rfl rfl ?_
      refine A_if_ne hE 74 82 dX9_text_71 rfl rfl (fun c71 => absurd rfl c71) (fun c71 => ?_)
      refine A_bipush hE 76 dX9_text_74 rfl (-10) (by decide) ?_
      refine A_aload_n hE 77 dX9_text_76 rfl rfl ?_
      refine A_get hE 80 dX9_text_77 rfl fkX9_57 rfl rfl ?_
      refine A_isub hE 81 dX9_text_80 rfl ?_
      refine A_iret hE dX9_text_81 ?_
      exact ⟨_, _, _, _, _, _, Or.inr ⟨b, Or.inr ⟨hb, s2, e36⟩, rfl, rfl⟩, rfl⟩
    · have hb : b = n := (nI_eq (by omega) (by omega)).mp c53
      refine A_iconst hE 57 dX9_text_56 rfl (1) rfl ?_
      refine A_goto hE 61 dX9_text_57 rfl ?_
      have hok := tx_ok h60 e36
      have h60' := hok.1.1
      have loop : ∀ (m j : Nat), j + m = 2 * s2.length → AW E (rmD 37 0 0) 5 (QM E ad0 13 0 0 (pI fun x h => ∃ (s' st' : Nat → Int32) (at1 op' sp' us' : Int32), TxR s n u x s' ∧ h = MW s' K be er st' na pi tr bi sz nu as' im at1 op' sp' us' tn sk ip)) ad0 13 0 0 103 [(0, .ref 0), (3, .int (nI (49 + 125 * u))), (4, .int (nI j))] [] (MW (cpS (upd s 6 0) u (nI s2.length) st2 j) K be er st2 na pi tr bi sz nu as' im (nI b) (nI 0) (nI s2.length) (nI u) tn sk ip) := by
        intro m
        induction m with
        | zero =>
          intro j hj
          obtain rfl : j = 2 * s2.length := by omega
          refine A_iload hE 105 dX9_text_103 rfl rfl ?_
          refine A_iconst hE 106 dX9_text_105 rfl (2) rfl ?_
          refine A_aload_n hE 107 dX9_text_106 rfl rfl ?_
          refine A_get hE 110 dX9_text_107 rfl fkX9_64 rfl rfl ?_
          refine A_imul hE 111 dX9_text_110 rfl ?_
          rw [show (2 : Int32) * nI s2.length = nI (2 * s2.length) from pk_mul 2 _]
          refine A_icmp_ge hE 114 138 dX9_text_111 rfl rfl (fun c111 => ?_) (fun c111 => absurd (nI_le (Nat.le_refl _) (by omega)) c111)
          refine A_iconst hE 139 dX9_text_138 rfl (1) rfl ?_
          refine A_iret hE dX9_text_139 ?_
          exact ⟨_, _, _, _, _, _, Or.inl ⟨s2, by have e := e36; rw [hb] at e; exact e, rfl, cp_text hok.1 hs36, fun z hz => cp_else (by omega) hz⟩, rfl⟩
        | succ m ih =>
          intro j hj
          refine A_iload hE 105 dX9_text_103 rfl rfl ?_
          refine A_iconst hE 106 dX9_text_105 rfl (2) rfl ?_
          refine A_aload_n hE 107 dX9_text_106 rfl rfl ?_
          refine A_get hE 110 dX9_text_107 rfl fkX9_64 rfl rfl ?_
          refine A_imul hE 111 dX9_text_110 rfl ?_
          rw [show (2 : Int32) * nI s2.length = nI (2 * s2.length) from pk_mul 2 _]
          refine A_icmp_ge hE 114 138 dX9_text_111 rfl rfl (fun c111 => absurd c111 (nI_ge (by omega) (by omega))) (fun c111 => ?_)
          refine A_aload_n hE 115 dX9_text_114 rfl rfl ?_
          refine A_get hE 118 dX9_text_115 rfl fkX9_7 rfl rfl ?_
          refine A_iload_n hE 119 dX9_text_118 rfl rfl ?_
          refine A_iconst hE 120 dX9_text_119 rfl (1) rfl ?_
          refine A_iadd hE 121 dX9_text_120 rfl ?_
          refine A_iload hE 123 dX9_text_121 rfl rfl ?_
          refine A_iadd hE 124 dX9_text_123 rfl ?_
          refine A_aload_n hE 125 dX9_text_124 rfl rfl ?_
          refine A_get hE 128 dX9_text_125 rfl fkX9_22 rfl rfl ?_
          refine A_iload hE 130 dX9_text_128 rfl rfl ?_
          refine A_iald hE 131 j dX9_text_130 rfl rfl rfl (by omega) rfl ?_
          refine A_iast hE 132 (50 + 125 * u + j) dX9_text_131 rfl rfl (by show nI (49 + 125 * u) + nI 1 + nI j = _; rw [nI_add, nI_add]; congr 1; omega) (by omega) rfl rfl ?_
          refine A_iinc hE 135 dX9_text_132 rfl rfl (1) rfl rfl rfl ?_
          rw [nI_1]
          refine A_lv [0, 3, 4] rfl ?_
          refine A_goto hE 103 dX9_text_135 rfl ?_
          exact A_h (MW (cpS (upd s 6 0) u (nI s2.length) st2 (j + 1)) K be er st2 na pi tr bi sz nu as' im (nI b) (nI 0) (nI s2.length) (nI u) tn sk ip) (by rw [cp_step]) (ih (j + 1) (by omega))
      refine A_istore_n hE 62 dX9_text_61 rfl rfl rfl ?_
      refine A_aload_n hE 63 dX9_text_62 rfl rfl ?_
      refine A_get hE 66 dX9_text_63 rfl fkX9_7 rfl rfl ?_
      refine A_bipush hE 68 dX9_text_66 rfl (6) (by decide) ?_
      refine A_iconst hE 69 dX9_text_68 rfl (0) rfl ?_
      refine A_iast hE 70 6 dX9_text_69 rfl rfl rfl (by omega) rfl rfl ?_
      refine A_iload_n hE 71 dX9_text_70 rfl rfl ?_
      refine A_if_ne hE 74 82 dX9_text_71 rfl rfl (fun c71 => ?_) (fun c71 => absurd c71 (by decide))
      refine A_bipush hE 84 dX9_text_82 rfl (49) (by decide) ?_
      refine A_bipush hE 86 dX9_text_84 rfl (125) (by decide) ?_
      refine A_iload_n hE 87 dX9_text_86 rfl rfl ?_
      refine A_imul hE 88 dX9_text_87 rfl ?_
      refine A_iadd hE 89 dX9_text_88 rfl ?_
      rw [ix125]
      refine A_istore_n hE 90 dX9_text_89 rfl rfl rfl ?_
      refine A_aload_n hE 91 dX9_text_90 rfl rfl ?_
      refine A_get hE 94 dX9_text_91 rfl fkX9_7 rfl rfl ?_
      refine A_iload_n hE 95 dX9_text_94 rfl rfl ?_
      refine A_aload_n hE 96 dX9_text_95 rfl rfl ?_
      refine A_get hE 99 dX9_text_96 rfl fkX9_64 rfl rfl ?_
      refine A_iast hE 100 (49 + 125 * u) dX9_text_99 rfl rfl rfl (by omega) rfl rfl ?_
      refine A_iconst hE 101 dX9_text_100 rfl (0) rfl ?_
      refine A_istore hE 103 dX9_text_101 rfl rfl rfl ?_
      refine A_lv [0, 3, 4] rfl ?_
      exact A_h (MW (cpS (upd s 6 0) u (nI s2.length) st2 0) K be er st2 na pi tr bi sz nu as' im (nI b) (nI 0) (nI s2.length) (nI u) tn sk ip) (by rw [cp_0 (st := st2)]) (loop (2 * s2.length) 0 (Nat.zero_add _))
  · obtain rfl := Option.some.inj hw36
    refine A_h (MW s K be er st3 na pi tr bi sz nu as' im (nI b3) op3 sp3 (nI u) tn sk ip) rfl ?_
    refine A_if_eq hE 42 60 dX9_text_39 rfl rfl (fun c39 => ?_) (fun c39 => absurd rfl c39)
    refine A_iconst hE 61 dX9_text_60 rfl (0) rfl ?_
    refine A_istore_n hE 62 dX9_text_61 rfl rfl rfl ?_
    refine A_aload_n hE 63 dX9_text_62 rfl rfl ?_
    refine A_get hE 66 dX9_text_63 rfl fkX9_7 rfl rfl ?_
    refine A_bipush hE 68 dX9_text_66 rfl (6) (by decide) ?_
    refine A_iconst hE 69 dX9_text_68 rfl (0) rfl ?_
    refine A_iast hE 70 6 dX9_text_69 rfl rfl rfl (by omega) rfl rfl ?_
    refine A_iload_n hE 71 dX9_text_70 rfl rfl ?_
    refine A_if_ne hE 74 82 dX9_text_71 rfl rfl (fun c71 => absurd rfl c71) (fun c71 => ?_)
    refine A_bipush hE 76 dX9_text_74 rfl (-10) (by decide) ?_
    refine A_aload_n hE 77 dX9_text_76 rfl rfl ?_
    refine A_get hE 80 dX9_text_77 rfl fkX9_57 rfl rfl ?_
    refine A_isub hE 81 dX9_text_80 rfl ?_
    refine A_iret hE dX9_text_81 ?_
    exact ⟨_, _, _, _, _, _, Or.inr ⟨b3, Or.inl e36, rfl, rfl⟩, rfl⟩
set_option maxRecDepth 100000 in
theorem c_X9_text_bad (s K be er st na pi tr bi sz nu as' : Nat → Int32) (im at' op sp us tn sk ip : Int32) (v : Int32) (hv : ¬ (0 ≤ v ∧ v ≤ 1)) : AMet yX9_text cX9_text 5 (some (.int)) 2 0 0 [.ref 0, .int v] (MW s K be er st na pi tr bi sz nu as' im at' op sp us tn sk ip) (pI fun x h => x = -1000000000 - nI 1 ∧ h = MW s K be (upd er 1 (er 1 + 1)) st na pi tr bi sz nu as' im at' op sp us tn sk ip) := by
  refine AMet.of (by decide +kernel) rfl (fun E ad0 hE => ?_)
  refine A_iload_n hE 1 dX9_text_0 rfl rfl ?_
  refine A_iconst hE 2 dX9_text_1 rfl (0) rfl ?_
  refine A_iconst hE 3 dX9_text_2 rfl (1) rfl ?_
  refine A_callSi hE 6 (c_X9_in v 0 1) [] dX9_text_3 rfl mkX9_47 rfl rfl rfl rfl rfl rfl (Nat.le_of_ble_eq_true rfl) (Nat.le_of_ble_eq_true rfl) rfl (fun x3 h3 g3 hp3 hw3 => ?_)
  obtain ⟨rfl, rfl⟩ := hp3
  obtain rfl := Option.some.inj hw3
  refine A_if_ne hE 9 15 dX9_text_6 rfl rfl (fun c6 => absurd (bI_1 c6) hv) (fun c6 => ?_)
  refine A_aload_n hE 10 dX9_text_9 rfl rfl ?_
  refine A_iconst hE 11 dX9_text_10 rfl (1) rfl ?_
  refine A_callVi hE 14 (c_X9_error s K be er st na pi tr bi sz nu as' im at' op sp us tn sk ip 1 (by omega)) [0, 1, 2, 3, 4, 5, 6, 7, 8, 9, 10, 11, 12] dX9_text_11 rfl mkX9_51 rfl rfl rfl rfl rfl rfl rfl (Nat.le_of_ble_eq_true rfl) (Nat.le_of_ble_eq_true rfl) rfl (fun x11 h11 g11 hp11 hw11 => ?_)
  obtain ⟨rfl, rfl⟩ := hp11
  obtain rfl := Option.some.inj hw11
  refine A_h (MW s K be (upd er 1 (er 1 + 1)) st na pi tr bi sz nu as' im at' op sp us tn sk ip) rfl ?_
  refine A_iret hE dX9_text_14 ⟨rfl, rfl⟩
