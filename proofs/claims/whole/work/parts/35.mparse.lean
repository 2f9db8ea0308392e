/-! TEXTS: how THE TAPE is read, as a function; both readers do what it says -/
abbrev PR : Type := Nat × Option Sp
abbrev Pz : Type := Nat → Sp → PR
def lk (q : Nat → Int32) (n a : Nat) : Int32 := if a < n then q a else -1
def bnd (x : PR) (f : Nat → Sp → PR) : PR := match x with
  | (b, some s2) => f b s2
  | (b, none) => (b, none)
def tlP (q : Nat → Int32) (n : Nat) (op : Int32 → Bool) (P : Pz) : Nat → Pz
  | 0, a, ss => (a, some ss)
  | f + 1, a, ss => if op (lk q n a) = true then bnd (P (a + 1) ss) (fun b s2 => tlP q n op P f b (s2 ++ [(3, lk q n a)])) else (a, some ss)
def chP (q : Nat → Int32) (n : Nat) (op : Int32 → Bool) (P : Pz) : Pz := fun a ss => bnd (P a ss) (fun b s2 => tlP q n op P 60 b s2)
def opW (c : Int32) : Bool := decide (c = 124)
def opA (c : Int32) : Bool := decide (c = 38)
def opB (c : Int32) : Bool := decide (c = 60 ∨ c = 61 ∨ c = 62)
def opS (c : Int32) : Bool := decide (c = 43 ∨ c = 45)
def opP (c : Int32) : Bool := decide (c = 42 ∨ c = 47 ∨ c = 37)
def cmP (q : Nat → Int32) (n : Nat) (P : Pz) : Pz := fun a ss => bnd (P a ss) (fun b s2 => if opB (lk q n b) = true then bnd (P (b + 1) s2) (fun c s3 => (c, some (s3 ++ [(3, lk q n b)]))) else (b, some s2))
def prP (q : Nat → Int32) (n : Nat) (P : Pz) : Pz := chP q n opP P
def suP (q : Nat → Int32) (n : Nat) (P : Pz) : Pz := chP q n opS (prP q n P)
def coP (q : Nat → Int32) (n : Nat) (P : Pz) : Pz := cmP q n (suP q n P)
def boP (q : Nat → Int32) (n : Nat) (P : Pz) : Pz := chP q n opA (coP q n P)
def whP (q : Nat → Int32) (n : Nat) (P : Pz) : Pz := chP q n opW (boP q n P)
def isD (c : Int32) : Bool := decide (48 ≤ c ∧ c ≤ 57)
def nuV (q : Nat → Int32) (n : Nat) : Nat → Nat → Int32 → Int32 × Nat
  | 0, a, v => (v, a)
  | m + 1, a, v => if isD (lk q n a) = true then nuV q n m (a + 1) (10 * v + lk q n a - 48) else (v, a)
def isN (u : Nat) (c : Int32) : Bool := decide (c = 115 ∨ c = 100 ∨ c = (if u = 0 then 118 else 108))
def onP (q : Nat → Int32) (n u : Nat) : Nat → Pz
  | 0 => fun a ss => if isN u (lk q n a) = true then (a + 1, some (ss ++ [(1, lk q n a)])) else if isD (lk q n a) = true then ((nuV q n 4 a 0).2, some (ss ++ [(0, (nuV q n 4 a 0).1)])) else (a, none)
  | k + 1 => fun a ss => if isN u (lk q n a) = true then (a + 1, some (ss ++ [(1, lk q n a)])) else if isD (lk q n a) = true then ((nuV q n 4 a 0).2, some (ss ++ [(0, (nuV q n 4 a 0).1)])) else
    if lk q n a = 33 then bnd (onP q n u k (a + 1) ss) (fun b s2 => (b, some (s2 ++ [(2, 0)])))
    else if lk q n a = 40 then bnd (whP q n (onP q n u k) (a + 1) ss) (fun b s2 => if lk q n b = 41 then (b + 1, some s2) else (b, none)) else (a, none)
def txP (q : Nat → Int32) (n u : Nat) : PR := whP q n (onP q n u 5) 0 []
/-- what text answers -/
def txA (q : Nat → Int32) (n u : Nat) : Int32 := match txP q n u with
  | (b, some _) => if b = n then 1 else -10 - nI b
  | (b, none) => -10 - nI b
theorem lk_end {q : Nat → Int32} {n a : Nat} (h : n ≤ a) : lk q n a = -1 := if_neg (by omega)
theorem lk_lt {q : Nat → Int32} {n a : Nat} (h : ¬ lk q n a = -1) : a < n := by
  by_cases z : a < n
  · exact z
  · exact absurd (lk_end (by omega)) h
theorem opC_m1 : ¬ opC (-1) := by unfold opC; decide
theorem opW_C (c : Int32) (h : opW c = true) : opC c := by
  have h := of_decide_eq_true h
  unfold opC; simp [h]
theorem opA_C (c : Int32) (h : opA c = true) : opC c := by
  have h := of_decide_eq_true h
  unfold opC; simp [h]
theorem opB_C (c : Int32) (h : opB c = true) : opC c := by
  have h := of_decide_eq_true h
  unfold opC
  rcases h with h | h | h <;> simp [h]
theorem opS_C (c : Int32) (h : opS c = true) : opC c := by
  have h := of_decide_eq_true h
  unfold opC
  rcases h with h | h <;> simp [h]
theorem opP_C (c : Int32) (h : opP c = true) : opC c := by
  have h := of_decide_eq_true h
  unfold opC
  rcases h with h | h | h <;> simp [h]
theorem dpt_0 (c : Int32) (r : Sp) (d : Nat) : dpt ((0, c) :: r) d = dpt r (d + 1) := by rw [dpt, if_pos rfl]
theorem dpt_1 (c : Int32) (r : Sp) (d : Nat) : dpt ((1, c) :: r) d = dpt r (d + 1) := by rw [dpt, if_neg (by decide), if_pos rfl]
theorem dpt_2 (c : Int32) (r : Sp) (d : Nat) : dpt ((2, c) :: r) (d + 1) = dpt r (d + 1) := by rw [dpt, if_neg (by decide), if_neg (by decide), if_pos rfl, if_pos (by omega)]
theorem dpt_3 (c : Int32) (r : Sp) (d : Nat) : dpt ((3, c) :: r) (d + 2) = dpt r (d + 1) := by
  rw [dpt, if_neg (by decide), if_neg (by decide), if_neg (by decide), if_pos (by omega)]
  rfl
/-- a reader that stays on the tape, and lays one more value -/
def GoP (n u : Nat) (P : Pz) : Prop := ∀ (a : Nat) (ss : Sp), a ≤ n → (∃ b, P a ss = (b, none) ∧ b ≤ n) ∨ ∃ (b : Nat) (e : Sp), P a ss = (b, some (ss ++ e)) ∧ a < b ∧ b ≤ n ∧ e.length + a ≤ b ∧ (∀ (d : Nat) (r : Sp), dpt (e ++ r) d = dpt r (d + 1)) ∧ ∀ x ∈ e, okS u x
def GoT (n u : Nat) (P : Pz) : Prop := ∀ (a : Nat) (ss : Sp), a ≤ n → (∃ b, P a ss = (b, none) ∧ b ≤ n) ∨ ∃ (b : Nat) (e : Sp), P a ss = (b, some (ss ++ e)) ∧ a ≤ b ∧ b ≤ n ∧ e.length + a ≤ b ∧ (∀ (d : Nat) (r : Sp), dpt (e ++ r) (d + 1) = dpt r (d + 1)) ∧ ∀ x ∈ e, okS u x
theorem GoP.get {n u : Nat} {P : Pz} (h : GoP n u P) {a b : Nat} {ss s2 : Sp} (ha : a ≤ n) (e : P a ss = (b, some s2)) : a < b ∧ b ≤ n ∧ s2.length + a ≤ ss.length + b := by
  rcases h a ss ha with ⟨b', z, -⟩ | ⟨b', e', z, g1, g2, g3, -⟩
  · rw [e] at z; cases z
  · rw [e] at z
    cases z
    refine ⟨g1, g2, ?_⟩
    rw [List.length_append]
    omega
theorem GoP.no {n u : Nat} {P : Pz} (h : GoP n u P) {a b : Nat} {ss : Sp} (ha : a ≤ n) (e : P a ss = (b, none)) : b ≤ n := by
  rcases h a ss ha with ⟨b', z, g⟩ | ⟨b', e', z, -⟩
  · rw [e] at z; cases z; exact g
  · rw [e] at z; cases z
theorem tl_go {q : Nat → Int32} {n u : Nat} {op : Int32 → Bool} {P : Pz} (hop : ∀ c, op c = true → opC c) (hP : GoP n u P) : ∀ f, GoT n u (tlP q n op P f)
  | 0 => fun a ss ha => Or.inr ⟨a, [], by rw [List.append_nil]; rfl, Nat.le_refl _, ha, by simp, fun _ _ => rfl, fun x hx => by cases hx⟩
  | f + 1 => fun a ss ha => by
    by_cases hc : op (lk q n a) = true
    · have hlt : a < n := lk_lt (fun z => opC_m1 (z ▸ hop _ hc))
      rcases hP (a + 1) ss hlt with ⟨b, e1, hb⟩ | ⟨b, e, e1, h1, h2, h3, h4, h5⟩
      · exact Or.inl ⟨b, by rw [tlP, if_pos hc, e1]; rfl, hb⟩
      · rcases tl_go (q := q) hop hP f b (ss ++ e ++ [(3, lk q n a)]) h2 with ⟨b', e2, hb⟩ | ⟨b', e', e2, g1, g2, g3, g4, g5⟩
        · exact Or.inl ⟨b', by rw [tlP, if_pos hc, e1]; exact e2, hb⟩
        · refine Or.inr ⟨b', e ++ (3, lk q n a) :: e', ?_, by omega, g2, by simp; omega, fun d r => ?_, fun x hx => ?_⟩
          · rw [tlP, if_pos hc, e1]
            show tlP q n op P f b (ss ++ e ++ [(3, lk q n a)]) = _
            rw [e2]
            simp
          · rw [List.append_assoc, h4, List.cons_append, dpt_3, g4]
          · rcases List.mem_append.mp hx with h | h
            · exact h5 x h
            · rcases List.mem_cons.mp h with rfl | h
              · exact Or.inr (Or.inr (Or.inr ⟨rfl, hop _ hc⟩))
              · exact g5 x h
    · exact Or.inr ⟨a, [], by rw [tlP, if_neg hc, List.append_nil], Nat.le_refl _, ha, by simp, fun _ _ => rfl, fun x hx => by cases hx⟩
theorem ch_go {q : Nat → Int32} {n u : Nat} {op : Int32 → Bool} {P : Pz} (hop : ∀ c, op c = true → opC c) (hP : GoP n u P) : GoP n u (chP q n op P) := fun a ss ha => by
  rcases hP a ss ha with ⟨b, e1, hb⟩ | ⟨b, e, e1, h1, h2, h3, h4, h5⟩
  · exact Or.inl ⟨b, by rw [chP, e1]; rfl, hb⟩
  · rcases tl_go (q := q) hop hP 60 b (ss ++ e) h2 with ⟨b', e2, hb⟩ | ⟨b', e', e2, g1, g2, g3, g4, g5⟩
    · exact Or.inl ⟨b', by rw [chP, e1]; exact e2, hb⟩
    · refine Or.inr ⟨b', e ++ e', ?_, by omega, g2, by simp; omega, fun d r => ?_, fun x hx => ?_⟩
      · rw [chP, e1]
        show tlP q n op P 60 b (ss ++ e) = _
        rw [e2, List.append_assoc]
      · rw [List.append_assoc, h4, g4]
      · rcases List.mem_append.mp hx with h | h
        · exact h5 x h
        · exact g5 x h
theorem cm_go {q : Nat → Int32} {n u : Nat} {P : Pz} (hP : GoP n u P) : GoP n u (cmP q n P) := fun a ss ha => by
  rcases hP a ss ha with ⟨b, e1, hb⟩ | ⟨b, e, e1, h1, h2, h3, h4, h5⟩
  · exact Or.inl ⟨b, by rw [cmP, e1]; rfl, hb⟩
  · by_cases hc : opB (lk q n b) = true
    · have hlt : b < n := lk_lt (fun z => opC_m1 (z ▸ opB_C _ hc))
      rcases hP (b + 1) (ss ++ e) hlt with ⟨b', e2, hb⟩ | ⟨b', e', e2, g1, g2, g3, g4, g5⟩
      · exact Or.inl ⟨b', by rw [cmP, e1]; show (if opB (lk q n b) = true then _ else _) = _; rw [if_pos hc, e2]; rfl, hb⟩
      · refine Or.inr ⟨b', e ++ (e' ++ [(3, lk q n b)]), ?_, by omega, g2, by simp; omega, fun d r => ?_, fun x hx => ?_⟩
        · rw [cmP, e1]
          show (if opB (lk q n b) = true then _ else _) = _
          rw [if_pos hc, e2]
          show (b', some (ss ++ e ++ e' ++ [(3, lk q n b)])) = _
          simp
        · rw [List.append_assoc, h4, List.append_assoc, g4, List.cons_append, dpt_3, List.nil_append]
        · rcases List.mem_append.mp hx with h | h
          · exact h5 x h
          · rcases List.mem_append.mp h with h | h
            · exact g5 x h
            · rcases List.mem_cons.mp h with rfl | h
              · exact Or.inr (Or.inr (Or.inr ⟨rfl, opB_C _ hc⟩))
              · cases h
    · exact Or.inr ⟨b, e, by rw [cmP, e1]; show (if opB (lk q n b) = true then _ else _) = _; rw [if_neg hc], h1, h2, h3, h4, h5⟩
theorem wh_go {q : Nat → Int32} {n u : Nat} {P : Pz} (hP : GoP n u P) : GoP n u (prP q n P) ∧ GoP n u (suP q n P) ∧ GoP n u (coP q n P) ∧ GoP n u (boP q n P) ∧ GoP n u (whP q n P) := by
  have h1 : GoP n u (prP q n P) := ch_go opP_C hP
  have h2 : GoP n u (suP q n P) := ch_go opS_C h1
  have h3 : GoP n u (coP q n P) := cm_go h2
  have h4 : GoP n u (boP q n P) := ch_go opA_C h3
  exact ⟨h1, h2, h3, h4, ch_go opW_C h4⟩
theorem isD_dig {c : Int32} (h : isD c = true) : ∃ d : Nat, d < 10 ∧ c = nI (48 + d) := by
  obtain ⟨h1, h2⟩ := of_decide_eq_true h
  obtain ⟨k, hk, rfl⟩ := iK2 (n := 57) (Int32.le_trans (show (0 : Int32) ≤ 48 by decide) h1) h2 (by omega)
  have h3 : 48 ≤ k := (nI_leI (a := 48) (by omega) (by omega)).mp h1
  exact ⟨k - 48, by omega, by rw [show 48 + (k - 48) = k by omega]⟩
theorem dig_step (k d : Nat) : 10 * nI k + nI (48 + d) - 48 = nI (10 * k + d) := by
  show nI 10 * nI k + nI (48 + d) - nI 48 = _
  rw [pk_mul, nI_add, pk_sub (by omega)]
  congr 1
  omega
theorem nu_go {q : Nat → Int32} {n : Nat} : ∀ (m a : Nat) (k B : Nat), a ≤ n → k < B → a ≤ (nuV q n m a (nI k)).2 ∧ (nuV q n m a (nI k)).2 ≤ n ∧ ∃ j : Nat, j < B * 10 ^ m ∧ (nuV q n m a (nI k)).1 = nI j
  | 0, a, k, B, ha, hk => ⟨Nat.le_refl _, ha, k, by omega, rfl⟩
  | m + 1, a, k, B, ha, hk => by
    rw [nuV]
    by_cases hc : isD (lk q n a) = true
    · obtain ⟨d, hd, e⟩ := isD_dig hc
      have hlt : a < n := lk_lt (fun z => by rw [z] at hc; exact absurd hc (by decide))
      rw [if_pos hc, e, dig_step]
      obtain ⟨h1, h2, j, h3, h4⟩ := nu_go m (a + 1) (10 * k + d) (10 * B) hlt (by omega)
      refine ⟨by omega, h2, j, ?_, h4⟩
      rw [Nat.pow_succ, Nat.mul_comm (10 ^ m) 10, ← Nat.mul_assoc, Nat.mul_comm B 10]
      exact h3
    · rw [if_neg hc]
      refine ⟨Nat.le_refl _, ha, k, ?_, rfl⟩
      exact Nat.lt_of_lt_of_le hk (Nat.le_mul_of_pos_right _ (Nat.pow_pos (by omega)))
theorem nu_get {q : Nat → Int32} {n a : Nat} (ha : a ≤ n) (hc : isD (lk q n a) = true) : a < (nuV q n 4 a 0).2 ∧ (nuV q n 4 a 0).2 ≤ n ∧ ∃ j : Nat, j < 10000 ∧ (nuV q n 4 a 0).1 = nI j := by
  obtain ⟨d, hd, e⟩ := isD_dig hc
  have hlt : a < n := lk_lt (fun z => by rw [z] at hc; exact absurd hc (by decide))
  have h0 : nuV q n 4 a 0 = nuV q n 3 (a + 1) (nI d) := by
    rw [nuV, if_pos hc, e]
    congr 1
    have := dig_step 0 d
    rw [Nat.mul_zero, Nat.zero_add] at this
    exact this
  rw [h0]
  obtain ⟨h1, h2, j, h3, h4⟩ := nu_go (q := q) 3 (a + 1) d 10 hlt hd
  exact ⟨by omega, h2, j, h3, h4⟩
theorem on_leaf {q : Nat → Int32} {n u a : Nat} (ss : Sp) (ha : a ≤ n) (x : PR) (hx : x.2 = none ∧ x.1 ≤ n ∨ ∃ (b : Nat) (e : Sp), x = (b, some (ss ++ e)) ∧ a < b ∧ b ≤ n ∧ e.length + a ≤ b ∧ (∀ (d : Nat) (r : Sp), dpt (e ++ r) d = dpt r (d + 1)) ∧ ∀ x ∈ e, okS u x) : (∃ b, (if isN u (lk q n a) = true then (a + 1, some (ss ++ [(1, lk q n a)])) else if isD (lk q n a) = true then ((nuV q n 4 a 0).2, some (ss ++ [(0, (nuV q n 4 a 0).1)])) else x) = (b, none) ∧ b ≤ n) ∨ ∃ (b : Nat) (e : Sp), (if isN u (lk q n a) = true then (a + 1, some (ss ++ [(1, lk q n a)])) else if isD (lk q n a) = true then ((nuV q n 4 a 0).2, some (ss ++ [(0, (nuV q n 4 a 0).1)])) else x) = (b, some (ss ++ e)) ∧ a < b ∧ b ≤ n ∧ e.length + a ≤ b ∧ (∀ (d : Nat) (r : Sp), dpt (e ++ r) d = dpt r (d + 1)) ∧ ∀ x ∈ e, okS u x := by
  by_cases h1 : isN u (lk q n a) = true
  · rw [if_pos h1]
    have hv := of_decide_eq_true h1
    have hlt : a < n := lk_lt (fun z => by rw [z] at hv; revert hv; by_cases hu : u = 0 <;> simp [hu])
    refine Or.inr ⟨a + 1, [(1, lk q n a)], rfl, by omega, hlt, by simp; omega, fun d r => dpt_1 _ r d, fun x hx => ?_⟩
    rcases List.mem_cons.mp hx with rfl | h
    · exact Or.inr (Or.inl ⟨rfl, hv⟩)
    · cases h
  · rw [if_neg h1]
    by_cases h2 : isD (lk q n a) = true
    · rw [if_pos h2]
      obtain ⟨g1, g2, j, g3, g4⟩ := nu_get ha h2
      refine Or.inr ⟨_, [(0, (nuV q n 4 a 0).1)], rfl, g1, g2, by simp; omega, fun d r => dpt_0 _ r d, fun x hx => ?_⟩
      rcases List.mem_cons.mp hx with rfl | h
      · exact Or.inl ⟨rfl, j, g3, g4⟩
      · cases h
    · rw [if_neg h2]
      rcases hx with ⟨h3, h4⟩ | h3
      · exact Or.inl ⟨x.1, by rw [← h3], h4⟩
      · exact Or.inr h3
theorem on_go {q : Nat → Int32} {n u : Nat} : ∀ k, GoP n u (onP q n u k)
  | 0 => fun a ss ha => on_leaf ss ha (a, none) (Or.inl ⟨rfl, ha⟩)
  | k + 1 => fun a ss ha => by
    refine on_leaf ss ha (if lk q n a = 33 then bnd (onP q n u k (a + 1) ss) (fun b s2 => (b, some (s2 ++ [(2, 0)]))) else if lk q n a = 40 then bnd (whP q n (onP q n u k) (a + 1) ss) (fun b s2 => if lk q n b = 41 then (b + 1, some s2) else (b, none)) else (a, none)) ?_
    by_cases h1 : lk q n a = 33
    · have hlt : a < n := lk_lt (fun z => by rw [z] at h1; exact absurd h1 (by decide))
      rw [if_pos h1]
      rcases on_go (q := q) (u := u) k (a + 1) ss hlt with ⟨b, e1, hb⟩ | ⟨b, e, e1, g1, g2, g3, g4, g5⟩
      · rw [e1]; exact Or.inl ⟨rfl, hb⟩
      · rw [e1]
        refine Or.inr ⟨b, e ++ [(2, 0)], by show (b, some (ss ++ e ++ [(2, 0)])) = _; rw [List.append_assoc], by omega, g2, by simp; omega, fun d r => ?_, fun x hx => ?_⟩
        · rw [List.append_assoc, g4, List.cons_append, dpt_2, List.nil_append]
        · rcases List.mem_append.mp hx with h | h
          · exact g5 x h
          · rcases List.mem_cons.mp h with rfl | h
            · exact Or.inr (Or.inr (Or.inl ⟨rfl, rfl⟩))
            · cases h
    · rw [if_neg h1]
      by_cases h2 : lk q n a = 40
      · have hlt : a < n := lk_lt (fun z => by rw [z] at h2; exact absurd h2 (by decide))
        rw [if_pos h2]
        rcases (wh_go (q := q) (on_go (q := q) (u := u) k)).2.2.2.2 (a + 1) ss hlt with ⟨b, e1, hb⟩ | ⟨b, e, e1, g1, g2, g3, g4, g5⟩
        · rw [e1]; exact Or.inl ⟨rfl, hb⟩
        · rw [e1]
          show (if lk q n b = 41 then (b + 1, some (ss ++ e)) else (b, none) : PR).2 = none ∧ _ ∨ _
          by_cases h3 : lk q n b = 41
          · have hlt2 : b < n := lk_lt (fun z => by rw [z] at h3; exact absurd h3 (by decide))
            refine Or.inr ⟨b + 1, e, ?_, by omega, hlt2, by omega, g4, g5⟩
            show (if lk q n b = 41 then (b + 1, some (ss ++ e)) else (b, none) : PR) = _
            rw [if_pos h3]
          · refine Or.inl ?_
            show (if lk q n b = 41 then (b + 1, some (ss ++ e)) else (b, none) : PR).2 = none ∧ (if lk q n b = 41 then (b + 1, some (ss ++ e)) else (b, none) : PR).1 ≤ n
            rw [if_neg h3]
            exact ⟨rfl, g2⟩
      · rw [if_neg h2]
        exact Or.inl ⟨rfl, ha⟩
theorem tx_ok {q : Nat → Int32} {n u b : Nat} {s2 : Sp} (hn : n ≤ 60) (h : txP q n u = (b, some s2)) : okT u s2 ∧ b ≤ n := by
  rcases (wh_go (q := q) (on_go (q := q) (n := n) (u := u) 5)).2.2.2.2 0 [] (Nat.zero_le _) with ⟨b', e1, -⟩ | ⟨b', e, e1, g1, g2, g3, g4, g5⟩
  · have h : whP q n (onP q n u 5) 0 [] = (b, some s2) := h
    rw [e1] at h; cases h
  · have h : whP q n (onP q n u 5) 0 [] = (b, some s2) := h
    rw [e1] at h
    cases h
    refine ⟨⟨by simp; omega, Or.inr ?_, g5⟩, g2⟩
    have := g4 0 []
    rw [List.append_nil] at this
    exact this
theorem tx_no {q : Nat → Int32} {n u b : Nat} (h : txP q n u = (b, none)) : b ≤ n := GoP.no (wh_go (q := q) (on_go (q := q) (n := n) (u := u) 5)).2.2.2.2 (Nat.zero_le _) h
/-- the reader goes by what stands on the tape alone -/
theorem lk_congr {q q' : Nat → Int32} {n : Nat} (h : ∀ i, i < n → q i = q' i) : lk q n = lk q' n := by
  funext a
  unfold lk
  by_cases z : a < n
  · rw [if_pos z, if_pos z, h a z]
  · rw [if_neg z, if_neg z]
