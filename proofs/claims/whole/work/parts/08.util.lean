/-! words for the states -/
abbrev cI (n : Nat) (f : Nat → Int32) : AE := .inl (0, n, .inl f)
abbrev cRow (a : Nat) (sz : Int32) : AE := .inr (3, [.ref a, .int sz])
def bI (b : Bool) : Int32 := match b with
  | true => 1
  | false => 0
theorem bI_or (b : Bool) : bI b = 0 ∨ bI b = 1 := by cases b <;> first | exact Or.inl rfl | exact Or.inr rfl
theorem bI_t {P : Prop} {i : Decidable P} (h : P) : (1 : Int32) = bI (@decide P i) := by rw [decide_eq_true h]; rfl
theorem bI_f {P : Prop} {i : Decidable P} (h : ¬ P) : (0 : Int32) = bI (@decide P i) := by rw [decide_eq_false h]; rfl
theorem bI_0 {P : Prop} {i : Decidable P} (h : bI (@decide P i) = 0) : ¬ P := fun hp => by rw [decide_eq_true hp] at h; exact absurd h (by decide)
theorem bI_1 {P : Prop} {i : Decidable P} (h : ¬ bI (@decide P i) = 0) : P := by
  by_cases hp : P
  · exact hp
  · rw [decide_eq_false hp] at h
    exact absurd rfl h
theorem iL {x y : Int32} (h : ¬ x < y) : y ≤ x := Int32.not_lt.mp h
theorem iG {x y : Int32} (h : ¬ x ≤ y) : y < x := Int32.not_le.mp h
theorem iN {x y : Int32} (h : y ≤ x) : ¬ x < y := Int32.not_lt.mpr h
theorem iM {x y : Int32} (h : y < x) : ¬ x ≤ y := Int32.not_le.mpr h
/-- an int between 0 and a small number is a small number -/
theorem iK {x : Int32} {n : Nat} (h0 : 0 ≤ x) (h1 : x < nI n) (hn : n < 2 ^ 31) : ∃ k : Nat, k < n ∧ x = nI k := by
  obtain ⟨j, hj, rfl⟩ := nI_of (iN h0)
  exact ⟨j, (nI_ltI hj hn).mp h1, rfl⟩
theorem iK2 {x : Int32} {n : Nat} (h0 : 0 ≤ x) (h1 : x ≤ nI n) (hn : n < 2 ^ 31) : ∃ k : Nat, k ≤ n ∧ x = nI k := by
  obtain ⟨j, hj, rfl⟩ := nI_of (iN h0)
  exact ⟨j, (nI_leI hj hn).mp h1, rfl⟩
theorem upd_s {f : Nat → Int32} {k : Nat} {x : Int32} : upd f k x k = x := if_pos rfl
theorem upd_n {f : Nat → Int32} {k j : Nat} {x : Int32} (h : j ≠ k) : upd f k x j = f j := if_neg h
