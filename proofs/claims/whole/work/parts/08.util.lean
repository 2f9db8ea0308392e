/-! words for the states -/
abbrev cI (n : Nat) (f : Nat → Int32) : AE := .inl (0, n, .inl f)
abbrev cRow (a : Nat) (sz : Int32) : AE := .inr (3, [.ref a, .int sz])
def bI (b : Bool) : Int32 := match b with
  | true => 1
  | false => 0
theorem bI_or (b : Bool) : bI b = 0 ∨ bI b = 1 := by cases b <;> first | exact Or.inl rfl | exact Or.inr rfl
theorem bI_t {P : Prop} {i : Decidable P} (h : P) : (1 : Int32) = bI (@decide P i) := by rw [decide_eq_true h]; rfl
theorem bI_f {P : Prop} {i : Decidable P} (h : ¬ P) : (0 : Int32) = bI (@decide P i) := by rw [decide_eq_false h]; rfl
theorem bI_0 {P : Prop} {i : Decidable P} (h : bI (@decide P i) = 0) : ¬ P := fun hp => by rw [decide_eq_true hp] at h; exact absurd h (by decide)
theorem bI_1 {P : Prop} {i : Decidable P} (h : ¬ bI (@decide P i) = 0) : P := by
  by_cases hp : P
  · exact hp
  · rw [decide_eq_false hp] at h
    exact absurd rfl h
theorem iL {x y : Int32} (h : ¬ x < y) : y ≤ x := Int32.not_lt.mp h
theorem iG {x y : Int32} (h : ¬ x ≤ y) : y < x := Int32.not_le.mp h
theorem iN {x y : Int32} (h : y ≤ x) : ¬ x < y := Int32.not_lt.mpr h
theorem iM {x y : Int32} (h : y < x) : ¬ x ≤ y := Int32.not_le.mpr h
/-- an int between 0 and a small number is a small number -/
theorem iK {x : Int32} {n : Nat} (h0 : 0 ≤ x) (h1 : x < nI n) (hn : n < 2 ^ 31) : ∃ k : Nat, k < n ∧ x = nI k := by
  obtain ⟨j, hj, rfl⟩ := nI_of (iN h0)
  exact ⟨j, (nI_ltI hj hn).mp h1, rfl⟩
theorem iK2 {x : Int32} {n : Nat} (h0 : 0 ≤ x) (h1 : x ≤ nI n) (hn : n < 2 ^ 31) : ∃ k : Nat, k ≤ n ∧ x = nI k := by
  obtain ⟨j, hj, rfl⟩ := nI_of (iN h0)
  exact ⟨j, (nI_leI hj hn).mp h1, rfl⟩
theorem upd_s {f : Nat → Int32} {k : Nat} {x : Int32} : upd f k x k = x := if_pos rfl
theorem upd_n {f : Nat → Int32} {k j : Nat} {x : Int32} (h : j ≠ k) : upd f k x j = f j := if_neg h
theorem A_h {E : AV} {R : Room} {nL : Nat} {Q : State → Prop} {ad0 : Nat → Nat} {n0 cells slots pc : Nat} {lv : List (Nat × Value)} {st : List Value} {h : List AE} (h2 : List AE) (e : h = h2) (kk : AW E R nL Q ad0 n0 cells slots pc lv st h2) : AW E R nL Q ad0 n0 cells slots pc lv st h := e ▸ kk
theorem arrV_ext {c : Nat} {n : Nat} {f g : Nat → Value} (h : ∀ j, j < n → f j = g j) : arrV c n f = arrV c n g := by
  unfold arrV
  congr 1
  exact congrArg (fun z => Array.ofFn (n := n) z) (funext fun j => h j.val j.isLt)
/-- a row of numbers may be told by any function that agrees on its places -/
theorem A_arr {E : AV} {R : Room} {nL : Nat} {Q : State → Prop} {ad0 : Nat → Nat} {n0 cells slots pc : Nat} {lv : List (Nat × Value)} {st : List Value} {h h' : List AE} (i : Nat) {n : Nat} {f : Nat → Int32} (g : Nat → Int32) (hh : getO h i = some (.inl (0, n, .inl f))) (hs : setO h i (.inl (0, n, .inl g)) = some h') (he : ∀ j, j < n → f j = g j) (kk : AW E R nL Q ad0 n0 cells slots pc lv st h') : AW E R nL Q ad0 n0 cells slots pc lv st h := by
  obtain ⟨p, l, e, s, m, args, below, meth, c, D, tc, sa, A⟩ := E
  intro ad H locs ls hP hD hS hl hn h0 h1
  obtain ⟨e1, e2⟩ := cw_set (ad := ad) (sa := sa) (tc := tc) hs
  refine kk ad H locs ls ?_ ?_ hS hl (e2.trans hn) h0 h1
  · rw [e1]
    refine va_P.set hP hD (cw_get hh) ?_ (fun _ _ => rfl)
    have h2 := hP i _ (cw_get hh)
    show H[ad i]? = some (vp_cell (tc 0) (n, .inl g))
    have h3 : H[ad i]? = some (vp_cell (tc 0) (n, .inl f)) := h2
    rw [h3, vp_cell_i, vp_cell_i, arrV_ext (g := fun j => .int (g j)) (fun j hj => by rw [he j hj])]
  · rw [e1]
    exact va_D.set hD (cw_get hh)
