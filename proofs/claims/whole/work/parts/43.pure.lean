/-! WHAT IS HEARD ELSEWHERE CHANGES NOTHING: states that agree but for HEARD and TURNS of some homes -/
def EqX (X : Nat → Prop) (s r : St) : Prop := ∀ z, ¬ (∃ h, X h ∧ (z = 9 + 5 * h + 2 ∨ z = 9 + 5 * h + 3)) → s z = r z
theorem EqX.lo {X : Nat → Prop} {s r : St} (e : EqX X s r) {z : Nat} (hz : z < 9) : s z = r z := e z (by rintro ⟨h, -, q | q⟩ <;> omega)
theorem EqX.it {X : Nat → Prop} {s r : St} (e : EqX X s r) (h : Nat) {j : Nat} (hj : j = 0 ∨ j = 1 ∨ j = 4) : its s h j = its r h j := e _ (by rintro ⟨h', -, q | q⟩ <;> omega)
theorem EqX.own {X : Nat → Prop} {s r : St} (e : EqX X s r) {h j : Nat} (hj : j < 5) (hX : ¬ X h) : its s h j = its r h j := e _ (by
  rintro ⟨h', hx, q | q⟩
  · have : h' = h := by omega
    exact hX (this ▸ hx)
  · have : h' = h := by omega
    exact hX (this ▸ hx))
theorem eqx_hn {X : Nat → Prop} {s r : St} (e : EqX X s r) : hn s = hn r := by unfold hn; rw [e.lo (by omega)]
theorem eqx_at {X : Nat → Prop} {s r : St} (e : EqX X s r) : atN s = atN r := by unfold atN; rw [e.lo (by omega)]
theorem EqX.upd {X : Nat → Prop} {s r : St} (e : EqX X s r) {k : Nat} {v w : Int32} (h : v = w) : EqX X (upd s k v) (upd r k w) := by
  intro z hz
  subst h
  by_cases q : z = k
  · rw [q, upd_s, upd_s]
  · rw [upd_n q, upd_n q]; exact e z hz
theorem eqx_bl {X : Nat → Prop} {s r : St} (e : EqX X s r) (h : Nat) : blunts s h = blunts r h := by
  unfold blunts
  rw [e.it h (Or.inl rfl), e.it h (Or.inr (Or.inl rfl))]
theorem eqx_te {X : Nat → Prop} {s r : St} (e : EqX X s r) (h : Nat) : tells s h = tells r h := by
  unfold tells
  rw [e.it h (Or.inl rfl), e.it h (Or.inr (Or.inl rfl)), e.lo (z := 1) (by omega), e.lo (z := 2) (by omega)]
theorem eqx_le {X : Nat → Prop} {s r : St} (e : EqX X s r) (h : Nat) : leaves s h = leaves r h := by
  unfold leaves
  rw [e.it h (Or.inl rfl), e.it h (Or.inr (Or.inl rfl)), e.lo (z := 1) (by omega), e.lo (z := 2) (by omega), e.lo (z := 0) (by omega), e.lo (z := 8) (by omega)]
theorem eqx_sa {X : Nat → Prop} {s r : St} (e : EqX X s r) (t : Sp) (h : Nat) : said t s h = said t r h := by
  unfold said
  rw [eqx_te e h, e.lo (z := 1) (by omega), e.lo (z := 0) (by omega)]
theorem eqx_be {X : Nat → Prop} {s r : St} (e : EqX X s r) (t : Sp) (h : Nat) : behind t s h = behind t r h := by
  unfold behind
  rw [eqx_le e h, e.lo (z := 2) (by omega), e.lo (z := 0) (by omega)]
theorem eqx_nx {X : Nat → Prop} {s r : St} (e : EqX X s r) (n a : Nat) : ∀ m k, nxtF s n a m k = nxtF r n a m k
  | 0, _ => rfl
  | m + 1, k => by rw [nxtF_s, nxtF_s, e.it _ (Or.inr (Or.inr rfl)), eqx_nx e n a m (k + 1)]
theorem eqx_nxt {X : Nat → Prop} {s r : St} (e : EqX X s r) : nxt s = nxt r := by
  unfold nxt
  rw [eqx_nx e, eqx_hn e, eqx_at e]
theorem eqx_go2 {X : Nat → Prop} {s r : St} (e : EqX X s r) (t1 : Sp) : EqX X (go2 t1 s) (go2 t1 r) := by
  unfold go2
  rw [eqx_at e]
  exact (e.upd (eqx_be e t1 _)).upd (by rw [e.lo (z := 2) (by omega), eqx_bl e])
theorem eqx_car {X : Nat → Prop} {s r : St} (e : EqX X s r) (t1 : Sp) : EqX X (carS t1 s) (carS t1 r) := by
  have e1 : EqX X (goS t1 s) (goS t1 r) := by
    unfold goS
    rw [eqx_hn e]
    by_cases h : 0 < hn r
    · rw [if_pos h, if_pos h]
      exact (eqx_go2 e t1).upd (by rw [eqx_nxt (eqx_go2 e t1)])
    · rw [if_neg h, if_neg h]; exact e
  unfold carS ageS
  rw [e1.lo (z := 0) (by omega), e1.lo (z := 3) (by omega)]
  by_cases h : rm (goS t1 r 0 + 1) (goS t1 r 3) = 0
  · rw [if_pos h, if_pos h]
    exact (e1.upd rfl).upd rfl
  · rw [if_neg h, if_neg h]
    exact e1.upd rfl
/-- one hears what is not asked -/
theorem eqx_hr {X : Nat → Prop} {s r : St} (e : EqX X s r) (t0 : Sp) (hX : X (atN r)) : EqX X s (hearS t0 r) := by
  unfold hearS
  by_cases h : 0 < hn r
  · rw [if_pos h]
    intro z hz
    rw [upd_n (fun q => hz ⟨_, hX, Or.inr q⟩), upd_n (fun q => hz ⟨_, hX, Or.inl q⟩)]
    exact e z hz
  · rw [if_neg h]; exact e
theorem eqx_hh {X : Nat → Prop} {s r : St} (e : EqX X s r) (t0 : Sp) (hX : ¬ X (atN s)) : EqX X (hearS t0 s) (hearS t0 r) := by
  unfold hearS
  rw [← eqx_hn e, ← eqx_at e]
  by_cases h : 0 < hn s
  · rw [if_pos h, if_pos h]
    refine (e.upd ?_).upd ?_
    · rw [e.own (by omega) hX, eqx_sa e]
    · rw [e.own (by omega) hX]
  · rw [if_neg h, if_neg h]; exact e
theorem eqx_df {k : Nat} {s r : St} (e : EqX (fun h => h ≠ k) s r) (t0 t1 : Sp) : EqX (fun h => h ≠ k) (dayF t0 t1 k s) (day1 t0 t1 r) := by
  unfold dayF day1
  by_cases h : atN s = k
  · rw [if_pos h]
    exact eqx_car (eqx_hh e t0 (fun z => z h)) t1
  · rw [if_neg h]
    exact eqx_car (eqx_hr e t0 (by rw [← eqx_at e]; exact h)) t1
theorem eqx_dF {k : Nat} (t0 t1 : Sp) : ∀ (n : Nat) {s r : St}, EqX (fun h => h ≠ k) s r → EqX (fun h => h ≠ k) (dF t0 t1 k n s) (dN t0 t1 n r)
  | 0, _, _, e => e
  | n + 1, _, _, e => eqx_dF t0 t1 n (eqx_df e t0 t1)
theorem eqx_cN (t0 t1 : Sp) : ∀ (n : Nat) {s r : St}, EqX (fun _ => True) s r → EqX (fun _ => True) (cN t1 n s) (dN t0 t1 n r)
  | 0, _, _, e => e
  | n + 1, _, _, e => eqx_cN t0 t1 n (eqx_car (eqx_hr e t0 trivial) t1)
theorem eqx_rf {X : Nat → Prop} (s : St) : EqX X s s := fun _ _ => rfl
theorem dF_dN (t0 t1 : Sp) (k n : Nat) (s : St) : its (dF t0 t1 k n s) k 2 = its (dN t0 t1 n s) k 2 := (eqx_dF t0 t1 n (eqx_rf s)).own (by omega) (fun z => z rfl)
theorem cN_dN (t0 t1 : Sp) (n : Nat) (s : St) : cN t1 n s 1 = dN t0 t1 n s 1 := (eqx_cN t0 t1 n (eqx_rf s)).lo (by omega)
/-- SOONEST, as both have it -/
theorem du_eq (t0 t1 : Sp) (k : Nat) (v : Int32) (B : Nat) (hB : B < 1000) : ∀ (m d : Nat) {s r : St}, d + m = B + 1 → EqX (fun h => h ≠ k) s r → ∃ j : Nat, j ≤ B + 1 ∧ duM t0 t1 k v m d r = nI j ∧ du t0 t1 k v m d s = if j = B + 1 then -1 else nI j
  | 0, d, s, r, hd, e => ⟨d, by omega, rfl, by show (-1 : Int32) = _; rw [if_pos (by omega)]⟩
  | m + 1, d, s, r, hd, e => by
    rw [du, duM, e.own (by omega) (fun z => z rfl)]
    by_cases h : v ≤ its r k 2
    · rw [if_pos h, if_pos h]
      exact ⟨d, by omega, rfl, by rw [if_neg (by omega)]⟩
    · rw [if_neg h, if_neg h]
      exact du_eq t0 t1 k v B hB m (d + 1) (by omega) (eqx_df e t0 t1)
/-- START FOR -/
theorem ss_eq (t0 t1 : Sp) (s : St) (k n : Nat) : ∀ (m a : Nat) (q : Int32 × Int32), ssF t0 t1 s k n m a q = ssM t0 t1 s k n m a q
  | 0, _, _ => rfl
  | m + 1, a, q => by rw [ssF, ssM, dF_dN, ss_eq t0 t1 s k n m (a + 1)]
theorem ss_st (t0 t1 : Sp) {s : St} (w : wf s) (k n : Nat) (hk : k < hn s) : ssF t0 t1 s k n (hn s) 0 (-1, -1) = ssM t0 t1 s k n (hn s) 0 (0, -1) := by
  rw [ss_eq]
  obtain ⟨m, hm⟩ : ∃ m, hn s = m + 1 := ⟨hn s - 1, by omega⟩
  have w4 := wf_4 (a := 0) w (by omega)
  have w1 := w.1
  obtain ⟨j, hj, e⟩ := ((wf_dN (t0 := t0) (t1 := t1) n w4).2.2.2.2.1 k (by omega)).2.2.1
  have hp : (-1 : Int32) < its (dN t0 t1 n (upd s 4 (nI 0))) k 2 := by
    rw [e]
    exact Int32.lt_of_lt_of_le (show (-1 : Int32) < 0 by decide) (nI_pos' (by omega))
  rw [hm, ssM, ssM, if_pos hp, if_pos hp]
/-- ODDS -/
theorem lv_eq (t0 t1 : Sp) (s : St) (k n : Nat) (v : Int32) : ∀ (m i c : Nat), lvF' t0 t1 s k n v m i (nI c) = nI (lvN t0 t1 s k n v m i c)
  | 0, _, _ => rfl
  | m + 1, i, c => by
    rw [lvF', lvN, dF_dN]
    by_cases h : v ≤ its (dN t0 t1 n (upd s 1 (nI i))) k 2
    · rw [if_pos h, if_pos h, nI_1]
      exact lv_eq t0 t1 s k n v m (i + 1) (c + 1)
    · rw [if_neg h, if_neg h]
      exact lv_eq t0 t1 s k n v m (i + 1) c
/-- FITS -/
theorem ft_eq (t0 t1 : Sp) (v : Nat → Int32) : ∀ (m i : Nat) {s r : St}, EqX (fun _ => True) s r → ftF t1 v m i s = ftM t0 t1 v m i r
  | 0, _, _, _, _ => rfl
  | m + 1, i, s, r, e => by
    rw [ftF, ftM, e.lo (z := 1) (by omega)]
    by_cases h : r 1 = v i
    · rw [if_pos h, if_pos h.symm]
      exact ft_eq t0 t1 v m (i + 1) (eqx_car (eqx_hr e t0 trivial) t1)
    · rw [if_neg h, if_neg (fun z => h z.symm)]
theorem pf_eq (t0 t1 : Sp) (s : St) (v : Nat → Int32) (z : Nat) : ∀ (m a c : Nat), a + m ≤ 8 → c < 2 ^ a → pfF t1 s v z m a (nI c) = nI (ptM t0 t1 s v z m a c)
  | 0, _, _, _, _ => rfl
  | m + 1, a, c, ha, hc => by
    rw [pfF, ptM, ft_eq t0 t1 v z 0 (eqx_rf (upd s 4 (nI a)))]
    by_cases h : ftM t0 t1 v z 0 (upd s 4 (nI a)) = true
    · rw [if_pos h, if_pos h, or_1 (by omega) hc]
      exact pf_eq t0 t1 s v z m (a + 1) (c + 2 ^ a) (by omega) (by rw [Nat.pow_succ]; omega)
    · rw [if_neg h, if_neg h]
      exact pf_eq t0 t1 s v z m (a + 1) c (by omega) (by rw [Nat.pow_succ]; omega)
/-- the numbers told -/
theorem ck_eq (t0 : Sp) (s : St) (v : Nat → Int32) (B : Nat) (hv : ∀ i, i < B → v i = s (359 + i)) : ∀ (m k : Nat), k + m = B → ∃ j : Nat, k ≤ j ∧ j ≤ B ∧ rsF t0 s v m k = j ∧ chk t0 s m k = if j = B then 0 else 1 + nI j
  | 0, k, hk => ⟨k, Nat.le_refl _, by omega, rfl, by rw [if_pos (by omega)]; rfl⟩
  | m + 1, k, hk => by
    rw [rsF, chk, hv k (by omega)]
    by_cases h : k < hn s ∧ s (359 + k) = said t0 s k
    · rw [if_pos h, if_pos h]
      obtain ⟨j, h1, h2, h3, h4⟩ := ck_eq t0 s v B hv m (k + 1) (by omega)
      exact ⟨j, by omega, h2, h3, h4⟩
    · rw [if_neg h, if_neg h]
      exact ⟨k, Nat.le_refl _, by omega, rfl, by rw [if_neg (by omega)]⟩
