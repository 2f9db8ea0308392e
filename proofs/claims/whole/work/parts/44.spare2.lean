/-! SPARE: the fewest, found in two ways -/
def cb (a b : Nat) : Nat := if b = 1 then 0 else a
def clr (y p : Nat) : Nat := cb (y / 2 ^ 0 % 2) (p / 2 ^ 0 % 2) + 2 * cb (y / 2 ^ 1 % 2) (p / 2 ^ 1 % 2) + 4 * cb (y / 2 ^ 2 % 2) (p / 2 ^ 2 % 2) + 8 * cb (y / 2 ^ 3 % 2) (p / 2 ^ 3 % 2) + 16 * cb (y / 2 ^ 4 % 2) (p / 2 ^ 4 % 2) + 32 * cb (y / 2 ^ 5 % 2) (p / 2 ^ 5 % 2) + 64 * cb (y / 2 ^ 6 % 2) (p / 2 ^ 6 % 2) + 128 * cb (y / 2 ^ 7 % 2) (p / 2 ^ 7 % 2)
theorem cb_le (a b : Nat) (h : a ≤ 1) : cb a b ≤ 1 := by unfold cb; split <;> omega
theorem cb_le' (a b : Nat) : cb a b ≤ a := by unfold cb; split <;> omega
theorem m2 (y : Nat) : y % 2 ≤ 1 := by omega
theorem clr_bit (y p : Nat) {h : Nat} (hh : h < 8) : clr y p / 2 ^ h % 2 = cb (y / 2 ^ h % 2) (p / 2 ^ h % 2) := by
  unfold clr
  have h0 := cb_le (y / 2 ^ 0 % 2) (p / 2 ^ 0 % 2) (m2 _)
  have h1 := cb_le (y / 2 ^ 1 % 2) (p / 2 ^ 1 % 2) (m2 _)
  have h2 := cb_le (y / 2 ^ 2 % 2) (p / 2 ^ 2 % 2) (m2 _)
  have h3 := cb_le (y / 2 ^ 3 % 2) (p / 2 ^ 3 % 2) (m2 _)
  have h4 := cb_le (y / 2 ^ 4 % 2) (p / 2 ^ 4 % 2) (m2 _)
  have h5 := cb_le (y / 2 ^ 5 % 2) (p / 2 ^ 5 % 2) (m2 _)
  have h6 := cb_le (y / 2 ^ 6 % 2) (p / 2 ^ 6 % 2) (m2 _)
  have h7 := cb_le (y / 2 ^ 7 % 2) (p / 2 ^ 7 % 2) (m2 _)
  match h, hh with
  | 0, _ => omega
  | 1, _ => omega
  | 2, _ => omega
  | 3, _ => omega
  | 4, _ => omega
  | 5, _ => omega
  | 6, _ => omega
  | 7, _ => omega
theorem pop_le' : ∀ n, n < 9 → ∀ y, y < 2 ^ n → pop y ≤ n := by decide +kernel
theorem pop_clr (y p : Nat) : pop (clr y p) + (if ∃ h, h < 8 ∧ y / 2 ^ h % 2 = 1 ∧ p / 2 ^ h % 2 = 1 then 1 else 0) ≤ pop y := by
  have e : pop (clr y p) = cb (y / 2 ^ 0 % 2) (p / 2 ^ 0 % 2) + cb (y / 2 ^ 1 % 2) (p / 2 ^ 1 % 2) + cb (y / 2 ^ 2 % 2) (p / 2 ^ 2 % 2) + cb (y / 2 ^ 3 % 2) (p / 2 ^ 3 % 2) + cb (y / 2 ^ 4 % 2) (p / 2 ^ 4 % 2) + cb (y / 2 ^ 5 % 2) (p / 2 ^ 5 % 2) + cb (y / 2 ^ 6 % 2) (p / 2 ^ 6 % 2) + cb (y / 2 ^ 7 % 2) (p / 2 ^ 7 % 2) := by
    rw [← clr_bit y p (h := 0) (by omega), ← clr_bit y p (h := 1) (by omega), ← clr_bit y p (h := 2) (by omega), ← clr_bit y p (h := 3) (by omega), ← clr_bit y p (h := 4) (by omega), ← clr_bit y p (h := 5) (by omega), ← clr_bit y p (h := 6) (by omega), ← clr_bit y p (h := 7) (by omega)]
    show clr y p % 2 + clr y p / 2 % 2 + clr y p / 4 % 2 + clr y p / 8 % 2 + clr y p / 16 % 2 + clr y p / 32 % 2 + clr y p / 64 % 2 + clr y p / 128 % 2 = clr y p / 1 % 2 + clr y p / 2 % 2 + clr y p / 4 % 2 + clr y p / 8 % 2 + clr y p / 16 % 2 + clr y p / 32 % 2 + clr y p / 64 % 2 + clr y p / 128 % 2
    rw [Nat.div_one]
  have e2 : pop y = y / 2 ^ 0 % 2 + y / 2 ^ 1 % 2 + y / 2 ^ 2 % 2 + y / 2 ^ 3 % 2 + y / 2 ^ 4 % 2 + y / 2 ^ 5 % 2 + y / 2 ^ 6 % 2 + y / 2 ^ 7 % 2 := by
    show y % 2 + y / 2 % 2 + y / 4 % 2 + y / 8 % 2 + y / 16 % 2 + y / 32 % 2 + y / 64 % 2 + y / 128 % 2 = y / 1 % 2 + y / 2 % 2 + y / 4 % 2 + y / 8 % 2 + y / 16 % 2 + y / 32 % 2 + y / 64 % 2 + y / 128 % 2
    rw [Nat.div_one]
  rw [e, e2]
  have h0 := cb_le' (y / 2 ^ 0 % 2) (p / 2 ^ 0 % 2)
  have h1 := cb_le' (y / 2 ^ 1 % 2) (p / 2 ^ 1 % 2)
  have h2 := cb_le' (y / 2 ^ 2 % 2) (p / 2 ^ 2 % 2)
  have h3 := cb_le' (y / 2 ^ 3 % 2) (p / 2 ^ 3 % 2)
  have h4 := cb_le' (y / 2 ^ 4 % 2) (p / 2 ^ 4 % 2)
  have h5 := cb_le' (y / 2 ^ 5 % 2) (p / 2 ^ 5 % 2)
  have h6 := cb_le' (y / 2 ^ 6 % 2) (p / 2 ^ 6 % 2)
  have h7 := cb_le' (y / 2 ^ 7 % 2) (p / 2 ^ 7 % 2)
  by_cases hx : ∃ h, h < 8 ∧ y / 2 ^ h % 2 = 1 ∧ p / 2 ^ h % 2 = 1
  · rw [if_pos hx]
    obtain ⟨h, hh, a, b⟩ := hx
    match h, hh, a, b with
    | 0, _, a, b =>
      have hz : cb (y / 2 ^ 0 % 2) (p / 2 ^ 0 % 2) = 0 := if_pos b
      omega
    | 1, _, a, b =>
      have hz : cb (y / 2 ^ 1 % 2) (p / 2 ^ 1 % 2) = 0 := if_pos b
      omega
    | 2, _, a, b =>
      have hz : cb (y / 2 ^ 2 % 2) (p / 2 ^ 2 % 2) = 0 := if_pos b
      omega
    | 3, _, a, b =>
      have hz : cb (y / 2 ^ 3 % 2) (p / 2 ^ 3 % 2) = 0 := if_pos b
      omega
    | 4, _, a, b =>
      have hz : cb (y / 2 ^ 4 % 2) (p / 2 ^ 4 % 2) = 0 := if_pos b
      omega
    | 5, _, a, b =>
      have hz : cb (y / 2 ^ 5 % 2) (p / 2 ^ 5 % 2) = 0 := if_pos b
      omega
    | 6, _, a, b =>
      have hz : cb (y / 2 ^ 6 % 2) (p / 2 ^ 6 % 2) = 0 := if_pos b
      omega
    | 7, _, a, b =>
      have hz : cb (y / 2 ^ 7 % 2) (p / 2 ^ 7 % 2) = 0 := if_pos b
      omega
  · rw [if_neg hx]
    omega
theorem nI_and {a b : Nat} (ha : a < 256) (hb : b < 256) : nI a &&& nI b = nI (a &&& b) := by
  have hx : a &&& b ≤ a := Nat.and_le_left
  apply Int32.toBitVec_inj.mp
  apply BitVec.eq_of_toNat_eq
  rw [Int32.toBitVec_and, BitVec.toNat_and, pk_tn (by omega), pk_tn (by omega), pk_tn (by omega)]
theorem and_0 {a b : Nat} (ha : a < 256) (hb : b < 256) : (nI a &&& nI b = 0) ↔ ¬ ∃ h, h < 8 ∧ a / 2 ^ h % 2 = 1 ∧ b / 2 ^ h % 2 = 1 := by
  rw [nI_and ha hb]
  have hx : a &&& b ≤ a := Nat.and_le_left
  constructor
  · intro z
    have z0 : a &&& b = 0 := by
      have := congrArg Int32.toNatClampNeg z
      rw [nI_clamp (by omega)] at this
      exact this
    rintro ⟨h, hh, q, r⟩
    have e := Nat.testBit_and a b h
    rw [z0, Nat.zero_testBit, Nat.testBit_eq_decide_div_mod_eq, Nat.testBit_eq_decide_div_mod_eq, decide_eq_true q, decide_eq_true r] at e
    exact absurd e (by decide)
  · intro z
    have z0 : a &&& b = 0 := by
      apply Nat.eq_of_testBit_eq
      intro h
      rw [Nat.testBit_and, Nat.zero_testBit, Nat.testBit_eq_decide_div_mod_eq, Nat.testBit_eq_decide_div_mod_eq]
      by_cases hh : h < 8
      · by_cases q : a / 2 ^ h % 2 = 1
        · rw [decide_eq_true q, decide_eq_false (fun r => z ⟨h, hh, q, r⟩)]
          rfl
        · rw [decide_eq_false q]
          rfl
      · have : a < 2 ^ h := Nat.lt_of_lt_of_le ha (Nat.pow_le_pow_right (n := 2) (by omega) (show 8 ≤ h by omega))
        rw [Nat.div_eq_of_lt this]
        rfl
    rw [z0]
    rfl
theorem clr_lt (y p : Nat) {N : Nat} (hy : y < 2 ^ N) (hN : N ≤ 8) : clr y p < 2 ^ N := by
  have e : clr y p ≤ y := by
    have hy8 : y < 256 := Nat.lt_of_lt_of_le hy (pow_le hN)
    unfold clr
    have h0 := cb_le' (y / 2 ^ 0 % 2) (p / 2 ^ 0 % 2)
    have h1 := cb_le' (y / 2 ^ 1 % 2) (p / 2 ^ 1 % 2)
    have h2 := cb_le' (y / 2 ^ 2 % 2) (p / 2 ^ 2 % 2)
    have h3 := cb_le' (y / 2 ^ 3 % 2) (p / 2 ^ 3 % 2)
    have h4 := cb_le' (y / 2 ^ 4 % 2) (p / 2 ^ 4 % 2)
    have h5 := cb_le' (y / 2 ^ 5 % 2) (p / 2 ^ 5 % 2)
    have h6 := cb_le' (y / 2 ^ 6 % 2) (p / 2 ^ 6 % 2)
    have h7 := cb_le' (y / 2 ^ 7 % 2) (p / 2 ^ 7 % 2)
    simp only [Nat.pow_zero, Nat.div_one, Nat.reducePow] at *
    omega
  omega
theorem orS_clr {s : St} (w : wf s) (y : Nat) : orS (clr y (pmN s)) s = orS y s := by
  funext k
  unfold orS
  by_cases h1 : 9 ≤ k ∧ k < 49 ∧ (k - 9) % 5 = 4
  · have hh : (k - 9) / 5 < 8 := by omega
    rw [clr_bit _ _ hh, pm_bit s hh]
    have hb := bit_le s ((k - 9) / 5)
    by_cases hq : bit s ((k - 9) / 5) = 1
    · have e1 : s k = 1 := by
        have h4 := (w.2.2.2.2.1 _ hh).2.2.2.2.1
        have e2 : its s ((k - 9) / 5) 4 = s k := by unfold its; congr 1; omega
        rw [e2] at h4
        unfold bit at hq
        rw [e2] at hq
        rcases h4 with h4 | h4
        · rw [if_pos h4] at hq; exact absurd hq (by omega)
        · exact h4
      rw [e1, ite_self, ite_self]
    · have e1 : cb (y / 2 ^ ((k - 9) / 5) % 2) (bit s ((k - 9) / 5)) = y / 2 ^ ((k - 9) / 5) % 2 := if_neg hq
      rw [e1]
  · rw [if_neg (fun z => h1 ⟨z.1, z.2.1, z.2.2.1⟩), if_neg (fun z => h1 ⟨z.1, z.2.1, z.2.2.1⟩)]
/-- the best set of those with G -/
def BestS (N : Nat) (G : Nat → Prop) (x : Nat) : Prop := x < N ∧ G x ∧ ∀ y, y < N → G y → pop x < pop y ∨ (pop x = pop y ∧ x ≤ y)
theorem best_one {N : Nat} {G : Nat → Prop} {x y : Nat} (hx : BestS N G x) (hy : BestS N G y) : x = y := by
  have h1 := hx.2.2 y hy.1 hy.2.1
  have h2 := hy.2.2 x hx.1 hx.2.1
  omega
def IsB (N : Nat) (G : Nat → Prop) (f : Option Nat) : Prop := match f with
  | none => ∀ y, y < N → ¬ G y
  | some x => BestS N G x
theorem isb_one {N : Nat} {G : Nat → Prop} {f g : Option Nat} (hf : IsB N G f) (hg : IsB N G g) : f = g := by
  cases f with
  | none => cases g with
    | none => rfl
    | some y => exact absurd hg.2.1 (hf y hg.1)
  | some x => cases g with
    | none => exact absurd hf.2.1 (hg x hf.1)
    | some y => rw [best_one hf hg]
theorem sp_best (t0 t1 : Sp) (s : St) (n : Nat) (v : Int32) : ∀ (m sp : Nat) (f : Option Nat), IsB sp (fun x => dN t0 t1 n (orS x s) 1 ≤ v) f → IsB (sp + m) (fun x => dN t0 t1 n (orS x s) 1 ≤ v) (spM t0 t1 s n v m sp f)
  | 0, _, _, h => h
  | m + 1, sp, f, h => by
    rw [spM, show sp + (m + 1) = sp + 1 + m by omega]
    refine sp_best t0 t1 s n v m (sp + 1) _ ?_
    by_cases hc : isLess sp f ∧ dN t0 t1 n (orS sp s) 1 ≤ v
    · rw [if_pos hc]
      refine ⟨by omega, hc.2, fun y hy gy => ?_⟩
      by_cases e : y = sp
      · exact Or.inr ⟨by rw [e], by omega⟩
      · cases f with
        | none => exact absurd gy (h y (by omega))
        | some x =>
          have h1 := h.2.2 y (by omega) gy
          have h2 : pop sp < pop x := hc.1
          omega
    · rw [if_neg hc]
      cases f with
      | none =>
        intro y hy gy
        by_cases e : y = sp
        · exact hc ⟨trivial, e ▸ gy⟩
        · exact h y (by omega) gy
      | some x =>
        refine ⟨by have := h.1; omega, h.2.1, fun y hy gy => ?_⟩
        by_cases e : y = sp
        · have h2 : ¬ pop sp < pop x := fun z => hc ⟨z, e ▸ gy⟩
          have := h.1
          rw [e]
          omega
        · exact h.2.2 y (by omega) gy
theorem fi_spec (t1 : Sp) (s : St) (n : Nat) (v : Int32) (size : Nat) : ∀ (m sp : Nat), match fpI t1 s n v size m sp with
    | none => ∀ y, sp ≤ y → y < sp + m → ¬ (pop y = size ∧ nI y &&& pm s = 0 ∧ cN t1 n (orS y s) 1 ≤ v)
    | some x => sp ≤ x ∧ x < sp + m ∧ (pop x = size ∧ nI x &&& pm s = 0 ∧ cN t1 n (orS x s) 1 ≤ v) ∧ ∀ y, sp ≤ y → y < x → ¬ (pop y = size ∧ nI y &&& pm s = 0 ∧ cN t1 n (orS y s) 1 ≤ v)
  | 0, sp => by rw [fpI]; intro y h1 h2; omega
  | m + 1, sp => by
    rw [fpI]
    by_cases hc : pop sp = size ∧ nI sp &&& pm s = 0 ∧ cN t1 n (orS sp s) 1 ≤ v
    · rw [if_pos hc]
      exact ⟨Nat.le_refl _, by omega, hc, fun y h1 h2 => by omega⟩
    · rw [if_neg hc]
      have ih := fi_spec t1 s n v size m (sp + 1)
      cases hf : fpI t1 s n v size m (sp + 1) with
      | none =>
        rw [hf] at ih
        intro y h1 h2
        by_cases e : y = sp
        · rw [e]; exact hc
        · exact ih y (by omega) (by omega)
      | some x =>
        rw [hf] at ih
        refine ⟨by omega, by omega, ih.2.2.1, fun y h1 h2 => ?_⟩
        by_cases e : y = sp
        · rw [e]; exact hc
        · exact ih.2.2.2 y (by omega) h2
theorem fo_spec (t1 : Sp) (s : St) (n : Nat) (v : Int32) (N : Nat) : ∀ (m size : Nat), size + m = N + 1 → (∀ y, y < 2 ^ hn s → pop y ≤ N) → (∀ y, y < 2 ^ hn s → (nI y &&& pm s = 0 ∧ cN t1 n (orS y s) 1 ≤ v) → size ≤ pop y) → IsB (2 ^ hn s) (fun y => nI y &&& pm s = 0 ∧ cN t1 n (orS y s) 1 ≤ v) (fpO t1 s n v m size)
  | 0, size, hm, hN, hl => by
    rw [fpO]
    intro y hy gy
    have := hN y hy
    have := hl y hy gy
    omega
  | m + 1, size, hm, hN, hl => by
    rw [fpO]
    have h1 := fi_spec t1 s n v size (2 ^ hn s) 0
    cases hf : fpI t1 s n v size (2 ^ hn s) 0 with
    | some x =>
      rw [hf] at h1
      refine ⟨by omega, h1.2.2.1.2, fun y hy gy => ?_⟩
      have h2 := hl y hy gy
      have h3 := h1.2.2.1.1
      by_cases e : pop y = size
      · refine Or.inr ⟨by omega, ?_⟩
        rcases Nat.lt_or_ge y x with q | q
        · exact absurd ⟨e, gy⟩ (h1.2.2.2 y (Nat.zero_le _) q)
        · exact q
      · exact Or.inl (by omega)
    | none =>
      rw [hf] at h1
      refine fo_spec t1 s n v N m (size + 1) (by omega) hN (fun y hy gy => ?_)
      have h2 := hl y hy gy
      have h3 := h1 y (Nat.zero_le _) (by omega)
      rcases Nat.lt_or_ge size (pop y) with q | q
      · exact q
      · exact absurd ⟨by omega, gy⟩ h3
theorem spare_eq (t0 t1 : Sp) {s : St} (w : wf s) (n : Nat) (v : Int32) : fpO t1 s n v (hn s + 1) 0 = spM t0 t1 s n v (2 ^ hn s) 0 none := by
  have w1 := w.1
  have hp := pow_le w1
  have a1 := fo_spec t1 s n v (hn s) (hn s + 1) 0 (by omega) (fun y hy => pop_le' (hn s) (by omega) y hy) (fun _ _ _ => Nat.zero_le _)
  have a2 := sp_best t0 t1 s n v (2 ^ hn s) 0 none (fun y hy => by omega)
  rw [Nat.zero_add] at a2
  refine isb_one a1 ?_
  have key : ∀ y, y < 2 ^ hn s → dN t0 t1 n (orS y s) 1 ≤ v → ¬ nI y &&& pm s = 0 → ∃ z, z < 2 ^ hn s ∧ dN t0 t1 n (orS z s) 1 ≤ v ∧ pop z < pop y := by
    intro y hy gy hc
    refine ⟨clr y (pmN s), clr_lt y _ hy w1, by rw [orS_clr w]; exact gy, ?_⟩
    have h2 : ∃ h, h < 8 ∧ y / 2 ^ h % 2 = 1 ∧ pmN s / 2 ^ h % 2 = 1 := by
      by_cases q : ∃ h, h < 8 ∧ y / 2 ^ h % 2 = 1 ∧ pmN s / 2 ^ h % 2 = 1
      · exact q
      · exact absurd ((and_0 (by omega) (pmN_lt s)).mpr q) hc
    have h3 := pop_clr y (pmN s)
    rw [if_pos h2] at h3
    omega
  cases hf : spM t0 t1 s n v (2 ^ hn s) 0 none with
  | none =>
    rw [hf] at a2
    intro y hy gy
    exact a2 y hy (by show dN t0 t1 n (orS y s) 1 ≤ v; rw [← cN_dN]; exact gy.2)
  | some x =>
    rw [hf] at a2
    obtain ⟨b1, b2, b3⟩ := a2
    refine ⟨b1, ⟨?_, by rw [cN_dN t0]; exact b2⟩, fun y hy gy => b3 y hy (by show dN t0 t1 n (orS y s) 1 ≤ v; rw [← cN_dN]; exact gy.2)⟩
    by_cases q : nI x &&& pm s = 0
    · exact q
    · obtain ⟨z, z1, z2, z3⟩ := key x b1 b2 q
      have := b3 z z1 z2
      omega
/-- the bytes of a word, told in two ways -/
theorem hi_0 : ∀ j, j < 32 → 8 ≤ j → (255 : Int32).toBitVec.getLsbD j = false := by decide
theorem am_l : ∀ i, i < 8 → ((8 * nI i : Int32).toInt64.toUInt64 &&& Int64.toUInt64 63).toBitVec % 64 = BitVec.ofNat 64 (8 * i) ∧ ((8 * nI i : Int32).toInt64 &&& 63).toBitVec.smod 64 = BitVec.ofNat 64 (8 * i) := by decide +kernel
theorem byte_eq (c : Int64) (i : Nat) (hi : i < 8) : ((c.toUInt64 >>> ((8 * nI i : Int32).toInt64.toUInt64 &&& Int64.toUInt64 63)).toInt64).toInt32 &&& 255 = byteAt c i := by
  obtain ⟨e1, e2⟩ := am_l i hi
  unfold byteAt
  rw [Int64.toInt32_and, show (255 : Int64).toInt32 = 255 by decide]
  apply Int32.toBitVec_inj.mp
  rw [Int32.toBitVec_and, Int32.toBitVec_and]
  apply BitVec.eq_of_getLsbD_eq
  intro j hj
  rw [BitVec.getLsbD_and, BitVec.getLsbD_and]
  by_cases h8 : j < 8
  · congr 1
    show (BitVec.signExtend 32 (c.toBitVec >>> (((8 * nI i : Int32).toInt64.toUInt64 &&& Int64.toUInt64 63).toBitVec % 64))).getLsbD j = (BitVec.signExtend 32 (c.toBitVec.sshiftRight' (((8 * nI i : Int32).toInt64 &&& 63).toBitVec.smod 64))).getLsbD j
    rw [e1, e2, BitVec.getLsbD_signExtend, BitVec.getLsbD_signExtend, BitVec.ushiftRight_eq', BitVec.sshiftRight_eq', BitVec.getLsbD_ushiftRight, BitVec.getLsbD_sshiftRight, BitVec.toNat_ofNat, Nat.mod_eq_of_lt (show 8 * i < 2 ^ 64 by omega)]
    rw [if_pos (show j < 64 by omega), if_pos (show j < 64 by omega), if_pos (show 8 * i + j < 64 by omega)]
    rw [decide_eq_false (show ¬ 64 ≤ j by omega)]
    rfl
  · rw [hi_0 j hj (by omega), Bool.and_false, Bool.and_false]
theorem byte_rng (c : Int64) (i : Nat) (hi : i < 8) : ∃ b : Nat, b < 256 ∧ byteAt c i = nI b := by
  rw [← byte_eq c i hi]
  generalize ((c.toUInt64 >>> ((8 * nI i : Int32).toInt64.toUInt64 &&& Int64.toUInt64 63)).toInt64).toInt32 = x
  refine ⟨x.toBitVec.toNat % 256, Nat.mod_lt _ (by omega), ?_⟩
  apply Int32.toBitVec_inj.mp
  apply BitVec.eq_of_toNat_eq
  rw [Int32.toBitVec_and, BitVec.toNat_and, pk_tn (by omega)]
  exact Nat.and_two_pow_sub_one_eq_mod x.toBitVec.toNat 8
