/-! WHAT STAYS: the state that both sides tell -/
def JS (s : St) (t0 : Sp) (g0 : Nat → Int32) (t1 : Sp) (g1 : Nat → Int32) (tl : Nat) (tp : Nat → Int32) (wl : Nat) (wt : Nat → Int32) : Prop :=
  wf s ∧ (MText s 0 t0 ∧ MText s 1 t1) ∧ (LawC 0 t0 g0 ∧ LawC 1 t1 g1) ∧ (s 6 = nI tl ∧ tl ≤ 60 ∧ ∀ i, i < tl → tp i = s (299 + i) ∧ ∃ b : Nat, b < 256 ∧ s (299 + i) = nI b) ∧ (s 7 = nI wl ∧ wl ≤ 24 ∧ ∀ i, i < wl → wt i = s (359 + i))
theorem MT_same {s r : St} {u : Nat} {ss : Sp} (h : ∀ z, 49 ≤ z → r z = s z) (m : MText s u ss) : MText r u ss := by
  obtain ⟨m1, m2, m3⟩ := m
  exact ⟨m1, by rw [h _ (by omega)]; exact m2, fun i hi => by rw [h _ (by omega), h _ (by omega)]; exact m3 i hi⟩
theorem JS.same {s r : St} {t0 : Sp} {g0 : Nat → Int32} {t1 : Sp} {g1 : Nat → Int32} {tl : Nat} {tp : Nat → Int32} {wl : Nat} {wt : Nat → Int32} (h : JS s t0 g0 t1 g1 tl tp wl wt) (w : wf r) (e6 : r 6 = s 6) (e7 : r 7 = s 7) (eh : ∀ z, 49 ≤ z → r z = s z) : JS r t0 g0 t1 g1 tl tp wl wt := by
  obtain ⟨-, ⟨m0, m1⟩, l, ⟨a1, a2, a3⟩, ⟨b1, b2, b3⟩⟩ := h
  exact ⟨w, ⟨MT_same eh m0, MT_same eh m1⟩, l, ⟨by rw [e6]; exact a1, a2, fun i hi => by rw [eh _ (by omega)]; exact a3 i hi⟩, ⟨by rw [e7]; exact b1, b2, fun i hi => by rw [eh _ (by omega)]; exact b3 i hi⟩⟩
theorem wf_at {s r : St} {k : Nat} (w : wf s) (he : ∀ z, ¬ (9 + 5 * k ≤ z ∧ z < 14 + 5 * k) → r z = s z) (hw : wfH r (hn s) k) : wf r := by
  obtain ⟨w1, w2, w3, w4, w5, w6, w7⟩ := w
  have e8 : r 8 = s 8 := he 8 (by omega)
  have e4 : r 4 = s 4 := he 4 (by omega)
  have eh : hn r = hn s := by unfold hn; rw [e8]
  have ea : atN r = atN s := by unfold atN; rw [e4]
  unfold wf
  rw [eh, ea, e8, e4, he 2 (by omega), he 3 (by omega)]
  refine ⟨w1, w2, w3, w4, fun h hh => ?_, w6, w7⟩
  by_cases e : h = k
  · rw [e]; exact hw
  · have ei : ∀ j, j < 5 → its r h j = its s h j := fun j hj => he _ (by omega)
    have := w5 h hh
    unfold wfH at this ⊢
    rw [ei 0 (by omega), ei 1 (by omega), ei 2 (by omega), ei 3 (by omega), ei 4 (by omega)]
    exact this
theorem wf_bec {s : St} {k : Nat} {a b : Int32} (w : wf s) (hk : k < hn s) (ha : ∃ q : Nat, q < 7 ∧ a = nI q) (hb : ∃ q : Nat, q < 10 ∧ b = nI q) : wf (upd (upd s (9 + 5 * k + 0) a) (9 + 5 * k + 1) b) := by
  have w1 := w.1
  refine wf_at (k := k) w (fun z hz => by rw [upd_n (by omega), upd_n (by omega)]) ?_
  obtain ⟨a0, a1, a2, a3, a4, a5⟩ := w.2.2.2.2.1 k (by omega)
  have e : ∀ j, j < 5 → its (upd (upd s (9 + 5 * k + 0) a) (9 + 5 * k + 1) b) k j = if j = 1 then b else if j = 0 then a else its s k j := by
    intro j hj
    rw [its_upd (by omega) hj]
    by_cases q : j = 1
    · rw [if_pos ⟨rfl, q⟩, if_pos q]
    · rw [if_neg (fun z => q z.2), if_neg q, its_upd (by omega) hj]
      by_cases q2 : j = 0
      · rw [if_pos ⟨rfl, q2⟩, if_pos q2]
      · rw [if_neg (fun z => q2 z.2), if_neg q2]
  unfold wfH
  rw [e 0 (by omega), e 1 (by omega), e 2 (by omega), e 3 (by omega), e 4 (by omega)]
  exact ⟨ha, hb, a2, a3, a4, fun z => absurd z (by omega)⟩
theorem wf_pst {s : St} {k : Nat} {v : Int32} (w : wf s) (hk : k < hn s) (hv : v = 0 ∨ v = 1) : wf (upd s (9 + 5 * k + 4) v) := by
  have w1 := w.1
  refine wf_at (k := k) w (fun z hz => by rw [upd_n (by omega)]) ?_
  obtain ⟨a0, a1, a2, a3, a4, a5⟩ := w.2.2.2.2.1 k (by omega)
  have e : ∀ j, j < 4 → its (upd s (9 + 5 * k + 4) v) k j = its s k j := by
    intro j hj
    rw [its_upd (by omega) (by omega), if_neg (fun z => absurd z.2 (by omega))]
  have e4 : its (upd s (9 + 5 * k + 4) v) k 4 = v := by rw [its_upd (by omega) (by omega), if_pos ⟨rfl, rfl⟩]
  unfold wfH
  rw [e 0 (by omega), e 1 (by omega), e 2 (by omega), e 3 (by omega), e4]
  exact ⟨a0, a1, a2, a3, hv, fun z => absurd z (by omega)⟩
theorem wf_ins {s : St} {km : Int32} (w : wf s) (h8 : hn s < 8) (hk : 0 ≤ km ∧ km ≤ 69) : wf (inS km s) := by
  obtain ⟨w1, w2, w3, w4, w5, w6, w7⟩ := w
  obtain ⟨q, hq, rfl⟩ := iK2 (n := 69) hk.1 hk.2 (by omega)
  have ha : nI q / 10 = nI (q / 10) := pk_div (d := 10) (by omega) (by omega) (by omega)
  have hb : rm (nI q) 10 = nI (q % 10) := pk_rem (d := 10) (by omega) (by omega) (by omega)
  have eh : hn (inS (nI q) s) = hn s + 1 := hn_eq upd_s (by omega)
  have e4 : inS (nI q) s 4 = s 4 := by unfold inS; rw [upd_n (by omega), upd_n (by omega), upd_n (by omega)]
  have ea : atN (inS (nI q) s) = atN s := by unfold atN; rw [e4]
  have e : ∀ h j, h < 8 → j < 5 → its (inS (nI q) s) h j = if h = hn s ∧ j = 1 then nI (q % 10) else if h = hn s ∧ j = 0 then nI (q / 10) else its s h j := by
    intro h j hh hj
    unfold inS
    rw [its_upd_lo (by omega), its_upd (by omega) hj, its_upd (by omega) hj, ha, hb]
  unfold wf
  rw [eh, ea, e4, show inS (nI q) s 8 = nI (hn s + 1) from upd_s, show inS (nI q) s 2 = s 2 by unfold inS; rw [upd_n (by omega), upd_n (by omega), upd_n (by omega)], show inS (nI q) s 3 = s 3 by unfold inS; rw [upd_n (by omega), upd_n (by omega), upd_n (by omega)]]
  refine ⟨by omega, rfl, w3, Or.inl (by omega), fun h hh => ?_, w6, w7⟩
  obtain ⟨a0, a1, a2, a3, a4, a5⟩ := w5 h hh
  unfold wfH
  rw [e h 0 hh (by omega), e h 1 hh (by omega), e h 2 hh (by omega), e h 3 hh (by omega), e h 4 hh (by omega)]
  rw [if_neg (show ¬ (h = hn s ∧ 0 = 1) by omega), if_neg (show ¬ (h = hn s ∧ 2 = 1) by omega), if_neg (show ¬ (h = hn s ∧ 2 = 0) by omega), if_neg (show ¬ (h = hn s ∧ 3 = 1) by omega), if_neg (show ¬ (h = hn s ∧ 3 = 0) by omega), if_neg (show ¬ (h = hn s ∧ 4 = 1) by omega), if_neg (show ¬ (h = hn s ∧ 4 = 0) by omega)]
  refine ⟨?_, ?_, a2, a3, a4, fun z => a5 (by omega)⟩
  · by_cases z : h = hn s
    · rw [if_pos ⟨z, rfl⟩]; exact ⟨q / 10, by omega, rfl⟩
    · rw [if_neg (fun y => z y.1)]; exact a0
  · by_cases z : h = hn s
    · rw [if_pos ⟨z, rfl⟩]; exact ⟨q % 10, by omega, rfl⟩
    · rw [if_neg (fun y => z y.1), if_neg (fun y => z y.1)]; exact a1
/-- what days leave as it was -/
theorem day_67 {t0 t1 : Sp} {s : St} (w : wf s) {z : Nat} (hz : z = 6 ∨ z = 7) : day1 t0 t1 s z = s z := by
  have e1 : hearS t0 s z = s z := by
    unfold hearS
    by_cases h : 0 < hn s
    · rw [if_pos h, upd_n (by omega), upd_n (by omega)]
    · rw [if_neg h]
  have e2 : ∀ x : St, goS t1 x z = x z := by
    intro x
    unfold goS go2
    split
    · rw [upd_n (by omega), upd_n (by omega), upd_n (by omega)]
    · rfl
  have e3 : ∀ x : St, ageS x z = x z := by
    intro x
    unfold ageS
    split
    · rw [upd_n (by omega), upd_n (by omega)]
    · rw [upd_n (by omega)]
  rw [day1, carS, e3, e2, e1]
theorem dN_67 {t0 t1 : Sp} {z : Nat} (hz : z = 6 ∨ z = 7) : ∀ (n : Nat) {s : St}, wf s → dN t0 t1 n s z = s z
  | 0, _, _ => rfl
  | n + 1, s, w => by rw [dN, dN_67 hz n (wf_day w), day_67 w hz]
theorem draw_o {s : St} {z : Nat} (hz : z = 6 ∨ z = 7 ∨ 49 ≤ z) : drawS s z = s z := by
  unfold drawS
  split
  · rw [upd_n (by omega), upd_n (by omega)]
  · rfl
theorem wf_loN {t0 t1 : Sp} : ∀ (n : Nat) {s : St}, wf s → wf (loN t0 t1 n s)
  | 0, _, w => w
  | n + 1, _, w => wf_loN n (wf_day (wf_draw w))
theorem loN_o {t0 t1 : Sp} {z : Nat} (hz : z = 6 ∨ z = 7 ∨ 49 ≤ z) : ∀ (n : Nat) {s : St}, wf s → loN t0 t1 n s z = s z
  | 0, _, _ => rfl
  | n + 1, s, w => by
    rw [loN, loN_o hz n (wf_day (wf_draw w))]
    rcases hz with hz | hz | hz
    · rw [day_67 (wf_draw w) (Or.inl hz), draw_o (Or.inl hz)]
    · rw [day_67 (wf_draw w) (Or.inr hz), draw_o (Or.inr (Or.inl hz))]
    · rw [day_hi (wf_draw w) hz, draw_o (Or.inr (Or.inr hz))]
theorem tk_o {v : Nat → Int32} {z : Nat} (hz : z < 9 ∨ 49 ≤ z) : ∀ (m j : Nat) {s : St}, wf s → (tk v m j s).1 z = s z
  | 0, _, _, _ => rfl
  | m + 1, j, s, w => by
    rw [tk]
    by_cases h : j < hn s ∧ 0 ≤ v j ∧ v j ≤ 9999
    · rw [if_pos h]
      have hw : wf (upd s (9 + 5 * j + 2) (v j)) := wf_hi (Or.inl rfl) (iK2 (n := 9999) h.2.1 h.2.2 (by omega)) h.1 w
      rw [tk_o hz m (j + 1) hw]
      have := w.1
      exact upd_n (by omega)
    · rw [if_neg h]
theorem LawC.nil (u : Nat) (g : Nat → Int32) : LawC u [] g := ⟨⟨Nat.zero_le _, Or.inl rfl, fun x hx => by cases hx⟩, fun j hj => by cases hj⟩
theorem LawC.ofStep {u : Nat} {ss : Sp} {f g : Nat → Int32} (hok : okT u ss) (h : StepC u f ss) : LawC u ss (fun z => if z < ss.length then f z else g z) := by
  refine ⟨hok, fun j hj => ?_⟩
  show (if j < ss.length then f j else g j) = _
  rw [if_pos hj]
  exact h j hj
theorem ovr_lt {n : Nat} {g f : Nat → Int32} {i : Nat} (h : i < n) : ovr n g f i = g i := if_pos h
/-- an image, back -/
theorem JS.ovr {s : St} {t0 : Sp} {g0 f0 : Nat → Int32} {t1 : Sp} {g1 f1 : Nat → Int32} {tl : Nat} {tp tq' : Nat → Int32} {wl : Nat} {wt wq : Nat → Int32} (h : JS s t0 g0 t1 g1 tl tp wl wt) : JS s t0 (ovr t0.length g0 f0) t1 (ovr t1.length g1 f1) tl (ovr tl tp tq') wl (ovr wl wt wq) := by
  obtain ⟨w, m, ⟨l0, l1⟩, ⟨a1, a2, a3⟩, ⟨b1, b2, b3⟩⟩ := h
  exact ⟨w, m, ⟨l0.ovr (Nat.le_refl _), l1.ovr (Nat.le_refl _)⟩, ⟨a1, a2, fun i hi => by rw [ovr_lt hi]; exact a3 i hi⟩, ⟨b1, b2, fun i hi => by rw [ovr_lt hi]; exact b3 i hi⟩⟩
theorem wf_far {s r : St} (w : wf s) (he : ∀ z, z < 49 → z ≠ 6 → z ≠ 7 → r z = s z) : wf r := by
  obtain ⟨w1, w2, w3, w4, w5, w6, w7⟩ := w
  have e8 : r 8 = s 8 := he 8 (by omega) (by omega) (by omega)
  have e4 : r 4 = s 4 := he 4 (by omega) (by omega) (by omega)
  have eh : hn r = hn s := by unfold hn; rw [e8]
  have ea : atN r = atN s := by unfold atN; rw [e4]
  unfold wf
  rw [eh, ea, e8, e4, he 2 (by omega) (by omega) (by omega), he 3 (by omega) (by omega) (by omega)]
  refine ⟨w1, w2, w3, w4, fun h hh => ?_, w6, w7⟩
  have ei : ∀ j, j < 5 → its r h j = its s h j := fun j hj => he _ (by omega) (by omega) (by omega)
  have := w5 h hh
  unfold wfH at this ⊢
  rw [ei 0 (by omega), ei 1 (by omega), ei 2 (by omega), ei 3 (by omega), ei 4 (by omega)]
  exact this
theorem MT_in {s r : St} {u : Nat} {ss : Sp} (hu : u < 2) (h : ∀ z, 49 + 125 * u ≤ z → z < 174 + 125 * u → r z = s z) (m : MText s u ss) : MText r u ss := by
  obtain ⟨m1, m2, m3⟩ := m
  have := m1.1
  exact ⟨m1, by rw [h _ (by omega) (by omega)]; exact m2, fun i hi => by rw [h _ (by omega) (by omega), h _ (by omega) (by omega)]; exact m3 i hi⟩
/-- one more number waits -/
theorem JS.tell {s : St} {t0 : Sp} {g0 : Nat → Int32} {t1 : Sp} {g1 : Nat → Int32} {tl : Nat} {tp : Nat → Int32} {wl : Nat} {wt : Nat → Int32} (h : JS s t0 g0 t1 g1 tl tp wl wt) (hw : wl < 24) (v : Int32) : JS (upd (upd s (359 + wl) v) 7 (s 7 + 1)) t0 g0 t1 g1 tl tp (wl + 1) (upd wt wl v) := by
  obtain ⟨w, ⟨m0, m1⟩, l, ⟨a1, a2, a3⟩, ⟨b1, b2, b3⟩⟩ := h
  have eh : ∀ z, z ≠ 7 → z < 359 → upd (upd s (359 + wl) v) 7 (s 7 + 1) z = s z := fun z h1 h2 => by rw [upd_n h1, upd_n (by omega)]
  refine ⟨wf_far w (fun z h1 h2 h3 => eh z h3 (by omega)), ⟨MT_in (by omega) (fun z h1 h2 => eh z (by omega) (by omega)) m0, MT_in (by omega) (fun z h1 h2 => eh z (by omega) (by omega)) m1⟩, l, ⟨by rw [eh _ (by omega) (by omega)]; exact a1, a2, fun i hi => by rw [eh _ (by omega) (by omega)]; exact a3 i hi⟩, ⟨by rw [upd_s, b1, nI_1], by omega, fun i hi => ?_⟩⟩
  by_cases e : i = wl
  · rw [e, upd_s, upd_n (by omega), upd_s]
  · rw [upd_n e, upd_n (by omega), upd_n (by omega)]
    exact b3 i (by omega)
theorem JS.checked {s : St} {t0 : Sp} {g0 : Nat → Int32} {t1 : Sp} {g1 : Nat → Int32} {tl : Nat} {tp : Nat → Int32} {wl : Nat} {wt : Nat → Int32} (h : JS s t0 g0 t1 g1 tl tp wl wt) : JS (upd s 7 0) t0 g0 t1 g1 tl tp 0 wt := by
  obtain ⟨w, ⟨m0, m1⟩, l, ⟨a1, a2, a3⟩, ⟨b1, b2, b3⟩⟩ := h
  have eh : ∀ z, z ≠ 7 → upd s 7 0 z = s z := fun z h1 => upd_n h1
  exact ⟨wf_far w (fun z h1 h2 h3 => eh z h3), ⟨MT_in (by omega) (fun z h1 h2 => eh z (by omega)) m0, MT_in (by omega) (fun z h1 h2 => eh z (by omega)) m1⟩, l, ⟨by rw [eh _ (by omega)]; exact a1, a2, fun i hi => by rw [eh _ (by omega)]; exact a3 i hi⟩, ⟨upd_s, by omega, fun i hi => by omega⟩⟩
/-- bytes come to the tape -/
theorem feedN_eq {c : Int64} : ∀ (m i : Nat) {s : St} {tl : Nat}, s 6 = nI tl → tl + m ≤ 60 → feedN c m i s 6 = nI (tl + m) ∧ (∀ z, z ≠ 6 → ¬ (299 + tl ≤ z ∧ z < 299 + tl + m) → feedN c m i s z = s z) ∧ ∀ j, j < m → feedN c m i s (299 + tl + j) = byteAt c (i + j)
  | 0, i, s, tl, h6, hm => ⟨h6, fun _ _ _ => rfl, fun j hj => by omega⟩
  | m + 1, i, s, tl, h6, hm => by
    have e6 : (s 6).toNatClampNeg = tl := by rw [h6]; exact nI_clamp (by omega)
    have h6' : upd (upd s (299 + (s 6).toNatClampNeg) (byteAt c i)) 6 (s 6 + 1) 6 = nI (tl + 1) := by rw [upd_s, h6, nI_1]
    obtain ⟨g1, g2, g3⟩ := feedN_eq (c := c) m (i + 1) h6' (by omega)
    rw [feedN]
    refine ⟨by rw [g1]; congr 1; omega, fun z hz hz2 => ?_, fun j hj => ?_⟩
    · rw [g2 z hz (by omega), upd_n hz, e6, upd_n (by omega)]
    · by_cases e : j = 0
      · subst e
        rw [g2 _ (by omega) (by omega), upd_n (by omega), e6, Nat.add_zero, upd_s]
        rfl
      · have := g3 (j - 1) (by omega)
        rw [show 299 + (tl + 1) + (j - 1) = 299 + tl + j by omega, show i + 1 + (j - 1) = i + j by omega] at this
        exact this
theorem JS.feed {s : St} {t0 : Sp} {g0 : Nat → Int32} {t1 : Sp} {g1 : Nat → Int32} {tl : Nat} {tp : Nat → Int32} {wl : Nat} {wt : Nat → Int32} (h : JS s t0 g0 t1 g1 tl tp wl wt) (c : Int64) {k : Nat} (hk : k ≤ 8) (hf : tl + k ≤ 60) : JS (feedN c k 0 s) t0 g0 t1 g1 (tl + k) (fdT c tl k tp) wl wt := by
  obtain ⟨w, ⟨m0, m1⟩, l, ⟨a1, a2, a3⟩, ⟨b1, b2, b3⟩⟩ := h
  obtain ⟨g1, g2, g3⟩ := feedN_eq (c := c) k 0 a1 hf
  refine ⟨wf_far w (fun z h1 h2 h3 => g2 z h2 (by omega)), ⟨MT_in (by omega) (fun z h1 h2 => g2 z (by omega) (by omega)) m0, MT_in (by omega) (fun z h1 h2 => g2 z (by omega) (by omega)) m1⟩, l, ⟨g1, hf, fun i hi => ?_⟩, ⟨by rw [g2 7 (by omega) (by omega)]; exact b1, b2, fun i hi => by rw [g2 _ (by omega) (by omega)]; exact b3 i hi⟩⟩
  by_cases e : i < tl
  · rw [fdT, if_neg (by omega), g2 _ (by omega) (by omega)]
    exact a3 i e
  · have h3 := g3 (i - tl) (by omega)
    rw [show 299 + tl + (i - tl) = 299 + i by omega, Nat.zero_add] at h3
    rw [fdT, if_pos (by omega), h3]
    exact ⟨rfl, byte_rng c _ (by omega)⟩
/-- a text is told, or none -/
theorem JS.text0 {s r : St} {t0 : Sp} {g0 : Nat → Int32} {t1 : Sp} {g1 : Nat → Int32} {tl : Nat} {tp : Nat → Int32} {wl : Nat} {wt : Nat → Int32} (h : JS s t0 g0 t1 g1 tl tp wl wt) (t2 : Sp) (g2 : Nat → Int32) (m2 : MText r 0 t2) (l2 : LawC 0 t2 g2) {tl' : Nat} (e6 : r 6 = nI tl') (hl : tl' = 0 ∨ tl' = tl) (eh : ∀ z, z < 49 ∨ 174 ≤ z → z ≠ 6 → r z = s z) : JS r t2 g2 t1 g1 tl' tp wl wt := by
  obtain ⟨w, ⟨m0, m1⟩, ⟨l0, l1⟩, ⟨a1, a2, a3⟩, ⟨b1, b2, b3⟩⟩ := h
  exact ⟨wf_far w (fun z h1 h2 h3 => eh z (Or.inl h1) h2), ⟨m2, MT_in (by omega) (fun z h1 h2 => eh z (by omega) (by omega)) m1⟩, ⟨l2, l1⟩, ⟨e6, by omega, fun i hi => by rw [eh _ (by omega) (by omega)]; exact a3 i (by omega)⟩, ⟨by rw [eh _ (by omega) (by omega)]; exact b1, b2, fun i hi => by rw [eh _ (by omega) (by omega)]; exact b3 i hi⟩⟩
theorem JS.text1 {s r : St} {t0 : Sp} {g0 : Nat → Int32} {t1 : Sp} {g1 : Nat → Int32} {tl : Nat} {tp : Nat → Int32} {wl : Nat} {wt : Nat → Int32} (h : JS s t0 g0 t1 g1 tl tp wl wt) (t2 : Sp) (g2 : Nat → Int32) (m2 : MText r 1 t2) (l2 : LawC 1 t2 g2) {tl' : Nat} (e6 : r 6 = nI tl') (hl : tl' = 0 ∨ tl' = tl) (eh : ∀ z, z < 174 ∨ 299 ≤ z → z ≠ 6 → r z = s z) : JS r t0 g0 t2 g2 tl' tp wl wt := by
  obtain ⟨w, ⟨m0, m1⟩, ⟨l0, l1⟩, ⟨a1, a2, a3⟩, ⟨b1, b2, b3⟩⟩ := h
  exact ⟨wf_far w (fun z h1 h2 h3 => eh z (Or.inl (by omega)) h2), ⟨MT_in (by omega) (fun z h1 h2 => eh z (by omega) (by omega)) m0, m2⟩, ⟨l0, l2⟩, ⟨e6, by omega, fun i hi => by rw [eh _ (by omega) (by omega)]; exact a3 i (by omega)⟩, ⟨by rw [eh _ (by omega) (by omega)]; exact b1, b2, fun i hi => by rw [eh _ (by omega) (by omega)]; exact b3 i hi⟩⟩
theorem MT_nil {s : St} {u : Nat} : MText (upd s (49 + 125 * u) 0) u [] := ⟨⟨Nat.zero_le _, Or.inl rfl, fun x hx => by cases hx⟩, upd_s, fun i hi => by cases hi⟩
