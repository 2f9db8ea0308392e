/-! THE MATHEMATICAL STATE: the reference's own numbering, s : Nat → Int32 (0 DAY, 1 VIEW, 2 SHARP, 3 STEEL, 4 AT, 5 z, 6 bytes of the tape, 7 numbers that wait, 8 how many homes, 9 + 5 h the home h: kind, m, HEARD, TURNS, PAST); a text as the list of its steps -/
abbrev St : Type := Nat → Int32
abbrev Sp : Type := List (Int32 × Int32)
def its (s : St) (h j : Nat) : Int32 := s (9 + 5 * h + j)
def jn (c x y : Int32) : Int32 :=
  if c = 43 then x + y else if c = 45 then x - y else if c = 42 then x * y
  else if c = 47 then (if y = 0 then 0 else x / y) else if c = 37 then (if y = 0 then 0 else rm x y)
  else if c = 60 then bI (decide (x < y)) else if c = 62 then bI (decide (y < x)) else if c = 61 then bI (decide (x = y))
  else if c = 38 then bI (decide (¬ x = 0 ∧ ¬ y = 0)) else bI (decide (¬ x = 0 ∨ ¬ y = 0))
def nmF (u : Nat) (a b c v : Int32) : Int32 := if u = 0 then (if v = 115 then a else if v = 118 then b else c) else (if v = 108 then a else if v = 115 then b else c)
def evL (nm : Int32 → Int32) : Sp → List Int32 → List Int32
  | [], st => st
  | (w, v) :: ss, st => if w = 0 then evL nm ss (v :: st) else if w = 1 then evL nm ss (nm v :: st)
    else if w = 2 then (match st with
      | x :: r => evL nm ss ((if x = 0 then 1 else 0) :: r)
      | [] => [])
    else (match st with
      | y :: x :: r => evL nm ss (jn v x y :: r)
      | _ => [])
def dpt : Sp → Nat → Option Nat
  | [], d => some d
  | (w, _) :: ss, d => if w = 0 then dpt ss (d + 1) else if w = 1 then dpt ss (d + 1)
    else if w = 2 then (if 1 ≤ d then dpt ss d else none)
    else (if 2 ≤ d then dpt ss (d - 1) else none)
def opC (v : Int32) : Prop := v = 43 ∨ v = 45 ∨ v = 42 ∨ v = 47 ∨ v = 37 ∨ v = 60 ∨ v = 62 ∨ v = 61 ∨ v = 38 ∨ v = 124
def okS (u : Nat) (x : Int32 × Int32) : Prop := (x.1 = 0 ∧ ∃ n : Nat, n < 10000 ∧ x.2 = nI n) ∨ (x.1 = 1 ∧ (x.2 = 115 ∨ x.2 = 100 ∨ x.2 = (if u = 0 then 118 else 108))) ∨ (x.1 = 2 ∧ x.2 = 0) ∨ (x.1 = 3 ∧ opC x.2)
def nmI (u : Nat) (v : Int32) : Int32 := if v = 100 then 2 else if u = 0 then (if v = 115 then 0 else 1) else (if v = 108 then 0 else 1)
def encS (u : Nat) (x : Int32 × Int32) : Int32 := if x.1 = 0 then x.2 else if x.1 = 1 then 10000 + nmI u x.2 else if x.1 = 2 then -33 else -x.2
def okT (u : Nat) (ss : Sp) : Prop := ss.length ≤ 60 ∧ (ss = [] ∨ dpt ss 0 = some 1) ∧ ∀ x ∈ ss, okS u x
def clampV (x : Int32) : Int32 := if x < 0 then 0 else if 99 < x then 99 else x
def restV (x : Int32) : Int32 := if rm x 100 < 0 then rm x 100 + 100 else rm x 100
def rawV (u : Nat) (ss : Sp) (a b c : Int32) : Int32 := match ss with
  | [] => a
  | _ :: _ => (evL (nmF u a b c) ss []).headD 0
def lawV (u : Nat) (ss : Sp) (a b c : Int32) : Int32 := if u = 0 then clampV (rawV u ss a b c) else restV (rawV u ss a b c)
def tells (s : St) (h : Nat) : Int32 :=
  if its s h 0 = 1 then s 1 + 10 else if its s h 0 = 2 then s 1 * (s 2 + 1) / 100 else if its s h 0 = 3 then (if 50 < s 1 then 77 else s 1)
  else if its s h 0 = 4 then s 1 + 10 - its s h 1 else if its s h 0 = 5 then 2 * (s 1 * (s 2 + 1) / 100) else if its s h 0 = 6 then 0 else s 1
def leaves (s : St) (h : Nat) : Int32 :=
  if its s h 0 = 1 then (s 1 + its s h 1) / 2 + 5 * its s h 1 else if its s h 0 = 2 then s 1 + its s h 1 + s 8 else if its s h 0 = 3 then (if rm (s 0) 2 = 0 then 77 else s 1 + its s h 1)
  else if its s h 0 = 4 then 99 - ((s 1 + its s h 1) / 2 + 5 * its s h 1) else if its s h 0 = 5 then s 1 + its s h 1 + s 8 + s 2 / 10 else if its s h 0 = 6 then 0 else s 1 + its s h 1
def blunts (s : St) (h : Nat) : Int32 :=
  if its s h 0 = 1 then 3 + its s h 1 / 2 else if its s h 0 = 3 then 5
  else if its s h 0 = 4 then 1 + its s h 1 / 2 else if its s h 0 = 5 then 6 else if its s h 0 = 6 then (if 4 < its s h 1 then 3 else 0) else 3
def said (t0 : Sp) (s : St) (h : Nat) : Int32 := lawV 0 t0 (tells s h) (s 1 / 10) (rm (s 0) 8)
def behind (t1 : Sp) (s : St) (h : Nat) : Int32 := lawV 1 t1 (leaves s h) (s 2 / 10) (rm (s 0) 8)
def hn (s : St) : Nat := (s 8).toNatClampNeg
def atN (s : St) : Nat := (s 4).toNatClampNeg
def nxtF (s : St) (n a : Nat) : Nat → Nat → Nat
  | 0, _ => a
  | m + 1, k => if its s ((a + k) % n) 4 = 0 then (a + k) % n else nxtF s n a m (k + 1)
def nxt (s : St) : Nat := nxtF s (hn s) (atN s) (hn s - 1) 1
def heldV (v lo hi : Int32) : Int32 := if v < lo then lo else if hi < v then hi else v
def hearS (t0 : Sp) (s : St) : St := if 0 < hn s then upd (upd s (9 + 5 * atN s + 2) (heldV (its s (atN s) 2 + said t0 s (atN s)) 0 9999)) (9 + 5 * atN s + 3) (heldV (its s (atN s) 3 + 1) 0 9999) else s
def go2 (t1 : Sp) (s : St) : St := upd (upd s 1 (behind t1 s (atN s))) 2 (heldV (s 2 - blunts s (atN s)) 0 99)
def goS (t1 : Sp) (s : St) : St := if 0 < hn s then upd (go2 t1 s) 4 (nI (nxt (go2 t1 s))) else s
def ageS (s : St) : St := if rm (s 0 + 1) (s 3) = 0 then upd (upd s 0 (s 0 + 1)) 2 99 else upd s 0 (s 0 + 1)
def carS (t1 : Sp) (s : St) : St := ageS (goS t1 s)
def day1 (t0 t1 : Sp) (s : St) : St := carS t1 (hearS t0 s)
def dN (t0 t1 : Sp) : Nat → St → St
  | 0, s => s
  | n + 1, s => dN t0 t1 n (day1 t0 t1 s)
def dayF (t0 t1 : Sp) (home : Nat) (s : St) : St := if atN s = home then day1 t0 t1 s else carS t1 s
def dF (t0 t1 : Sp) (home : Nat) : Nat → St → St
  | 0, s => s
  | n + 1, s => dF t0 t1 home n (dayF t0 t1 home s)
def cN (t1 : Sp) : Nat → St → St
  | 0, s => s
  | n + 1, s => cN t1 n (carS t1 s)
def sumH (s : St) : Nat → Int32
  | 0 => 0
  | n + 1 => sumH s n + its s n 2
/-- the homes as they may be -/
def wfH (s : St) (n h : Nat) : Prop := (∃ k : Nat, k < 7 ∧ its s h 0 = nI k) ∧ (∃ k : Nat, k < 10 ∧ its s h 1 = nI k) ∧ (∃ k : Nat, k ≤ 9999 ∧ its s h 2 = nI k) ∧ (∃ k : Nat, k ≤ 9999 ∧ its s h 3 = nI k) ∧ (its s h 4 = 0 ∨ its s h 4 = 1) ∧ (n ≤ h → its s h 2 = 0 ∧ its s h 3 = 0 ∧ its s h 4 = 0)
def wf (s : St) : Prop := hn s ≤ 8 ∧ s 8 = nI (hn s) ∧ s 4 = nI (atN s) ∧ (atN s < hn s ∨ (hn s = 0 ∧ atN s = 0)) ∧ (∀ h, h < 8 → wfH s (hn s) h) ∧ (∃ k : Nat, k ≤ 99 ∧ s 2 = nI k) ∧ (∃ k : Nat, 1 ≤ k ∧ k ≤ 40 ∧ s 3 = nI k)
theorem hn_eq {s : St} {n : Nat} (h : s 8 = nI n) (hn' : n < 2 ^ 31) : hn s = n := by unfold hn; rw [h, nI_clamp hn']
theorem atN_eq {s : St} {n : Nat} (h : s 4 = nI n) (hn' : n < 2 ^ 31) : atN s = n := by unfold atN; rw [h, nI_clamp hn']
theorem its_upd_lo {s : St} {k h j : Nat} {v : Int32} (hk : k < 9) : its (upd s k v) h j = its s h j := upd_n (by omega)
theorem its_upd {s : St} {h j h' j' : Nat} {v : Int32} (hj : j < 5) (hj' : j' < 5) : its (upd s (9 + 5 * h + j) v) h' j' = if h' = h ∧ j' = j then v else its s h' j' := by
  by_cases hc : h' = h ∧ j' = j
  · rw [if_pos hc, hc.1, hc.2]
    exact upd_s
  · rw [if_neg hc]
    exact upd_n (by omega)
theorem upd_lo_hi {s : St} {k h j : Nat} {v : Int32} (hk : k < 9) : upd s (9 + 5 * h + j) v k = s k := upd_n (by omega)
theorem wfH_lo {s : St} {n h k : Nat} {v : Int32} (hk : k < 9) (w : wfH s n h) : wfH (upd s k v) n h := by
  unfold wfH at w ⊢
  simp only [its_upd_lo hk]
  exact w
theorem wf_lo {s : St} {k : Nat} {v : Int32} (hk : k = 0 ∨ k = 1 ∨ k = 5 ∨ k = 6 ∨ k = 7) (w : wf s) : wf (upd s k v) := by
  obtain ⟨w1, w2, w3, w4, w5, w6, w7⟩ := w
  have e2 : upd s k v 2 = s 2 := upd_n (by omega)
  have e3 : upd s k v 3 = s 3 := upd_n (by omega)
  have e4 : upd s k v 4 = s 4 := upd_n (by omega)
  have e8 : upd s k v 8 = s 8 := upd_n (by omega)
  have eh : hn (upd s k v) = hn s := by unfold hn; rw [e8]
  have ea : atN (upd s k v) = atN s := by unfold atN; rw [e4]
  unfold wf
  rw [eh, ea, e2, e3, e4, e8]
  exact ⟨w1, w2, w3, w4, fun h hh => wfH_lo (by omega) (w5 h hh), w6, w7⟩
theorem wf_2 {s : St} {v : Int32} (w : wf s) (hv : ∃ k : Nat, k ≤ 99 ∧ v = nI k) : wf (upd s 2 v) := by
  obtain ⟨w1, w2, w3, w4, w5, w6, w7⟩ := w
  exact ⟨w1, w2, w3, w4, fun h hh => wfH_lo (by omega) (w5 h hh), hv, w7⟩
theorem wf_3 {s : St} {v : Int32} (w : wf s) (hv : ∃ k : Nat, 1 ≤ k ∧ k ≤ 40 ∧ v = nI k) : wf (upd s 3 v) := by
  obtain ⟨w1, w2, w3, w4, w5, w6, w7⟩ := w
  exact ⟨w1, w2, w3, w4, fun h hh => wfH_lo (by omega) (w5 h hh), w6, hv⟩
theorem wf_4 {s : St} {a : Nat} (w : wf s) (ha : a < hn s) : wf (upd s 4 (nI a)) := by
  obtain ⟨w1, w2, w3, w4, w5, w6, w7⟩ := w
  have ea : atN (upd s 4 (nI a)) = a := atN_eq upd_s (by omega)
  unfold wf
  rw [ea]
  exact ⟨w1, w2, upd_s, Or.inl ha, fun h hh => wfH_lo (by omega) (w5 h hh), w6, w7⟩
