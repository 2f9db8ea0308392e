theorem clampV_rng (x : Int32) : ∃ k : Nat, k ≤ 99 ∧ clampV x = nI k := by
  unfold clampV
  by_cases h : x < 0
  · exact ⟨0, by omega, by rw [if_pos h]; rfl⟩
  · rw [if_neg h]
    by_cases h2 : 99 < x
    · exact ⟨99, by omega, by rw [if_pos h2]; rfl⟩
    · rw [if_neg h2]
      obtain ⟨j, hj, rfl⟩ := nI_of h
      exact ⟨j, (nI_leI (b := 99) hj (by omega)).mp (iL h2), rfl⟩
theorem said_rng (t0 : Sp) (s : St) (h : Nat) : ∃ k : Nat, k ≤ 99 ∧ said t0 s h = nI k := clampV_rng _
theorem held_min {k : Nat} (hk : k < 2 ^ 31) : (if nI k < 9999 then nI k else 9999) = heldV (nI k) 0 9999 := by
  unfold heldV
  rw [if_neg (nI_pos hk)]
  by_cases h : nI k < 9999
  · rw [if_pos h, if_neg (fun z => Int32.lt_irrefl (Int32.lt_trans h z))]
  · rw [if_neg h]
    by_cases h2 : 9999 < nI k
    · rw [if_pos h2]
    · rw [if_neg h2]; exact Int32.le_antisymm (iL h) (iL h2)
theorem held_min2 {x y : Int32} (hx : ∃ k : Nat, k ≤ 9999 ∧ x = nI k) (hy : ∃ k : Nat, k ≤ 99 ∧ y = nI k) : (if x + y < 9999 then x + y else 9999) = heldV (x + y) 0 9999 := by
  obtain ⟨a, ha, rfl⟩ := hx
  obtain ⟨b, hb, rfl⟩ := hy
  rw [nI_add]
  exact held_min (by omega)
theorem heldV_rng (x : Int32) (n : Nat) (hn : n < 2 ^ 31) : ∃ k : Nat, k ≤ n ∧ heldV x 0 (nI n) = nI k := by
  unfold heldV
  by_cases h : x < 0
  · exact ⟨0, by omega, by rw [if_pos h]; rfl⟩
  · rw [if_neg h]
    by_cases h2 : nI n < x
    · exact ⟨n, Nat.le_refl _, by rw [if_pos h2]⟩
    · rw [if_neg h2]
      obtain ⟨j, hj, rfl⟩ := nI_of h
      exact ⟨j, (nI_leI hj hn).mp (iL h2), rfl⟩
theorem half_rng {x : Int32} (h : ∃ k : Nat, k < 10 ∧ x = nI k) : ∃ k : Nat, k < 5 ∧ x / 2 = nI k := by
  obtain ⟨k, hk, rfl⟩ := h
  exact ⟨k / 2, by omega, pk_div (d := 2) (by omega) (by omega) (by omega)⟩
theorem blunts_rng {s : St} {n h : Nat} (w : wfH s n h) : ∃ k : Nat, k ≤ 9 ∧ blunts s h = nI k := by
  obtain ⟨k, hk, e⟩ := half_rng w.2.1
  unfold blunts
  split
  · exact ⟨3 + k, by omega, by rw [e]; exact nI_add 3 k⟩
  · split
    · exact ⟨5, by omega, rfl⟩
    · split
      · exact ⟨1 + k, by omega, by rw [e]; exact nI_add 1 k⟩
      · split
        · exact ⟨6, by omega, rfl⟩
        · split
          · split
            · exact ⟨3, by omega, rfl⟩
            · exact ⟨0, by omega, rfl⟩
          · exact ⟨3, by omega, rfl⟩
theorem held_max {x b : Int32} (hx : ∃ k : Nat, k ≤ 99 ∧ x = nI k) (hb : ∃ k : Nat, k ≤ 9 ∧ b = nI k) : (if 0 < x - b then x - b else 0) = heldV (x - b) 0 99 := by
  obtain ⟨v, hv, rfl⟩ := hx
  obtain ⟨c, hc, rfl⟩ := hb
  unfold heldV
  by_cases h : c ≤ v
  · rw [pk_sub h, if_neg (nI_pos (by omega)), if_neg (show ¬ 99 < nI (v - c) from nI_nlt (a := 99) (b := v - c) (by omega) (by omega))]
    by_cases h2 : 0 < nI (v - c)
    · rw [if_pos h2]
    · rw [if_neg h2]
      exact Int32.le_antisymm (nI_pos' (by omega)) (iL h2)
  · have h3 : nI v - nI c < 0 := pk_sneg (by omega) (by omega)
    rw [if_pos h3, if_neg (fun z => Int32.lt_irrefl (Int32.lt_trans h3 z))]
theorem has_no {s : St} (w : wf s) (h : ¬ (0 ≤ s 4 ∧ s 4 < s 8)) : hn s = 0 := by
  obtain ⟨w1, w2, w3, w4, -⟩ := w
  rcases w4 with w4 | w4
  · exact absurd ⟨by rw [w3]; exact nI_pos' (by omega), by rw [w3, w2]; exact nI_lt w4 (by omega)⟩ h
  · exact w4.1
theorem has_yes {s : St} (w : wf s) (h : 0 ≤ s 4 ∧ s 4 < s 8) : atN s < hn s := by
  obtain ⟨w1, w2, w3, w4, -⟩ := w
  rcases w4 with w4 | w4
  · exact w4
  · have h2 := h.2
    rw [w3, w2, w4.1, w4.2] at h2
    exact absurd h2 (Int32.lt_irrefl)
theorem nxtF_s (s : St) (n a m k : Nat) : nxtF s n a (m + 1) k = if its s ((a + k) % n) 4 = 0 then (a + k) % n else nxtF s n a m (k + 1) := rfl
theorem nxtF_lt (s : St) (n a : Nat) (ha : a < n) : ∀ m k, nxtF s n a m k < n
  | 0, _ => ha
  | m + 1, k => by
    unfold nxtF
    split
    · exact Nat.mod_lt _ (by omega)
    · exact nxtF_lt s n a ha m (k + 1)
theorem nxt_lt {s : St} (ha : atN s < hn s) : nxt s < hn s := nxtF_lt s _ _ ha _ _
theorem wfH_hi {s : St} {n a h j : Nat} {v : Int32} (hj : j = 2 ∨ j = 3) (hv : ∃ k : Nat, k ≤ 9999 ∧ v = nI k) (ha : a < n) (w : wfH s n h) : wfH (upd s (9 + 5 * a + j) v) n h := by
  obtain ⟨a0, a1, a2, a3, a4, a5⟩ := w
  have e : ∀ i, i < 5 → its (upd s (9 + 5 * a + j) v) h i = if h = a ∧ i = j then v else its s h i := fun i hi => its_upd (by omega) hi
  have e0 : its (upd s (9 + 5 * a + j) v) h 0 = its s h 0 := by rw [e 0 (by omega)]; exact if_neg (by omega)
  have e1 : its (upd s (9 + 5 * a + j) v) h 1 = its s h 1 := by rw [e 1 (by omega)]; exact if_neg (by omega)
  have e4 : its (upd s (9 + 5 * a + j) v) h 4 = its s h 4 := by rw [e 4 (by omega)]; exact if_neg (by omega)
  unfold wfH
  rw [e0, e1, e4]
  refine ⟨a0, a1, ?_, ?_, a4, fun hh => ?_⟩
  · rw [e 2 (by omega)]; split
    · exact hv
    · exact a2
  · rw [e 3 (by omega)]; split
    · exact hv
    · exact a3
  · obtain ⟨b1, b2, b3⟩ := a5 hh
    have hne : ¬ h = a := by omega
    exact ⟨by rw [e 2 (by omega), if_neg (fun z => hne z.1)]; exact b1, by rw [e 3 (by omega), if_neg (fun z => hne z.1)]; exact b2, b3⟩
theorem wf_hi {s : St} {a j : Nat} {v : Int32} (hj : j = 2 ∨ j = 3) (hv : ∃ k : Nat, k ≤ 9999 ∧ v = nI k) (ha : a < hn s) (w : wf s) : wf (upd s (9 + 5 * a + j) v) := by
  obtain ⟨w1, w2, w3, w4, w5, w6, w7⟩ := w
  have e2 : upd s (9 + 5 * a + j) v 2 = s 2 := upd_n (by omega)
  have e3 : upd s (9 + 5 * a + j) v 3 = s 3 := upd_n (by omega)
  have e4 : upd s (9 + 5 * a + j) v 4 = s 4 := upd_n (by omega)
  have e8 : upd s (9 + 5 * a + j) v 8 = s 8 := upd_n (by omega)
  have eh : hn (upd s (9 + 5 * a + j) v) = hn s := by unfold hn; rw [e8]
  have ea : atN (upd s (9 + 5 * a + j) v) = atN s := by unfold atN; rw [e4]
  unfold wf
  rw [eh, ea, e2, e3, e4, e8]
  exact ⟨w1, w2, w3, w4, fun h hh => wfH_hi hj hv ha (w5 h hh), w6, w7⟩
theorem wf_hear {t0 : Sp} {s : St} (w : wf s) : wf (hearS t0 s) := by
  unfold hearS
  by_cases h : 0 < hn s
  · rw [if_pos h]
    have ha : atN s < hn s := by rcases w.2.2.2.1 with z | z <;> omega
    exact wf_hi (Or.inr rfl) (heldV_rng _ 9999 (by omega)) (show atN s < hn (upd s (9 + 5 * atN s + 2) _) by unfold hn at ha ⊢; rw [upd_lo_hi (by omega)]; exact ha) (wf_hi (Or.inl rfl) (heldV_rng _ 9999 (by omega)) ha w)
  · rw [if_neg h]; exact w
theorem wf_go2 {t1 : Sp} {s : St} (w : wf s) : wf (go2 t1 s) := wf_2 (wf_lo (Or.inr (Or.inl rfl)) w) (heldV_rng _ 99 (by omega))
theorem wf_go {t1 : Sp} {s : St} (w : wf s) : wf (goS t1 s) := by
  unfold goS
  by_cases h : 0 < hn s
  · rw [if_pos h]
    have ha : atN s < hn s := by rcases w.2.2.2.1 with z | z <;> omega
    exact wf_4 (wf_go2 w) (nxt_lt (s := go2 t1 s) ha)
  · rw [if_neg h]; exact w
theorem wf_age {s : St} (w : wf s) : wf (ageS s) := by
  unfold ageS
  split
  · exact wf_2 (wf_lo (Or.inl rfl) w) ⟨99, by omega, rfl⟩
  · exact wf_lo (Or.inl rfl) w
theorem wf_car {t1 : Sp} {s : St} (w : wf s) : wf (carS t1 s) := wf_age (wf_go w)
theorem wf_day {t0 t1 : Sp} {s : St} (w : wf s) : wf (day1 t0 t1 s) := wf_car (wf_hear w)
theorem wf_dN {t0 t1 : Sp} : ∀ (n : Nat) {s : St}, wf s → wf (dN t0 t1 n s)
  | 0, _, w => w
  | n + 1, _, w => wf_dN n (wf_day w)
theorem wf_dayF {t0 t1 : Sp} {k : Nat} {s : St} (w : wf s) : wf (dayF t0 t1 k s) := by
  unfold dayF
  split
  · exact wf_day w
  · exact wf_car w
theorem wf_dF {t0 t1 : Sp} {k : Nat} : ∀ (n : Nat) {s : St}, wf s → wf (dF t0 t1 k n s)
  | 0, _, w => w
  | n + 1, _, w => wf_dF n (wf_dayF w)
theorem wf_cN {t1 : Sp} : ∀ (n : Nat) {s : St}, wf s → wf (cN t1 n s)
  | 0, _, w => w
  | n + 1, _, w => wf_cN n (wf_car w)
theorem RW_hear {s : St} {t0 t1 : Sp} {g0 h0 g1 h1 : Nat → Int32} {a : Nat} {v w : Int32} : RW (upd (upd s (9 + 5 * a + 2) v) (9 + 5 * a + 3) w) t0 g0 h0 t1 g1 h1 = [RoundO 1 5 9 10 11 12 s, LawO 2 4 0, cRow 3 (nI t0.length), cI 60 g0, cI 60 h0, LawO 6 8 1, cRow 7 (nI t1.length), cI 60 g1, cI 60 h1, cI 8 (arr s 0), cI 8 (arr s 1), cI 8 (upd (arr s 2) a v), cI 8 (upd (arr s 3) a w)] := by
  rw [RW_hi3]
  simp only [RoundO, pm_ne (i := 2) (by omega), upd_lo_hi (show 8 < 9 by omega), upd_lo_hi (show 0 < 9 by omega), upd_lo_hi (show 1 < 9 by omega), upd_lo_hi (show 2 < 9 by omega), upd_lo_hi (show 3 < 9 by omega), upd_lo_hi (show 4 < 9 by omega), upd_lo_hi (show 5 < 9 by omega), arr_eq (j := 2) (by omega), arr_ne (i := 2) (j := 0) (by omega) (by omega) (by omega), arr_ne (i := 2) (j := 1) (by omega) (by omega) (by omega), arr_ne (i := 2) (j := 3) (by omega) (by omega) (by omega)]
theorem RW_12 {s : St} {t0 t1 : Sp} {g0 h0 g1 h1 : Nat → Int32} {v w : Int32} : RW (upd (upd s 1 v) 2 w) t0 g0 h0 t1 g1 h1 = [.inr (2, [.ref 1, .ref 5, .ref 9, .ref 10, .ref 11, .ref 12, .int (pm s), .int (s 8), .int (s 0), .int v, .int w, .int (s 3), .int (s 4), .int (s 5)]), LawO 2 4 0, cRow 3 (nI t0.length), cI 60 g0, cI 60 h0, LawO 6 8 1, cRow 7 (nI t1.length), cI 60 g1, cI 60 h1, cI 8 (arr s 0), cI 8 (arr s 1), cI 8 (arr s 2), cI 8 (arr s 3)] := by
  rw [RW_lo (by omega)]
  simp only [pm_lo (show 1 < 9 by omega), arr_lo (show 1 < 9 by omega)]
  rfl
/-- a round with its place changed -/
theorem RW_4 {s : St} {t0 t1 : Sp} {g0 h0 g1 h1 : Nat → Int32} {v : Int32} : RW (upd s 4 v) t0 g0 h0 t1 g1 h1 = [.inr (2, [.ref 1, .ref 5, .ref 9, .ref 10, .ref 11, .ref 12, .int (pm s), .int (s 8), .int (s 0), .int (s 1), .int (s 2), .int (s 3), .int v, .int (s 5)]), LawO 2 4 0, cRow 3 (nI t0.length), cI 60 g0, cI 60 h0, LawO 6 8 1, cRow 7 (nI t1.length), cI 60 g1, cI 60 h1, cI 8 (arr s 0), cI 8 (arr s 1), cI 8 (arr s 2), cI 8 (arr s 3)] := by
  rw [RW_lo (by omega)]
  rfl
/-- a day older, steeled or not -/
theorem RW_0 {s : St} {t0 t1 : Sp} {g0 h0 g1 h1 : Nat → Int32} {v : Int32} : RW (upd s 0 v) t0 g0 h0 t1 g1 h1 = [.inr (2, [.ref 1, .ref 5, .ref 9, .ref 10, .ref 11, .ref 12, .int (pm s), .int (s 8), .int v, .int (s 1), .int (s 2), .int (s 3), .int (s 4), .int (s 5)]), LawO 2 4 0, cRow 3 (nI t0.length), cI 60 g0, cI 60 h0, LawO 6 8 1, cRow 7 (nI t1.length), cI 60 g1, cI 60 h1, cI 8 (arr s 0), cI 8 (arr s 1), cI 8 (arr s 2), cI 8 (arr s 3)] := by
  rw [RW_lo (by omega)]
  rfl
theorem RW_02 {s : St} {t0 t1 : Sp} {g0 h0 g1 h1 : Nat → Int32} {v w : Int32} : RW (upd (upd s 0 v) 2 w) t0 g0 h0 t1 g1 h1 = [.inr (2, [.ref 1, .ref 5, .ref 9, .ref 10, .ref 11, .ref 12, .int (pm s), .int (s 8), .int v, .int (s 1), .int w, .int (s 3), .int (s 4), .int (s 5)]), LawO 2 4 0, cRow 3 (nI t0.length), cI 60 g0, cI 60 h0, LawO 6 8 1, cRow 7 (nI t1.length), cI 60 g1, cI 60 h1, cI 8 (arr s 0), cI 8 (arr s 1), cI 8 (arr s 2), cI 8 (arr s 3)] := by
  rw [RW_lo (by omega)]
  simp only [pm_lo (show 0 < 9 by omega), arr_lo (show 0 < 9 by omega)]
  rfl
theorem RW_go2 {s : St} {t0 t1 : Sp} {g0 h0 g1 h1 : Nat → Int32} : RW (go2 t1 s) t0 g0 h0 t1 g1 h1 = [.inr (2, [.ref 1, .ref 5, .ref 9, .ref 10, .ref 11, .ref 12, .int (pm s), .int (s 8), .int (s 0), .int (behind t1 s (atN s)), .int (heldV (s 2 - blunts s (atN s)) 0 99), .int (s 3), .int (s 4), .int (s 5)]), LawO 2 4 0, cRow 3 (nI t0.length), cI 60 g0, cI 60 h0, LawO 6 8 1, cRow 7 (nI t1.length), cI 60 g1, cI 60 h1, cI 8 (arr s 0), cI 8 (arr s 1), cI 8 (arr s 2), cI 8 (arr s 3)] := by
  exact RW_12

set_option maxRecDepth 100000 in
theorem c_X2_saidAt (s : St) (t0 t1 : Sp) (g0 h0 g1 h1 : Nat → Int32) (i : Int32) (k : Nat) (hi : i = nI k) (hk : k < 8) (hw : wfH s (hn s) k) (l0 : LawC 0 t0 g0) : AMet yX2_saidAt cX2_saidAt 2 (some (.int)) 2 0 0 [.ref 0, .int i] (RW s t0 g0 h0 t1 g1 h1) (pI fun x h => x = said t0 s k ∧ ∃ h0' : Nat → Int32, h = RW s t0 g0 h0' t1 g1 h1) := by
  refine AMet.of (by decide +kernel) rfl (fun E ad0 hE => ?_)
  refine A_aload_n hE 1 dX2_saidAt_0 rfl rfl ?_
  refine A_get hE 4 dX2_saidAt_1 rfl fkX2_14 rfl rfl ?_
  refine A_aload_n hE 5 dX2_saidAt_4 rfl rfl ?_
  refine A_iload_n hE 6 dX2_saidAt_5 rfl rfl ?_
  refine A_callVi hE 9 (c_X2_tellsAt s t0 t1 g0 h0 g1 h1 i k hi hk hw) [0, 1, 2, 3, 4, 5, 6, 7, 8, 9, 10, 11, 12] dX2_saidAt_6 rfl mkX2_75 rfl rfl rfl rfl rfl rfl rfl (Nat.le_of_ble_eq_true rfl) (Nat.le_of_ble_eq_true rfl) rfl (fun x6 h6 g6 hp6 hw6 => ?_)
  obtain ⟨rfl, rfl⟩ := hp6
  obtain rfl := Option.some.inj hw6
  refine A_h (RW s t0 g0 h0 t1 g1 h1) rfl ?_
  refine A_aload_n hE 10 dX2_saidAt_9 rfl rfl ?_
  refine A_get hE 13 dX2_saidAt_10 rfl fkX2_46 rfl rfl ?_
  refine A_bipush hE 15 dX2_saidAt_13 rfl (10) (by decide) ?_
  refine A_idiv hE 16 dX2_saidAt_15 rfl (by decide) ?_
  refine A_aload_n hE 17 dX2_saidAt_16 rfl rfl ?_
  refine A_get hE 20 dX2_saidAt_17 rfl fkX2_43 rfl rfl ?_
  refine A_bipush hE 22 dX2_saidAt_20 rfl (8) (by decide) ?_
  refine A_irem hE 23 dX2_saidAt_22 rfl (by decide) ?_
  refine A_callVi hE 26 (c_X0_gives 0 t0 g0 h0 (tells s k) (s 1 / 10) (rm (s 0) 8) (by omega) l0) [1, 2, 3, 4] dX2_saidAt_23 rfl mkX2_79 rfl rfl rfl rfl rfl rfl rfl (Nat.le_of_ble_eq_true rfl) (Nat.le_of_ble_eq_true rfl) rfl (fun x23 h23 g23 hp23 hw23 => ?_)
  obtain ⟨rfl, h0x, rfl⟩ := hp23
  obtain rfl := Option.some.inj hw23
  refine A_iret hE dX2_saidAt_26 ⟨rfl, h0x, rfl⟩
set_option maxRecDepth 100000 in
theorem c_X2_behindAt (s : St) (t0 t1 : Sp) (g0 h0 g1 h1 : Nat → Int32) (i : Int32) (k : Nat) (hi : i = nI k) (hk : k < 8) (hw : wfH s (hn s) k) (l1 : LawC 1 t1 g1) : AMet yX2_behindAt cX2_behindAt 2 (some (.int)) 2 0 0 [.ref 0, .int i] (RW s t0 g0 h0 t1 g1 h1) (pI fun x h => x = behind t1 s k ∧ ∃ h1' : Nat → Int32, h = RW s t0 g0 h0 t1 g1 h1') := by
  refine AMet.of (by decide +kernel) rfl (fun E ad0 hE => ?_)
  refine A_aload_n hE 1 dX2_behindAt_0 rfl rfl ?_
  refine A_get hE 4 dX2_behindAt_1 rfl fkX2_20 rfl rfl ?_
  refine A_aload_n hE 5 dX2_behindAt_4 rfl rfl ?_
  refine A_iload_n hE 6 dX2_behindAt_5 rfl rfl ?_
  refine A_callVi hE 9 (c_X2_leavesAt s t0 t1 g0 h0 g1 h1 i k hi hk hw) [0, 1, 2, 3, 4, 5, 6, 7, 8, 9, 10, 11, 12] dX2_behindAt_6 rfl mkX2_83 rfl rfl rfl rfl rfl rfl rfl (Nat.le_of_ble_eq_true rfl) (Nat.le_of_ble_eq_true rfl) rfl (fun x6 h6 g6 hp6 hw6 => ?_)
  obtain ⟨rfl, rfl⟩ := hp6
  obtain rfl := Option.some.inj hw6
  refine A_h (RW s t0 g0 h0 t1 g1 h1) rfl ?_
  refine A_aload_n hE 10 dX2_behindAt_9 rfl rfl ?_
  refine A_get hE 13 dX2_behindAt_10 rfl fkX2_49 rfl rfl ?_
  refine A_bipush hE 15 dX2_behindAt_13 rfl (10) (by decide) ?_
  refine A_idiv hE 16 dX2_behindAt_15 rfl (by decide) ?_
  refine A_aload_n hE 17 dX2_behindAt_16 rfl rfl ?_
  refine A_get hE 20 dX2_behindAt_17 rfl fkX2_43 rfl rfl ?_
  refine A_bipush hE 22 dX2_behindAt_20 rfl (8) (by decide) ?_
  refine A_irem hE 23 dX2_behindAt_22 rfl (by decide) ?_
  refine A_callVi hE 26 (c_X0_gives 1 t1 g1 h1 (leaves s k) (s 2 / 10) (rm (s 0) 8) (by omega) l1) [5, 6, 7, 8] dX2_behindAt_23 rfl mkX2_79 rfl rfl rfl rfl rfl rfl rfl (Nat.le_of_ble_eq_true rfl) (Nat.le_of_ble_eq_true rfl) rfl (fun x23 h23 g23 hp23 hw23 => ?_)
  obtain ⟨rfl, h1x, rfl⟩ := hp23
  obtain rfl := Option.some.inj hw23
  refine A_iret hE dX2_behindAt_26 ⟨rfl, h1x, rfl⟩
set_option maxRecDepth 100000 in
theorem c_X2_hear (s : St) (t0 t1 : Sp) (g0 h0 g1 h1 : Nat → Int32) (w : wf s) (l0 : LawC 0 t0 g0) : AMet yX2_hear cX2_hear 1 none 3 0 0 [.ref 0] (RW s t0 g0 h0 t1 g1 h1) (pV fun h => ∃ h0' : Nat → Int32, h = RW (hearS t0 s) t0 g0 h0' t1 g1 h1) := by
  refine AMet.of (by decide +kernel) rfl (fun E ad0 hE => ?_)
  obtain ⟨w1, w2, w3, w4, w5, w6, w7⟩ := id w
  refine A_aload_n hE 1 dX2_hear_0 rfl rfl ?_
  refine A_aload_n hE 2 dX2_hear_1 rfl rfl ?_
  refine A_get hE 5 dX2_hear_2 rfl fkX2_55 rfl rfl ?_
  refine A_callVi hE 8 (c_X2_has s t0 t1 g0 h0 g1 h1 (s 4)) [0, 1, 2, 3, 4, 5, 6, 7, 8, 9, 10, 11, 12] dX2_hear_5 rfl mkX2_92 rfl rfl rfl rfl rfl rfl rfl (Nat.le_of_ble_eq_true rfl) (Nat.le_of_ble_eq_true rfl) rfl (fun x5 h5 g5 hp5 hw5 => ?_)
  obtain ⟨rfl, rfl⟩ := hp5
  obtain rfl := Option.some.inj hw5
  refine A_h (RW s t0 g0 h0 t1 g1 h1) rfl ?_
  refine A_if_eq hE 11 70 dX2_hear_8 rfl rfl (fun c8 => ?_) (fun c8 => ?_)
  · have hz := has_no w (bI_0 c8)
    refine A_vret hE dX2_hear_70 ?_
    exact ⟨h0, by rw [hearS, if_neg (by omega)]⟩
  · have hy := has_yes w (bI_1 c8)
    refine A_aload_n hE 12 dX2_hear_11 rfl rfl ?_
    refine A_get hE 15 dX2_hear_12 rfl fkX2_30 rfl rfl ?_
    refine A_aload_n hE 16 dX2_hear_15 rfl rfl ?_
    refine A_get hE 19 dX2_hear_16 rfl fkX2_55 rfl rfl ?_
    refine A_sipush hE 22 dX2_hear_19 rfl (9999) (by decide) ?_
    refine A_aload_n hE 23 dX2_hear_22 rfl rfl ?_
    refine A_get hE 26 dX2_hear_23 rfl fkX2_30 rfl rfl ?_
    refine A_aload_n hE 27 dX2_hear_26 rfl rfl ?_
    refine A_get hE 30 dX2_hear_27 rfl fkX2_55 rfl rfl ?_
    refine A_iald hE 31 ((atN s)) dX2_hear_30 rfl rfl w3 (by omega) rfl ?_
    refine A_aload_n hE 32 dX2_hear_31 rfl rfl ?_
    refine A_aload_n hE 33 dX2_hear_32 rfl rfl ?_
    refine A_get hE 36 dX2_hear_33 rfl fkX2_55 rfl rfl ?_
    refine A_callVi hE 39 (c_X2_saidAt s t0 t1 g0 h0 g1 h1 (s 4) (atN s) w3 (by omega) (w5 _ (by omega)) l0) [0, 1, 2, 3, 4, 5, 6, 7, 8, 9, 10, 11, 12] dX2_hear_36 rfl mkX2_96 rfl rfl rfl rfl rfl rfl rfl (Nat.le_of_ble_eq_true rfl) (Nat.le_of_ble_eq_true rfl) rfl (fun x36 h36 g36 hp36 hw36 => ?_)
    obtain ⟨rfl, h0x, rfl⟩ := hp36
    obtain rfl := Option.some.inj hw36
    refine A_h (RW s t0 g0 h0x t1 g1 h1) rfl ?_
    refine A_iadd hE 40 dX2_hear_39 rfl ?_
    refine A_callSi hE 43 (c_J9_min_7cf53 9999 (its s (atN s) 2 + said t0 s (atN s))) [] dX2_hear_40 rfl mkX2_99 rfl rfl rfl rfl rfl rfl (Nat.le_of_ble_eq_true rfl) (Nat.le_of_ble_eq_true rfl) rfl (fun x40 h40 g40 hp40 hw40 => ?_)
    obtain ⟨rfl, rfl⟩ := hp40
    obtain rfl := Option.some.inj hw40
    rw [held_min2 (w5 (atN s) (by omega)).2.2.1 (said_rng t0 s (atN s))]
    refine A_iast hE 44 ((atN s)) dX2_hear_43 rfl rfl w3 (by omega) rfl rfl ?_
    refine A_aload_n hE 45 dX2_hear_44 rfl rfl ?_
    refine A_get hE 48 dX2_hear_45 rfl fkX2_33 rfl rfl ?_
    refine A_aload_n hE 49 dX2_hear_48 rfl rfl ?_
    refine A_get hE 52 dX2_hear_49 rfl fkX2_55 rfl rfl ?_
    refine A_sipush hE 55 dX2_hear_52 rfl (9999) (by decide) ?_
    refine A_aload_n hE 56 dX2_hear_55 rfl rfl ?_
    refine A_get hE 59 dX2_hear_56 rfl fkX2_33 rfl rfl ?_
    refine A_aload_n hE 60 dX2_hear_59 rfl rfl ?_
    refine A_get hE 63 dX2_hear_60 rfl fkX2_55 rfl rfl ?_
    refine A_iald hE 64 ((atN s)) dX2_hear_63 rfl rfl w3 (by omega) rfl ?_
    refine A_iconst hE 65 dX2_hear_64 rfl (1) rfl ?_
    refine A_iadd hE 66 dX2_hear_65 rfl ?_
    refine A_callSi hE 69 (c_J9_min_7cf53 9999 (its s (atN s) 3 + 1)) [] dX2_hear_66 rfl mkX2_99 rfl rfl rfl rfl rfl rfl (Nat.le_of_ble_eq_true rfl) (Nat.le_of_ble_eq_true rfl) rfl (fun x66 h66 g66 hp66 hw66 => ?_)
    obtain ⟨rfl, rfl⟩ := hp66
    obtain rfl := Option.some.inj hw66
    rw [held_min2 (w5 (atN s) (by omega)).2.2.2.1 (y := 1) ⟨1, by omega, rfl⟩]
    refine A_iast hE 70 ((atN s)) dX2_hear_69 rfl rfl w3 (by omega) rfl rfl ?_
    refine A_vret hE dX2_hear_70 ?_
    exact ⟨h0x, by rw [hearS, if_pos (by omega), RW_hear]⟩
set_option maxRecDepth 100000 in
theorem c_X2_nextPlace (s : St) (t0 t1 : Sp) (g0 h0 g1 h1 : Nat → Int32) (w : wf s) (ha : atN s < hn s) : AMet yX2_nextPlace cX2_nextPlace 3 (some (.int)) 1 0 0 [.ref 0] (RW s t0 g0 h0 t1 g1 h1) (pI fun x h => x = nI (nxt s) ∧ h = RW s t0 g0 h0 t1 g1 h1) := by
  refine AMet.of (by decide +kernel) rfl (fun E ad0 hE => ?_)
  obtain ⟨w1, w2, w3, w4, w5, w6, w7⟩ := id w
  have hmod : ∀ z, z % hn s < hn s := fun z => Nat.mod_lt _ (by omega)
  have loop : ∀ (m i : Nat), hn s - i = m → 1 ≤ i → i ≤ hn s → nxt s = nxtF s (hn s) (atN s) m i → AW E (rmD 1 0 0) 3 (QM E ad0 13 0 0 (pI fun x h => x = nI (nxt s) ∧ h = RW s t0 g0 h0 t1 g1 h1)) ad0 13 0 0 7 [(0, .ref 0), (1, .int (nI ((atN s + (i - 1)) % hn s))), (2, .int (nI i))] [] (RW s t0 g0 h0 t1 g1 h1) := by
    intro m
    induction m with
    | zero =>
      intro i hm hi1 hi2 hx
      have hi : i = hn s := by omega
      refine A_iload_n hE 8 dX2_nextPlace_7 rfl rfl ?_
      refine A_aload_n hE 9 dX2_nextPlace_8 rfl rfl ?_
      refine A_get hE 12 dX2_nextPlace_9 rfl fkX2_40 rfl rfl ?_
      refine A_icmp_ge hE 15 49 dX2_nextPlace_12 rfl rfl (fun c12 => ?_) (fun c12 => absurd (by rw [w2, hi]; exact nI_le (Nat.le_refl _) (by omega)) c12)
      refine A_aload_n hE 50 dX2_nextPlace_49 rfl rfl ?_
      refine A_get hE 53 dX2_nextPlace_50 rfl fkX2_55 rfl rfl ?_
      refine A_iret hE dX2_nextPlace_53 ⟨?_, rfl⟩
      rw [hx]
      exact w3
    | succ m ih =>
      intro i hm hi1 hi2 hx
      have hlt : i < hn s := by omega
      have hst := nx_step (hn s) (by omega) (atN s) ha i hlt hi1
      have mid : AW E (rmD 1 0 0) 3 (QM E ad0 13 0 0 (pI fun x h => x = nI (nxt s) ∧ h = RW s t0 g0 h0 t1 g1 h1)) ad0 13 0 0 32 [(0, .ref 0), (1, .int (nI ((atN s + (i - 1)) % hn s))), (2, .int (nI i))] [.int (nI ((atN s + i) % hn s))] (RW s t0 g0 h0 t1 g1 h1) := by
        refine A_istore_n hE 33 dX2_nextPlace_32 rfl rfl rfl ?_
        refine A_aload_n hE 34 dX2_nextPlace_33 rfl rfl ?_
        refine A_iload_n hE 35 dX2_nextPlace_34 rfl rfl ?_
        refine A_callVi hE 38 (c_X2_pastAt s t0 t1 g0 h0 g1 h1 (nI ((atN s + i) % hn s)) ((atN s + i) % hn s) rfl (by have := hmod (atN s + i); omega) (w5 _ (by have := hmod (atN s + i); omega)).2.2.2.2.1) [0, 1, 2, 3, 4, 5, 6, 7, 8, 9, 10, 11, 12] dX2_nextPlace_35 rfl mkX2_118 rfl rfl rfl rfl rfl rfl rfl (Nat.le_of_ble_eq_true rfl) (Nat.le_of_ble_eq_true rfl) rfl (fun x35 h35 g35 hp35 hw35 => ?_)
        obtain ⟨rfl, rfl⟩ := hp35
        obtain rfl := Option.some.inj hw35
        refine A_h (RW s t0 g0 h0 t1 g1 h1) rfl ?_
        refine A_if_ne hE 41 43 dX2_nextPlace_38 rfl rfl (fun c38 => ?_) (fun c38 => ?_)
        · refine A_iinc hE 46 dX2_nextPlace_43 rfl rfl (1) rfl rfl rfl ?_
          rw [nI_1]
          refine A_lv [0, 1, 2] rfl ?_
          refine A_goto hE 7 dX2_nextPlace_46 rfl ?_
          exact ih (i + 1) (by omega) (by omega) (by omega) (by rw [hx, nxtF_s, if_neg c38])
        · refine A_iload_n hE 42 dX2_nextPlace_41 rfl rfl ?_
          refine A_iret hE dX2_nextPlace_42 ⟨?_, rfl⟩
          rw [hx, nxtF_s, if_pos c38]
      refine A_iload_n hE 8 dX2_nextPlace_7 rfl rfl ?_
      refine A_aload_n hE 9 dX2_nextPlace_8 rfl rfl ?_
      refine A_get hE 12 dX2_nextPlace_9 rfl fkX2_40 rfl rfl ?_
      refine A_icmp_ge hE 15 49 dX2_nextPlace_12 rfl rfl (fun c12 => absurd c12 (by rw [w2]; exact nI_ge hlt (by omega))) (fun c12 => ?_)
      refine A_iload_n hE 16 dX2_nextPlace_15 rfl rfl ?_
      refine A_iconst hE 17 dX2_nextPlace_16 rfl (1) rfl ?_
      refine A_iadd hE 18 dX2_nextPlace_17 rfl ?_
      refine A_aload_n hE 19 dX2_nextPlace_18 rfl rfl ?_
      refine A_get hE 22 dX2_nextPlace_19 rfl fkX2_40 rfl rfl ?_
      refine A_icmp_ge hE 25 31 dX2_nextPlace_22 rfl rfl (fun c22 => ?_) (fun c22 => ?_)
      · rw [nI_1, w2] at c22
        have c22 := (nI_leI (by omega) (by have := hmod (atN s + (i - 1)); omega)).mp c22
        refine A_iconst hE 32 dX2_nextPlace_31 rfl (0) rfl ?_
        rw [show (0 : Int32) = nI ((atN s + i) % hn s) by rw [← hst, if_neg (by omega)]; rfl]
        exact mid
      · rw [nI_1, w2] at c22
        have c22 := (nI_ltI (by have := hmod (atN s + (i - 1)); omega) (by omega)).mp (iG c22)
        refine A_iload_n hE 26 dX2_nextPlace_25 rfl rfl ?_
        refine A_iconst hE 27 dX2_nextPlace_26 rfl (1) rfl ?_
        refine A_iadd hE 28 dX2_nextPlace_27 rfl ?_
        rw [nI_1, show (atN s + (i - 1)) % hn s + 1 = (atN s + i) % hn s by rw [← hst, if_pos c22]]
        refine A_goto hE 32 dX2_nextPlace_28 rfl ?_
        exact mid
  refine A_aload_n hE 1 dX2_nextPlace_0 rfl rfl ?_
  refine A_get hE 4 dX2_nextPlace_1 rfl fkX2_55 rfl rfl ?_
  refine A_istore_n hE 5 dX2_nextPlace_4 rfl rfl rfl ?_
  refine A_iconst hE 6 dX2_nextPlace_5 rfl (1) rfl ?_
  refine A_istore_n hE 7 dX2_nextPlace_6 rfl rfl rfl ?_
  refine A_lv [0, 1, 2] rfl ?_
  rw [show s 4 = nI ((atN s + (1 - 1)) % hn s) by rw [w3, Nat.add_zero, Nat.mod_eq_of_lt ha]]
  exact loop (hn s - 1) 1 rfl (by omega) (by omega) rfl
set_option maxRecDepth 100000 in
theorem c_X2_carryOn (s : St) (t0 t1 : Sp) (g0 h0 g1 h1 : Nat → Int32) (w : wf s) (l1 : LawC 1 t1 g1) : AMet yX2_carryOn cX2_carryOn 2 none 3 0 0 [.ref 0] (RW s t0 g0 h0 t1 g1 h1) (pV fun h => ∃ h1' : Nat → Int32, h = RW (carS t1 s) t0 g0 h0 t1 g1 h1') := by
  refine AMet.of (by decide +kernel) rfl (fun E ad0 hE => ?_)
  obtain ⟨w1, w2, w3, w4, w5, w6, w7⟩ := id w
  have tail : ∀ (s' : St) (h1x : Nat → Int32), wf s' → carS t1 s = ageS s' → AW E (rmD 3 0 0) 2 (QM E ad0 13 0 0 (pV fun h => ∃ h1' : Nat → Int32, h = RW (carS t1 s) t0 g0 h0 t1 g1 h1')) ad0 13 0 0 54 [(0, .ref 0)] [] (RW s' t0 g0 h0 t1 g1 h1x) := by
    intro s' h1x w' he
    obtain ⟨k, hk1, hk2, hk3⟩ := w'.2.2.2.2.2.2
    refine A_aload_n hE 55 dX2_carryOn_54 rfl rfl ?_
    refine A_dup hE 56 dX2_carryOn_55 rfl rfl ?_
    refine A_get hE 59 dX2_carryOn_56 rfl fkX2_43 rfl rfl ?_
    refine A_iconst hE 60 dX2_carryOn_59 rfl (1) rfl ?_
    refine A_iadd hE 61 dX2_carryOn_60 rfl ?_
    refine A_put hE 64 dX2_carryOn_61 rfl fkX2_43 rfl rfl rfl rfl ?_
    refine A_aload_n hE 65 dX2_carryOn_64 rfl rfl ?_
    refine A_get hE 68 dX2_carryOn_65 rfl fkX2_52 rfl rfl ?_
    refine A_if_le hE 71 89 dX2_carryOn_68 rfl rfl (fun c68 => absurd c68 (by rw [hk3]; exact nI_nle (by omega) (by omega))) (fun c68 => ?_)
    refine A_aload_n hE 72 dX2_carryOn_71 rfl rfl ?_
    refine A_get hE 75 dX2_carryOn_72 rfl fkX2_43 rfl rfl ?_
    refine A_aload_n hE 76 dX2_carryOn_75 rfl rfl ?_
    refine A_get hE 79 dX2_carryOn_76 rfl fkX2_52 rfl rfl ?_
    refine A_irem hE 80 dX2_carryOn_79 rfl (by rw [hk3]; exact nI_ne0 (by omega) (by omega)) ?_
    refine A_if_ne hE 83 89 dX2_carryOn_80 rfl rfl (fun c80 => ?_) (fun c80 => ?_)
    · refine A_vret hE dX2_carryOn_89 ?_
      exact ⟨h1x, by rw [he, ageS, if_neg c80, RW_0]⟩
    · refine A_aload_n hE 84 dX2_carryOn_83 rfl rfl ?_
      refine A_bipush hE 86 dX2_carryOn_84 rfl (99) (by decide) ?_
      refine A_put hE 89 dX2_carryOn_86 rfl fkX2_49 rfl rfl rfl rfl ?_
      refine A_vret hE dX2_carryOn_89 ?_
      exact ⟨h1x, by rw [he, ageS, if_pos c80, RW_02]⟩
  refine A_aload_n hE 1 dX2_carryOn_0 rfl rfl ?_
  refine A_aload_n hE 2 dX2_carryOn_1 rfl rfl ?_
  refine A_get hE 5 dX2_carryOn_2 rfl fkX2_55 rfl rfl ?_
  refine A_callVi hE 8 (c_X2_has s t0 t1 g0 h0 g1 h1 (s 4)) [0, 1, 2, 3, 4, 5, 6, 7, 8, 9, 10, 11, 12] dX2_carryOn_5 rfl mkX2_92 rfl rfl rfl rfl rfl rfl rfl (Nat.le_of_ble_eq_true rfl) (Nat.le_of_ble_eq_true rfl) rfl (fun x5 h5 g5 hp5 hw5 => ?_)
  obtain ⟨rfl, rfl⟩ := hp5
  obtain rfl := Option.some.inj hw5
  refine A_h (RW s t0 g0 h0 t1 g1 h1) rfl ?_
  refine A_if_eq hE 11 54 dX2_carryOn_8 rfl rfl (fun c8 => ?_) (fun c8 => ?_)
  · have hz := has_no w (bI_0 c8)
    refine A_lv [0] rfl ?_
    exact tail s h1 w (by rw [carS, goS, if_neg (by omega)])
  · have hy := has_yes w (bI_1 c8)
    refine A_aload_n hE 12 dX2_carryOn_11 rfl rfl ?_
    refine A_aload_n hE 13 dX2_carryOn_12 rfl rfl ?_
    refine A_get hE 16 dX2_carryOn_13 rfl fkX2_55 rfl rfl ?_
    refine A_callVi hE 19 (c_X2_behindAt s t0 t1 g0 h0 g1 h1 (s 4) (atN s) w3 (by omega) (w5 _ (by omega)) l1) [0, 1, 2, 3, 4, 5, 6, 7, 8, 9, 10, 11, 12] dX2_carryOn_16 rfl mkX2_105 rfl rfl rfl rfl rfl rfl rfl (Nat.le_of_ble_eq_true rfl) (Nat.le_of_ble_eq_true rfl) rfl (fun x16 h16 g16 hp16 hw16 => ?_)
    obtain ⟨rfl, h1x, rfl⟩ := hp16
    obtain rfl := Option.some.inj hw16
    refine A_h (RW s t0 g0 h0 t1 g1 h1x) rfl ?_
    refine A_istore_n hE 20 dX2_carryOn_19 rfl rfl rfl ?_
    refine A_aload_n hE 21 dX2_carryOn_20 rfl rfl ?_
    refine A_iconst hE 22 dX2_carryOn_21 rfl (0) rfl ?_
    refine A_aload_n hE 23 dX2_carryOn_22 rfl rfl ?_
    refine A_get hE 26 dX2_carryOn_23 rfl fkX2_49 rfl rfl ?_
    refine A_aload_n hE 27 dX2_carryOn_26 rfl rfl ?_
    refine A_aload_n hE 28 dX2_carryOn_27 rfl rfl ?_
    refine A_get hE 31 dX2_carryOn_28 rfl fkX2_55 rfl rfl ?_
    refine A_callVi hE 34 (c_X2_bluntsAt s t0 t1 g0 h0 g1 h1x (s 4) (atN s) w3 (by omega) (w5 _ (by omega))) [0, 1, 2, 3, 4, 5, 6, 7, 8, 9, 10, 11, 12] dX2_carryOn_31 rfl mkX2_108 rfl rfl rfl rfl rfl rfl rfl (Nat.le_of_ble_eq_true rfl) (Nat.le_of_ble_eq_true rfl) rfl (fun x31 h31 g31 hp31 hw31 => ?_)
    obtain ⟨rfl, rfl⟩ := hp31
    obtain rfl := Option.some.inj hw31
    refine A_h (RW s t0 g0 h0 t1 g1 h1x) rfl ?_
    refine A_isub hE 35 dX2_carryOn_34 rfl ?_
    refine A_callSi hE 38 (c_J9_max_7cf53 0 (s 2 - blunts s (atN s))) [] dX2_carryOn_35 rfl mkX2_111 rfl rfl rfl rfl rfl rfl (Nat.le_of_ble_eq_true rfl) (Nat.le_of_ble_eq_true rfl) rfl (fun x35 h35 g35 hp35 hw35 => ?_)
    obtain ⟨rfl, rfl⟩ := hp35
    obtain rfl := Option.some.inj hw35
    rw [held_max w6 (blunts_rng (w5 (atN s) (by omega)))]
    refine A_put hE 41 dX2_carryOn_38 rfl fkX2_49 rfl rfl rfl rfl ?_
    refine A_aload_n hE 42 dX2_carryOn_41 rfl rfl ?_
    refine A_iload_n hE 43 dX2_carryOn_42 rfl rfl ?_
    refine A_put hE 46 dX2_carryOn_43 rfl fkX2_46 rfl rfl rfl rfl ?_
    refine A_aload_n hE 47 dX2_carryOn_46 rfl rfl ?_
    refine A_aload_n hE 48 dX2_carryOn_47 rfl rfl ?_
    refine A_h (RW (go2 t1 s) t0 g0 h0 t1 g1 h1x) RW_go2.symm ?_
    refine A_callVi hE 51 (c_X2_nextPlace (go2 t1 s) t0 t1 g0 h0 g1 h1x (wf_go2 w) hy) [0, 1, 2, 3, 4, 5, 6, 7, 8, 9, 10, 11, 12] dX2_carryOn_48 rfl mkX2_114 rfl rfl rfl rfl rfl rfl rfl (Nat.le_of_ble_eq_true rfl) (Nat.le_of_ble_eq_true rfl) rfl (fun x48 h48 g48 hp48 hw48 => ?_)
    obtain ⟨rfl, rfl⟩ := hp48
    obtain rfl := Option.some.inj hw48
    refine A_h (RW (go2 t1 s) t0 g0 h0 t1 g1 h1x) rfl ?_
    refine A_put hE 54 dX2_carryOn_51 rfl fkX2_55 rfl rfl rfl rfl ?_
    refine A_lv [0] rfl ?_
    exact A_h (RW (upd (go2 t1 s) 4 (nI (nxt (go2 t1 s)))) t0 g0 h0 t1 g1 h1x) RW_4.symm (tail _ h1x (wf_4 (wf_go2 w) (nxt_lt (s := go2 t1 s) hy)) (by rw [carS, goS, if_pos (by omega)]))
set_option maxRecDepth 100000 in
theorem c_X2_passDays (s : St) (t0 t1 : Sp) (g0 h0 g1 h1 : Nat → Int32) (n : Nat) (hn : n ≤ 1000) (w : wf s) (l0 : LawC 0 t0 g0) (l1 : LawC 1 t1 g1) : AMet yX2_passDays cX2_passDays 3 none 4 0 0 [.ref 0, .int (nI n)] (RW s t0 g0 h0 t1 g1 h1) (pV fun h => ∃ h0' h1' : Nat → Int32, h = RW (dN t0 t1 n s) t0 g0 h0' t1 g1 h1') := by
  refine AMet.of (by decide +kernel) rfl (fun E ad0 hE => ?_)
  have loop : ∀ (m i : Nat) (s' : St) (h0 h1 : Nat → Int32), n - i = m → i ≤ n → wf s' → dN t0 t1 n s = dN t0 t1 m s' → AW E (rmD 4 0 0) 3 (QM E ad0 13 0 0 (pV fun h => ∃ h0' h1' : Nat → Int32, h = RW (dN t0 t1 n s) t0 g0 h0' t1 g1 h1')) ad0 13 0 0 2 [(0, .ref 0), (1, .int (nI n)), (2, .int (nI i))] [] (RW s' t0 g0 h0 t1 g1 h1) := by
    intro m
    induction m with
    | zero =>
      intro i s' h0 h1 hm hi w' he
      have hi2 : i = n := by omega
      refine A_iload_n hE 3 dX2_passDays_2 rfl rfl ?_
      refine A_iload_n hE 4 dX2_passDays_3 rfl rfl ?_
      refine A_icmp_ge hE 7 21 dX2_passDays_4 rfl rfl (fun c4 => ?_) (fun c4 => absurd (by rw [hi2]; exact nI_le (Nat.le_refl _) (by omega)) c4)
      refine A_vret hE dX2_passDays_21 ?_
      exact ⟨h0, h1, by rw [he]; rfl⟩
    | succ m ih =>
      intro i s' h0 h1 hm hi w' he
      have hlt : i < n := by omega
      refine A_iload_n hE 3 dX2_passDays_2 rfl rfl ?_
      refine A_iload_n hE 4 dX2_passDays_3 rfl rfl ?_
      refine A_icmp_ge hE 7 21 dX2_passDays_4 rfl rfl (fun c4 => absurd c4 (nI_ge hlt (by omega))) (fun c4 => ?_)
      refine A_aload_n hE 8 dX2_passDays_7 rfl rfl ?_
      refine A_callVv hE 11 (c_X2_hear s' t0 t1 g0 h0 g1 h1 w' l0) [0, 1, 2, 3, 4, 5, 6, 7, 8, 9, 10, 11, 12] dX2_passDays_8 rfl mkX2_86 rfl rfl rfl rfl rfl rfl rfl (Nat.le_of_ble_eq_true rfl) (Nat.le_of_ble_eq_true rfl) rfl (fun h8 g8 hp8 hw8 => ?_)
      obtain ⟨h0y, rfl⟩ := hp8
      obtain rfl := Option.some.inj hw8
      refine A_h (RW (hearS t0 s') t0 g0 h0y t1 g1 h1) rfl ?_
      refine A_aload_n hE 12 dX2_passDays_11 rfl rfl ?_
      refine A_callVv hE 15 (c_X2_carryOn (hearS t0 s') t0 t1 g0 h0y g1 h1 (wf_hear w') l1) [0, 1, 2, 3, 4, 5, 6, 7, 8, 9, 10, 11, 12] dX2_passDays_12 rfl mkX2_89 rfl rfl rfl rfl rfl rfl rfl (Nat.le_of_ble_eq_true rfl) (Nat.le_of_ble_eq_true rfl) rfl (fun h12 g12 hp12 hw12 => ?_)
      obtain ⟨h1y, rfl⟩ := hp12
      obtain rfl := Option.some.inj hw12
      refine A_h (RW (carS t1 (hearS t0 s')) t0 g0 h0y t1 g1 h1y) rfl ?_
      refine A_iinc hE 18 dX2_passDays_15 rfl rfl (1) rfl rfl rfl ?_
      rw [nI_1]
      refine A_lv [0, 1, 2] rfl ?_
      refine A_goto hE 2 dX2_passDays_18 rfl ?_
      exact ih (i + 1) (day1 t0 t1 s') h0y h1y (by omega) (by omega) (wf_day w') he
  refine A_iconst hE 1 dX2_passDays_0 rfl (0) rfl ?_
  refine A_istore_n hE 2 dX2_passDays_1 rfl rfl rfl ?_
  refine A_lv [0, 1, 2] rfl ?_
  exact loop n 0 s h0 h1 (by omega) (Nat.zero_le _) w rfl
set_option maxRecDepth 100000 in
theorem c_X2_passDaysFor (s : St) (t0 t1 : Sp) (g0 h0 g1 h1 : Nat → Int32) (k : Nat) (hk : k < 8) (n : Nat) (hn : n ≤ 1000) (w : wf s) (l0 : LawC 0 t0 g0) (l1 : LawC 1 t1 g1) : AMet yX2_passDaysFor cX2_passDaysFor 4 none 4 0 0 [.ref 0, .int (nI k), .int (nI n)] (RW s t0 g0 h0 t1 g1 h1) (pV fun h => ∃ h0' h1' : Nat → Int32, h = RW (dF t0 t1 k n s) t0 g0 h0' t1 g1 h1') := by
  refine AMet.of (by decide +kernel) rfl (fun E ad0 hE => ?_)
  have loop : ∀ (m i : Nat) (s' : St) (h0 h1 : Nat → Int32), n - i = m → i ≤ n → wf s' → dF t0 t1 k n s = dF t0 t1 k m s' → AW E (rmD 4 0 0) 4 (QM E ad0 13 0 0 (pV fun h => ∃ h0' h1' : Nat → Int32, h = RW (dF t0 t1 k n s) t0 g0 h0' t1 g1 h1')) ad0 13 0 0 2 [(0, .ref 0), (1, .int (nI k)), (2, .int (nI n)), (3, .int (nI i))] [] (RW s' t0 g0 h0 t1 g1 h1) := by
    intro m
    induction m with
    | zero =>
      intro i s' h0 h1 hm hi w' he
      have hi2 : i = n := by omega
      refine A_iload_n hE 3 dX2_passDaysFor_2 rfl rfl ?_
      refine A_iload_n hE 4 dX2_passDaysFor_3 rfl rfl ?_
      refine A_icmp_ge hE 7 29 dX2_passDaysFor_4 rfl rfl (fun c4 => ?_) (fun c4 => absurd (by rw [hi2]; exact nI_le (Nat.le_refl _) (by omega)) c4)
      refine A_vret hE dX2_passDaysFor_29 ?_
      exact ⟨h0, h1, by rw [he]; rfl⟩
    | succ m ih =>
      intro i s' h0 h1 hm hi w' he
      have hlt : i < n := by omega
      refine A_iload_n hE 3 dX2_passDaysFor_2 rfl rfl ?_
      refine A_iload_n hE 4 dX2_passDaysFor_3 rfl rfl ?_
      refine A_icmp_ge hE 7 29 dX2_passDaysFor_4 rfl rfl (fun c4 => absurd c4 (nI_ge hlt (by omega))) (fun c4 => ?_)
      refine A_aload_n hE 8 dX2_passDaysFor_7 rfl rfl ?_
      refine A_get hE 11 dX2_passDaysFor_8 rfl fkX2_55 rfl rfl ?_
      refine A_iload_n hE 12 dX2_passDaysFor_11 rfl rfl ?_
      refine A_icmp_ne hE 15 19 dX2_passDaysFor_12 rfl rfl (fun c12 => ?_) (fun c12 => ?_)
      · have ne : ¬ atN s' = k := fun z => c12 (by rw [w'.2.2.1, z])
        refine A_aload_n hE 20 dX2_passDaysFor_19 rfl rfl ?_
        refine A_callVv hE 23 (c_X2_carryOn s' t0 t1 g0 h0 g1 h1 w' l1) [0, 1, 2, 3, 4, 5, 6, 7, 8, 9, 10, 11, 12] dX2_passDaysFor_20 rfl mkX2_89 rfl rfl rfl rfl rfl rfl rfl (Nat.le_of_ble_eq_true rfl) (Nat.le_of_ble_eq_true rfl) rfl (fun h20 g20 hp20 hw20 => ?_)
        obtain ⟨h1y, rfl⟩ := hp20
        obtain rfl := Option.some.inj hw20
        refine A_h (RW (carS t1 s') t0 g0 h0 t1 g1 h1y) rfl ?_
        rw [show carS t1 s' = dayF t0 t1 k s' by rw [dayF, if_neg ne]]
        refine A_iinc hE 26 dX2_passDaysFor_23 rfl rfl (1) rfl rfl rfl ?_
        rw [nI_1]
        refine A_lv [0, 1, 2, 3] rfl ?_
        refine A_goto hE 2 dX2_passDaysFor_26 rfl ?_
        exact ih (i + 1) (dayF t0 t1 k s') h0 h1y (by omega) (by omega) (wf_dayF w') he
      · have eq : atN s' = k := (nI_eq (by have := w'.1; have := w'.2.2.2.1; omega) (by omega)).mp (by rw [← w'.2.2.1]; exact c12)
        refine A_aload_n hE 16 dX2_passDaysFor_15 rfl rfl ?_
        refine A_callVv hE 19 (c_X2_hear s' t0 t1 g0 h0 g1 h1 w' l0) [0, 1, 2, 3, 4, 5, 6, 7, 8, 9, 10, 11, 12] dX2_passDaysFor_16 rfl mkX2_86 rfl rfl rfl rfl rfl rfl rfl (Nat.le_of_ble_eq_true rfl) (Nat.le_of_ble_eq_true rfl) rfl (fun h16 g16 hp16 hw16 => ?_)
        obtain ⟨h0y, rfl⟩ := hp16
        obtain rfl := Option.some.inj hw16
        refine A_h (RW (hearS t0 s') t0 g0 h0y t1 g1 h1) rfl ?_
        refine A_aload_n hE 20 dX2_passDaysFor_19 rfl rfl ?_
        refine A_callVv hE 23 (c_X2_carryOn (hearS t0 s') t0 t1 g0 h0y g1 h1 (wf_hear w') l1) [0, 1, 2, 3, 4, 5, 6, 7, 8, 9, 10, 11, 12] dX2_passDaysFor_20 rfl mkX2_89 rfl rfl rfl rfl rfl rfl rfl (Nat.le_of_ble_eq_true rfl) (Nat.le_of_ble_eq_true rfl) rfl (fun h20 g20 hp20 hw20 => ?_)
        obtain ⟨h1y, rfl⟩ := hp20
        obtain rfl := Option.some.inj hw20
        refine A_h (RW (carS t1 (hearS t0 s')) t0 g0 h0y t1 g1 h1y) rfl ?_
        rw [show carS t1 (hearS t0 s') = dayF t0 t1 k s' by rw [dayF, if_pos eq]; rfl]
        refine A_iinc hE 26 dX2_passDaysFor_23 rfl rfl (1) rfl rfl rfl ?_
        rw [nI_1]
        refine A_lv [0, 1, 2, 3] rfl ?_
        refine A_goto hE 2 dX2_passDaysFor_26 rfl ?_
        exact ih (i + 1) (dayF t0 t1 k s') h0y h1y (by omega) (by omega) (wf_dayF w') he
  refine A_iconst hE 1 dX2_passDaysFor_0 rfl (0) rfl ?_
  refine A_istore_n hE 2 dX2_passDaysFor_1 rfl rfl rfl ?_
  refine A_lv [0, 1, 2, 3] rfl ?_
  exact loop n 0 s h0 h1 (by omega) (Nat.zero_le _) w rfl
