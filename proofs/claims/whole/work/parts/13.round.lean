def arr (s : St) (j : Nat) : Nat → Int32 := fun h => its s h j
def bit (s : St) (h : Nat) : Nat := if its s h 4 = 0 then 0 else 1
def pmN (s : St) : Nat := bit s 0 + 2 * bit s 1 + 4 * bit s 2 + 8 * bit s 3 + 16 * bit s 4 + 32 * bit s 5 + 64 * bit s 6 + 128 * bit s 7
def pm (s : St) : Int32 := nI (pmN s)
abbrev RoundO (a b k m h t : Nat) (s : St) : AE := .inr (2, [.ref a, .ref b, .ref k, .ref m, .ref h, .ref t, .int (pm s), .int (s 8), .int (s 0), .int (s 1), .int (s 2), .int (s 3), .int (s 4), .int (s 5)])
/-- a round: its own cell, its two laws, its four rows -/
abbrev RW (s : St) (t0 : Sp) (g0 h0 : Nat → Int32) (t1 : Sp) (g1 h1 : Nat → Int32) : List AE := [RoundO 1 5 9 10 11 12 s, LawO 2 4 0, cRow 3 (nI t0.length), cI 60 g0, cI 60 h0, LawO 6 8 1, cRow 7 (nI t1.length), cI 60 g1, cI 60 h1, cI 8 (arr s 0), cI 8 (arr s 1), cI 8 (arr s 2), cI 8 (arr s 3)]
theorem arr_lo {s : St} {k j : Nat} {v : Int32} (hk : k < 9) : arr (upd s k v) j = arr s j := by
  funext h
  exact its_upd_lo hk
theorem arr_eq {s : St} {a j : Nat} {v : Int32} (hj : j < 5) : arr (upd s (9 + 5 * a + j) v) j = upd (arr s j) a v := by
  funext h
  show its _ h j = _
  rw [its_upd hj hj]
  by_cases e : h = a
  · subst e; rw [if_pos ⟨rfl, rfl⟩, upd_s]
  · rw [if_neg (fun z => e z.1), upd_n e]; rfl
theorem arr_ne {s : St} {a i j : Nat} {v : Int32} (hi : i < 5) (hj : j < 5) (h : j ≠ i) : arr (upd s (9 + 5 * a + i) v) j = arr s j := by
  funext z
  show its _ z j = _
  rw [its_upd hi hj, if_neg (fun w => h w.2)]
  rfl
theorem bit_ne {s : St} {a i h : Nat} {v : Int32} (hi : i < 4) : bit (upd s (9 + 5 * a + i) v) h = bit s h := by
  have e : its (upd s (9 + 5 * a + i) v) h 4 = its s h 4 := by
    rw [its_upd (by omega) (by omega)]
    exact if_neg (fun w => absurd w.2 (by omega))
  unfold bit
  rw [e]
theorem pm_ne {s : St} {a i : Nat} {v : Int32} (hi : i < 4) : pm (upd s (9 + 5 * a + i) v) = pm s := by
  unfold pm pmN
  simp only [bit_ne hi]
theorem bit_lo {s : St} {k h : Nat} {v : Int32} (hk : k < 9) : bit (upd s k v) h = bit s h := by
  unfold bit
  rw [its_upd_lo hk]
theorem pm_lo {s : St} {k : Nat} {v : Int32} (hk : k < 9) : pm (upd s k v) = pm s := by
  unfold pm pmN
  simp only [bit_lo hk]
theorem bit_le (s : St) (h : Nat) : bit s h ≤ 1 := by unfold bit; split <;> omega
theorem pmN_lt (s : St) : pmN s < 256 := by
  unfold pmN
  have := bit_le s 0; have := bit_le s 1; have := bit_le s 2; have := bit_le s 3; have := bit_le s 4; have := bit_le s 5; have := bit_le s 6; have := bit_le s 7
  omega
theorem bit_val {s : St} {h : Nat} (w : its s h 4 = 0 ∨ its s h 4 = 1) : nI (bit s h) = its s h 4 := by
  unfold bit
  rcases w with e | e
  · rw [if_pos e, e]; rfl
  · rw [if_neg (by rw [e]; decide), e]; rfl
theorem pm_get : ∀ m, m < 256 → ∀ h, h < 8 → (nI m >>> (nI h &&& 31)) &&& 1 = nI (m / 2 ^ h % 2) := by decide +kernel
theorem pm_put : ∀ m, m < 256 → ∀ h, h < 8 → ∀ v, v < 2 → (nI m &&& ((1 <<< (nI h &&& 31)) ^^^ (-1))) ||| (nI v <<< (nI h &&& 31)) = nI (m - (m / 2 ^ h % 2) * 2 ^ h + v * 2 ^ h) := by decide +kernel
theorem pm_bit (s : St) {h : Nat} (hh : h < 8) : pmN s / 2 ^ h % 2 = bit s h := by
  have := bit_le s 0; have := bit_le s 1; have := bit_le s 2; have := bit_le s 3; have := bit_le s 4; have := bit_le s 5; have := bit_le s 6; have := bit_le s 7
  unfold pmN
  match h, hh with
  | 0, _ => omega
  | 1, _ => omega
  | 2, _ => omega
  | 3, _ => omega
  | 4, _ => omega
  | 5, _ => omega
  | 6, _ => omega
  | 7, _ => omega
theorem bit_upd {s : St} {h h' : Nat} {v : Nat} (hv : v < 2) : bit (upd s (9 + 5 * h + 4) (nI v)) h' = if h' = h then v else bit s h' := by
  by_cases e : h' = h
  · subst e
    have e2 : its (upd s (9 + 5 * h' + 4) (nI v)) h' 4 = nI v := by
      rw [its_upd (by omega) (by omega)]
      exact if_pos ⟨rfl, rfl⟩
    unfold bit
    rw [e2, if_pos rfl]
    obtain rfl | rfl : v = 0 ∨ v = 1 := by omega
    · rfl
    · rfl
  · have e2 : its (upd s (9 + 5 * h + 4) (nI v)) h' 4 = its s h' 4 := by
      rw [its_upd (by omega) (by omega)]
      exact if_neg (fun z => e z.1)
    unfold bit
    rw [e2, if_neg e]
theorem pm_upd (s : St) {h v : Nat} (hh : h < 8) (hv : v < 2) : pm (upd s (9 + 5 * h + 4) (nI v)) = (pm s &&& ((1 <<< (nI h &&& 31)) ^^^ (-1))) ||| (nI v <<< (nI h &&& 31)) := by
  unfold pm
  rw [pm_put _ (pmN_lt s) h hh v hv, pm_bit s hh]
  congr 1
  have := bit_le s 0; have := bit_le s 1; have := bit_le s 2; have := bit_le s 3; have := bit_le s 4; have := bit_le s 5; have := bit_le s 6; have := bit_le s 7
  unfold pmN
  simp only [bit_upd hv]
  match h, hh with
  | 0, _ => simp; omega
  | 1, _ => simp; omega
  | 2, _ => simp; omega
  | 3, _ => simp; omega
  | 4, _ => simp; omega
  | 5, _ => simp; omega
  | 6, _ => simp; omega
  | 7, _ => simp; omega
theorem nx_step : ∀ n, n < 9 → ∀ a, a < n → ∀ i, i < n → 1 ≤ i → (if (a + (i - 1)) % n + 1 < n then (a + (i - 1)) % n + 1 else 0) = (a + i) % n := by decide +kernel

set_option maxRecDepth 100000 in
theorem c_X2_has (s : St) (t0 t1 : Sp) (g0 h0 g1 h1 : Nat → Int32) (i : Int32) : AMet yX2_has cX2_has 2 (some (.boolean)) 0 0 0 [.ref 0, .int i] (RW s t0 g0 h0 t1 g1 h1) (pI fun x h => x = bI (decide (0 ≤ i ∧ i < s 8)) ∧ h = RW s t0 g0 h0 t1 g1 h1) := by
  refine AMet.of (by decide +kernel) rfl (fun E ad0 hE => ?_)
  refine A_iload_n hE 1 dX2_has_0 rfl rfl ?_
  refine A_if_lt hE 4 16 dX2_has_1 rfl rfl (fun c1 => ?_) (fun c1 => ?_)
  · refine A_iconst hE 17 dX2_has_16 rfl (0) rfl ?_
    refine A_zret hE dX2_has_17 (by first | exact Or.inl rfl | exact Or.inr rfl) ⟨?_, rfl⟩
    exact bI_f (fun z => iN z.1 c1)
  · refine A_iload_n hE 5 dX2_has_4 rfl rfl ?_
    refine A_aload_n hE 6 dX2_has_5 rfl rfl ?_
    refine A_get hE 9 dX2_has_6 rfl fkX2_40 rfl rfl ?_
    refine A_icmp_ge hE 12 16 dX2_has_9 rfl rfl (fun c9 => ?_) (fun c9 => ?_)
    · refine A_iconst hE 17 dX2_has_16 rfl (0) rfl ?_
      refine A_zret hE dX2_has_17 (by first | exact Or.inl rfl | exact Or.inr rfl) ⟨?_, rfl⟩
      exact bI_f (fun z => absurd z.2 (iN c9))
    · refine A_iconst hE 13 dX2_has_12 rfl (1) rfl ?_
      refine A_goto hE 17 dX2_has_13 rfl ?_
      refine A_zret hE dX2_has_17 (by first | exact Or.inl rfl | exact Or.inr rfl) ⟨?_, rfl⟩
      exact bI_t ⟨iL c1, iG c9⟩
set_option maxRecDepth 100000 in
theorem c_X2_pastAt (s : St) (t0 t1 : Sp) (g0 h0 g1 h1 : Nat → Int32) (i : Int32) (k : Nat) (hi : i = nI k) (hk : k < 8) (hw : its s k 4 = 0 ∨ its s k 4 = 1) : AMet yX2_pastAt cX2_pastAt 2 (some (.int)) 0 0 0 [.ref 0, .int i] (RW s t0 g0 h0 t1 g1 h1) (pI fun x h => x = its s k 4 ∧ h = RW s t0 g0 h0 t1 g1 h1) := by
  refine AMet.of (by decide +kernel) rfl (fun E ad0 hE => ?_)
  subst hi
  refine A_aload_n hE 1 dX2_pastAt_0 rfl rfl ?_
  refine A_get hE 4 dX2_pastAt_1 rfl fkX2_36 rfl rfl ?_
  refine A_iload_n hE 5 dX2_pastAt_4 rfl rfl ?_
  refine A_ishr hE 6 dX2_pastAt_5 rfl ?_
  refine A_iconst hE 7 dX2_pastAt_6 rfl (1) rfl ?_
  refine A_iand hE 8 dX2_pastAt_7 rfl ?_
  refine A_iret hE dX2_pastAt_8 ⟨?_, rfl⟩
  show (nI (pmN s) >>> (nI k &&& 31)) &&& 1 = its s k 4
  rw [pm_get _ (pmN_lt s) k hk, pm_bit s hk, bit_val hw]
theorem RW_hi4 {s : St} {t0 t1 : Sp} {g0 h0 g1 h1 : Nat → Int32} {a : Nat} {v : Int32} : RW (upd s (9 + 5 * a + 4) v) t0 g0 h0 t1 g1 h1 = [.inr (2, [.ref 1, .ref 5, .ref 9, .ref 10, .ref 11, .ref 12, .int (pm (upd s (9 + 5 * a + 4) v)), .int (s 8), .int (s 0), .int (s 1), .int (s 2), .int (s 3), .int (s 4), .int (s 5)]), LawO 2 4 0, cRow 3 (nI t0.length), cI 60 g0, cI 60 h0, LawO 6 8 1, cRow 7 (nI t1.length), cI 60 g1, cI 60 h1, cI 8 (arr s 0), cI 8 (arr s 1), cI 8 (arr s 2), cI 8 (arr s 3)] := by
  simp only [RW, RoundO, upd_lo_hi (show 8 < 9 by omega), upd_lo_hi (show 0 < 9 by omega), upd_lo_hi (show 1 < 9 by omega), upd_lo_hi (show 2 < 9 by omega), upd_lo_hi (show 3 < 9 by omega), upd_lo_hi (show 4 < 9 by omega), upd_lo_hi (show 5 < 9 by omega), arr_ne (i := 4) (j := 0) (by omega) (by omega) (by omega), arr_ne (i := 4) (j := 1) (by omega) (by omega) (by omega), arr_ne (i := 4) (j := 2) (by omega) (by omega) (by omega), arr_ne (i := 4) (j := 3) (by omega) (by omega) (by omega)]

theorem RW_hi0 {s : St} {t0 t1 : Sp} {g0 h0 g1 h1 : Nat → Int32} {a : Nat} {v : Int32} : RW (upd s (9 + 5 * a + 0) v) t0 g0 h0 t1 g1 h1 = [RoundO 1 5 9 10 11 12 s, LawO 2 4 0, cRow 3 (nI t0.length), cI 60 g0, cI 60 h0, LawO 6 8 1, cRow 7 (nI t1.length), cI 60 g1, cI 60 h1, cI 8 (upd (arr s 0) a v), cI 8 (arr s 1), cI 8 (arr s 2), cI 8 (arr s 3)] := by
  simp only [RW, RoundO, pm_ne (i := 0) (by omega), upd_lo_hi (show 8 < 9 by omega), upd_lo_hi (show 0 < 9 by omega), upd_lo_hi (show 1 < 9 by omega), upd_lo_hi (show 2 < 9 by omega), upd_lo_hi (show 3 < 9 by omega), upd_lo_hi (show 4 < 9 by omega), upd_lo_hi (show 5 < 9 by omega), arr_eq (j := 0) (by omega), arr_ne (i := 0) (j := 1) (by omega) (by omega) (by omega), arr_ne (i := 0) (j := 2) (by omega) (by omega) (by omega), arr_ne (i := 0) (j := 3) (by omega) (by omega) (by omega)]

theorem RW_hi1 {s : St} {t0 t1 : Sp} {g0 h0 g1 h1 : Nat → Int32} {a : Nat} {v : Int32} : RW (upd s (9 + 5 * a + 1) v) t0 g0 h0 t1 g1 h1 = [RoundO 1 5 9 10 11 12 s, LawO 2 4 0, cRow 3 (nI t0.length), cI 60 g0, cI 60 h0, LawO 6 8 1, cRow 7 (nI t1.length), cI 60 g1, cI 60 h1, cI 8 (arr s 0), cI 8 (upd (arr s 1) a v), cI 8 (arr s 2), cI 8 (arr s 3)] := by
  simp only [RW, RoundO, pm_ne (i := 1) (by omega), upd_lo_hi (show 8 < 9 by omega), upd_lo_hi (show 0 < 9 by omega), upd_lo_hi (show 1 < 9 by omega), upd_lo_hi (show 2 < 9 by omega), upd_lo_hi (show 3 < 9 by omega), upd_lo_hi (show 4 < 9 by omega), upd_lo_hi (show 5 < 9 by omega), arr_eq (j := 1) (by omega), arr_ne (i := 1) (j := 0) (by omega) (by omega) (by omega), arr_ne (i := 1) (j := 2) (by omega) (by omega) (by omega), arr_ne (i := 1) (j := 3) (by omega) (by omega) (by omega)]

theorem RW_hi2 {s : St} {t0 t1 : Sp} {g0 h0 g1 h1 : Nat → Int32} {a : Nat} {v : Int32} : RW (upd s (9 + 5 * a + 2) v) t0 g0 h0 t1 g1 h1 = [RoundO 1 5 9 10 11 12 s, LawO 2 4 0, cRow 3 (nI t0.length), cI 60 g0, cI 60 h0, LawO 6 8 1, cRow 7 (nI t1.length), cI 60 g1, cI 60 h1, cI 8 (arr s 0), cI 8 (arr s 1), cI 8 (upd (arr s 2) a v), cI 8 (arr s 3)] := by
  simp only [RW, RoundO, pm_ne (i := 2) (by omega), upd_lo_hi (show 8 < 9 by omega), upd_lo_hi (show 0 < 9 by omega), upd_lo_hi (show 1 < 9 by omega), upd_lo_hi (show 2 < 9 by omega), upd_lo_hi (show 3 < 9 by omega), upd_lo_hi (show 4 < 9 by omega), upd_lo_hi (show 5 < 9 by omega), arr_eq (j := 2) (by omega), arr_ne (i := 2) (j := 0) (by omega) (by omega) (by omega), arr_ne (i := 2) (j := 1) (by omega) (by omega) (by omega), arr_ne (i := 2) (j := 3) (by omega) (by omega) (by omega)]

theorem RW_hi3 {s : St} {t0 t1 : Sp} {g0 h0 g1 h1 : Nat → Int32} {a : Nat} {v : Int32} : RW (upd s (9 + 5 * a + 3) v) t0 g0 h0 t1 g1 h1 = [RoundO 1 5 9 10 11 12 s, LawO 2 4 0, cRow 3 (nI t0.length), cI 60 g0, cI 60 h0, LawO 6 8 1, cRow 7 (nI t1.length), cI 60 g1, cI 60 h1, cI 8 (arr s 0), cI 8 (arr s 1), cI 8 (arr s 2), cI 8 (upd (arr s 3) a v)] := by
  simp only [RW, RoundO, pm_ne (i := 3) (by omega), upd_lo_hi (show 8 < 9 by omega), upd_lo_hi (show 0 < 9 by omega), upd_lo_hi (show 1 < 9 by omega), upd_lo_hi (show 2 < 9 by omega), upd_lo_hi (show 3 < 9 by omega), upd_lo_hi (show 4 < 9 by omega), upd_lo_hi (show 5 < 9 by omega), arr_eq (j := 3) (by omega), arr_ne (i := 3) (j := 0) (by omega) (by omega) (by omega), arr_ne (i := 3) (j := 1) (by omega) (by omega) (by omega), arr_ne (i := 3) (j := 2) (by omega) (by omega) (by omega)]

theorem RW_lo {s : St} {t0 t1 : Sp} {g0 h0 g1 h1 : Nat → Int32} {k : Nat} {v : Int32} (hk : k < 9) : RW (upd s k v) t0 g0 h0 t1 g1 h1 = [.inr (2, [.ref 1, .ref 5, .ref 9, .ref 10, .ref 11, .ref 12, .int (pm s), .int (upd s k v 8), .int (upd s k v 0), .int (upd s k v 1), .int (upd s k v 2), .int (upd s k v 3), .int (upd s k v 4), .int (upd s k v 5)]), LawO 2 4 0, cRow 3 (nI t0.length), cI 60 g0, cI 60 h0, LawO 6 8 1, cRow 7 (nI t1.length), cI 60 g1, cI 60 h1, cI 8 (arr s 0), cI 8 (arr s 1), cI 8 (arr s 2), cI 8 (arr s 3)] := by
  simp only [RW, RoundO, pm_lo hk, arr_lo hk]

set_option maxRecDepth 100000 in
theorem c_X2_putPast (s : St) (t0 t1 : Sp) (g0 h0 g1 h1 : Nat → Int32) (i j : Int32) (k v : Nat) (hi : i = nI k) (hj : j = nI v) (hk : k < 8) (hv : v < 2) : AMet yX2_putPast cX2_putPast 3 none 0 0 0 [.ref 0, .int i, .int j] (RW s t0 g0 h0 t1 g1 h1) (pV fun h => h = RW (upd s (9 + 5 * k + 4) (nI v)) t0 g0 h0 t1 g1 h1) := by
  refine AMet.of (by decide +kernel) rfl (fun E ad0 hE => ?_)
  subst hi
  subst hj
  refine A_aload_n hE 1 dX2_putPast_0 rfl rfl ?_
  refine A_aload_n hE 2 dX2_putPast_1 rfl rfl ?_
  refine A_get hE 5 dX2_putPast_2 rfl fkX2_36 rfl rfl ?_
  refine A_iconst hE 6 dX2_putPast_5 rfl (1) rfl ?_
  refine A_iload_n hE 7 dX2_putPast_6 rfl rfl ?_
  refine A_ishl hE 8 dX2_putPast_7 rfl ?_
  refine A_iconst hE 9 dX2_putPast_8 rfl (-1) rfl ?_
  refine A_ixor hE 10 dX2_putPast_9 rfl ?_
  refine A_iand hE 11 dX2_putPast_10 rfl ?_
  refine A_iload_n hE 12 dX2_putPast_11 rfl rfl ?_
  refine A_iload_n hE 13 dX2_putPast_12 rfl rfl ?_
  refine A_ishl hE 14 dX2_putPast_13 rfl ?_
  refine A_ior hE 15 dX2_putPast_14 rfl ?_
  refine A_put hE 18 dX2_putPast_15 rfl fkX2_36 rfl rfl rfl rfl ?_
  refine A_vret hE dX2_putPast_18 ?_
  rw [RW_hi4, pm_upd s hk hv]
set_option maxRecDepth 100000 in
theorem c_X2_tellsAt (s : St) (t0 t1 : Sp) (g0 h0 g1 h1 : Nat → Int32) (i : Int32) (k : Nat) (hi : i = nI k) (hk : k < 8) (hw : wfH s (hn s) k) : AMet yX2_tellsAt cX2_tellsAt 3 (some (.int)) 0 0 0 [.ref 0, .int i] (RW s t0 g0 h0 t1 g1 h1) (pI fun x h => x = tells s k ∧ h = RW s t0 g0 h0 t1 g1 h1) := by
  refine AMet.of (by decide +kernel) rfl (fun E ad0 hE => ?_)
  subst hi
  obtain ⟨⟨q, hq, hkd⟩, -⟩ := hw
  refine A_aload_n hE 1 dX2_tellsAt_0 rfl rfl ?_
  refine A_get hE 4 dX2_tellsAt_1 rfl fkX2_46 rfl rfl ?_
  refine A_iconst hE 5 dX2_tellsAt_4 rfl (1) rfl ?_
  refine A_aload_n hE 6 dX2_tellsAt_5 rfl rfl ?_
  refine A_get hE 9 dX2_tellsAt_6 rfl fkX2_49 rfl rfl ?_
  refine A_iadd hE 10 dX2_tellsAt_9 rfl ?_
  refine A_imul hE 11 dX2_tellsAt_10 rfl ?_
  refine A_bipush hE 13 dX2_tellsAt_11 rfl (100) (by decide) ?_
  refine A_idiv hE 14 dX2_tellsAt_13 rfl (by decide) ?_
  refine A_istore_n hE 15 dX2_tellsAt_14 rfl rfl rfl ?_
  refine A_aload_n hE 16 dX2_tellsAt_15 rfl rfl ?_
  refine A_get hE 19 dX2_tellsAt_16 rfl fkX2_23 rfl rfl ?_
  refine A_iload_n hE 20 dX2_tellsAt_19 rfl rfl ?_
  refine A_iald hE 21 k dX2_tellsAt_20 rfl rfl rfl hk rfl ?_
  rw [show arr s 0 k = nI q from hkd]
  match q, hq, hkd with
  | 0, _, hkd =>
    refine A_tabOut hE 110 dX2_tellsAt_21 (Or.inl (by decide)) rfl ?_
    refine A_aload_n hE 111 dX2_tellsAt_110 rfl rfl ?_
    refine A_get hE 114 dX2_tellsAt_111 rfl fkX2_46 rfl rfl ?_
    refine A_iret hE dX2_tellsAt_114 ⟨?_, rfl⟩
    unfold tells
    rw [hkd]
    rfl
  | 1, _, hkd =>
    refine A_tabIn hE 60 dX2_tellsAt_21 (by decide) (by decide) (off := 39) (by decide) rfl ?_
    refine A_aload_n hE 61 dX2_tellsAt_60 rfl rfl ?_
    refine A_get hE 64 dX2_tellsAt_61 rfl fkX2_46 rfl rfl ?_
    refine A_bipush hE 66 dX2_tellsAt_64 rfl (10) (by decide) ?_
    refine A_iadd hE 67 dX2_tellsAt_66 rfl ?_
    refine A_iret hE dX2_tellsAt_67 ⟨?_, rfl⟩
    unfold tells
    rw [hkd]
    rfl
  | 2, _, hkd =>
    refine A_tabIn hE 68 dX2_tellsAt_21 (by decide) (by decide) (off := 47) (by decide) rfl ?_
    refine A_iload_n hE 69 dX2_tellsAt_68 rfl rfl ?_
    refine A_iret hE dX2_tellsAt_69 ⟨?_, rfl⟩
    unfold tells
    rw [hkd]
    rw [Int32.add_comm 1 (s 2)]
    rfl
  | 3, _, hkd =>
    refine A_tabIn hE 70 dX2_tellsAt_21 (by decide) (by decide) (off := 49) (by decide) rfl ?_
    refine A_aload_n hE 71 dX2_tellsAt_70 rfl rfl ?_
    refine A_get hE 74 dX2_tellsAt_71 rfl fkX2_46 rfl rfl ?_
    refine A_bipush hE 76 dX2_tellsAt_74 rfl (50) (by decide) ?_
    refine A_icmp_le hE 79 84 dX2_tellsAt_76 rfl rfl (fun c76 => ?_) (fun c76 => ?_)
    · refine A_aload_n hE 85 dX2_tellsAt_84 rfl rfl ?_
      refine A_get hE 88 dX2_tellsAt_85 rfl fkX2_46 rfl rfl ?_
      refine A_iret hE dX2_tellsAt_88 ⟨?_, rfl⟩
      unfold tells
      rw [hkd]
      show s 1 = if 50 < s 1 then 77 else s 1
      rw [if_neg (iN c76)]
    · refine A_bipush hE 81 dX2_tellsAt_79 rfl (77) (by decide) ?_
      refine A_goto hE 88 dX2_tellsAt_81 rfl ?_
      refine A_iret hE dX2_tellsAt_88 ⟨?_, rfl⟩
      unfold tells
      rw [hkd]
      show 77 = if 50 < s 1 then 77 else s 1
      rw [if_pos (iG c76)]
  | 4, _, hkd =>
    refine A_tabIn hE 89 dX2_tellsAt_21 (by decide) (by decide) (off := 68) (by decide) rfl ?_
    refine A_aload_n hE 90 dX2_tellsAt_89 rfl rfl ?_
    refine A_get hE 93 dX2_tellsAt_90 rfl fkX2_46 rfl rfl ?_
    refine A_bipush hE 95 dX2_tellsAt_93 rfl (10) (by decide) ?_
    refine A_iadd hE 96 dX2_tellsAt_95 rfl ?_
    refine A_aload_n hE 97 dX2_tellsAt_96 rfl rfl ?_
    refine A_get hE 100 dX2_tellsAt_97 rfl fkX2_27 rfl rfl ?_
    refine A_iload_n hE 101 dX2_tellsAt_100 rfl rfl ?_
    refine A_iald hE 102 k dX2_tellsAt_101 rfl rfl rfl hk rfl ?_
    refine A_isub hE 103 dX2_tellsAt_102 rfl ?_
    refine A_iret hE dX2_tellsAt_103 ⟨?_, rfl⟩
    unfold tells
    rw [hkd]
    rfl
  | 5, _, hkd =>
    refine A_tabIn hE 104 dX2_tellsAt_21 (by decide) (by decide) (off := 83) (by decide) rfl ?_
    refine A_iconst hE 105 dX2_tellsAt_104 rfl (2) rfl ?_
    refine A_iload_n hE 106 dX2_tellsAt_105 rfl rfl ?_
    refine A_imul hE 107 dX2_tellsAt_106 rfl ?_
    refine A_iret hE dX2_tellsAt_107 ⟨?_, rfl⟩
    unfold tells
    rw [hkd]
    rw [Int32.add_comm 1 (s 2)]
    rfl
  | 6, _, hkd =>
    refine A_tabIn hE 108 dX2_tellsAt_21 (by decide) (by decide) (off := 87) (by decide) rfl ?_
    refine A_iconst hE 109 dX2_tellsAt_108 rfl (0) rfl ?_
    refine A_iret hE dX2_tellsAt_109 ⟨?_, rfl⟩
    unfold tells
    rw [hkd]
    rfl
set_option maxRecDepth 100000 in
theorem c_X2_leavesAt (s : St) (t0 t1 : Sp) (g0 h0 g1 h1 : Nat → Int32) (i : Int32) (k : Nat) (hi : i = nI k) (hk : k < 8) (hw : wfH s (hn s) k) : AMet yX2_leavesAt cX2_leavesAt 6 (some (.int)) 0 0 0 [.ref 0, .int i] (RW s t0 g0 h0 t1 g1 h1) (pI fun x h => x = leaves s k ∧ h = RW s t0 g0 h0 t1 g1 h1) := by
  refine AMet.of (by decide +kernel) rfl (fun E ad0 hE => ?_)
  subst hi
  obtain ⟨⟨q, hq, hkd⟩, -⟩ := hw
  refine A_aload_n hE 1 dX2_leavesAt_0 rfl rfl ?_
  refine A_get hE 4 dX2_leavesAt_1 rfl fkX2_27 rfl rfl ?_
  refine A_iload_n hE 5 dX2_leavesAt_4 rfl rfl ?_
  refine A_iald hE 6 k dX2_leavesAt_5 rfl rfl rfl hk rfl ?_
  refine A_istore_n hE 7 dX2_leavesAt_6 rfl rfl rfl ?_
  refine A_aload_n hE 8 dX2_leavesAt_7 rfl rfl ?_
  refine A_get hE 11 dX2_leavesAt_8 rfl fkX2_46 rfl rfl ?_
  refine A_iload_n hE 12 dX2_leavesAt_11 rfl rfl ?_
  refine A_iadd hE 13 dX2_leavesAt_12 rfl ?_
  refine A_istore_n hE 14 dX2_leavesAt_13 rfl rfl rfl ?_
  refine A_iload_n hE 15 dX2_leavesAt_14 rfl rfl ?_
  refine A_iconst hE 16 dX2_leavesAt_15 rfl (2) rfl ?_
  refine A_idiv hE 17 dX2_leavesAt_16 rfl (by decide) ?_
  refine A_iconst hE 18 dX2_leavesAt_17 rfl (5) rfl ?_
  refine A_iload_n hE 19 dX2_leavesAt_18 rfl rfl ?_
  refine A_imul hE 20 dX2_leavesAt_19 rfl ?_
  refine A_iadd hE 21 dX2_leavesAt_20 rfl ?_
  refine A_istore hE 23 dX2_leavesAt_21 rfl rfl rfl ?_
  refine A_iload_n hE 24 dX2_leavesAt_23 rfl rfl ?_
  refine A_aload_n hE 25 dX2_leavesAt_24 rfl rfl ?_
  refine A_get hE 28 dX2_leavesAt_25 rfl fkX2_40 rfl rfl ?_
  refine A_iadd hE 29 dX2_leavesAt_28 rfl ?_
  refine A_istore hE 31 dX2_leavesAt_29 rfl rfl rfl ?_
  refine A_aload_n hE 32 dX2_leavesAt_31 rfl rfl ?_
  refine A_get hE 35 dX2_leavesAt_32 rfl fkX2_23 rfl rfl ?_
  refine A_iload_n hE 36 dX2_leavesAt_35 rfl rfl ?_
  refine A_iald hE 37 k dX2_leavesAt_36 rfl rfl rfl hk rfl ?_
  rw [show arr s 0 k = nI q from hkd]
  match q, hq, hkd with
  | 0, _, hkd =>
    refine A_tabOut hE 117 dX2_leavesAt_37 (Or.inl (by decide)) rfl ?_
    refine A_iload_n hE 118 dX2_leavesAt_117 rfl rfl ?_
    refine A_iret hE dX2_leavesAt_118 ⟨?_, rfl⟩
    unfold leaves
    rw [hkd]
    rfl
  | 1, _, hkd =>
    refine A_tabIn hE 76 dX2_leavesAt_37 (by decide) (by decide) (off := 39) (by decide) rfl ?_
    refine A_iload hE 78 dX2_leavesAt_76 rfl rfl ?_
    refine A_iret hE dX2_leavesAt_78 ⟨?_, rfl⟩
    unfold leaves
    rw [hkd]
    rfl
  | 2, _, hkd =>
    refine A_tabIn hE 79 dX2_leavesAt_37 (by decide) (by decide) (off := 42) (by decide) rfl ?_
    refine A_iload hE 81 dX2_leavesAt_79 rfl rfl ?_
    refine A_iret hE dX2_leavesAt_81 ⟨?_, rfl⟩
    unfold leaves
    rw [hkd]
    rfl
  | 3, _, hkd =>
    refine A_tabIn hE 82 dX2_leavesAt_37 (by decide) (by decide) (off := 45) (by decide) rfl ?_
    refine A_aload_n hE 83 dX2_leavesAt_82 rfl rfl ?_
    refine A_get hE 86 dX2_leavesAt_83 rfl fkX2_43 rfl rfl ?_
    refine A_iconst hE 87 dX2_leavesAt_86 rfl (2) rfl ?_
    refine A_irem hE 88 dX2_leavesAt_87 rfl (by decide) ?_
    refine A_if_ne hE 91 96 dX2_leavesAt_88 rfl rfl (fun c88 => ?_) (fun c88 => ?_)
    · refine A_iload_n hE 97 dX2_leavesAt_96 rfl rfl ?_
      refine A_iret hE dX2_leavesAt_97 ⟨?_, rfl⟩
      unfold leaves
      rw [hkd]
      show s 1 + its s k 1 = if rm (s 0) 2 = 0 then 77 else s 1 + its s k 1
      rw [if_neg c88]
    · refine A_bipush hE 93 dX2_leavesAt_91 rfl (77) (by decide) ?_
      refine A_goto hE 97 dX2_leavesAt_93 rfl ?_
      refine A_iret hE dX2_leavesAt_97 ⟨?_, rfl⟩
      unfold leaves
      rw [hkd]
      show 77 = if rm (s 0) 2 = 0 then 77 else s 1 + its s k 1
      rw [if_pos c88]
  | 4, _, hkd =>
    refine A_tabIn hE 98 dX2_leavesAt_37 (by decide) (by decide) (off := 61) (by decide) rfl ?_
    refine A_bipush hE 100 dX2_leavesAt_98 rfl (99) (by decide) ?_
    refine A_iload hE 102 dX2_leavesAt_100 rfl rfl ?_
    refine A_isub hE 103 dX2_leavesAt_102 rfl ?_
    refine A_iret hE dX2_leavesAt_103 ⟨?_, rfl⟩
    unfold leaves
    rw [hkd]
    rfl
  | 5, _, hkd =>
    refine A_tabIn hE 104 dX2_leavesAt_37 (by decide) (by decide) (off := 67) (by decide) rfl ?_
    refine A_iload hE 106 dX2_leavesAt_104 rfl rfl ?_
    refine A_aload_n hE 107 dX2_leavesAt_106 rfl rfl ?_
    refine A_get hE 110 dX2_leavesAt_107 rfl fkX2_49 rfl rfl ?_
    refine A_bipush hE 112 dX2_leavesAt_110 rfl (10) (by decide) ?_
    refine A_idiv hE 113 dX2_leavesAt_112 rfl (by decide) ?_
    refine A_iadd hE 114 dX2_leavesAt_113 rfl ?_
    refine A_iret hE dX2_leavesAt_114 ⟨?_, rfl⟩
    unfold leaves
    rw [hkd]
    rfl
  | 6, _, hkd =>
    refine A_tabIn hE 115 dX2_leavesAt_37 (by decide) (by decide) (off := 78) (by decide) rfl ?_
    refine A_iconst hE 116 dX2_leavesAt_115 rfl (0) rfl ?_
    refine A_iret hE dX2_leavesAt_116 ⟨?_, rfl⟩
    unfold leaves
    rw [hkd]
    rfl
theorem sub32 (x : Int32) : x + 3 - 2 = x + 1 := by
  have e : (3 : Int32) = 1 + 2 := by decide
  rw [e, ← Int32.add_assoc, Int32.add_sub_cancel]

set_option maxRecDepth 100000 in
theorem c_X2_bluntsAt (s : St) (t0 t1 : Sp) (g0 h0 g1 h1 : Nat → Int32) (i : Int32) (k : Nat) (hi : i = nI k) (hk : k < 8) (hw : wfH s (hn s) k) : AMet yX2_bluntsAt cX2_bluntsAt 5 (some (.int)) 0 0 0 [.ref 0, .int i] (RW s t0 g0 h0 t1 g1 h1) (pI fun x h => x = blunts s k ∧ h = RW s t0 g0 h0 t1 g1 h1) := by
  refine AMet.of (by decide +kernel) rfl (fun E ad0 hE => ?_)
  subst hi
  obtain ⟨⟨q, hq, hkd⟩, -⟩ := hw
  refine A_aload_n hE 1 dX2_bluntsAt_0 rfl rfl ?_
  refine A_get hE 4 dX2_bluntsAt_1 rfl fkX2_27 rfl rfl ?_
  refine A_iload_n hE 5 dX2_bluntsAt_4 rfl rfl ?_
  refine A_iald hE 6 k dX2_bluntsAt_5 rfl rfl rfl hk rfl ?_
  refine A_istore_n hE 7 dX2_bluntsAt_6 rfl rfl rfl ?_
  refine A_iconst hE 8 dX2_bluntsAt_7 rfl (3) rfl ?_
  refine A_istore_n hE 9 dX2_bluntsAt_8 rfl rfl rfl ?_
  refine A_iload_n hE 10 dX2_bluntsAt_9 rfl rfl ?_
  refine A_iload_n hE 11 dX2_bluntsAt_10 rfl rfl ?_
  refine A_iconst hE 12 dX2_bluntsAt_11 rfl (2) rfl ?_
  refine A_idiv hE 13 dX2_bluntsAt_12 rfl (by decide) ?_
  refine A_iadd hE 14 dX2_bluntsAt_13 rfl ?_
  refine A_istore hE 16 dX2_bluntsAt_14 rfl rfl rfl ?_
  refine A_aload_n hE 17 dX2_bluntsAt_16 rfl rfl ?_
  refine A_get hE 20 dX2_bluntsAt_17 rfl fkX2_23 rfl rfl ?_
  refine A_iload_n hE 21 dX2_bluntsAt_20 rfl rfl ?_
  refine A_iald hE 22 k dX2_bluntsAt_21 rfl rfl rfl hk rfl ?_
  rw [show arr s 0 k = nI q from hkd]
  match q, hq, hkd with
  | 0, _, hkd =>
    refine A_tabOut hE 85 dX2_bluntsAt_22 (Or.inl (by decide)) rfl ?_
    refine A_iload_n hE 86 dX2_bluntsAt_85 rfl rfl ?_
    refine A_iret hE dX2_bluntsAt_86 ⟨?_, rfl⟩
    unfold blunts
    rw [hkd]
    rfl
  | 1, _, hkd =>
    refine A_tabIn hE 60 dX2_bluntsAt_22 (by decide) (by decide) (off := 38) (by decide) rfl ?_
    refine A_iload hE 62 dX2_bluntsAt_60 rfl rfl ?_
    refine A_iret hE dX2_bluntsAt_62 ⟨?_, rfl⟩
    unfold blunts
    rw [hkd]
    rfl
  | 2, _, hkd =>
    refine A_tabIn hE 85 dX2_bluntsAt_22 (by decide) (by decide) (off := 63) (by decide) rfl ?_
    refine A_iload_n hE 86 dX2_bluntsAt_85 rfl rfl ?_
    refine A_iret hE dX2_bluntsAt_86 ⟨?_, rfl⟩
    unfold blunts
    rw [hkd]
    rfl
  | 3, _, hkd =>
    refine A_tabIn hE 63 dX2_bluntsAt_22 (by decide) (by decide) (off := 41) (by decide) rfl ?_
    refine A_iconst hE 64 dX2_bluntsAt_63 rfl (5) rfl ?_
    refine A_iret hE dX2_bluntsAt_64 ⟨?_, rfl⟩
    unfold blunts
    rw [hkd]
    rfl
  | 4, _, hkd =>
    refine A_tabIn hE 65 dX2_bluntsAt_22 (by decide) (by decide) (off := 43) (by decide) rfl ?_
    refine A_iload hE 67 dX2_bluntsAt_65 rfl rfl ?_
    refine A_iconst hE 68 dX2_bluntsAt_67 rfl (2) rfl ?_
    refine A_isub hE 69 dX2_bluntsAt_68 rfl ?_
    refine A_iret hE dX2_bluntsAt_69 ⟨?_, rfl⟩
    unfold blunts
    rw [hkd]
    show 3 + its s k 1 / 2 - 2 = 1 + its s k 1 / 2
    rw [Int32.add_comm 3 _, Int32.add_comm 1 _]
    exact sub32 _
  | 5, _, hkd =>
    refine A_tabIn hE 70 dX2_bluntsAt_22 (by decide) (by decide) (off := 48) (by decide) rfl ?_
    refine A_iconst hE 71 dX2_bluntsAt_70 rfl (2) rfl ?_
    refine A_iload_n hE 72 dX2_bluntsAt_71 rfl rfl ?_
    refine A_imul hE 73 dX2_bluntsAt_72 rfl ?_
    refine A_iret hE dX2_bluntsAt_73 ⟨?_, rfl⟩
    unfold blunts
    rw [hkd]
    rfl
  | 6, _, hkd =>
    refine A_tabIn hE 74 dX2_bluntsAt_22 (by decide) (by decide) (off := 52) (by decide) rfl ?_
    refine A_iload_n hE 75 dX2_bluntsAt_74 rfl rfl ?_
    refine A_iconst hE 76 dX2_bluntsAt_75 rfl (4) rfl ?_
    refine A_icmp_le hE 79 83 dX2_bluntsAt_76 rfl rfl (fun c76 => ?_) (fun c76 => ?_)
    · refine A_iconst hE 84 dX2_bluntsAt_83 rfl (0) rfl ?_
      refine A_iret hE dX2_bluntsAt_84 ⟨?_, rfl⟩
      unfold blunts
      rw [hkd]
      show (0 : Int32) = if 4 < arr s 1 k then 3 else 0
      rw [if_neg (iN c76)]
    · refine A_iload_n hE 80 dX2_bluntsAt_79 rfl rfl ?_
      refine A_goto hE 84 dX2_bluntsAt_80 rfl ?_
      refine A_iret hE dX2_bluntsAt_84 ⟨?_, rfl⟩
      unfold blunts
      rw [hkd]
      show (3 : Int32) = if 4 < arr s 1 k then 3 else 0
      rw [if_pos (iG c76)]
