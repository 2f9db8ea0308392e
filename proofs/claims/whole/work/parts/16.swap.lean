def sw1 (s : St) (a b j : Nat) : St := upd (upd s (9 + 5 * a + j) (its s b j)) (9 + 5 * b + j) (its s a j)
def swS (a b : Nat) (s : St) : St := sw1 (sw1 (sw1 (sw1 (sw1 s a b 0) a b 1) a b 2) a b 3) a b 4
theorem its_sw {s : St} {a b j h i : Nat} (hj : j < 5) (hi : i < 5) (hne : i ≠ j) : its (sw1 s a b j) h i = its s h i := by
  unfold sw1
  rw [its_upd hj hi, if_neg (fun z => hne z.2), its_upd hj hi, if_neg (fun z => hne z.2)]
theorem its_sw_same {s : St} {a b j h : Nat} (hj : j < 5) : its (sw1 s a b j) h j = if h = b then its s a j else if h = a then its s b j else its s h j := by
  unfold sw1
  rw [its_upd hj hj]
  by_cases e : h = b
  · rw [if_pos ⟨e, rfl⟩, if_pos e]
  · rw [if_neg (fun z => e z.1), if_neg e, its_upd hj hj]
    by_cases e2 : h = a
    · rw [if_pos ⟨e2, rfl⟩, if_pos e2]
    · rw [if_neg (fun z => e2 z.1), if_neg e2]
theorem sw1_lo {s : St} {a b j k : Nat} (hk : k < 9) : sw1 s a b j k = s k := by
  unfold sw1
  rw [upd_lo_hi hk, upd_lo_hi hk]
theorem swS_lo {s : St} {a b k : Nat} (hk : k < 9) : swS a b s k = s k := by
  unfold swS
  rw [sw1_lo hk, sw1_lo hk, sw1_lo hk, sw1_lo hk, sw1_lo hk]
def swp (a b h : Nat) : Nat := if h = b then a else if h = a then b else h
theorem its_swS {s : St} {a b h i : Nat} (hi : i < 5) : its (swS a b s) h i = its s (swp a b h) i := by
  have key : ∀ (x : St), (if h = b then its x a i else if h = a then its x b i else its x h i) = its x (swp a b h) i := by
    intro x
    unfold swp
    by_cases e : h = b
    · rw [if_pos e, if_pos e]
    · rw [if_neg e, if_neg e]
      by_cases e2 : h = a
      · rw [if_pos e2, if_pos e2]
      · rw [if_neg e2, if_neg e2]
  unfold swS
  match i, hi with
  | 0, _ => rw [its_sw (by omega) (by omega) (by omega), its_sw (by omega) (by omega) (by omega), its_sw (by omega) (by omega) (by omega), its_sw (by omega) (by omega) (by omega), its_sw_same (by omega)]; exact key s
  | 1, _ => rw [its_sw (by omega) (by omega) (by omega), its_sw (by omega) (by omega) (by omega), its_sw (by omega) (by omega) (by omega), its_sw_same (by omega), key, its_sw (by omega) (by omega) (by omega)]
  | 2, _ => rw [its_sw (by omega) (by omega) (by omega), its_sw (by omega) (by omega) (by omega), its_sw_same (by omega), key, its_sw (by omega) (by omega) (by omega), its_sw (by omega) (by omega) (by omega)]
  | 3, _ => rw [its_sw (by omega) (by omega) (by omega), its_sw_same (by omega), key, its_sw (by omega) (by omega) (by omega), its_sw (by omega) (by omega) (by omega), its_sw (by omega) (by omega) (by omega)]
  | 4, _ => rw [its_sw_same (by omega), key, its_sw (by omega) (by omega) (by omega), its_sw (by omega) (by omega) (by omega), its_sw (by omega) (by omega) (by omega), its_sw (by omega) (by omega) (by omega)]
theorem wf_swS {s : St} {a b : Nat} (w : wf s) (ha : a < hn s) (hb : b < hn s) : wf (swS a b s) := by
  obtain ⟨w1, w2, w3, w4, w5, w6, w7⟩ := w
  have eh : hn (swS a b s) = hn s := by unfold hn; rw [swS_lo (by omega)]
  have ea : atN (swS a b s) = atN s := by unfold atN; rw [swS_lo (by omega)]
  unfold wf
  rw [eh, ea, swS_lo (by omega), swS_lo (by omega), swS_lo (by omega), swS_lo (by omega)]
  refine ⟨w1, w2, w3, w4, fun h hh => ?_, w6, w7⟩
  have hs : swp a b h < 8 := by unfold swp; split; omega; split; omega; omega
  obtain ⟨a0, a1, a2, a3, a4, a5⟩ := w5 _ hs
  unfold wfH
  rw [its_swS (by omega), its_swS (by omega), its_swS (by omega), its_swS (by omega), its_swS (by omega)]
  refine ⟨a0, a1, a2, a3, a4, fun hle => a5 ?_⟩
  unfold swp
  rw [if_neg (by omega), if_neg (by omega)]
  exact hle

theorem RW_sw0 {s : St} {t0 t1 : Sp} {g0 h0 g1 h1 : Nat → Int32} {a b : Nat} : RW (sw1 s a b 0) t0 g0 h0 t1 g1 h1 = [RoundO 1 5 9 10 11 12 s, LawO 2 4 0, cRow 3 (nI t0.length), cI 60 g0, cI 60 h0, LawO 6 8 1, cRow 7 (nI t1.length), cI 60 g1, cI 60 h1, cI 8 (upd (upd (arr s 0) a (arr s 0 b)) b (arr s 0 a)), cI 8 (arr s 1), cI 8 (arr s 2), cI 8 (arr s 3)] := by
  unfold sw1
  rw [RW_hi0]
  simp only [RoundO, pm_ne (i := 0) (by omega), upd_lo_hi (show 8 < 9 by omega), upd_lo_hi (show 0 < 9 by omega), upd_lo_hi (show 1 < 9 by omega), upd_lo_hi (show 2 < 9 by omega), upd_lo_hi (show 3 < 9 by omega), upd_lo_hi (show 4 < 9 by omega), upd_lo_hi (show 5 < 9 by omega), arr_eq (j := 0) (by omega), arr_ne (i := 0) (j := 1) (by omega) (by omega) (by omega), arr_ne (i := 0) (j := 2) (by omega) (by omega) (by omega), arr_ne (i := 0) (j := 3) (by omega) (by omega) (by omega)]
  rfl
theorem RW_sw1 {s : St} {t0 t1 : Sp} {g0 h0 g1 h1 : Nat → Int32} {a b : Nat} : RW (sw1 s a b 1) t0 g0 h0 t1 g1 h1 = [RoundO 1 5 9 10 11 12 s, LawO 2 4 0, cRow 3 (nI t0.length), cI 60 g0, cI 60 h0, LawO 6 8 1, cRow 7 (nI t1.length), cI 60 g1, cI 60 h1, cI 8 (arr s 0), cI 8 (upd (upd (arr s 1) a (arr s 1 b)) b (arr s 1 a)), cI 8 (arr s 2), cI 8 (arr s 3)] := by
  unfold sw1
  rw [RW_hi1]
  simp only [RoundO, pm_ne (i := 1) (by omega), upd_lo_hi (show 8 < 9 by omega), upd_lo_hi (show 0 < 9 by omega), upd_lo_hi (show 1 < 9 by omega), upd_lo_hi (show 2 < 9 by omega), upd_lo_hi (show 3 < 9 by omega), upd_lo_hi (show 4 < 9 by omega), upd_lo_hi (show 5 < 9 by omega), arr_eq (j := 1) (by omega), arr_ne (i := 1) (j := 0) (by omega) (by omega) (by omega), arr_ne (i := 1) (j := 2) (by omega) (by omega) (by omega), arr_ne (i := 1) (j := 3) (by omega) (by omega) (by omega)]
  rfl
theorem RW_sw2 {s : St} {t0 t1 : Sp} {g0 h0 g1 h1 : Nat → Int32} {a b : Nat} : RW (sw1 s a b 2) t0 g0 h0 t1 g1 h1 = [RoundO 1 5 9 10 11 12 s, LawO 2 4 0, cRow 3 (nI t0.length), cI 60 g0, cI 60 h0, LawO 6 8 1, cRow 7 (nI t1.length), cI 60 g1, cI 60 h1, cI 8 (arr s 0), cI 8 (arr s 1), cI 8 (upd (upd (arr s 2) a (arr s 2 b)) b (arr s 2 a)), cI 8 (arr s 3)] := by
  unfold sw1
  rw [RW_hi2]
  simp only [RoundO, pm_ne (i := 2) (by omega), upd_lo_hi (show 8 < 9 by omega), upd_lo_hi (show 0 < 9 by omega), upd_lo_hi (show 1 < 9 by omega), upd_lo_hi (show 2 < 9 by omega), upd_lo_hi (show 3 < 9 by omega), upd_lo_hi (show 4 < 9 by omega), upd_lo_hi (show 5 < 9 by omega), arr_eq (j := 2) (by omega), arr_ne (i := 2) (j := 0) (by omega) (by omega) (by omega), arr_ne (i := 2) (j := 1) (by omega) (by omega) (by omega), arr_ne (i := 2) (j := 3) (by omega) (by omega) (by omega)]
  rfl
theorem RW_sw3 {s : St} {t0 t1 : Sp} {g0 h0 g1 h1 : Nat → Int32} {a b : Nat} : RW (sw1 s a b 3) t0 g0 h0 t1 g1 h1 = [RoundO 1 5 9 10 11 12 s, LawO 2 4 0, cRow 3 (nI t0.length), cI 60 g0, cI 60 h0, LawO 6 8 1, cRow 7 (nI t1.length), cI 60 g1, cI 60 h1, cI 8 (arr s 0), cI 8 (arr s 1), cI 8 (arr s 2), cI 8 (upd (upd (arr s 3) a (arr s 3 b)) b (arr s 3 a))] := by
  unfold sw1
  rw [RW_hi3]
  simp only [RoundO, pm_ne (i := 3) (by omega), upd_lo_hi (show 8 < 9 by omega), upd_lo_hi (show 0 < 9 by omega), upd_lo_hi (show 1 < 9 by omega), upd_lo_hi (show 2 < 9 by omega), upd_lo_hi (show 3 < 9 by omega), upd_lo_hi (show 4 < 9 by omega), upd_lo_hi (show 5 < 9 by omega), arr_eq (j := 3) (by omega), arr_ne (i := 3) (j := 0) (by omega) (by omega) (by omega), arr_ne (i := 3) (j := 1) (by omega) (by omega) (by omega), arr_ne (i := 3) (j := 2) (by omega) (by omega) (by omega)]
  rfl
set_option maxRecDepth 100000 in
theorem c_X2_changeNumbers (f : Nat → Int32) (a b : Nat) (ha : a < 8) (hb : b < 8) : AMet yX2_changeNumbers cX2_changeNumbers 4 none 0 0 0 [.ref 0, .int (nI a), .int (nI b)] [cI 8 f] (pV fun h => h = [cI 8 (upd (upd f a (f b)) b (f a))]) := by
  refine AMet.of (by decide +kernel) rfl (fun E ad0 hE => ?_)
  refine A_aload_n hE 1 dX2_changeNumbers_0 rfl rfl ?_
  refine A_iload_n hE 2 dX2_changeNumbers_1 rfl rfl ?_
  refine A_iald hE 3 a dX2_changeNumbers_2 rfl rfl rfl ha rfl ?_
  refine A_istore_n hE 4 dX2_changeNumbers_3 rfl rfl rfl ?_
  refine A_aload_n hE 5 dX2_changeNumbers_4 rfl rfl ?_
  refine A_iload_n hE 6 dX2_changeNumbers_5 rfl rfl ?_
  refine A_aload_n hE 7 dX2_changeNumbers_6 rfl rfl ?_
  refine A_iload_n hE 8 dX2_changeNumbers_7 rfl rfl ?_
  refine A_iald hE 9 b dX2_changeNumbers_8 rfl rfl rfl hb rfl ?_
  refine A_iast hE 10 a dX2_changeNumbers_9 rfl rfl rfl ha rfl rfl ?_
  refine A_aload_n hE 11 dX2_changeNumbers_10 rfl rfl ?_
  refine A_iload_n hE 12 dX2_changeNumbers_11 rfl rfl ?_
  refine A_iload_n hE 13 dX2_changeNumbers_12 rfl rfl ?_
  refine A_iast hE 14 b dX2_changeNumbers_13 rfl rfl rfl hb rfl rfl ?_
  refine A_vret hE dX2_changeNumbers_14 rfl
set_option maxRecDepth 100000 in
theorem c_X2_changePlaces (s : St) (t0 t1 : Sp) (g0 h0 g1 h1 : Nat → Int32) (a b : Nat) (ha : a < 8) (hb : b < 8) (wa : its s a 4 = 0 ∨ its s a 4 = 1) (wb : its s b 4 = 0 ∨ its s b 4 = 1) : AMet yX2_changePlaces cX2_changePlaces 4 none 1 0 0 [.ref 0, .int (nI a), .int (nI b)] (RW s t0 g0 h0 t1 g1 h1) (pV fun h => h = RW (swS a b s) t0 g0 h0 t1 g1 h1) := by
  refine AMet.of (by decide +kernel) rfl (fun E ad0 hE => ?_)
  obtain ⟨va, hva, ea⟩ : ∃ v : Nat, v < 2 ∧ its s a 4 = nI v := by rcases wa with e | e; exact ⟨0, by omega, e⟩; exact ⟨1, by omega, e⟩
  obtain ⟨vb, hvb, eb⟩ : ∃ v : Nat, v < 2 ∧ its s b 4 = nI v := by rcases wb with e | e; exact ⟨0, by omega, e⟩; exact ⟨1, by omega, e⟩
  have e4 : ∀ h, its (sw1 (sw1 (sw1 (sw1 s a b 0) a b 1) a b 2) a b 3) h 4 = its s h 4 := fun h => by rw [its_sw (by omega) (by omega) (by omega), its_sw (by omega) (by omega) (by omega), its_sw (by omega) (by omega) (by omega), its_sw (by omega) (by omega) (by omega)]
  refine A_aload_n hE 1 dX2_changePlaces_0 rfl rfl ?_
  refine A_get hE 4 dX2_changePlaces_1 rfl fkX2_23 rfl rfl ?_
  refine A_iload_n hE 5 dX2_changePlaces_4 rfl rfl ?_
  refine A_iload_n hE 6 dX2_changePlaces_5 rfl rfl ?_
  refine A_callSv hE 9 (c_X2_changeNumbers (arr s 0) a b ha hb) [9] dX2_changePlaces_6 rfl mkX2_134 rfl rfl rfl rfl rfl rfl (Nat.le_of_ble_eq_true rfl) (Nat.le_of_ble_eq_true rfl) rfl (fun h6 g6 hp6 hw6 => ?_)
  obtain rfl := hp6
  obtain rfl := Option.some.inj hw6
  refine A_h (RW (sw1 s a b 0) t0 g0 h0 t1 g1 h1) RW_sw0.symm ?_
  refine A_aload_n hE 10 dX2_changePlaces_9 rfl rfl ?_
  refine A_get hE 13 dX2_changePlaces_10 rfl fkX2_27 rfl rfl ?_
  refine A_iload_n hE 14 dX2_changePlaces_13 rfl rfl ?_
  refine A_iload_n hE 15 dX2_changePlaces_14 rfl rfl ?_
  refine A_callSv hE 18 (c_X2_changeNumbers (arr (sw1 s a b 0) 1) a b ha hb) [10] dX2_changePlaces_15 rfl mkX2_134 rfl rfl rfl rfl rfl rfl (Nat.le_of_ble_eq_true rfl) (Nat.le_of_ble_eq_true rfl) rfl (fun h15 g15 hp15 hw15 => ?_)
  obtain rfl := hp15
  obtain rfl := Option.some.inj hw15
  refine A_h (RW (sw1 (sw1 s a b 0) a b 1) t0 g0 h0 t1 g1 h1) RW_sw1.symm ?_
  refine A_aload_n hE 19 dX2_changePlaces_18 rfl rfl ?_
  refine A_get hE 22 dX2_changePlaces_19 rfl fkX2_30 rfl rfl ?_
  refine A_iload_n hE 23 dX2_changePlaces_22 rfl rfl ?_
  refine A_iload_n hE 24 dX2_changePlaces_23 rfl rfl ?_
  refine A_callSv hE 27 (c_X2_changeNumbers (arr (sw1 (sw1 s a b 0) a b 1) 2) a b ha hb) [11] dX2_changePlaces_24 rfl mkX2_134 rfl rfl rfl rfl rfl rfl (Nat.le_of_ble_eq_true rfl) (Nat.le_of_ble_eq_true rfl) rfl (fun h24 g24 hp24 hw24 => ?_)
  obtain rfl := hp24
  obtain rfl := Option.some.inj hw24
  refine A_h (RW (sw1 (sw1 (sw1 s a b 0) a b 1) a b 2) t0 g0 h0 t1 g1 h1) RW_sw2.symm ?_
  refine A_aload_n hE 28 dX2_changePlaces_27 rfl rfl ?_
  refine A_get hE 31 dX2_changePlaces_28 rfl fkX2_33 rfl rfl ?_
  refine A_iload_n hE 32 dX2_changePlaces_31 rfl rfl ?_
  refine A_iload_n hE 33 dX2_changePlaces_32 rfl rfl ?_
  refine A_callSv hE 36 (c_X2_changeNumbers (arr (sw1 (sw1 (sw1 s a b 0) a b 1) a b 2) 3) a b ha hb) [12] dX2_changePlaces_33 rfl mkX2_134 rfl rfl rfl rfl rfl rfl (Nat.le_of_ble_eq_true rfl) (Nat.le_of_ble_eq_true rfl) rfl (fun h33 g33 hp33 hw33 => ?_)
  obtain rfl := hp33
  obtain rfl := Option.some.inj hw33
  refine A_h (RW (sw1 (sw1 (sw1 (sw1 s a b 0) a b 1) a b 2) a b 3) t0 g0 h0 t1 g1 h1) RW_sw3.symm ?_
  refine A_aload_n hE 37 dX2_changePlaces_36 rfl rfl ?_
  refine A_iload_n hE 38 dX2_changePlaces_37 rfl rfl ?_
  refine A_callVi hE 41 (c_X2_pastAt (sw1 (sw1 (sw1 (sw1 s a b 0) a b 1) a b 2) a b 3) t0 t1 g0 h0 g1 h1 (nI a) a rfl ha (by rw [e4 a]; exact wa)) [0, 1, 2, 3, 4, 5, 6, 7, 8, 9, 10, 11, 12] dX2_changePlaces_38 rfl mkX2_118 rfl rfl rfl rfl rfl rfl rfl (Nat.le_of_ble_eq_true rfl) (Nat.le_of_ble_eq_true rfl) rfl (fun x38 h38 g38 hp38 hw38 => ?_)
  obtain ⟨rfl, rfl⟩ := hp38
  obtain rfl := Option.some.inj hw38
  refine A_h (RW (sw1 (sw1 (sw1 (sw1 s a b 0) a b 1) a b 2) a b 3) t0 g0 h0 t1 g1 h1) rfl ?_
  rw [e4 a, ea]
  refine A_istore_n hE 42 dX2_changePlaces_41 rfl rfl rfl ?_
  refine A_aload_n hE 43 dX2_changePlaces_42 rfl rfl ?_
  refine A_iload_n hE 44 dX2_changePlaces_43 rfl rfl ?_
  refine A_aload_n hE 45 dX2_changePlaces_44 rfl rfl ?_
  refine A_iload_n hE 46 dX2_changePlaces_45 rfl rfl ?_
  refine A_callVi hE 49 (c_X2_pastAt (sw1 (sw1 (sw1 (sw1 s a b 0) a b 1) a b 2) a b 3) t0 t1 g0 h0 g1 h1 (nI b) b rfl hb (by rw [e4 b]; exact wb)) [0, 1, 2, 3, 4, 5, 6, 7, 8, 9, 10, 11, 12] dX2_changePlaces_46 rfl mkX2_118 rfl rfl rfl rfl rfl rfl rfl (Nat.le_of_ble_eq_true rfl) (Nat.le_of_ble_eq_true rfl) rfl (fun x46 h46 g46 hp46 hw46 => ?_)
  obtain ⟨rfl, rfl⟩ := hp46
  obtain rfl := Option.some.inj hw46
  refine A_h (RW (sw1 (sw1 (sw1 (sw1 s a b 0) a b 1) a b 2) a b 3) t0 g0 h0 t1 g1 h1) rfl ?_
  rw [e4 b, eb]
  refine A_callVv hE 52 (c_X2_putPast (sw1 (sw1 (sw1 (sw1 s a b 0) a b 1) a b 2) a b 3) t0 t1 g0 h0 g1 h1 (nI a) (nI vb) a vb rfl rfl ha hvb) [0, 1, 2, 3, 4, 5, 6, 7, 8, 9, 10, 11, 12] dX2_changePlaces_49 rfl mkX2_138 rfl rfl rfl rfl rfl rfl rfl (Nat.le_of_ble_eq_true rfl) (Nat.le_of_ble_eq_true rfl) rfl (fun h49 g49 hp49 hw49 => ?_)
  obtain rfl := hp49
  obtain rfl := Option.some.inj hw49
  refine A_h (RW (upd (sw1 (sw1 (sw1 (sw1 s a b 0) a b 1) a b 2) a b 3) (9 + 5 * a + 4) (nI vb)) t0 g0 h0 t1 g1 h1) rfl ?_
  refine A_aload_n hE 53 dX2_changePlaces_52 rfl rfl ?_
  refine A_iload_n hE 54 dX2_changePlaces_53 rfl rfl ?_
  refine A_iload_n hE 55 dX2_changePlaces_54 rfl rfl ?_
  refine A_callVv hE 58 (c_X2_putPast (upd (sw1 (sw1 (sw1 (sw1 s a b 0) a b 1) a b 2) a b 3) (9 + 5 * a + 4) (nI vb)) t0 t1 g0 h0 g1 h1 (nI b) (nI va) b va rfl rfl hb hva) [0, 1, 2, 3, 4, 5, 6, 7, 8, 9, 10, 11, 12] dX2_changePlaces_55 rfl mkX2_138 rfl rfl rfl rfl rfl rfl rfl (Nat.le_of_ble_eq_true rfl) (Nat.le_of_ble_eq_true rfl) rfl (fun h55 g55 hp55 hw55 => ?_)
  obtain rfl := hp55
  obtain rfl := Option.some.inj hw55
  refine A_h (RW (upd (upd (sw1 (sw1 (sw1 (sw1 s a b 0) a b 1) a b 2) a b 3) (9 + 5 * a + 4) (nI vb)) (9 + 5 * b + 4) (nI va)) t0 g0 h0 t1 g1 h1) rfl ?_
  refine A_vret hE dX2_changePlaces_58 ?_
  show RW _ t0 g0 h0 t1 g1 h1 = RW (swS a b s) t0 g0 h0 t1 g1 h1
  unfold swS
  rw [show sw1 (sw1 (sw1 (sw1 (sw1 s a b 0) a b 1) a b 2) a b 3) a b 4 = upd (upd (sw1 (sw1 (sw1 (sw1 s a b 0) a b 1) a b 2) a b 3) (9 + 5 * a + 4) (nI vb)) (9 + 5 * b + 4) (nI va) by unfold sw1; rw [← ea, ← eb, ← e4 a, ← e4 b]; rfl]
theorem LawC.ovr {u n : Nat} {ss : Sp} {f g : Nat → Int32} (h : LawC u ss f) (hn : ss.length ≤ n) : LawC u ss (ovr n f g) := by
  refine ⟨h.1, fun j hj => ?_⟩
  show (if j < n then f j else g j) = _
  rw [if_pos (by omega)]
  exact h.2 j hj
theorem LawC.len {u : Nat} {ss : Sp} {g : Nat → Int32} (h : LawC u ss g) : ss.length ≤ 60 := h.1.1
set_option maxRecDepth 100000 in
theorem c_X2_takeOver (s : St) (a0 a1 a2 a3 : Nat → Int32) (t0 t1 : Sp) (g0 h0 g1 h1 : Nat → Int32) (n0 n1 : Nat) (f0 k0 f1 k1 : Nat → Int32) (x6 x7 x8 x9 x10 x11 x12 x13 : Int32) (ht0 : t0.length ≤ 60) (ht1 : t1.length ≤ 60) : AMet yX2_takeOver cX2_takeOver 2 none 3 0 0 [.ref 0, .ref 5] [.inr (2, [.ref 10, .ref 14, .ref 1, .ref 2, .ref 3, .ref 4, .int x6, .int x7, .int x8, .int x9, .int x10, .int x11, .int x12, .int x13]), cI 8 a0, cI 8 a1, cI 8 a2, cI 8 a3, RoundO 18 22 6 7 8 9 s, cI 8 (arr s 0), cI 8 (arr s 1), cI 8 (arr s 2), cI 8 (arr s 3), LawO 11 13 0, cRow 12 (nI n0), cI 60 f0, cI 60 k0, LawO 15 17 1, cRow 16 (nI n1), cI 60 f1, cI 60 k1, LawO 19 21 0, cRow 20 (nI t0.length), cI 60 g0, cI 60 h0, LawO 23 25 1, cRow 24 (nI t1.length), cI 60 g1, cI 60 h1] (pV fun h => h = [RoundO 10 14 1 2 3 4 s, cI 8 (arr s 0), cI 8 (arr s 1), cI 8 (arr s 2), cI 8 (arr s 3), RoundO 18 22 6 7 8 9 s, cI 8 (arr s 0), cI 8 (arr s 1), cI 8 (arr s 2), cI 8 (arr s 3), LawO 11 13 0, cRow 12 (nI t0.length), cI 60 (ovr t0.length g0 f0), cI 60 k0, LawO 15 17 1, cRow 16 (nI t1.length), cI 60 (ovr t1.length g1 f1), cI 60 k1, LawO 19 21 0, cRow 20 (nI t0.length), cI 60 g0, cI 60 h0, LawO 23 25 1, cRow 24 (nI t1.length), cI 60 g1, cI 60 h1]) := by
  refine AMet.of (by decide +kernel) rfl (fun E ad0 hE => ?_)
  refine A_aload_n hE 1 dX2_takeOver_0 rfl rfl ?_
  refine A_get hE 4 dX2_takeOver_1 rfl fkX2_14 rfl rfl ?_
  refine A_aload_n hE 5 dX2_takeOver_4 rfl rfl ?_
  refine A_get hE 8 dX2_takeOver_5 rfl fkX2_14 rfl rfl ?_
  refine A_get hE 11 dX2_takeOver_8 rfl fkX2_61 rfl rfl ?_
  refine A_callVv hE 14 (c_X0_takeSteps 0 [] t0 f0 k0 g0 n0 ht0) [10, 11, 12, 13, 19, 20] dX2_takeOver_11 rfl mkX2_65 rfl rfl rfl rfl rfl rfl rfl (Nat.le_of_ble_eq_true rfl) (Nat.le_of_ble_eq_true rfl) rfl (fun h11 g11 hp11 hw11 => ?_)
  obtain rfl := hp11
  obtain rfl := Option.some.inj hw11
  refine A_h ([.inr (2, [.ref 10, .ref 14, .ref 1, .ref 2, .ref 3, .ref 4, .int x6, .int x7, .int x8, .int x9, .int x10, .int x11, .int x12, .int x13]), cI 8 a0, cI 8 a1, cI 8 a2, cI 8 a3, RoundO 18 22 6 7 8 9 s, cI 8 (arr s 0), cI 8 (arr s 1), cI 8 (arr s 2), cI 8 (arr s 3), LawO 11 13 0, cRow 12 (nI t0.length), cI 60 (ovr t0.length g0 f0), cI 60 k0, LawO 15 17 1, cRow 16 (nI n1), cI 60 f1, cI 60 k1, LawO 19 21 0, cRow 20 (nI t0.length), cI 60 g0, cI 60 h0, LawO 23 25 1, cRow 24 (nI t1.length), cI 60 g1, cI 60 h1]) rfl ?_
  refine A_aload_n hE 15 dX2_takeOver_14 rfl rfl ?_
  refine A_get hE 18 dX2_takeOver_15 rfl fkX2_20 rfl rfl ?_
  refine A_aload_n hE 19 dX2_takeOver_18 rfl rfl ?_
  refine A_get hE 22 dX2_takeOver_19 rfl fkX2_20 rfl rfl ?_
  refine A_get hE 25 dX2_takeOver_22 rfl fkX2_61 rfl rfl ?_
  refine A_callVv hE 28 (c_X0_takeSteps 1 [] t1 f1 k1 g1 n1 ht1) [14, 15, 16, 17, 23, 24] dX2_takeOver_25 rfl mkX2_65 rfl rfl rfl rfl rfl rfl rfl (Nat.le_of_ble_eq_true rfl) (Nat.le_of_ble_eq_true rfl) rfl (fun h25 g25 hp25 hw25 => ?_)
  obtain rfl := hp25
  obtain rfl := Option.some.inj hw25
  refine A_h ([.inr (2, [.ref 10, .ref 14, .ref 1, .ref 2, .ref 3, .ref 4, .int x6, .int x7, .int x8, .int x9, .int x10, .int x11, .int x12, .int x13]), cI 8 a0, cI 8 a1, cI 8 a2, cI 8 a3, RoundO 18 22 6 7 8 9 s, cI 8 (arr s 0), cI 8 (arr s 1), cI 8 (arr s 2), cI 8 (arr s 3), LawO 11 13 0, cRow 12 (nI t0.length), cI 60 (ovr t0.length g0 f0), cI 60 k0, LawO 15 17 1, cRow 16 (nI t1.length), cI 60 (ovr t1.length g1 f1), cI 60 k1, LawO 19 21 0, cRow 20 (nI t0.length), cI 60 g0, cI 60 h0, LawO 23 25 1, cRow 24 (nI t1.length), cI 60 g1, cI 60 h1]) rfl ?_
  refine A_aload_n hE 29 dX2_takeOver_28 rfl rfl ?_
  refine A_get hE 32 dX2_takeOver_29 rfl fkX2_23 rfl rfl ?_
  refine A_iconst hE 33 dX2_takeOver_32 rfl (0) rfl ?_
  refine A_aload_n hE 34 dX2_takeOver_33 rfl rfl ?_
  refine A_get hE 37 dX2_takeOver_34 rfl fkX2_23 rfl rfl ?_
  refine A_iconst hE 38 dX2_takeOver_37 rfl (0) rfl ?_
  refine A_bipush hE 40 dX2_takeOver_38 rfl (8) (by decide) ?_
  refine A_copyi hE 43 dX2_takeOver_40 rfl acRX2 acN acS acI rfl rfl (by decide) (by decide) (by decide) (by decide) (by decide) rfl (by decide) rfl ?_
  refine A_arr 1 (arr s 0) rfl rfl (cpy8 _ _) ?_
  refine A_aload_n hE 44 dX2_takeOver_43 rfl rfl ?_
  refine A_get hE 47 dX2_takeOver_44 rfl fkX2_27 rfl rfl ?_
  refine A_iconst hE 48 dX2_takeOver_47 rfl (0) rfl ?_
  refine A_aload_n hE 49 dX2_takeOver_48 rfl rfl ?_
  refine A_get hE 52 dX2_takeOver_49 rfl fkX2_27 rfl rfl ?_
  refine A_iconst hE 53 dX2_takeOver_52 rfl (0) rfl ?_
  refine A_bipush hE 55 dX2_takeOver_53 rfl (8) (by decide) ?_
  refine A_copyi hE 58 dX2_takeOver_55 rfl acRX2 acN acS acI rfl rfl (by decide) (by decide) (by decide) (by decide) (by decide) rfl (by decide) rfl ?_
  refine A_arr 2 (arr s 1) rfl rfl (cpy8 _ _) ?_
  refine A_aload_n hE 59 dX2_takeOver_58 rfl rfl ?_
  refine A_get hE 62 dX2_takeOver_59 rfl fkX2_30 rfl rfl ?_
  refine A_iconst hE 63 dX2_takeOver_62 rfl (0) rfl ?_
  refine A_aload_n hE 64 dX2_takeOver_63 rfl rfl ?_
  refine A_get hE 67 dX2_takeOver_64 rfl fkX2_30 rfl rfl ?_
  refine A_iconst hE 68 dX2_takeOver_67 rfl (0) rfl ?_
  refine A_bipush hE 70 dX2_takeOver_68 rfl (8) (by decide) ?_
  refine A_copyi hE 73 dX2_takeOver_70 rfl acRX2 acN acS acI rfl rfl (by decide) (by decide) (by decide) (by decide) (by decide) rfl (by decide) rfl ?_
  refine A_arr 3 (arr s 2) rfl rfl (cpy8 _ _) ?_
  refine A_aload_n hE 74 dX2_takeOver_73 rfl rfl ?_
  refine A_get hE 77 dX2_takeOver_74 rfl fkX2_33 rfl rfl ?_
  refine A_iconst hE 78 dX2_takeOver_77 rfl (0) rfl ?_
  refine A_aload_n hE 79 dX2_takeOver_78 rfl rfl ?_
  refine A_get hE 82 dX2_takeOver_79 rfl fkX2_33 rfl rfl ?_
  refine A_iconst hE 83 dX2_takeOver_82 rfl (0) rfl ?_
  refine A_bipush hE 85 dX2_takeOver_83 rfl (8) (by decide) ?_
  refine A_copyi hE 88 dX2_takeOver_85 rfl acRX2 acN acS acI rfl rfl (by decide) (by decide) (by decide) (by decide) (by decide) rfl (by decide) rfl ?_
  refine A_arr 4 (arr s 3) rfl rfl (cpy8 _ _) ?_
  refine A_aload_n hE 89 dX2_takeOver_88 rfl rfl ?_
  refine A_aload_n hE 90 dX2_takeOver_89 rfl rfl ?_
  refine A_get hE 93 dX2_takeOver_90 rfl fkX2_36 rfl rfl ?_
  refine A_put hE 96 dX2_takeOver_93 rfl fkX2_36 rfl rfl rfl rfl ?_
  refine A_aload_n hE 97 dX2_takeOver_96 rfl rfl ?_
  refine A_aload_n hE 98 dX2_takeOver_97 rfl rfl ?_
  refine A_get hE 101 dX2_takeOver_98 rfl fkX2_40 rfl rfl ?_
  refine A_put hE 104 dX2_takeOver_101 rfl fkX2_40 rfl rfl rfl rfl ?_
  refine A_aload_n hE 105 dX2_takeOver_104 rfl rfl ?_
  refine A_aload_n hE 106 dX2_takeOver_105 rfl rfl ?_
  refine A_get hE 109 dX2_takeOver_106 rfl fkX2_43 rfl rfl ?_
  refine A_put hE 112 dX2_takeOver_109 rfl fkX2_43 rfl rfl rfl rfl ?_
  refine A_aload_n hE 113 dX2_takeOver_112 rfl rfl ?_
  refine A_aload_n hE 114 dX2_takeOver_113 rfl rfl ?_
  refine A_get hE 117 dX2_takeOver_114 rfl fkX2_46 rfl rfl ?_
  refine A_put hE 120 dX2_takeOver_117 rfl fkX2_46 rfl rfl rfl rfl ?_
  refine A_aload_n hE 121 dX2_takeOver_120 rfl rfl ?_
  refine A_aload_n hE 122 dX2_takeOver_121 rfl rfl ?_
  refine A_get hE 125 dX2_takeOver_122 rfl fkX2_49 rfl rfl ?_
  refine A_put hE 128 dX2_takeOver_125 rfl fkX2_49 rfl rfl rfl rfl ?_
  refine A_aload_n hE 129 dX2_takeOver_128 rfl rfl ?_
  refine A_aload_n hE 130 dX2_takeOver_129 rfl rfl ?_
  refine A_get hE 133 dX2_takeOver_130 rfl fkX2_52 rfl rfl ?_
  refine A_put hE 136 dX2_takeOver_133 rfl fkX2_52 rfl rfl rfl rfl ?_
  refine A_aload_n hE 137 dX2_takeOver_136 rfl rfl ?_
  refine A_aload_n hE 138 dX2_takeOver_137 rfl rfl ?_
  refine A_get hE 141 dX2_takeOver_138 rfl fkX2_55 rfl rfl ?_
  refine A_put hE 144 dX2_takeOver_141 rfl fkX2_55 rfl rfl rfl rfl ?_
  refine A_aload_n hE 145 dX2_takeOver_144 rfl rfl ?_
  refine A_aload_n hE 146 dX2_takeOver_145 rfl rfl ?_
  refine A_get hE 149 dX2_takeOver_146 rfl fkX2_58 rfl rfl ?_
  refine A_put hE 152 dX2_takeOver_149 rfl fkX2_58 rfl rfl rfl rfl ?_
  refine A_vret hE dX2_takeOver_152 rfl
