theorem iwC : Cond.code yX8_isWithin cX8_isWithin 3 (some .boolean) ∈ lw_g := lg_m 348 (by decide +kernel) rfl
theorem iwS : Cond.static yX8_isWithin ∈ lw_g := lg_m 347 (by decide +kernel) rfl
theorem iwI : Cond.initialized RX8 ∈ lw_g := iniX8
theorem cpy8 (f g : Nat → Int32) : ∀ j, j < 8 → va_cpy f g (0 : Int32).toNatClampNeg (0 : Int32).toNatClampNeg (8 : Int32).toNatClampNeg j = f j := by
  intro j hj
  unfold va_cpy
  rw [show (0 : Int32).toNatClampNeg = 0 by decide, show (8 : Int32).toNatClampNeg = 8 by decide, if_pos (by omega)]
  congr 1
  omega
/-- a nest mate's static method -/
theorem A_isW {E : AV} {R : Room} {Q : State → Prop} {ad0 : Nat → Nat} {n0 cells slots pc nL : Nat} {lv : List (Nat × Value)} {st : List Value} {h : List AE} {cc : ByteArray} {ret : Option FieldType} {nm : String} {P : Int32 → List AE → Prop} {x y z : Int32} (hE : AGood E cc nL RX2 ret nm) (q : Nat) (hM : AMet yX8_isWithin cX8_isWithin 3 (some .boolean) 0 0 0 [.int x, .int y, .int z] [] (pI P)) (hd : decode cc pc = .ok (.invokestatic 130, 3)) (hq : pc + 3 = q) (hfr : Nat.blt 0 R.frames = true) (hlo : Nat.ble (8 + (3 + 11) + 20) R.locals = true) (hcl : cells ≤ R.cells) (hsl : slots ≤ R.slots) (hcat : Nat.ble (catS st) 8 = true)
    (kk : ∀ (r : Int32), P r [] → AW E R nL Q ad0 n0 cells slots q lv (.int r :: st) h) : AW E R nL Q ad0 n0 cells slots pc lv (.int z :: .int y :: .int x :: st) h := by
  obtain ⟨p, l, e, s, m, args, below, meth, c, D, tc, sa, A⟩ := E
  subst hq
  obtain ⟨⟨hx, hb, hml, hown, hts⟩, hK, hT, hA, hr, hlk, hnm⟩ := hE
  intro ad H locs ls hP hD hS hl hn h0 h1
  have hg : gets h [] = some (([] : List AE).map (re [])) := rfl
  obtain ⟨hB, hPc, hF⟩ := B0_of hP hD hS hA hK hT hg rfl
  refine callA (va_runSN (As := [.int x, .int y, .int z]) (rest := st.map (cv ad sa)) ⟨hx, hb, hml, hown, hts⟩ (hM l D tc sa (fun i => ad (rn [] i)) H.size)
    ⟨va_cnB 3 hts (lg_good iwC) rfl rfl rfl hT.2.2.2.2.2.2.1 (hts _ iwI) (by decide +kernel) ⟨Nat.le_of_ble_eq_true hfr, Nat.le_of_ble_eq_true hlo⟩, hts _ iwS, trivial⟩
    ⟨B0_blind, fun U hU hW => ⟨rfl, hB U hU hW⟩⟩ rfl rfl hl.1 rfl (by rw [catS_eq]; show 2 * 0 + _ ≤ _; rw [Nat.mul_zero, Nat.zero_add]; exact Nat.le_of_ble_eq_true hcat) hd ⟨hcl, hsl⟩) hS hF ?_
  intro v h' ad' H1 locs1 hp hlen' hx' hy' hP1 hD1 hz hk1 hS1
  have e0 := hy' rfl
  subst e0
  obtain ⟨r, rfl, hp⟩ := hp
  have hh : h' = [] := List.length_eq_zero_iff.mp hlen'
  subst hh
  obtain ⟨b1, b2, b3⟩ := back0 (h2 := h) (h' := []) hP hD hg rfl rfl hP1 hk1
  exact kk r hp ad H1 locs1 ls b1 b2 hS1 hl hn h0 h1

set_option maxRecDepth 100000 in
theorem c_X8_isWithin (x y z : Int32) : AMet yX8_isWithin cX8_isWithin 3 (some (.boolean)) 0 0 0 [.int x, .int y, .int z] [] (pI fun r h => r = bI (decide (y ≤ x ∧ x ≤ z)) ∧ h = []) := by
  refine AMet.of (by decide +kernel) rfl (fun E ad0 hE => ?_)
  refine A_iload_n hE 1 dX8_isWithin_0 rfl rfl ?_
  refine A_iload_n hE 2 dX8_isWithin_1 rfl rfl ?_
  refine A_icmp_lt hE 5 14 dX8_isWithin_2 rfl rfl (fun c2 => ?_) (fun c2 => ?_)
  · refine A_iconst hE 15 dX8_isWithin_14 rfl (0) rfl ?_
    refine A_zret hE dX8_isWithin_15 (by first | exact Or.inl rfl | exact Or.inr rfl) ⟨?_, rfl⟩
    exact bI_f (fun w => iN w.1 c2)
  · refine A_iload_n hE 6 dX8_isWithin_5 rfl rfl ?_
    refine A_iload_n hE 7 dX8_isWithin_6 rfl rfl ?_
    refine A_icmp_gt hE 10 14 dX8_isWithin_7 rfl rfl (fun c7 => ?_) (fun c7 => ?_)
    · refine A_iconst hE 15 dX8_isWithin_14 rfl (0) rfl ?_
      refine A_zret hE dX8_isWithin_15 (by first | exact Or.inl rfl | exact Or.inr rfl) ⟨?_, rfl⟩
      exact bI_f (fun w => iM c7 w.2)
    · refine A_iconst hE 11 dX8_isWithin_10 rfl (1) rfl ?_
      refine A_goto hE 15 dX8_isWithin_11 rfl ?_
      refine A_zret hE dX8_isWithin_15 (by first | exact Or.inl rfl | exact Or.inr rfl) ⟨?_, rfl⟩
      exact bI_t ⟨iL c2, Int32.not_lt.mp c7⟩
def ush8 (z : Int32) : Int32 := (z.toUInt32 >>> ((8 : Int32).toUInt32 &&& Int32.toUInt32 31)).toInt32
def zN (s : St) : Int32 := s 5 * 1103515245 + 12345
def drawS (s : St) : St := if 0 < hn s then upd (upd s 5 (zN s)) 4 (rm (ush8 (zN s)) (s 8)) else s
theorem ush8_rng (z : Int32) : ∃ j : Nat, j < 2 ^ 24 ∧ ush8 z = nI j := by
  have h := pk_ushr z 8 8 (by decide)
  refine ⟨z.toBitVec.toNat / 2 ^ 8, by have := z.toBitVec.isLt; omega, ?_⟩
  apply Int32.toBitVec_inj.mp
  apply BitVec.eq_of_toNat_eq
  show (ush8 z).toBitVec.toNat = (nI (z.toBitVec.toNat / 2 ^ 8)).toBitVec.toNat
  rw [pk_tn (by have := z.toBitVec.isLt; omega)]
  exact h
theorem draw_at {s : St} (w : wf s) (h : 0 < hn s) : ∃ a : Nat, a < hn s ∧ rm (ush8 (zN s)) (s 8) = nI a := by
  obtain ⟨j, hj, e⟩ := ush8_rng (zN s)
  have w1 := w.1
  exact ⟨j % hn s, Nat.mod_lt _ h, by rw [e, w.2.1]; exact pk_rem (by omega) h (by omega)⟩
theorem wf_draw {s : St} (w : wf s) : wf (drawS s) := by
  unfold drawS
  by_cases h : 0 < hn s
  · rw [if_pos h]
    obtain ⟨a, ha, e⟩ := draw_at w h
    rw [e]
    exact wf_4 (wf_lo (by omega) w) ha
  · rw [if_neg h]; exact w
theorem RW_54 {s : St} {t0 t1 : Sp} {g0 h0 g1 h1 : Nat → Int32} {v w : Int32} : RW (upd (upd s 5 v) 4 w) t0 g0 h0 t1 g1 h1 = [.inr (2, [.ref 1, .ref 5, .ref 9, .ref 10, .ref 11, .ref 12, .int (pm s), .int (s 8), .int (s 0), .int (s 1), .int (s 2), .int (s 3), .int w, .int v]), LawO 2 4 0, cRow 3 (nI t0.length), cI 60 g0, cI 60 h0, LawO 6 8 1, cRow 7 (nI t1.length), cI 60 g1, cI 60 h1, cI 8 (arr s 0), cI 8 (arr s 1), cI 8 (arr s 2), cI 8 (arr s 3)] := by
  rw [RW_lo (by omega)]
  simp only [pm_lo (show 5 < 9 by omega), arr_lo (show 5 < 9 by omega)]
  rfl

set_option maxRecDepth 100000 in
theorem c_X2_drawPlace (s : St) (t0 t1 : Sp) (g0 h0 g1 h1 : Nat → Int32) (w : wf s) : AMet yX2_drawPlace cX2_drawPlace 1 none 0 0 0 [.ref 0] (RW s t0 g0 h0 t1 g1 h1) (pV fun h => h = RW (drawS s) t0 g0 h0 t1 g1 h1) := by
  refine AMet.of (by decide +kernel) rfl (fun E ad0 hE => ?_)
  obtain ⟨w1, w2, w3, w4, w5, w6, w7⟩ := id w
  refine A_aload_n hE 1 dX2_drawPlace_0 rfl rfl ?_
  refine A_get hE 4 dX2_drawPlace_1 rfl fkX2_40 rfl rfl ?_
  refine A_if_le hE 7 38 dX2_drawPlace_4 rfl rfl (fun c4 => ?_) (fun c4 => ?_)
  · refine A_vret hE dX2_drawPlace_38 ?_
    rw [drawS, if_neg]
    intro hz
    exact absurd c4 (by rw [w2]; exact nI_nle hz (by omega))
  · have hz : 0 < hn s := by rcases Nat.eq_zero_or_pos (hn s) with e | e; exact absurd (by rw [w2, e]; decide) c4; exact e
    refine A_aload_n hE 8 dX2_drawPlace_7 rfl rfl ?_
    refine A_aload_n hE 9 dX2_drawPlace_8 rfl rfl ?_
    refine A_get hE 12 dX2_drawPlace_9 rfl fkX2_58 rfl rfl ?_
    refine A_ldc hE 14 dX2_drawPlace_12 rfl kkX2_121 ?_
    refine A_imul hE 15 dX2_drawPlace_14 rfl ?_
    refine A_sipush hE 18 dX2_drawPlace_15 rfl (12345) (by decide) ?_
    refine A_iadd hE 19 dX2_drawPlace_18 rfl ?_
    refine A_put hE 22 dX2_drawPlace_19 rfl fkX2_58 rfl rfl rfl rfl ?_
    refine A_aload_n hE 23 dX2_drawPlace_22 rfl rfl ?_
    refine A_aload_n hE 24 dX2_drawPlace_23 rfl rfl ?_
    refine A_get hE 27 dX2_drawPlace_24 rfl fkX2_58 rfl rfl ?_
    refine A_bipush hE 29 dX2_drawPlace_27 rfl (8) (by decide) ?_
    refine A_iushr hE 30 dX2_drawPlace_29 rfl ?_
    refine A_aload_n hE 31 dX2_drawPlace_30 rfl rfl ?_
    refine A_get hE 34 dX2_drawPlace_31 rfl fkX2_40 rfl rfl ?_
    refine A_irem hE 35 dX2_drawPlace_34 rfl (by rw [w2]; exact nI_ne0 hz (by omega)) ?_
    refine A_put hE 38 dX2_drawPlace_35 rfl fkX2_55 rfl rfl rfl rfl ?_
    refine A_vret hE dX2_drawPlace_38 ?_
    rw [drawS, if_pos hz, RW_54]
    rfl
set_option maxRecDepth 100000 in
theorem c_X2_heardTogether (s : St) (t0 t1 : Sp) (g0 h0 g1 h1 : Nat → Int32) (w : wf s) : AMet yX2_heardTogether cX2_heardTogether 3 (some (.int)) 0 0 0 [.ref 0] (RW s t0 g0 h0 t1 g1 h1) (pI fun x h => x = sumH s (hn s) ∧ h = RW s t0 g0 h0 t1 g1 h1) := by
  refine AMet.of (by decide +kernel) rfl (fun E ad0 hE => ?_)
  obtain ⟨w1, w2, w3, w4, w5, w6, w7⟩ := id w
  have loop : ∀ (m j : Nat), hn s - j = m → j ≤ hn s → AW E (rmD 0 0 0) 3 (QM E ad0 13 0 0 (pI fun x h => x = sumH s (hn s) ∧ h = RW s t0 g0 h0 t1 g1 h1)) ad0 13 0 0 4 [(0, .ref 0), (1, .int (sumH s j)), (2, .int (nI j))] [] (RW s t0 g0 h0 t1 g1 h1) := by
    intro m
    induction m with
    | zero =>
      intro j hm hj
      obtain rfl : j = hn s := by omega
      refine A_iload_n hE 5 dX2_heardTogether_4 rfl rfl ?_
      refine A_aload_n hE 6 dX2_heardTogether_5 rfl rfl ?_
      refine A_get hE 9 dX2_heardTogether_6 rfl fkX2_40 rfl rfl ?_
      refine A_icmp_ge hE 12 27 dX2_heardTogether_9 rfl rfl (fun c9 => ?_) (fun c9 => absurd (by rw [w2]; exact nI_le (Nat.le_refl _) (by omega)) c9)
      refine A_iload_n hE 28 dX2_heardTogether_27 rfl rfl ?_
      refine A_iret hE dX2_heardTogether_28 ⟨rfl, rfl⟩
    | succ m ih =>
      intro j hm hj
      have hlt : j < hn s := by omega
      refine A_iload_n hE 5 dX2_heardTogether_4 rfl rfl ?_
      refine A_aload_n hE 6 dX2_heardTogether_5 rfl rfl ?_
      refine A_get hE 9 dX2_heardTogether_6 rfl fkX2_40 rfl rfl ?_
      refine A_icmp_ge hE 12 27 dX2_heardTogether_9 rfl rfl (fun c9 => absurd c9 (by rw [w2]; exact nI_ge hlt (by omega))) (fun c9 => ?_)
      refine A_iload_n hE 13 dX2_heardTogether_12 rfl rfl ?_
      refine A_aload_n hE 14 dX2_heardTogether_13 rfl rfl ?_
      refine A_get hE 17 dX2_heardTogether_14 rfl fkX2_30 rfl rfl ?_
      refine A_iload_n hE 18 dX2_heardTogether_17 rfl rfl ?_
      refine A_iald hE 19 j dX2_heardTogether_18 rfl rfl rfl (by omega) rfl ?_
      refine A_iadd hE 20 dX2_heardTogether_19 rfl ?_
      refine A_istore_n hE 21 dX2_heardTogether_20 rfl rfl rfl ?_
      refine A_iinc hE 24 dX2_heardTogether_21 rfl rfl (1) rfl rfl rfl ?_
      rw [nI_1]
      refine A_lv [0, 1, 2] rfl ?_
      refine A_goto hE 4 dX2_heardTogether_24 rfl ?_
      exact ih (j + 1) (by omega) (by omega)
  refine A_iconst hE 1 dX2_heardTogether_0 rfl (0) rfl ?_
  refine A_istore_n hE 2 dX2_heardTogether_1 rfl rfl rfl ?_
  refine A_iconst hE 3 dX2_heardTogether_2 rfl (0) rfl ?_
  refine A_istore_n hE 4 dX2_heardTogether_3 rfl rfl rfl ?_
  refine A_lv [0, 1, 2] rfl ?_
  exact loop (hn s) 0 rfl (Nat.zero_le _)
def inS (km : Int32) (s : St) : St := upd (upd (upd s (9 + 5 * hn s + 0) (km / 10)) (9 + 5 * hn s + 1) (rm km 10)) 8 (nI (hn s + 1))
theorem RW_in {s : St} {t0 t1 : Sp} {g0 h0 g1 h1 : Nat → Int32} {a : Nat} {u v w : Int32} : RW (upd (upd (upd s (9 + 5 * a + 0) u) (9 + 5 * a + 1) v) 8 w) t0 g0 h0 t1 g1 h1 = [.inr (2, [.ref 1, .ref 5, .ref 9, .ref 10, .ref 11, .ref 12, .int (pm s), .int w, .int (s 0), .int (s 1), .int (s 2), .int (s 3), .int (s 4), .int (s 5)]), LawO 2 4 0, cRow 3 (nI t0.length), cI 60 g0, cI 60 h0, LawO 6 8 1, cRow 7 (nI t1.length), cI 60 g1, cI 60 h1, cI 8 (upd (arr s 0) a u), cI 8 (upd (arr s 1) a v), cI 8 (arr s 2), cI 8 (arr s 3)] := by
  rw [RW_lo (by omega)]
  have e : ∀ k, k < 8 → upd (upd (upd s (9 + 5 * a + 0) u) (9 + 5 * a + 1) v) 8 w k = s k := fun k hk => by rw [upd_n (by omega), upd_n (by omega), upd_n (by omega)]
  simp only [upd_s, e 0 (by omega), e 1 (by omega), e 2 (by omega), e 3 (by omega), e 4 (by omega), e 5 (by omega), pm_ne (i := 0) (by omega), pm_ne (i := 1) (by omega), arr_eq (j := 1) (by omega), arr_eq (j := 0) (by omega), arr_ne (i := 1) (j := 0) (by omega) (by omega) (by omega), arr_ne (i := 1) (j := 2) (by omega) (by omega) (by omega), arr_ne (i := 1) (j := 3) (by omega) (by omega) (by omega), arr_ne (i := 0) (j := 1) (by omega) (by omega) (by omega), arr_ne (i := 0) (j := 2) (by omega) (by omega) (by omega), arr_ne (i := 0) (j := 3) (by omega) (by omega) (by omega)]

set_option maxRecDepth 100000 in
theorem c_X2_takeIn (s : St) (t0 t1 : Sp) (g0 h0 g1 h1 : Nat → Int32) (km : Int32) (w : wf s) (h8 : hn s < 8) : AMet yX2_takeIn cX2_takeIn 2 (some (.int)) 0 0 0 [.ref 0, .int km] (RW s t0 g0 h0 t1 g1 h1) (pI fun x h => x = nI (hn s) ∧ h = RW (inS km s) t0 g0 h0 t1 g1 h1) := by
  refine AMet.of (by decide +kernel) rfl (fun E ad0 hE => ?_)
  obtain ⟨w1, w2, w3, w4, w5, w6, w7⟩ := id w
  refine A_aload_n hE 1 dX2_takeIn_0 rfl rfl ?_
  refine A_get hE 4 dX2_takeIn_1 rfl fkX2_40 rfl rfl ?_
  refine A_bipush hE 6 dX2_takeIn_4 rfl (8) (by decide) ?_
  refine A_icmp_lt hE 9 11 dX2_takeIn_6 rfl rfl (fun c6 => ?_) (fun c6 => absurd (by rw [w2]; exact nI_lt (b := 8) h8 (by omega)) c6)
  refine A_aload_n hE 12 dX2_takeIn_11 rfl rfl ?_
  refine A_get hE 15 dX2_takeIn_12 rfl fkX2_23 rfl rfl ?_
  refine A_aload_n hE 16 dX2_takeIn_15 rfl rfl ?_
  refine A_get hE 19 dX2_takeIn_16 rfl fkX2_40 rfl rfl ?_
  refine A_iload_n hE 20 dX2_takeIn_19 rfl rfl ?_
  refine A_bipush hE 22 dX2_takeIn_20 rfl (10) (by decide) ?_
  refine A_idiv hE 23 dX2_takeIn_22 rfl (by decide) ?_
  refine A_iast hE 24 ((hn s)) dX2_takeIn_23 rfl rfl w2 h8 rfl rfl ?_
  refine A_aload_n hE 25 dX2_takeIn_24 rfl rfl ?_
  refine A_get hE 28 dX2_takeIn_25 rfl fkX2_27 rfl rfl ?_
  refine A_aload_n hE 29 dX2_takeIn_28 rfl rfl ?_
  refine A_get hE 32 dX2_takeIn_29 rfl fkX2_40 rfl rfl ?_
  refine A_iload_n hE 33 dX2_takeIn_32 rfl rfl ?_
  refine A_bipush hE 35 dX2_takeIn_33 rfl (10) (by decide) ?_
  refine A_irem hE 36 dX2_takeIn_35 rfl (by decide) ?_
  refine A_iast hE 37 ((hn s)) dX2_takeIn_36 rfl rfl w2 h8 rfl rfl ?_
  refine A_aload_n hE 38 dX2_takeIn_37 rfl rfl ?_
  refine A_dup hE 39 dX2_takeIn_38 rfl rfl ?_
  refine A_get hE 42 dX2_takeIn_39 rfl fkX2_40 rfl rfl ?_
  refine A_iconst hE 43 dX2_takeIn_42 rfl (1) rfl ?_
  refine A_iadd hE 44 dX2_takeIn_43 rfl ?_
  refine A_put hE 47 dX2_takeIn_44 rfl fkX2_40 rfl rfl rfl rfl ?_
  refine A_aload_n hE 48 dX2_takeIn_47 rfl rfl ?_
  refine A_get hE 51 dX2_takeIn_48 rfl fkX2_40 rfl rfl ?_
  refine A_iconst hE 52 dX2_takeIn_51 rfl (1) rfl ?_
  refine A_isub hE 53 dX2_takeIn_52 rfl ?_
  refine A_iret hE dX2_takeIn_53 ⟨?_, ?_⟩
  · rw [w2, nI_1]; exact nI_pred _
  · rw [inS, RW_in, w2, nI_1]
def tk (v : Nat → Int32) : Nat → Nat → St → St × Nat
  | 0, j, s => (s, j)
  | f + 1, j, s => if j < hn s ∧ 0 ≤ v j ∧ v j ≤ 9999 then tk v f (j + 1) (upd s (9 + 5 * j + 2) (v j)) else (s, j)
def rtF (s : St) (v : Nat → Int32) : Nat → Nat → Nat
  | 0, j => j
  | f + 1, j => if j < hn s ∧ v j = its s j 3 then rtF s v f (j + 1) else j
def rsF (t0 : Sp) (s : St) (v : Nat → Int32) : Nat → Nat → Nat
  | 0, j => j
  | f + 1, j => if j < hn s ∧ v j = said t0 s j then rsF t0 s v f (j + 1) else j

set_option maxRecDepth 100000 in
theorem c_X2_rightTurns (s : St) (t0 t1 : Sp) (g0 h0 g1 h1 : Nat → Int32) (m : Nat) (v : Nat → Int32) (hm : m ≤ 24) (w : wf s) : AMet yX2_rightTurns cX2_rightTurns 3 (some (.int)) 0 0 0 [.ref 0, .ref 13] [RoundO 1 5 9 10 11 12 s, LawO 2 4 0, cRow 3 (nI t0.length), cI 60 g0, cI 60 h0, LawO 6 8 1, cRow 7 (nI t1.length), cI 60 g1, cI 60 h1, cI 8 (arr s 0), cI 8 (arr s 1), cI 8 (arr s 2), cI 8 (arr s 3), cRow 14 (nI m), cI 24 v] (pI fun x h => x = nI (rtF s v m 0) ∧ h = [RoundO 1 5 9 10 11 12 s, LawO 2 4 0, cRow 3 (nI t0.length), cI 60 g0, cI 60 h0, LawO 6 8 1, cRow 7 (nI t1.length), cI 60 g1, cI 60 h1, cI 8 (arr s 0), cI 8 (arr s 1), cI 8 (arr s 2), cI 8 (arr s 3), cRow 14 (nI m), cI 24 v]) := by
  refine AMet.of (by decide +kernel) rfl (fun E ad0 hE => ?_)
  obtain ⟨w1, w2, w3, w4, w5, w6, w7⟩ := id w
  have loop : ∀ (f j : Nat), j + f = m → rtF s v m 0 = rtF s v f j → AW E (rmD 0 0 0) 3 (QM E ad0 15 0 0 (pI fun x h => x = nI (rtF s v m 0) ∧ h = [RoundO 1 5 9 10 11 12 s, LawO 2 4 0, cRow 3 (nI t0.length), cI 60 g0, cI 60 h0, LawO 6 8 1, cRow 7 (nI t1.length), cI 60 g1, cI 60 h1, cI 8 (arr s 0), cI 8 (arr s 1), cI 8 (arr s 2), cI 8 (arr s 3), cRow 14 (nI m), cI 24 v])) ad0 15 0 0 2 [(0, .ref 0), (1, .ref 13), (2, .int (nI j))] [] [RoundO 1 5 9 10 11 12 s, LawO 2 4 0, cRow 3 (nI t0.length), cI 60 g0, cI 60 h0, LawO 6 8 1, cRow 7 (nI t1.length), cI 60 g1, cI 60 h1, cI 8 (arr s 0), cI 8 (arr s 1), cI 8 (arr s 2), cI 8 (arr s 3), cRow 14 (nI m), cI 24 v] := by
    intro f
    induction f with
    | zero =>
      intro j hj hx
      obtain rfl : j = m := by omega
      refine A_iload_n hE 3 dX2_rightTurns_2 rfl rfl ?_
      refine A_aload_n hE 4 dX2_rightTurns_3 rfl rfl ?_
      refine A_get hE 7 dX2_rightTurns_4 rfl fkX2_122 rfl rfl ?_
      refine A_icmp_ge hE 10 39 dX2_rightTurns_7 rfl rfl (fun c7 => ?_) (fun c7 => absurd (nI_le (Nat.le_refl _) (by omega)) c7)
      refine A_iload_n hE 40 dX2_rightTurns_39 rfl rfl ?_
      refine A_iret hE dX2_rightTurns_40 ⟨by rw [hx]; rfl, rfl⟩
    | succ f ih =>
      intro j hj hx
      have hlt : j < m := by omega
      refine A_iload_n hE 3 dX2_rightTurns_2 rfl rfl ?_
      refine A_aload_n hE 4 dX2_rightTurns_3 rfl rfl ?_
      refine A_get hE 7 dX2_rightTurns_4 rfl fkX2_122 rfl rfl ?_
      refine A_icmp_ge hE 10 39 dX2_rightTurns_7 rfl rfl (fun c7 => absurd c7 (nI_ge hlt (by omega))) (fun c7 => ?_)
      refine A_iload_n hE 11 dX2_rightTurns_10 rfl rfl ?_
      refine A_aload_n hE 12 dX2_rightTurns_11 rfl rfl ?_
      refine A_get hE 15 dX2_rightTurns_12 rfl fkX2_40 rfl rfl ?_
      refine A_icmp_ge hE 18 39 dX2_rightTurns_15 rfl rfl (fun c15 => ?_) (fun c15 => ?_)
      · refine A_iload_n hE 40 dX2_rightTurns_39 rfl rfl ?_
        refine A_iret hE dX2_rightTurns_40 ?_
        refine ⟨?_, rfl⟩
        rw [hx, rtF, if_neg]
        intro z
        exact absurd c15 (by rw [w2]; exact nI_ge z.1 (by omega))
      · have hjn : j < hn s := by rw [w2] at c15; exact (nI_ltI (by omega) (by omega)).mp (iG c15)
        refine A_aload_n hE 19 dX2_rightTurns_18 rfl rfl ?_
        refine A_get hE 22 dX2_rightTurns_19 rfl fkX2_127 rfl rfl ?_
        refine A_iload_n hE 23 dX2_rightTurns_22 rfl rfl ?_
        refine A_iald hE 24 j dX2_rightTurns_23 rfl rfl rfl (by omega) rfl ?_
        refine A_aload_n hE 25 dX2_rightTurns_24 rfl rfl ?_
        refine A_get hE 28 dX2_rightTurns_25 rfl fkX2_33 rfl rfl ?_
        refine A_iload_n hE 29 dX2_rightTurns_28 rfl rfl ?_
        refine A_iald hE 30 j dX2_rightTurns_29 rfl rfl rfl (by omega) rfl ?_
        refine A_icmp_ne hE 33 39 dX2_rightTurns_30 rfl rfl (fun c30 => ?_) (fun c30 => ?_)
        · refine A_iload_n hE 40 dX2_rightTurns_39 rfl rfl ?_
          refine A_iret hE dX2_rightTurns_40 ?_
          refine ⟨?_, rfl⟩
          rw [hx, rtF, if_neg]
          intro z
          exact c30 z.2
        · refine A_iinc hE 36 dX2_rightTurns_33 rfl rfl (1) rfl rfl rfl ?_
          rw [nI_1]
          refine A_lv [0, 1, 2] rfl ?_
          refine A_goto hE 2 dX2_rightTurns_36 rfl ?_
          exact ih (j + 1) (by omega) (by rw [hx, rtF, if_pos ⟨hjn, c30⟩])
  refine A_iconst hE 1 dX2_rightTurns_0 rfl (0) rfl ?_
  refine A_istore_n hE 2 dX2_rightTurns_1 rfl rfl rfl ?_
  refine A_lv [0, 1, 2] rfl ?_
  exact loop m 0 (Nat.zero_add _) rfl
set_option maxRecDepth 100000 in
theorem c_X2_rightSaid (s : St) (t0 t1 : Sp) (g0 h0 g1 h1 : Nat → Int32) (m : Nat) (v : Nat → Int32) (hm : m ≤ 24) (w : wf s) (l0 : LawC 0 t0 g0) : AMet yX2_rightSaid cX2_rightSaid 3 (some (.int)) 3 0 0 [.ref 0, .ref 13] [RoundO 1 5 9 10 11 12 s, LawO 2 4 0, cRow 3 (nI t0.length), cI 60 g0, cI 60 h0, LawO 6 8 1, cRow 7 (nI t1.length), cI 60 g1, cI 60 h1, cI 8 (arr s 0), cI 8 (arr s 1), cI 8 (arr s 2), cI 8 (arr s 3), cRow 14 (nI m), cI 24 v] (pI fun x h => x = nI (rsF t0 s v m 0) ∧ ∃ h0' : Nat → Int32, h = [RoundO 1 5 9 10 11 12 s, LawO 2 4 0, cRow 3 (nI t0.length), cI 60 g0, cI 60 h0', LawO 6 8 1, cRow 7 (nI t1.length), cI 60 g1, cI 60 h1, cI 8 (arr s 0), cI 8 (arr s 1), cI 8 (arr s 2), cI 8 (arr s 3), cRow 14 (nI m), cI 24 v]) := by
  refine AMet.of (by decide +kernel) rfl (fun E ad0 hE => ?_)
  obtain ⟨w1, w2, w3, w4, w5, w6, w7⟩ := id w
  have loop : ∀ (f j : Nat) (h0 : Nat → Int32), j + f = m → rsF t0 s v m 0 = rsF t0 s v f j → AW E (rmD 3 0 0) 3 (QM E ad0 15 0 0 (pI fun x h => x = nI (rsF t0 s v m 0) ∧ ∃ h0' : Nat → Int32, h = [RoundO 1 5 9 10 11 12 s, LawO 2 4 0, cRow 3 (nI t0.length), cI 60 g0, cI 60 h0', LawO 6 8 1, cRow 7 (nI t1.length), cI 60 g1, cI 60 h1, cI 8 (arr s 0), cI 8 (arr s 1), cI 8 (arr s 2), cI 8 (arr s 3), cRow 14 (nI m), cI 24 v])) ad0 15 0 0 2 [(0, .ref 0), (1, .ref 13), (2, .int (nI j))] [] [RoundO 1 5 9 10 11 12 s, LawO 2 4 0, cRow 3 (nI t0.length), cI 60 g0, cI 60 h0, LawO 6 8 1, cRow 7 (nI t1.length), cI 60 g1, cI 60 h1, cI 8 (arr s 0), cI 8 (arr s 1), cI 8 (arr s 2), cI 8 (arr s 3), cRow 14 (nI m), cI 24 v] := by
    intro f
    induction f with
    | zero =>
      intro j h0 hj hx
      obtain rfl : j = m := by omega
      refine A_iload_n hE 3 dX2_rightSaid_2 rfl rfl ?_
      refine A_aload_n hE 4 dX2_rightSaid_3 rfl rfl ?_
      refine A_get hE 7 dX2_rightSaid_4 rfl fkX2_122 rfl rfl ?_
      refine A_icmp_ge hE 10 38 dX2_rightSaid_7 rfl rfl (fun c7 => ?_) (fun c7 => absurd (nI_le (Nat.le_refl _) (by omega)) c7)
      refine A_iload_n hE 39 dX2_rightSaid_38 rfl rfl ?_
      refine A_iret hE dX2_rightSaid_39 ⟨by rw [hx]; rfl, h0, rfl⟩
    | succ f ih =>
      intro j h0 hj hx
      have hlt : j < m := by omega
      refine A_iload_n hE 3 dX2_rightSaid_2 rfl rfl ?_
      refine A_aload_n hE 4 dX2_rightSaid_3 rfl rfl ?_
      refine A_get hE 7 dX2_rightSaid_4 rfl fkX2_122 rfl rfl ?_
      refine A_icmp_ge hE 10 38 dX2_rightSaid_7 rfl rfl (fun c7 => absurd c7 (nI_ge hlt (by omega))) (fun c7 => ?_)
      refine A_iload_n hE 11 dX2_rightSaid_10 rfl rfl ?_
      refine A_aload_n hE 12 dX2_rightSaid_11 rfl rfl ?_
      refine A_get hE 15 dX2_rightSaid_12 rfl fkX2_40 rfl rfl ?_
      refine A_icmp_ge hE 18 38 dX2_rightSaid_15 rfl rfl (fun c15 => ?_) (fun c15 => ?_)
      · refine A_iload_n hE 39 dX2_rightSaid_38 rfl rfl ?_
        refine A_iret hE dX2_rightSaid_39 ?_
        refine ⟨?_, h0, rfl⟩
        rw [hx, rsF, if_neg]
        intro z
        exact absurd c15 (by rw [w2]; exact nI_ge z.1 (by omega))
      · have hjn : j < hn s := by rw [w2] at c15; exact (nI_ltI (by omega) (by omega)).mp (iG c15)
        refine A_aload_n hE 19 dX2_rightSaid_18 rfl rfl ?_
        refine A_get hE 22 dX2_rightSaid_19 rfl fkX2_127 rfl rfl ?_
        refine A_iload_n hE 23 dX2_rightSaid_22 rfl rfl ?_
        refine A_iald hE 24 j dX2_rightSaid_23 rfl rfl rfl (by omega) rfl ?_
        refine A_aload_n hE 25 dX2_rightSaid_24 rfl rfl ?_
        refine A_iload_n hE 26 dX2_rightSaid_25 rfl rfl ?_
        refine A_callVi hE 29 (c_X2_saidAt s t0 t1 g0 h0 g1 h1 (nI j) j rfl (by omega) (w5 _ (by omega)) l0) [0, 1, 2, 3, 4, 5, 6, 7, 8, 9, 10, 11, 12] dX2_rightSaid_26 rfl mkX2_96 rfl rfl rfl rfl rfl rfl rfl (Nat.le_of_ble_eq_true rfl) (Nat.le_of_ble_eq_true rfl) rfl (fun x26 h26 g26 hp26 hw26 => ?_)
        obtain ⟨rfl, h0x, rfl⟩ := hp26
        obtain rfl := Option.some.inj hw26
        refine A_h ([RoundO 1 5 9 10 11 12 s, LawO 2 4 0, cRow 3 (nI t0.length), cI 60 g0, cI 60 h0x, LawO 6 8 1, cRow 7 (nI t1.length), cI 60 g1, cI 60 h1, cI 8 (arr s 0), cI 8 (arr s 1), cI 8 (arr s 2), cI 8 (arr s 3), cRow 14 (nI m), cI 24 v]) rfl ?_
        refine A_icmp_ne hE 32 38 dX2_rightSaid_29 rfl rfl (fun c29 => ?_) (fun c29 => ?_)
        · refine A_iload_n hE 39 dX2_rightSaid_38 rfl rfl ?_
          refine A_iret hE dX2_rightSaid_39 ?_
          refine ⟨?_, h0x, rfl⟩
          rw [hx, rsF, if_neg]
          intro z
          exact c29 z.2
        · refine A_iinc hE 35 dX2_rightSaid_32 rfl rfl (1) rfl rfl rfl ?_
          rw [nI_1]
          refine A_lv [0, 1, 2] rfl ?_
          refine A_goto hE 2 dX2_rightSaid_35 rfl ?_
          exact ih (j + 1) h0x (by omega) (by rw [hx, rsF, if_pos ⟨hjn, c29⟩])
  refine A_iconst hE 1 dX2_rightSaid_0 rfl (0) rfl ?_
  refine A_istore_n hE 2 dX2_rightSaid_1 rfl rfl rfl ?_
  refine A_lv [0, 1, 2] rfl ?_
  exact loop m 0 h0 (Nat.zero_add _) rfl
theorem hn_hi {s : St} {a j : Nat} {v : Int32} : hn (upd s (9 + 5 * a + j) v) = hn s := by unfold hn; rw [upd_lo_hi (by omega)]
theorem wf_tk (v : Nat → Int32) : ∀ (f j : Nat) (s : St), wf s → wf (tk v f j s).1
  | 0, _, _, w => w
  | f + 1, j, s, w => by
    unfold tk
    split
    · rename_i h
      obtain ⟨k, hk, e⟩ := iK2 (n := 9999) h.2.1 h.2.2 (by omega)
      exact wf_tk v f (j + 1) _ (wf_hi (Or.inl rfl) ⟨k, hk, e⟩ h.1 w)
    · exact w

set_option maxRecDepth 100000 in
theorem c_X2_takeHeard (s : St) (t0 t1 : Sp) (g0 h0 g1 h1 : Nat → Int32) (m : Nat) (v : Nat → Int32) (hm : m ≤ 24) (w : wf s) : AMet yX2_takeHeard cX2_takeHeard 3 (some (.int)) 1 0 0 [.ref 0, .ref 13] [RoundO 1 5 9 10 11 12 s, LawO 2 4 0, cRow 3 (nI t0.length), cI 60 g0, cI 60 h0, LawO 6 8 1, cRow 7 (nI t1.length), cI 60 g1, cI 60 h1, cI 8 (arr s 0), cI 8 (arr s 1), cI 8 (arr s 2), cI 8 (arr s 3), cRow 14 (nI m), cI 24 v] (pI fun x h => x = nI (tk v m 0 s).2 ∧ h = [RoundO 1 5 9 10 11 12 (tk v m 0 s).1, LawO 2 4 0, cRow 3 (nI t0.length), cI 60 g0, cI 60 h0, LawO 6 8 1, cRow 7 (nI t1.length), cI 60 g1, cI 60 h1, cI 8 (arr (tk v m 0 s).1 0), cI 8 (arr (tk v m 0 s).1 1), cI 8 (arr (tk v m 0 s).1 2), cI 8 (arr (tk v m 0 s).1 3), cRow 14 (nI m), cI 24 v]) := by
  refine AMet.of (by decide +kernel) rfl (fun E ad0 hE => ?_)
  have loop : ∀ (f j : Nat) (s' : St), j + f = m → wf s' → tk v m 0 s = tk v f j s' → AW E (rmD 1 0 0) 3 (QM E ad0 15 0 0 (pI fun x h => x = nI (tk v m 0 s).2 ∧ h = [RoundO 1 5 9 10 11 12 (tk v m 0 s).1, LawO 2 4 0, cRow 3 (nI t0.length), cI 60 g0, cI 60 h0, LawO 6 8 1, cRow 7 (nI t1.length), cI 60 g1, cI 60 h1, cI 8 (arr (tk v m 0 s).1 0), cI 8 (arr (tk v m 0 s).1 1), cI 8 (arr (tk v m 0 s).1 2), cI 8 (arr (tk v m 0 s).1 3), cRow 14 (nI m), cI 24 v])) ad0 15 0 0 2 [(0, .ref 0), (1, .ref 13), (2, .int (nI j))] [] [RoundO 1 5 9 10 11 12 s', LawO 2 4 0, cRow 3 (nI t0.length), cI 60 g0, cI 60 h0, LawO 6 8 1, cRow 7 (nI t1.length), cI 60 g1, cI 60 h1, cI 8 (arr s' 0), cI 8 (arr s' 1), cI 8 (arr s' 2), cI 8 (arr s' 3), cRow 14 (nI m), cI 24 v] := by
    intro f
    induction f with
    | zero =>
      intro j s' hj w hx
      obtain rfl : j = m := by omega
      refine A_iload_n hE 3 dX2_takeHeard_2 rfl rfl ?_
      refine A_aload_n hE 4 dX2_takeHeard_3 rfl rfl ?_
      refine A_get hE 7 dX2_takeHeard_4 rfl fkX2_122 rfl rfl ?_
      refine A_icmp_ge hE 10 52 dX2_takeHeard_7 rfl rfl (fun c7 => ?_) (fun c7 => absurd (nI_le (Nat.le_refl _) (by omega)) c7)
      refine A_iload_n hE 53 dX2_takeHeard_52 rfl rfl ?_
      refine A_iret hE dX2_takeHeard_53 ⟨by rw [hx]; rfl, by rw [hx]; rfl⟩
    | succ f ih =>
      intro j s' hj w hx
      obtain ⟨w1, w2, w3, w4, w5, w6, w7⟩ := id w
      have hlt : j < m := by omega
      refine A_iload_n hE 3 dX2_takeHeard_2 rfl rfl ?_
      refine A_aload_n hE 4 dX2_takeHeard_3 rfl rfl ?_
      refine A_get hE 7 dX2_takeHeard_4 rfl fkX2_122 rfl rfl ?_
      refine A_icmp_ge hE 10 52 dX2_takeHeard_7 rfl rfl (fun c7 => absurd c7 (nI_ge hlt (by omega))) (fun c7 => ?_)
      refine A_iload_n hE 11 dX2_takeHeard_10 rfl rfl ?_
      refine A_aload_n hE 12 dX2_takeHeard_11 rfl rfl ?_
      refine A_get hE 15 dX2_takeHeard_12 rfl fkX2_40 rfl rfl ?_
      refine A_icmp_ge hE 18 52 dX2_takeHeard_15 rfl rfl (fun c15 => ?_) (fun c15 => ?_)
      · refine A_iload_n hE 53 dX2_takeHeard_52 rfl rfl ?_
        refine A_iret hE dX2_takeHeard_53 ?_
        rw [hx, tk, if_neg (fun z => absurd c15 (by rw [w2]; exact nI_ge z.1 (by omega)))]
        exact ⟨rfl, rfl⟩
      · have hjn : j < hn s' := by rw [w2] at c15; exact (nI_ltI (by omega) (by omega)).mp (iG c15)
        refine A_aload_n hE 19 dX2_takeHeard_18 rfl rfl ?_
        refine A_get hE 22 dX2_takeHeard_19 rfl fkX2_127 rfl rfl ?_
        refine A_iload_n hE 23 dX2_takeHeard_22 rfl rfl ?_
        refine A_iald hE 24 j dX2_takeHeard_23 rfl rfl rfl (by omega) rfl ?_
        refine A_iconst hE 25 dX2_takeHeard_24 rfl (0) rfl ?_
        refine A_sipush hE 28 dX2_takeHeard_25 rfl (9999) (by decide) ?_
        refine A_isW hE 31 (c_X8_isWithin (v j) 0 9999) dX2_takeHeard_28 rfl rfl rfl (Nat.le_of_ble_eq_true rfl) (Nat.le_of_ble_eq_true rfl) rfl (fun x28 hp28 => ?_)
        obtain ⟨rfl, -⟩ := hp28
        refine A_if_eq hE 34 52 dX2_takeHeard_31 rfl rfl (fun c31 => ?_) (fun c31 => ?_)
        · refine A_iload_n hE 53 dX2_takeHeard_52 rfl rfl ?_
          refine A_iret hE dX2_takeHeard_53 ?_
          rw [hx, tk, if_neg (fun z => bI_0 c31 z.2)]
          exact ⟨rfl, rfl⟩
        · have hin := bI_1 c31
          obtain ⟨k, hk, ek⟩ := iK2 (n := 9999) hin.1 hin.2 (by omega)
          refine A_aload_n hE 35 dX2_takeHeard_34 rfl rfl ?_
          refine A_get hE 38 dX2_takeHeard_35 rfl fkX2_30 rfl rfl ?_
          refine A_iload_n hE 39 dX2_takeHeard_38 rfl rfl ?_
          refine A_aload_n hE 40 dX2_takeHeard_39 rfl rfl ?_
          refine A_get hE 43 dX2_takeHeard_40 rfl fkX2_127 rfl rfl ?_
          refine A_iload_n hE 44 dX2_takeHeard_43 rfl rfl ?_
          refine A_iald hE 45 j dX2_takeHeard_44 rfl rfl rfl (by omega) rfl ?_
          refine A_iast hE 46 j dX2_takeHeard_45 rfl rfl rfl (by omega) rfl rfl ?_
          refine A_iinc hE 49 dX2_takeHeard_46 rfl rfl (1) rfl rfl rfl ?_
          rw [nI_1]
          refine A_lv [0, 1, 2] rfl ?_
          refine A_goto hE 2 dX2_takeHeard_49 rfl ?_
          refine A_h ([RoundO 1 5 9 10 11 12 (upd s' (9 + 5 * j + 2) (v j)), LawO 2 4 0, cRow 3 (nI t0.length), cI 60 g0, cI 60 h0, LawO 6 8 1, cRow 7 (nI t1.length), cI 60 g1, cI 60 h1, cI 8 (arr (upd s' (9 + 5 * j + 2) (v j)) 0), cI 8 (arr (upd s' (9 + 5 * j + 2) (v j)) 1), cI 8 (arr (upd s' (9 + 5 * j + 2) (v j)) 2), cI 8 (arr (upd s' (9 + 5 * j + 2) (v j)) 3), cRow 14 (nI m), cI 24 v]) ?_ (ih (j + 1) (upd s' (9 + 5 * j + 2) (v j)) (by omega) (wf_hi (Or.inl rfl) ⟨k, hk, ek⟩ hjn w) (by rw [hx, tk, if_pos ⟨hjn, hin⟩]))
          have e := RW_hi2 (s := s') (t0 := t0) (t1 := t1) (g0 := g0) (h0 := h0) (g1 := g1) (h1 := h1) (a := j) (v := v j)
          exact (congrArg (fun z => z ++ [cRow 14 (nI m), cI 24 v]) e).symm
  refine A_iconst hE 1 dX2_takeHeard_0 rfl (0) rfl ?_
  refine A_istore_n hE 2 dX2_takeHeard_1 rfl rfl rfl ?_
  refine A_lv [0, 1, 2] rfl ?_
  exact loop m 0 s (Nat.zero_add _) w rfl
