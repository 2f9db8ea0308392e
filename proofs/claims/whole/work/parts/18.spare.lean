def pop (m : Nat) : Nat := m % 2 + m / 2 % 2 + m / 4 % 2 + m / 8 % 2 + m / 16 % 2 + m / 32 % 2 + m / 64 % 2 + m / 128 % 2
def orN (m p : Nat) : Nat := (if p / 2 ^ 0 % 2 = 1 then 1 else m / 2 ^ 0 % 2) + 2 * (if p / 2 ^ 1 % 2 = 1 then 1 else m / 2 ^ 1 % 2) + 4 * (if p / 2 ^ 2 % 2 = 1 then 1 else m / 2 ^ 2 % 2) + 8 * (if p / 2 ^ 3 % 2 = 1 then 1 else m / 2 ^ 3 % 2) + 16 * (if p / 2 ^ 4 % 2 = 1 then 1 else m / 2 ^ 4 % 2) + 32 * (if p / 2 ^ 5 % 2 = 1 then 1 else m / 2 ^ 5 % 2) + 64 * (if p / 2 ^ 6 % 2 = 1 then 1 else m / 2 ^ 6 % 2) + 128 * (if p / 2 ^ 7 % 2 = 1 then 1 else m / 2 ^ 7 % 2)
theorem or_bit (m p h : Nat) : (m ||| p) / 2 ^ h % 2 = if p / 2 ^ h % 2 = 1 then 1 else m / 2 ^ h % 2 := by
  have e := Nat.testBit_or m p h
  rw [Nat.testBit_eq_decide_div_mod_eq, Nat.testBit_eq_decide_div_mod_eq, Nat.testBit_eq_decide_div_mod_eq] at e
  by_cases h1 : p / 2 ^ h % 2 = 1
  · rw [if_pos h1]
    simpa [h1] using e
  · rw [if_neg h1]
    by_cases h3 : m / 2 ^ h % 2 = 1
    · rw [h3]
      simpa [h1, h3] using e
    · have e2 : ¬ (m ||| p) / 2 ^ h % 2 = 1 := by simpa [h1, h3] using e
      omega
theorem or_all (m : Nat) (hm : m < 256) (p : Nat) (hp : p < 256) : nI m ||| nI p = nI (orN m p) := by
  have hx : m ||| p < 2 ^ 8 := Nat.or_lt_two_pow (n := 8) hm hp
  have e : m ||| p = orN m p := by
    unfold orN
    rw [← or_bit m p 0, ← or_bit m p 1, ← or_bit m p 2, ← or_bit m p 3, ← or_bit m p 4, ← or_bit m p 5, ← or_bit m p 6, ← or_bit m p 7]
    generalize m ||| p = x at hx ⊢
    omega
  rw [← e]
  apply Int32.toBitVec_inj.mp
  apply BitVec.eq_of_toNat_eq
  rw [Int32.toBitVec_or, BitVec.toNat_or, pk_tn (by omega), pk_tn (by omega), pk_tn (by omega)]
theorem shl_all : ∀ n, n < 9 → (1 : Int32) <<< (nI n &&& 31) = nI (2 ^ n) := by decide +kernel
theorem pow_le {n : Nat} (h : n ≤ 8) : 2 ^ n ≤ 256 := Nat.pow_le_pow_right (by omega) h
/-- a state with more homes gone past -/
def orS (sp : Nat) (s : St) : St := fun k => if 9 ≤ k ∧ k < 49 ∧ (k - 9) % 5 = 4 ∧ sp / 2 ^ ((k - 9) / 5) % 2 = 1 then 1 else s k
theorem orS_lo {sp : Nat} {s : St} {k : Nat} (hk : k < 9) : orS sp s k = s k := if_neg (fun z => absurd z.1 (by omega))
theorem its_or4 {sp : Nat} {s : St} {h : Nat} (hh : h < 8) : its (orS sp s) h 4 = if sp / 2 ^ h % 2 = 1 then 1 else its s h 4 := by
  unfold its orS
  have e1 : (9 + 5 * h + 4 - 9) % 5 = 4 := by omega
  have e2 : (9 + 5 * h + 4 - 9) / 5 = h := by omega
  rw [e1, e2]
  by_cases z : sp / 2 ^ h % 2 = 1
  · rw [if_pos z, if_pos ⟨by omega, by omega, rfl, z⟩]
  · rw [if_neg z, if_neg (fun w => z w.2.2.2)]
theorem its_orj {sp : Nat} {s : St} {h j : Nat} (hj : j < 4) : its (orS sp s) h j = its s h j := by
  unfold its orS
  exact if_neg (fun z => absurd z.2.2.1 (by omega))
theorem arr_or {sp : Nat} {s : St} {j : Nat} (hj : j < 4) : arr (orS sp s) j = arr s j := by
  funext h
  exact its_orj hj
theorem bit_or {sp : Nat} {s : St} {h : Nat} (hh : h < 8) : bit (orS sp s) h = if sp / 2 ^ h % 2 = 1 then 1 else pmN s / 2 ^ h % 2 := by
  rw [pm_bit s hh]
  unfold bit
  rw [its_or4 hh]
  by_cases z : sp / 2 ^ h % 2 = 1
  · rw [if_pos z, if_pos z]; rfl
  · rw [if_neg z, if_neg z]
theorem pm_or {sp : Nat} {s : St} (hs : sp < 256) : pm (orS sp s) = pm s ||| nI sp := by
  unfold pm
  rw [or_all _ (pmN_lt s) _ hs]
  congr 1
  show bit (orS sp s) 0 + 2 * bit (orS sp s) 1 + 4 * bit (orS sp s) 2 + 8 * bit (orS sp s) 3 + 16 * bit (orS sp s) 4 + 32 * bit (orS sp s) 5 + 64 * bit (orS sp s) 6 + 128 * bit (orS sp s) 7 = _
  rw [bit_or (by omega), bit_or (by omega), bit_or (by omega), bit_or (by omega), bit_or (by omega), bit_or (by omega), bit_or (by omega), bit_or (by omega)]
  rfl
theorem low_bits : ∀ n, n ≤ 8 → ∀ sp, sp < 2 ^ n → ∀ h, h < 8 → n ≤ h → sp / 2 ^ h % 2 = 0 := by
  intro n hn sp hs h hh hle
  have h1 : 2 ^ n ≤ 2 ^ h := Nat.pow_le_pow_right (by omega) hle
  rw [Nat.div_eq_of_lt (by omega)]
theorem wf_or {sp : Nat} {s : St} (w : wf s) (hs : sp < 2 ^ hn s) : wf (orS sp s) := by
  obtain ⟨w1, w2, w3, w4, w5, w6, w7⟩ := w
  have eh : hn (orS sp s) = hn s := by unfold hn; rw [orS_lo (by omega)]
  have ea : atN (orS sp s) = atN s := by unfold atN; rw [orS_lo (by omega)]
  unfold wf
  rw [eh, ea, orS_lo (by omega), orS_lo (by omega), orS_lo (by omega), orS_lo (by omega)]
  refine ⟨w1, w2, w3, w4, fun h hh => ?_, w6, w7⟩
  obtain ⟨a0, a1, a2, a3, a4, a5⟩ := w5 h hh
  unfold wfH
  rw [its_orj (by omega), its_orj (by omega), its_orj (by omega), its_orj (by omega), its_or4 hh]
  refine ⟨a0, a1, a2, a3, ?_, fun hle => ?_⟩
  · split
    · exact Or.inr rfl
    · exact a4
  · obtain ⟨b1, b2, b3⟩ := a5 hle
    refine ⟨b1, b2, ?_⟩
    rw [if_neg (by rw [low_bits _ w1 _ hs h hh hle]; omega)]
    exact b3
def fpI (t1 : Sp) (s : St) (n : Nat) (v : Int32) (size : Nat) : Nat → Nat → Option Nat
  | 0, _ => none
  | m + 1, sp => if pop sp = size ∧ nI sp &&& pm s = 0 ∧ cN t1 n (orS sp s) 1 ≤ v then some sp else fpI t1 s n v size m (sp + 1)
def fpO (t1 : Sp) (s : St) (n : Nat) (v : Int32) : Nat → Nat → Option Nat
  | 0, _ => none
  | m + 1, size => match fpI t1 s n v size (2 ^ hn s) 0 with
    | some sp => some sp
    | none => fpO t1 s n v m (size + 1)
def optI (x : Option Nat) : Int32 := match x with
  | some k => nI k
  | none => -1

set_option maxRecDepth 100000 in
theorem c_J6_bitCount_0f7a4 (m : Nat) (hm : m < 256) : AMet yJ6_bitCount_0f7a4 cJ6_bitCount_0f7a4 1 (some (.int)) 0 0 0 [.int (nI m)] [] (pI fun r h => r = nI (pop m) ∧ h = []) := by
  refine AMet.of (by decide +kernel) rfl (fun E ad0 hE => ?_)
  refine A_iload_n hE 1 dJ6_bitCount_0f7a4_0 rfl rfl ?_
  refine A_iload_n hE 2 dJ6_bitCount_0f7a4_1 rfl rfl ?_
  refine A_iconst hE 3 dJ6_bitCount_0f7a4_2 rfl (1) rfl ?_
  refine A_iushr hE 4 dJ6_bitCount_0f7a4_3 rfl ?_
  refine A_ldcw hE 7 dJ6_bitCount_0f7a4_4 rfl kkJ6_265 ?_
  refine A_iand hE 8 dJ6_bitCount_0f7a4_7 rfl ?_
  refine A_isub hE 9 dJ6_bitCount_0f7a4_8 rfl ?_
  refine A_istore_n hE 10 dJ6_bitCount_0f7a4_9 rfl rfl rfl ?_
  refine A_iload_n hE 11 dJ6_bitCount_0f7a4_10 rfl rfl ?_
  refine A_ldcw hE 14 dJ6_bitCount_0f7a4_11 rfl kkJ6_266 ?_
  refine A_iand hE 15 dJ6_bitCount_0f7a4_14 rfl ?_
  refine A_iload_n hE 16 dJ6_bitCount_0f7a4_15 rfl rfl ?_
  refine A_iconst hE 17 dJ6_bitCount_0f7a4_16 rfl (2) rfl ?_
  refine A_iushr hE 18 dJ6_bitCount_0f7a4_17 rfl ?_
  refine A_ldcw hE 21 dJ6_bitCount_0f7a4_18 rfl kkJ6_266 ?_
  refine A_iand hE 22 dJ6_bitCount_0f7a4_21 rfl ?_
  refine A_iadd hE 23 dJ6_bitCount_0f7a4_22 rfl ?_
  refine A_istore_n hE 24 dJ6_bitCount_0f7a4_23 rfl rfl rfl ?_
  refine A_iload_n hE 25 dJ6_bitCount_0f7a4_24 rfl rfl ?_
  refine A_iload_n hE 26 dJ6_bitCount_0f7a4_25 rfl rfl ?_
  refine A_iconst hE 27 dJ6_bitCount_0f7a4_26 rfl (4) rfl ?_
  refine A_iushr hE 28 dJ6_bitCount_0f7a4_27 rfl ?_
  refine A_iadd hE 29 dJ6_bitCount_0f7a4_28 rfl ?_
  refine A_ldcw hE 32 dJ6_bitCount_0f7a4_29 rfl kkJ6_267 ?_
  refine A_iand hE 33 dJ6_bitCount_0f7a4_32 rfl ?_
  refine A_istore_n hE 34 dJ6_bitCount_0f7a4_33 rfl rfl rfl ?_
  refine A_iload_n hE 35 dJ6_bitCount_0f7a4_34 rfl rfl ?_
  refine A_iload_n hE 36 dJ6_bitCount_0f7a4_35 rfl rfl ?_
  refine A_bipush hE 38 dJ6_bitCount_0f7a4_36 rfl (8) (by decide) ?_
  refine A_iushr hE 39 dJ6_bitCount_0f7a4_38 rfl ?_
  refine A_iadd hE 40 dJ6_bitCount_0f7a4_39 rfl ?_
  refine A_istore_n hE 41 dJ6_bitCount_0f7a4_40 rfl rfl rfl ?_
  refine A_iload_n hE 42 dJ6_bitCount_0f7a4_41 rfl rfl ?_
  refine A_iload_n hE 43 dJ6_bitCount_0f7a4_42 rfl rfl ?_
  refine A_bipush hE 45 dJ6_bitCount_0f7a4_43 rfl (16) (by decide) ?_
  refine A_iushr hE 46 dJ6_bitCount_0f7a4_45 rfl ?_
  refine A_iadd hE 47 dJ6_bitCount_0f7a4_46 rfl ?_
  refine A_istore_n hE 48 dJ6_bitCount_0f7a4_47 rfl rfl rfl ?_
  refine A_iload_n hE 49 dJ6_bitCount_0f7a4_48 rfl rfl ?_
  refine A_bipush hE 51 dJ6_bitCount_0f7a4_49 rfl (63) (by decide) ?_
  refine A_iand hE 52 dJ6_bitCount_0f7a4_51 rfl ?_
  refine A_iret hE dJ6_bitCount_0f7a4_52 ⟨?_, rfl⟩
  clear hE ad0 E
  revert m
  decide +kernel
set_option maxRecDepth 100000 in
theorem c_X6_viewWithout (s J : St) (wh mu : Int32) (t0 t1 : Sp) (g0 h0 g1 h1 : Nat → Int32) (n0 n1 : Nat) (f0 k0 f1 k1 : Nat → Int32) (sp n : Nat) (hsp : sp < 2 ^ hn s) (hnn : n ≤ 1000) (w : wf s) (l0 : LawC 0 t0 g0) (l1 : LawC 1 t1 g1) : AMet yX6_viewWithout cX6_viewWithout 5 (some (.int)) 5 0 0 [.ref 0, .ref 1, .int (nI sp), .int (nI n)] (TW s J wh mu t0 g0 h0 t1 g1 h1 n0 n1 f0 k0 f1 k1) (pI fun x h => x = cN t1 n (orS sp s) 1 ∧ ∃ (J' : St) (n0' n1' : Nat) (f0' k0' f1' k1' : Nat → Int32), h = TW s J' wh mu t0 g0 h0 t1 g1 h1 n0' n1' f0' k0' f1' k1') := by
  refine AMet.of (by decide +kernel) rfl (fun E ad0 hE => ?_)
  have h256 : sp < 256 := Nat.lt_of_lt_of_le hsp (pow_le w.1)
  have loop : ∀ (m i : Nat) (J : St) (k1 : Nat → Int32), i + m = n → wf J → cN t1 n (orS sp s) = cN t1 m J → AW E (rmD 5 0 0) 5 (QM E ad0 27 0 0 (pI fun x h => x = cN t1 n (orS sp s) 1 ∧ ∃ (J' : St) (n0' n1' : Nat) (f0' k0' f1' k1' : Nat → Int32), h = TW s J' wh mu t0 g0 h0 t1 g1 h1 n0' n1' f0' k0' f1' k1')) ad0 27 0 0 24 [(0, .ref 0), (3, .int (nI n)), (4, .int (nI i))] [] (TW s J wh mu t0 g0 h0 t1 g1 h1 t0.length t1.length (ovr t0.length g0 f0) k0 (ovr t1.length g1 f1) k1) := by
    intro m
    induction m with
    | zero =>
      intro i J k1 hi wJ hx
      refine A_iload hE 26 dX6_viewWithout_24 rfl rfl ?_
      refine A_iload_n hE 27 dX6_viewWithout_26 rfl rfl ?_
      refine A_icmp_ge hE 30 43 dX6_viewWithout_27 rfl rfl (fun c27 => ?_) (fun c27 => absurd (nI_le (by omega) (by omega)) c27)
      refine A_aload_n hE 44 dX6_viewWithout_43 rfl rfl ?_
      refine A_get hE 47 dX6_viewWithout_44 rfl fkX6_12 rfl rfl ?_
      refine A_get hE 50 dX6_viewWithout_47 rfl fkX6_70 rfl rfl ?_
      refine A_iret hE dX6_viewWithout_50 ⟨by rw [hx]; rfl, J, _, _, _, k0, _, k1, rfl⟩
    | succ m ih =>
      intro i J k1 hi wJ hx
      refine A_iload hE 26 dX6_viewWithout_24 rfl rfl ?_
      refine A_iload_n hE 27 dX6_viewWithout_26 rfl rfl ?_
      refine A_icmp_ge hE 30 43 dX6_viewWithout_27 rfl rfl (fun c27 => absurd c27 (nI_ge (show i < n by omega) (by omega))) (fun c27 => ?_)
      refine A_aload_n hE 31 dX6_viewWithout_30 rfl rfl ?_
      refine A_get hE 34 dX6_viewWithout_31 rfl fkX6_12 rfl rfl ?_
      refine A_callVv hE 37 (c_X2_carryOn J t0 t1 (ovr t0.length g0 f0) k0 (ovr t1.length g1 f1) k1 wJ (l1.ovr (Nat.le_refl _))) [6, 19, 20, 21, 22, 23, 24, 25, 26, 7, 8, 9, 10] dX6_viewWithout_34 rfl mkX6_67 rfl rfl rfl rfl rfl rfl rfl (Nat.le_of_ble_eq_true rfl) (Nat.le_of_ble_eq_true rfl) rfl (fun h34 g34 hp34 hw34 => ?_)
      obtain ⟨k1y, rfl⟩ := hp34
      obtain rfl := Option.some.inj hw34
      refine A_h (TW s (carS t1 J) wh mu t0 g0 h0 t1 g1 h1 t0.length t1.length (ovr t0.length g0 f0) k0 (ovr t1.length g1 f1) k1y) rfl ?_
      refine A_iinc hE 40 dX6_viewWithout_37 rfl rfl (1) rfl rfl rfl ?_
      rw [nI_1]
      refine A_lv [0, 3, 4] rfl ?_
      refine A_goto hE 24 dX6_viewWithout_40 rfl ?_
      exact ih (i + 1) _ k1y (by omega) (wf_car wJ) hx
  refine A_aload_n hE 1 dX6_viewWithout_0 rfl rfl ?_
  refine A_get hE 4 dX6_viewWithout_1 rfl fkX6_12 rfl rfl ?_
  refine A_aload_n hE 5 dX6_viewWithout_4 rfl rfl ?_
  refine A_callVv hE 8 (c_X2_takeOver s (arr J 0) (arr J 1) (arr J 2) (arr J 3) t0 t1 g0 h0 g1 h1 n0 n1 f0 k0 f1 k1 (pm J) (J 8) (J 0) (J 1) (J 2) (J 3) (J 4) (J 5) l0.len l1.len) [6, 7, 8, 9, 10, 1, 2, 3, 4, 5, 19, 20, 21, 22, 23, 24, 25, 26, 11, 12, 13, 14, 15, 16, 17, 18] dX6_viewWithout_5 rfl mkX6_25 rfl rfl rfl rfl rfl rfl rfl (Nat.le_of_ble_eq_true rfl) (Nat.le_of_ble_eq_true rfl) rfl (fun h5 g5 hp5 hw5 => ?_)
  obtain rfl := hp5
  obtain rfl := Option.some.inj hw5
  refine A_h (TW s s wh mu t0 g0 h0 t1 g1 h1 t0.length t1.length (ovr t0.length g0 f0) k0 (ovr t1.length g1 f1) k1) rfl ?_
  refine A_aload_n hE 9 dX6_viewWithout_8 rfl rfl ?_
  refine A_get hE 12 dX6_viewWithout_9 rfl fkX6_12 rfl rfl ?_
  refine A_aload_n hE 13 dX6_viewWithout_12 rfl rfl ?_
  refine A_get hE 16 dX6_viewWithout_13 rfl fkX6_60 rfl rfl ?_
  refine A_iload_n hE 17 dX6_viewWithout_16 rfl rfl ?_
  refine A_ior hE 18 dX6_viewWithout_17 rfl ?_
  refine A_put hE 21 dX6_viewWithout_18 rfl fkX6_60 rfl rfl rfl rfl ?_
  refine A_iconst hE 22 dX6_viewWithout_21 rfl (0) rfl ?_
  refine A_istore hE 24 dX6_viewWithout_22 rfl rfl rfl ?_
  refine A_h (TW s (orS sp s) wh mu t0 g0 h0 t1 g1 h1 t0.length t1.length (ovr t0.length g0 f0) k0 (ovr t1.length g1 f1) k1) (by simp only [TW, RoundO, arr_or (show 0 < 4 by omega), arr_or (show 1 < 4 by omega), arr_or (show 2 < 4 by omega), arr_or (show 3 < 4 by omega), pm_or h256, orS_lo (show 8 < 9 by omega), orS_lo (show 0 < 9 by omega), orS_lo (show 1 < 9 by omega), orS_lo (show 2 < 9 by omega), orS_lo (show 3 < 9 by omega), orS_lo (show 4 < 9 by omega), orS_lo (show 5 < 9 by omega)]) ?_
  refine A_lv [0, 3, 4] rfl ?_
  exact loop n 0 _ k1 (Nat.zero_add _) (wf_or w hsp) rfl
set_option maxRecDepth 100000 in
theorem c_X6_fewestPast (s J : St) (wh mu : Int32) (t0 t1 : Sp) (g0 h0 g1 h1 : Nat → Int32) (n0 n1 : Nat) (f0 k0 f1 k1 : Nat → Int32) (n : Nat) (v : Int32) (hnn : n ≤ 1000) (w : wf s) (l0 : LawC 0 t0 g0) (l1 : LawC 1 t1 g1) : AMet yX6_fewestPast cX6_fewestPast 7 (some (.int)) 6 0 0 [.ref 0, .ref 1, .int (nI n), .int v] (TW s J wh mu t0 g0 h0 t1 g1 h1 n0 n1 f0 k0 f1 k1) (pI fun x h => x = optI (fpO t1 s n v (hn s + 1) 0) ∧ ∃ (J' : St) (n0' n1' : Nat) (f0' k0' f1' k1' : Nat → Int32), h = TW s J' wh mu t0 g0 h0 t1 g1 h1 n0' n1' f0' k0' f1' k1') := by
  refine AMet.of (by decide +kernel) rfl (fun E ad0 hE => ?_)
  obtain ⟨w1, w2, w3, w4, w5, w6, w7⟩ := id w
  have hpw := pow_le w1
  have outer : ∀ (m z : Nat) (J : St) (n0 n1 : Nat) (f0 k0 f1 k1 : Nat → Int32), z + m = hn s + 1 → (fpO t1 s n v (hn s + 1) 0) = fpO t1 s n v m z → AW E (rmD 6 0 0) 7 (QM E ad0 27 0 0 (pI fun x h => x = optI (fpO t1 s n v (hn s + 1) 0) ∧ ∃ (J' : St) (n0' n1' : Nat) (f0' k0' f1' k1' : Nat → Int32), h = TW s J' wh mu t0 g0 h0 t1 g1 h1 n0' n1' f0' k0' f1' k1')) ad0 27 0 0 11 [(0, .ref 0), (1, .ref 1), (2, .int (nI n)), (3, .int v), (4, .int (nI (2 ^ hn s))), (5, .int (nI z))] [] (TW s J wh mu t0 g0 h0 t1 g1 h1 n0 n1 f0 k0 f1 k1) := by
    intro m
    induction m with
    | zero =>
      intro z J n0 n1 f0 k0 f1 k1 hz hx
      refine A_iload hE 13 dX6_fewestPast_11 rfl rfl ?_
      refine A_aload_n hE 14 dX6_fewestPast_13 rfl rfl ?_
      refine A_get hE 17 dX6_fewestPast_14 rfl fkX6_41 rfl rfl ?_
      refine A_icmp_gt hE 20 77 dX6_fewestPast_17 rfl rfl (fun c17 => ?_) (fun c17 => absurd (by rw [w2]; exact nI_lt (by omega) (by omega)) c17)
      refine A_iconst hE 78 dX6_fewestPast_77 rfl (-1) rfl ?_
      refine A_iret hE dX6_fewestPast_78 ⟨by rw [hx]; rfl, J, n0, n1, f0, k0, f1, k1, rfl⟩
    | succ m iho =>
      intro z J n0 n1 f0 k0 f1 k1 hz hx
      have inner : ∀ (m2 sp : Nat) (J : St) (n0 n1 : Nat) (f0 k0 f1 k1 : Nat → Int32), sp + m2 = 2 ^ hn s → (fpO t1 s n v (hn s + 1) 0) = (match fpI t1 s n v z m2 sp with | some q => some q | none => fpO t1 s n v m (z + 1)) → AW E (rmD 6 0 0) 7 (QM E ad0 27 0 0 (pI fun x h => x = optI (fpO t1 s n v (hn s + 1) 0) ∧ ∃ (J' : St) (n0' n1' : Nat) (f0' k0' f1' k1' : Nat → Int32), h = TW s J' wh mu t0 g0 h0 t1 g1 h1 n0' n1' f0' k0' f1' k1')) ad0 27 0 0 23 [(0, .ref 0), (1, .ref 1), (2, .int (nI n)), (3, .int v), (4, .int (nI (2 ^ hn s))), (5, .int (nI z)), (6, .int (nI sp))] [] (TW s J wh mu t0 g0 h0 t1 g1 h1 n0 n1 f0 k0 f1 k1) := by
        intro m2
        induction m2 with
        | zero =>
          intro sp J n0 n1 f0 k0 f1 k1 hs hx
          refine A_iload hE 25 dX6_fewestPast_23 rfl rfl ?_
          refine A_iload hE 27 dX6_fewestPast_25 rfl rfl ?_
          refine A_icmp_ge hE 30 71 dX6_fewestPast_27 rfl rfl (fun c27 => ?_) (fun c27 => absurd (nI_le (by omega) (by omega)) c27)
          refine A_iinc hE 74 dX6_fewestPast_71 rfl rfl (1) rfl rfl rfl ?_
          rw [nI_1]
          refine A_lv [0, 1, 2, 3, 4, 5] rfl ?_
          refine A_goto hE 11 dX6_fewestPast_74 rfl ?_
          exact iho (z + 1) J n0 n1 f0 k0 f1 k1 (by omega) hx
        | succ m2 ihi =>
          intro sp J n0 n1 f0 k0 f1 k1 hs hx
          have hsl : sp < 2 ^ hn s := by omega
          refine A_iload hE 25 dX6_fewestPast_23 rfl rfl ?_
          refine A_iload hE 27 dX6_fewestPast_25 rfl rfl ?_
          refine A_icmp_ge hE 30 71 dX6_fewestPast_27 rfl rfl (fun c27 => absurd c27 (nI_ge hsl (by omega))) (fun c27 => ?_)
          refine A_iload hE 32 dX6_fewestPast_30 rfl rfl ?_
          refine A_callSi hE 35 (c_J6_bitCount_0f7a4 sp (by omega)) [] dX6_fewestPast_32 rfl mkX6_54 rfl rfl rfl rfl rfl rfl (Nat.le_of_ble_eq_true rfl) (Nat.le_of_ble_eq_true rfl) rfl (fun x32 h32 g32 hp32 hw32 => ?_)
          obtain ⟨rfl, rfl⟩ := hp32
          obtain rfl := Option.some.inj hw32
          refine A_iload hE 37 dX6_fewestPast_35 rfl rfl ?_
          refine A_icmp_ne hE 40 65 dX6_fewestPast_37 rfl rfl (fun c37 => ?_) (fun c37 => ?_)
          · refine A_iinc hE 68 dX6_fewestPast_65 rfl rfl (1) rfl rfl rfl ?_
            rw [nI_1]
            refine A_lv [0, 1, 2, 3, 4, 5, 6] rfl ?_
            refine A_goto hE 23 dX6_fewestPast_68 rfl ?_
            exact ihi (sp + 1) J n0 n1 f0 k0 f1 k1 (by omega) (by rw [hx, fpI, if_neg (fun q => c37 (by rw [q.1]))])
          · refine A_iload hE 42 dX6_fewestPast_40 rfl rfl ?_
            refine A_aload_n hE 43 dX6_fewestPast_42 rfl rfl ?_
            refine A_get hE 46 dX6_fewestPast_43 rfl fkX6_60 rfl rfl ?_
            refine A_iand hE 47 dX6_fewestPast_46 rfl ?_
            refine A_if_ne hE 50 65 dX6_fewestPast_47 rfl rfl (fun c47 => ?_) (fun c47 => ?_)
            · refine A_iinc hE 68 dX6_fewestPast_65 rfl rfl (1) rfl rfl rfl ?_
              rw [nI_1]
              refine A_lv [0, 1, 2, 3, 4, 5, 6] rfl ?_
              refine A_goto hE 23 dX6_fewestPast_68 rfl ?_
              exact ihi (sp + 1) J n0 n1 f0 k0 f1 k1 (by omega) (by rw [hx, fpI, if_neg (fun q => c47 q.2.1)])
            · refine A_aload_n hE 51 dX6_fewestPast_50 rfl rfl ?_
              refine A_aload_n hE 52 dX6_fewestPast_51 rfl rfl ?_
              refine A_iload hE 54 dX6_fewestPast_52 rfl rfl ?_
              refine A_iload_n hE 55 dX6_fewestPast_54 rfl rfl ?_
              refine A_callVi hE 58 (c_X6_viewWithout s J wh mu t0 t1 g0 h0 g1 h1 n0 n1 f0 k0 f1 k1 sp n hsl hnn w l0 l1) [0, 1, 2, 3, 4, 5, 6, 7, 8, 9, 10, 11, 12, 13, 14, 15, 16, 17, 18, 19, 20, 21, 22, 23, 24, 25, 26] dX6_fewestPast_55 rfl mkX6_63 rfl rfl rfl rfl rfl rfl rfl (Nat.le_of_ble_eq_true rfl) (Nat.le_of_ble_eq_true rfl) rfl (fun x55 h55 g55 hp55 hw55 => ?_)
              obtain ⟨rfl, J2, n2, m2, f2, k2, f3, k3, rfl⟩ := hp55
              obtain rfl := Option.some.inj hw55
              refine A_h (TW s J2 wh mu t0 g0 h0 t1 g1 h1 n2 m2 f2 k2 f3 k3) rfl ?_
              refine A_iload_n hE 59 dX6_fewestPast_58 rfl rfl ?_
              refine A_icmp_gt hE 62 65 dX6_fewestPast_59 rfl rfl (fun c59 => ?_) (fun c59 => ?_)
              · refine A_iinc hE 68 dX6_fewestPast_65 rfl rfl (1) rfl rfl rfl ?_
                rw [nI_1]
                refine A_lv [0, 1, 2, 3, 4, 5, 6] rfl ?_
                refine A_goto hE 23 dX6_fewestPast_68 rfl ?_
                exact ihi (sp + 1) J2 n2 m2 f2 k2 f3 k3 (by omega) (by rw [hx, fpI, if_neg (fun q => iM c59 q.2.2)])
              · refine A_iload hE 64 dX6_fewestPast_62 rfl rfl ?_
                refine A_iret hE dX6_fewestPast_64 ⟨by rw [hx, fpI, if_pos ⟨(nI_eq (by unfold pop; omega) (by omega)).mp c37, c47, Int32.not_lt.mp c59⟩]; rfl, J2, n2, m2, f2, k2, f3, k3, rfl⟩
      refine A_iload hE 13 dX6_fewestPast_11 rfl rfl ?_
      refine A_aload_n hE 14 dX6_fewestPast_13 rfl rfl ?_
      refine A_get hE 17 dX6_fewestPast_14 rfl fkX6_41 rfl rfl ?_
      refine A_icmp_gt hE 20 77 dX6_fewestPast_17 rfl rfl (fun c17 => absurd c17 (by rw [w2]; exact nI_nlt (by omega) (by omega))) (fun c17 => ?_)
      refine A_iconst hE 21 dX6_fewestPast_20 rfl (0) rfl ?_
      refine A_istore hE 23 dX6_fewestPast_21 rfl rfl rfl ?_
      refine A_lv [0, 1, 2, 3, 4, 5, 6] rfl ?_
      exact inner (2 ^ hn s) 0 J n0 n1 f0 k0 f1 k1 (Nat.zero_add _) hx
  refine A_iconst hE 1 dX6_fewestPast_0 rfl (1) rfl ?_
  refine A_aload_n hE 2 dX6_fewestPast_1 rfl rfl ?_
  refine A_get hE 5 dX6_fewestPast_2 rfl fkX6_41 rfl rfl ?_
  refine A_ishl hE 6 dX6_fewestPast_5 rfl ?_
  rw [w2, shl_all _ (by omega)]
  refine A_istore hE 8 dX6_fewestPast_6 rfl rfl rfl ?_
  refine A_iconst hE 9 dX6_fewestPast_8 rfl (0) rfl ?_
  refine A_istore hE 11 dX6_fewestPast_9 rfl rfl rfl ?_
  refine A_lv [0, 1, 2, 3, 4, 5] rfl ?_
  exact outer (hn s + 1) 0 J n0 n1 f0 k0 f1 k1 (Nat.zero_add _) rfl
