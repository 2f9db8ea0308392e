theorem flVal : Cond.fieldLink RJ0 9 "java/lang/String" "value" "[B" ∈ lw_g := lg_m 1319 (by decide +kernel) rfl
theorem flCod : Cond.fieldLink RJ0 15 "java/lang/String" "coder" "B" ∈ lw_g := lg_m 1318 (by decide +kernel) rfl
theorem flCS : Cond.fieldLink RJ0 38 "java/lang/String" "COMPACT_STRINGS" "Z" ∈ lw_g := lg_m 534 (by decide +kernel) rfl
def MKK (own : String) (idx : Nat) (y : MethodName) (cc : ByteArray) (nL : Nat) (ret : Option FieldType) (np : Nat) : Prop := MK own idx y cc nL ret np ∧ Cond.instanceMethod y ∈ lw_g ∧ Cond.selects y.cls y y ∈ lw_g

theorem mqX1_101 : MKK RX1 101 yJ0_indexOf_0f7a4 cJ0_indexOf_0f7a4 2 (some (.int)) 1 := ⟨⟨lg_m 522 (by decide +kernel) rfl, lg_m 525 (by decide +kernel) rfl, lg_m 78 (by decide +kernel) rfl, by decide +kernel, by decide +kernel, by decide +kernel⟩, lg_m 523 (by decide +kernel) rfl, lg_m 524 (by decide +kernel) rfl⟩
theorem mqJ0_633 : MKK RJ0 633 yJ0_indexOf_7cf53 cJ0_indexOf_7cf53 3 (some (.int)) 2 := ⟨⟨lg_m 526 (by decide +kernel) rfl, lg_m 529 (by decide +kernel) rfl, lg_m 78 (by decide +kernel) rfl, by decide +kernel, by decide +kernel, by decide +kernel⟩, lg_m 527 (by decide +kernel) rfl, lg_m 528 (by decide +kernel) rfl⟩
theorem mqJ0_492 : MKK RJ0 492 yJ0_isLatin1_aae02 cJ0_isLatin1_aae02 1 (some (.boolean)) 0 := ⟨⟨lg_m 530 (by decide +kernel) rfl, lg_m 533 (by decide +kernel) rfl, lg_m 78 (by decide +kernel) rfl, by decide +kernel, by decide +kernel, by decide +kernel⟩, lg_m 531 (by decide +kernel) rfl, lg_m 532 (by decide +kernel) rfl⟩
theorem mqJ0_505 : MKK RJ0 505 yJ0_length_8abf5 cJ0_length_8abf5 1 (some (.int)) 0 := ⟨⟨lg_m 536 (by decide +kernel) rfl, lg_m 539 (by decide +kernel) rfl, lg_m 78 (by decide +kernel) rfl, by decide +kernel, by decide +kernel, by decide +kernel⟩, lg_m 537 (by decide +kernel) rfl, lg_m 538 (by decide +kernel) rfl⟩
theorem mqJ0_335 : MKK RJ0 335 yJ0_coder_7d493 cJ0_coder_7d493 1 (some (.byte)) 0 := ⟨⟨lg_m 540 (by decide +kernel) rfl, lg_m 543 (by decide +kernel) rfl, lg_m 78 (by decide +kernel) rfl, by decide +kernel, by decide +kernel, by decide +kernel⟩, lg_m 541 (by decide +kernel) rfl, lg_m 542 (by decide +kernel) rfl⟩
section ROWSK
variable {E : AV} {R : Room} {nL : Nat} {Q : State → Prop} {ad0 : Nat → Nat} {n0 cells slots pc : Nat} {lv : List (Nat × Value)} {st0 st : List Value} {h : List AE} {cc : ByteArray} {own : String} {ret : Option FieldType} {nm : String}
variable {y : MethodName} {cc2 : ByteArray} {nL2 d2 np ci idx r : Nat} {ret2 : Option FieldType} {as : List Value}
theorem A_getKV (hE : AGood E cc nL RJ0 ret nm) (q i : Nat) (hi : i < 3) (hd : decode cc pc = .ok (.getfield 9, 3)) (hq : pc + 3 = q) (kk : AW E R nL Q ad0 n0 cells slots q lv (.retAddr (5 + i) :: st) h) : AW E R nL Q ad0 n0 cells slots pc lv (.retAddr (2 + i) :: st) h := by
  obtain ⟨p, l, e, s, m, args, below, meth, c, D, tc, sa, A⟩ := E
  subst hq
  obtain ⟨⟨hx, hb, hml, hown, hts⟩, hK, hT, hA, hr, hlk, hnm⟩ := hE
  intro ad H locs ls hP hD hS hl hn h0 h1
  exact vk_getf hx hb (hT.2.2.2.1.1 i hi).2.2.1 hS hown (hts _ flVal) (fun _ z => z) hd (kk ad H locs ls hP hD hS hl hn h0 h1)
theorem A_getKC (hE : AGood E cc nL RJ0 ret nm) (q i : Nat) (hi : i < 3) (hd : decode cc pc = .ok (.getfield 15, 3)) (hq : pc + 3 = q) (kk : AW E R nL Q ad0 n0 cells slots q lv (.int 0 :: st) h) : AW E R nL Q ad0 n0 cells slots pc lv (.retAddr (2 + i) :: st) h := by
  obtain ⟨p, l, e, s, m, args, below, meth, c, D, tc, sa, A⟩ := E
  subst hq
  obtain ⟨⟨hx, hb, hml, hown, hts⟩, hK, hT, hA, hr, hlk, hnm⟩ := hE
  intro ad H locs ls hP hD hS hl hn h0 h1
  exact vk_getf hx hb (hT.2.2.2.1.1 i hi).2.1 hS hown (hts _ flCod) (fun _ z => z) hd (kk ad H locs ls hP hD hS hl hn h0 h1)
theorem A_gsCS (hE : AGood E cc nL RJ0 ret nm) (q : Nat) (hd : decode cc pc = .ok (.getstatic 38, 3)) (hq : pc + 3 = q) (kk : AW E R nL Q ad0 n0 cells slots q lv (.int 1 :: st) h) : AW E R nL Q ad0 n0 cells slots pc lv st h := by
  obtain ⟨p, l, e, s, m, args, below, meth, c, D, tc, sa, A⟩ := E
  subst hq
  obtain ⟨⟨hx, hb, hml, hown, hts⟩, hK, hT, hA, hr, hlk, hnm⟩ := hE
  intro ad H locs ls hP hD hS hl hn h0 h1
  exact va_gets hx hb hT.2.2.1 hS hown (hts _ flCS) (fun _ z => z) hd (kk ad H locs ls hP hD hS hl hn h0 h1)
theorem A_alenK (hE : AGood E cc nL own ret nm) (q i n : Nat) (hi : i < 3) (hn' : strLen.getD i 0 = n) (hd : decode cc pc = .ok (.arraylength, 1)) (hq : pc + 1 = q) (kk : AW E R nL Q ad0 n0 cells slots q lv (.int (nI n) :: st) h) : AW E R nL Q ad0 n0 cells slots pc lv (.retAddr (5 + i) :: st) h := by
  subst hn'
  obtain ⟨p, l, e, s, m, args, below, meth, c, D, tc, sa, A⟩ := E
  subst hq
  obtain ⟨⟨hx, hb, hml, hown, hts⟩, hK, hT, hA, hr, hlk, hnm⟩ := hE
  intro ad H locs ls hP hD hS hl hn h0 h1
  exact va_tlen hx hb (hT.2.2.2.1.1 i hi).2.2.2 hS (v := nI (strLen.getD i 0)) rfl hd (kk ad H locs ls hP hD hS hl hn h0 h1)
theorem A_baldK (hE : AGood E cc nL own ret nm) (q i k : Nat) {x : Int32} (hi : i < 3) (hd : decode cc pc = .ok (.baload, 1)) (hq : pc + 1 = q) (hx : x = nI k) (hk : k < strLen.getD i 0) (hn' : strLen.getD i 0 < 2 ^ 31) (v : Int32) (hv : (strByt.getD i []).getD k 0 = v) (kk : AW E R nL Q ad0 n0 cells slots q lv (.int v :: st) h) : AW E R nL Q ad0 n0 cells slots pc lv (.int x :: .retAddr (5 + i) :: st) h := by
  subst hx
  subst hv
  obtain ⟨p, l, e, s, m, args, below, meth, c, D, tc, sa, A⟩ := E
  subst hq
  obtain ⟨⟨hx, hb, hml, hown, hts⟩, hK, hT, hA, hr, hlk, hnm⟩ := hE
  intro ad H locs ls hP hD hS hl hn h0 h1
  exact va_tb hx hb (hT.2.2.2.1.1 i hi).2.2.2 hS (vp_in_nI hk hn') (by rw [nI_clamp (by omega)]; rfl) hd (kk ad H locs ls hP hD hS hl hn h0 h1)
theorem A_callK {P : Int32 → List AE → Prop} (hE : AGood E cc nL own ret nm) (q i : Nat) (hi : i < 3) (hM : AMet y cc2 nL2 ret2 d2 0 0 (.retAddr (2 + i) :: as) [] (pI P)) (hd : decode cc pc = .ok (.invokevirtual idx, 3)) (hq : pc + 3 = q) (hk : MKK own idx y cc2 nL2 ret2 np) (hyc : y.cls = "java/lang/String") (hst : st0 = (as.map (rv [])).reverse ++ .retAddr (2 + i) :: st) (hlen : as.length = np) (hfr : Nat.blt d2 R.frames = true) (hlo : Nat.ble (8 + (nL2 + 11) + (32 * d2 + 20)) R.locals = true) (hcl : cells ≤ R.cells) (hsl : slots ≤ R.slots) (hcat : Nat.ble (catS st) 8 = true)
    (kk : ∀ x : Int32, P x [] → AW E R nL Q ad0 n0 cells slots q lv (.int x :: st) h) : AW E R nL Q ad0 n0 cells slots pc lv st0 h := by
  obtain ⟨p, l, e, s, m, args, below, meth, c, D, tc, sa, A⟩ := E
  subst hq
  obtain ⟨⟨hx, hb, hml, hown, hts⟩, hK, hT, hA, hr, hlk, hnm⟩ := hE
  intro ad H locs ls hP hD hS hl hn h0 h1
  have hg : gets h [] = some (([] : List AE).map (re [])) := rfl
  obtain ⟨hB, hPc, hF⟩ := B0_of hP hD hS hA hK hT hg rfl
  obtain ⟨⟨k1, k2, k3, k4, k5, k6⟩, k7, k8⟩ := hk
  have hstk : st0.map (cv ad sa) = (as.map (cv (fun i => ad (rn [] i)) sa)).reverse ++ Value.ref (sa (2 + i)) :: st.map (cv ad sa) := stk_eq hst
  refine callA (va_runV (C := y.cls) (b := sa (2 + i)) (As := as.map (cv (fun i => ad (rn [] i)) sa)) (rest := st.map (cv ad sa)) ⟨hx, hb, hml, hown, hts⟩ (hM l D tc sa (fun i => ad (rn [] i)) H.size)
    ⟨callB_of np hts (lg_good k2) rfl rfl rfl (hts _ k3) (hts _ k1) ⟨k4, k5, k6⟩ ⟨Nat.le_of_ble_eq_true hfr, Nat.le_of_ble_eq_true hlo⟩, hts _ k7, hts _ k8⟩
    ⟨B0_blind, by rw [hyc]; exact vk_recv (adK := fun i => sa (2 + i)) (i := i) hT.2.2.2.1 hi hS, fun U hU hW => ⟨rfl, hB U hU hW⟩⟩ rfl (by rw [List.length_map]; exact hlen) hl.1 hstk (by rw [catS_eq]; show 2 * 0 + _ ≤ _; rw [Nat.mul_zero, Nat.zero_add]; exact Nat.le_of_ble_eq_true hcat) hd ⟨hcl, hsl⟩) hS hF ?_
  intro v h' ad' H1 locs1 hp hlen' hx' hy' hP1 hD1 hz hk1 hS1
  have e0 := hy' rfl
  subst e0
  obtain ⟨x, rfl, hp⟩ := hp
  have e1 : h' = [] := List.eq_nil_of_length_eq_zero hlen'
  subst e1
  obtain ⟨b1, b2, b3⟩ := back0 (h' := []) (h2 := h) hP hD hg rfl rfl hP1 hk1
  exact kk x hp ad H1 locs1 ls b1 b2 hS1 hl (b3.trans hn) h0 h1
end ROWSK

def ixF (i : Nat) (c : Int32) : Int32 := if (strByt.getD i []).getD 0 0 = c.toInt8.toInt32 then 0 else if (strByt.getD i []).getD 1 0 = c.toInt8.toInt32 then 1 else if (strByt.getD i []).getD 2 0 = c.toInt8.toInt32 then 2 else -1
theorem ix_ok : ∀ u, u < 2 → ∀ b, b < 256 → if isN u (nI b) = true then ixF (1 + u) (nI b) = nmI u (nI b) else ixF (1 + u) (nI b) = -1 := by decide +kernel
theorem nm_rng : ∀ u, u < 2 → ∀ b, b < 256 → nmI u (nI b) = 0 ∨ nmI u (nI b) = 1 ∨ nmI u (nI b) = 2 := by decide +kernel
theorem chr_ok : ∀ b, b < 256 → ((nI b).toUInt32 % 65536).toInt32 = nI b := by decide +kernel
theorem su_len : ∀ u, u < 2 → strLen.getD (1 + u) 0 = 3 := by decide

set_option maxRecDepth 100000 in
theorem c_J0_coder_7d493 (i : Nat) (hi : i < 3) : AMet yJ0_coder_7d493 cJ0_coder_7d493 1 (some (.byte)) 0 0 0 [.retAddr (2 + i)] [] (pI fun x h => x = 0 ∧ h = []) := by
  refine AMet.of (by decide +kernel) rfl (fun E ad0 hE => ?_)
  refine A_gsCS hE 3 dJ0_coder_7d493_0 rfl ?_
  refine A_if_eq hE 6 13 dJ0_coder_7d493_3 rfl rfl (fun c3 => absurd c3 (by decide)) (fun c3 => ?_)
  refine A_aload_nS hE 7 dJ0_coder_7d493_6 rfl rfl ?_
  refine A_getKC hE 10 i hi dJ0_coder_7d493_7 rfl ?_
  refine A_goto hE 14 dJ0_coder_7d493_10 rfl ?_
  exact A_cret hE dJ0_coder_7d493_14 (by decide) ⟨rfl, rfl⟩
set_option maxRecDepth 100000 in
theorem c_J0_length_8abf5 (i : Nat) (hi : i < 3) (hl : strLen.getD i 0 = 3) : AMet yJ0_length_8abf5 cJ0_length_8abf5 1 (some (.int)) 1 0 0 [.retAddr (2 + i)] [] (pI fun x h => x = 3 ∧ h = []) := by
  refine AMet.of (by decide +kernel) rfl (fun E ad0 hE => ?_)
  refine A_aload_nS hE 1 dJ0_length_8abf5_0 rfl rfl ?_
  refine A_getKV hE 4 i hi dJ0_length_8abf5_1 rfl ?_
  refine A_alenK hE 5 i 3 hi hl dJ0_length_8abf5_4 rfl ?_
  refine A_aload_nS hE 6 dJ0_length_8abf5_5 rfl rfl ?_
  refine A_callK hE 9 i (by omega) (c_J0_coder_7d493 i hi) dJ0_length_8abf5_6 rfl mqJ0_335 rfl rfl rfl rfl rfl (Nat.le_of_ble_eq_true rfl) (Nat.le_of_ble_eq_true rfl) rfl (fun x6 hp => ?_)
  obtain ⟨rfl, -⟩ := hp
  refine A_ishr hE 10 dJ0_length_8abf5_9 rfl ?_
  refine A_iret hE dJ0_length_8abf5_10 ⟨?_, rfl⟩
  decide
set_option maxRecDepth 100000 in
theorem c_J0_isLatin1_aae02 (i : Nat) (hi : i < 3) : AMet yJ0_isLatin1_aae02 cJ0_isLatin1_aae02 1 (some (.boolean)) 0 0 0 [.retAddr (2 + i)] [] (pI fun x h => x = 1 ∧ h = []) := by
  refine AMet.of (by decide +kernel) rfl (fun E ad0 hE => ?_)
  refine A_gsCS hE 3 dJ0_isLatin1_aae02_0 rfl ?_
  refine A_if_eq hE 6 17 dJ0_isLatin1_aae02_3 rfl rfl (fun c3 => absurd c3 (by decide)) (fun c3 => ?_)
  refine A_aload_nS hE 7 dJ0_isLatin1_aae02_6 rfl rfl ?_
  refine A_getKC hE 10 i hi dJ0_isLatin1_aae02_7 rfl ?_
  refine A_if_ne hE 13 17 dJ0_isLatin1_aae02_10 rfl rfl (fun c10 => absurd rfl c10) (fun c10 => ?_)
  refine A_iconst hE 14 dJ0_isLatin1_aae02_13 rfl (1) rfl ?_
  refine A_goto hE 18 dJ0_isLatin1_aae02_14 rfl ?_
  refine A_zret hE dJ0_isLatin1_aae02_18 (by first | exact Or.inl rfl | exact Or.inr rfl) ⟨rfl, rfl⟩
set_option maxRecDepth 100000 in
theorem c_J1_canEncode_9a6ad (c : Int32) (h1 : 0 ≤ c) (h2 : c ≤ 255) : AMet yJ1_canEncode_9a6ad cJ1_canEncode_9a6ad 1 (some (.boolean)) 0 0 0 [.int c] [] (pI fun x h => x = 1 ∧ h = []) := by
  refine AMet.of (by decide +kernel) rfl (fun E ad0 hE => ?_)
  refine A_iload_n hE 1 dJ1_canEncode_9a6ad_0 rfl rfl ?_
  refine A_if_lt hE 4 15 dJ1_canEncode_9a6ad_1 rfl rfl (fun c1 => absurd c1 (iN h1)) (fun c1 => ?_)
  refine A_iload_n hE 5 dJ1_canEncode_9a6ad_4 rfl rfl ?_
  refine A_sipush hE 8 dJ1_canEncode_9a6ad_5 rfl (255) (by decide) ?_
  refine A_icmp_gt hE 11 15 dJ1_canEncode_9a6ad_8 rfl rfl (fun c8 => absurd c8 (iN h2)) (fun c8 => ?_)
  refine A_iconst hE 12 dJ1_canEncode_9a6ad_11 rfl (1) rfl ?_
  refine A_goto hE 16 dJ1_canEncode_9a6ad_12 rfl ?_
  refine A_zret hE dJ1_canEncode_9a6ad_16 (by first | exact Or.inl rfl | exact Or.inr rfl) ⟨rfl, rfl⟩
set_option maxRecDepth 100000 in
theorem c_J1_indexOfChar_4cfef (i : Nat) (hi : i < 3) (hl : strLen.getD i 0 = 3) (c : Int32) : AMet yJ1_indexOfChar_4cfef cJ1_indexOfChar_4cfef 6 (some (.int)) 0 0 0 [.retAddr (5 + i), .int c, .int 0, .int 3] [] (pI fun x h => x = ixF i c ∧ h = []) := by
  refine AMet.of (by decide +kernel) rfl (fun E ad0 hE => ?_)
  refine A_iload_n hE 1 dJ1_indexOfChar_4cfef_0 rfl rfl ?_
  refine A_i2b hE 2 dJ1_indexOfChar_4cfef_1 rfl ?_
  refine A_istore hE 4 dJ1_indexOfChar_4cfef_2 rfl rfl rfl ?_
  refine A_iload_n hE 5 dJ1_indexOfChar_4cfef_4 rfl rfl ?_
  refine A_istore hE 7 dJ1_indexOfChar_4cfef_5 rfl rfl rfl ?_
  refine A_lv [0, 3, 4, 5] rfl ?_
  refine A_h [] rfl ?_
  show AW E _ 6 _ ad0 _ _ _ 7 [(0, .retAddr (5 + i)), (3, .int 3), (4, .int c.toInt8.toInt32), (5, .int (nI 0))] [] []
  refine A_iload hE 9 dJ1_indexOfChar_4cfef_7 rfl rfl ?_
  refine A_iload_n hE 10 dJ1_indexOfChar_4cfef_9 rfl rfl ?_
  refine A_icmp_ge hE 13 31 dJ1_indexOfChar_4cfef_10 rfl rfl (fun c10 => absurd c10 (by decide)) (fun c10 => ?_)
  refine A_aload_nS hE 14 dJ1_indexOfChar_4cfef_13 rfl rfl ?_
  refine A_iload hE 16 dJ1_indexOfChar_4cfef_14 rfl rfl ?_
  refine A_baldK hE 17 i 0 hi dJ1_indexOfChar_4cfef_16 rfl rfl (by omega) (by omega) _ rfl ?_
  refine A_iload hE 19 dJ1_indexOfChar_4cfef_17 rfl rfl ?_
  refine A_icmp_ne hE 22 25 dJ1_indexOfChar_4cfef_19 rfl rfl (fun c19 => ?_) (fun c19 => ?_)
  · have n0 : ¬ (strByt.getD i []).getD 0 0 = c.toInt8.toInt32 := c19
    refine A_iinc hE 28 dJ1_indexOfChar_4cfef_25 rfl rfl (1) rfl rfl rfl ?_
    rw [nI_1]
    refine A_lv [0, 3, 4, 5] rfl ?_
    refine A_goto hE 7 dJ1_indexOfChar_4cfef_28 rfl ?_
    refine A_iload hE 9 dJ1_indexOfChar_4cfef_7 rfl rfl ?_
    refine A_iload_n hE 10 dJ1_indexOfChar_4cfef_9 rfl rfl ?_
    refine A_icmp_ge hE 13 31 dJ1_indexOfChar_4cfef_10 rfl rfl (fun c10 => absurd c10 (by decide)) (fun c10 => ?_)
    refine A_aload_nS hE 14 dJ1_indexOfChar_4cfef_13 rfl rfl ?_
    refine A_iload hE 16 dJ1_indexOfChar_4cfef_14 rfl rfl ?_
    refine A_baldK hE 17 i 1 hi dJ1_indexOfChar_4cfef_16 rfl rfl (by omega) (by omega) _ rfl ?_
    refine A_iload hE 19 dJ1_indexOfChar_4cfef_17 rfl rfl ?_
    refine A_icmp_ne hE 22 25 dJ1_indexOfChar_4cfef_19 rfl rfl (fun c19 => ?_) (fun c19 => ?_)
    · have n1 : ¬ (strByt.getD i []).getD 1 0 = c.toInt8.toInt32 := c19
      refine A_iinc hE 28 dJ1_indexOfChar_4cfef_25 rfl rfl (1) rfl rfl rfl ?_
      rw [nI_1]
      refine A_lv [0, 3, 4, 5] rfl ?_
      refine A_goto hE 7 dJ1_indexOfChar_4cfef_28 rfl ?_
      refine A_iload hE 9 dJ1_indexOfChar_4cfef_7 rfl rfl ?_
      refine A_iload_n hE 10 dJ1_indexOfChar_4cfef_9 rfl rfl ?_
      refine A_icmp_ge hE 13 31 dJ1_indexOfChar_4cfef_10 rfl rfl (fun c10 => absurd c10 (by decide)) (fun c10 => ?_)
      refine A_aload_nS hE 14 dJ1_indexOfChar_4cfef_13 rfl rfl ?_
      refine A_iload hE 16 dJ1_indexOfChar_4cfef_14 rfl rfl ?_
      refine A_baldK hE 17 i 2 hi dJ1_indexOfChar_4cfef_16 rfl rfl (by omega) (by omega) _ rfl ?_
      refine A_iload hE 19 dJ1_indexOfChar_4cfef_17 rfl rfl ?_
      refine A_icmp_ne hE 22 25 dJ1_indexOfChar_4cfef_19 rfl rfl (fun c19 => ?_) (fun c19 => ?_)
      · have n2 : ¬ (strByt.getD i []).getD 2 0 = c.toInt8.toInt32 := c19
        refine A_iinc hE 28 dJ1_indexOfChar_4cfef_25 rfl rfl (1) rfl rfl rfl ?_
        rw [nI_1]
        refine A_lv [0, 3, 4, 5] rfl ?_
        refine A_goto hE 7 dJ1_indexOfChar_4cfef_28 rfl ?_
        refine A_iload hE 9 dJ1_indexOfChar_4cfef_7 rfl rfl ?_
        refine A_iload_n hE 10 dJ1_indexOfChar_4cfef_9 rfl rfl ?_
        refine A_icmp_ge hE 13 31 dJ1_indexOfChar_4cfef_10 rfl rfl (fun c10 => ?_) (fun c10 => absurd (by decide) c10)
        refine A_iconst hE 32 dJ1_indexOfChar_4cfef_31 rfl (-1) rfl ?_
        refine A_iret hE dJ1_indexOfChar_4cfef_32 ⟨?_, rfl⟩
        unfold ixF
        rw [if_neg n0, if_neg n1, if_neg n2]
      · refine A_iload hE 24 dJ1_indexOfChar_4cfef_22 rfl rfl ?_
        refine A_iret hE dJ1_indexOfChar_4cfef_24 ⟨?_, rfl⟩
        show nI 2 = ixF i c
        unfold ixF
        rw [if_neg n0, if_neg n1, if_pos c19]
        rfl
    · refine A_iload hE 24 dJ1_indexOfChar_4cfef_22 rfl rfl ?_
      refine A_iret hE dJ1_indexOfChar_4cfef_24 ⟨?_, rfl⟩
      show nI 1 = ixF i c
      unfold ixF
      rw [if_neg n0, if_pos c19]
      rfl
  · refine A_iload hE 24 dJ1_indexOfChar_4cfef_22 rfl rfl ?_
    refine A_iret hE dJ1_indexOfChar_4cfef_24 ⟨?_, rfl⟩
    show nI 0 = ixF i c
    unfold ixF
    rw [if_pos c19]
    rfl
set_option maxRecDepth 100000 in
theorem c_J1_indexOf_4cfef (i : Nat) (hi : i < 3) (hl : strLen.getD i 0 = 3) (c : Int32) (h1 : 0 ≤ c) (h2 : c ≤ 255) : AMet yJ1_indexOf_4cfef cJ1_indexOf_4cfef 4 (some (.int)) 1 0 0 [.retAddr (5 + i), .int c, .int 0, .int 3] [] (pI fun x h => x = ixF i c ∧ h = []) := by
  refine AMet.of (by decide +kernel) rfl (fun E ad0 hE => ?_)
  refine A_iload_n hE 1 dJ1_indexOf_4cfef_0 rfl rfl ?_
  refine A_callSi hE 4 (c_J1_canEncode_9a6ad c h1 h2) [] dJ1_indexOf_4cfef_1 rfl mkJ1_88 rfl rfl rfl rfl rfl rfl (Nat.le_of_ble_eq_true rfl) (Nat.le_of_ble_eq_true rfl) rfl (fun x1 h1 g1 hp1 hw1 => ?_)
  obtain ⟨rfl, rfl⟩ := hp1
  obtain rfl := Option.some.inj hw1
  refine A_if_ne hE 7 9 dJ1_indexOf_4cfef_4 rfl rfl (fun c4 => ?_) (fun c4 => absurd c4 (by decide))
  refine A_iload_n hE 10 dJ1_indexOf_4cfef_9 rfl rfl ?_
  refine A_iconst hE 11 dJ1_indexOf_4cfef_10 rfl (0) rfl ?_
  refine A_callSi hE 14 (c_J9_max_7cf53 0 0) [] dJ1_indexOf_4cfef_11 rfl mkJ1_92 rfl rfl rfl rfl rfl rfl (Nat.le_of_ble_eq_true rfl) (Nat.le_of_ble_eq_true rfl) rfl (fun x11 h11 g11 hp11 hw11 => ?_)
  obtain ⟨rfl, rfl⟩ := hp11
  obtain rfl := Option.some.inj hw11
  rw [show (if (0 : Int32) < 0 then (0 : Int32) else 0) = 0 by decide]
  refine A_istore_n hE 15 dJ1_indexOf_4cfef_14 rfl rfl rfl ?_
  refine A_iload_n hE 16 dJ1_indexOf_4cfef_15 rfl rfl ?_
  refine A_aload_nS hE 17 dJ1_indexOf_4cfef_16 rfl rfl ?_
  refine A_alenK hE 18 i 3 hi hl dJ1_indexOf_4cfef_17 rfl ?_
  refine A_callSi hE 21 (c_J9_min_7cf53 3 (nI 3)) [] dJ1_indexOf_4cfef_18 rfl mkJ1_38 rfl rfl rfl rfl rfl rfl (Nat.le_of_ble_eq_true rfl) (Nat.le_of_ble_eq_true rfl) rfl (fun x18 h18 g18 hp18 hw18 => ?_)
  obtain ⟨rfl, rfl⟩ := hp18
  obtain rfl := Option.some.inj hw18
  rw [show (if nI 3 < 3 then nI 3 else 3) = 3 by decide]
  refine A_istore_n hE 22 dJ1_indexOf_4cfef_21 rfl rfl rfl ?_
  refine A_iload_n hE 23 dJ1_indexOf_4cfef_22 rfl rfl ?_
  refine A_iload_n hE 24 dJ1_indexOf_4cfef_23 rfl rfl ?_
  refine A_icmp_lt hE 27 29 dJ1_indexOf_4cfef_24 rfl rfl (fun c24 => ?_) (fun c24 => absurd (by decide) c24)
  refine A_aload_nS hE 30 dJ1_indexOf_4cfef_29 rfl rfl ?_
  refine A_iload_n hE 31 dJ1_indexOf_4cfef_30 rfl rfl ?_
  refine A_iload_n hE 32 dJ1_indexOf_4cfef_31 rfl rfl ?_
  refine A_iload_n hE 33 dJ1_indexOf_4cfef_32 rfl rfl ?_
  refine A_callSi hE 36 (c_J1_indexOfChar_4cfef i hi hl c) [] dJ1_indexOf_4cfef_33 rfl mkJ1_95 rfl rfl rfl rfl rfl rfl (Nat.le_of_ble_eq_true rfl) (Nat.le_of_ble_eq_true rfl) rfl (fun x33 h33 g33 hp33 hw33 => ?_)
  obtain ⟨rfl, rfl⟩ := hp33
  obtain rfl := Option.some.inj hw33
  refine A_iret hE dJ1_indexOf_4cfef_36 ⟨rfl, rfl⟩
set_option maxRecDepth 100000 in
theorem c_J0_indexOf_7cf53 (i : Nat) (hi : i < 3) (hl : strLen.getD i 0 = 3) (c : Int32) (h1 : 0 ≤ c) (h2 : c ≤ 255) : AMet yJ0_indexOf_7cf53 cJ0_indexOf_7cf53 3 (some (.int)) 2 0 0 [.retAddr (2 + i), .int c, .int 0] [] (pI fun x h => x = ixF i c ∧ h = []) := by
  refine AMet.of (by decide +kernel) rfl (fun E ad0 hE => ?_)
  refine A_aload_nS hE 1 dJ0_indexOf_7cf53_0 rfl rfl ?_
  refine A_callK hE 4 i (by omega) (c_J0_isLatin1_aae02 i hi) dJ0_indexOf_7cf53_1 rfl mqJ0_492 rfl rfl rfl rfl rfl (Nat.le_of_ble_eq_true rfl) (Nat.le_of_ble_eq_true rfl) rfl (fun x1 hp => ?_)
  obtain ⟨rfl, -⟩ := hp
  refine A_if_eq hE 7 23 dJ0_indexOf_7cf53_4 rfl rfl (fun c4 => absurd c4 (by decide)) (fun c4 => ?_)
  refine A_aload_nS hE 8 dJ0_indexOf_7cf53_7 rfl rfl ?_
  refine A_getKV hE 11 i hi dJ0_indexOf_7cf53_8 rfl ?_
  refine A_iload_n hE 12 dJ0_indexOf_7cf53_11 rfl rfl ?_
  refine A_iload_n hE 13 dJ0_indexOf_7cf53_12 rfl rfl ?_
  refine A_aload_nS hE 14 dJ0_indexOf_7cf53_13 rfl rfl ?_
  refine A_callK hE 17 i (by omega) (c_J0_length_8abf5 i hi hl) dJ0_indexOf_7cf53_14 rfl mqJ0_505 rfl rfl rfl rfl rfl (Nat.le_of_ble_eq_true rfl) (Nat.le_of_ble_eq_true rfl) rfl (fun x14 hp => ?_)
  obtain ⟨rfl, -⟩ := hp
  refine A_callSi hE 20 (c_J1_indexOf_4cfef i hi hl c h1 h2) [] dJ0_indexOf_7cf53_17 rfl mkJ0_637 rfl rfl rfl rfl rfl rfl (Nat.le_of_ble_eq_true rfl) (Nat.le_of_ble_eq_true rfl) rfl (fun x17 h17 g17 hp17 hw17 => ?_)
  obtain ⟨rfl, rfl⟩ := hp17
  obtain rfl := Option.some.inj hw17
  refine A_goto hE 36 dJ0_indexOf_7cf53_20 rfl ?_
  refine A_iret hE dJ0_indexOf_7cf53_36 ⟨rfl, rfl⟩
set_option maxRecDepth 100000 in
theorem c_J0_indexOf_0f7a4 (i : Nat) (hi : i < 3) (hl : strLen.getD i 0 = 3) (c : Int32) (h1 : 0 ≤ c) (h2 : c ≤ 255) : AMet yJ0_indexOf_0f7a4 cJ0_indexOf_0f7a4 2 (some (.int)) 3 0 0 [.retAddr (2 + i), .int c] [] (pI fun x h => x = ixF i c ∧ h = []) := by
  refine AMet.of (by decide +kernel) rfl (fun E ad0 hE => ?_)
  refine A_aload_nS hE 1 dJ0_indexOf_0f7a4_0 rfl rfl ?_
  refine A_iload_n hE 2 dJ0_indexOf_0f7a4_1 rfl rfl ?_
  refine A_iconst hE 3 dJ0_indexOf_0f7a4_2 rfl (0) rfl ?_
  refine A_callK hE 6 i (by omega) (c_J0_indexOf_7cf53 i hi hl c h1 h2) dJ0_indexOf_0f7a4_3 rfl mqJ0_633 rfl rfl rfl rfl rfl (Nat.le_of_ble_eq_true rfl) (Nat.le_of_ble_eq_true rfl) rfl (fun x3 hp => ?_)
  obtain ⟨rfl, -⟩ := hp
  refine A_iret hE dJ0_indexOf_0f7a4_6 ⟨rfl, rfl⟩
