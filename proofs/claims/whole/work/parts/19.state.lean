theorem room_mono {s : State} {pl : Platform} {r r' : Room} (hf : r.frames ≤ r'.frames) (hl : r.locals ≤ r'.locals) (hc : r.cells ≤ r'.cells) (hs : r.slots ≤ r'.slots) (h : s.hasRoom pl r' = true) : s.hasRoom pl r = true := by
  simp only [State.hasRoom, Bool.and_eq_true, decide_eq_true_eq] at h ⊢
  obtain ⟨⟨⟨⟨y, a, b, c, d, e⟩, f⟩, g⟩, i⟩ := h
  exact ⟨⟨⟨⟨by omega, by omega, by omega, by omega, by omega, e⟩, by omega⟩, by omega⟩, i⟩
theorem AMet.mono {y : MethodName} {cc : ByteArray} {nL : Nat} {ret : Option FieldType} {d d' mc ms : Nat} {as : List Value} {h : List AE} {post : Option Value → List AE → Prop} (hm : AMet y cc nL ret d mc ms as h post) (hd : Nat.ble d d' = true) : AMet y cc nL ret d' mc ms as h post := by
  have hd' : d ≤ d' := Nat.le_of_ble_eq_true hd
  intro l D tc sa ad sz p e ha hcs hk s m args below hfr happ hP hK
  obtain ⟨a1, a2, a3, a4, a5, a6, a7, a8⟩ := (Spec.appliesLoose_iff hfr).mp happ
  exact hm l D tc sa ad sz p e ha hcs hk s m args below hfr ((Spec.appliesLoose_iff hfr).mpr ⟨a1, a2, a3, a4, a5, a6, room_mono (r := rmD d mc ms) (r' := rmD d' mc ms) hd' (by show 32 * d + 20 ≤ 32 * d' + 20; omega) (Nat.le_refl _) (Nat.le_refl _) a7, a8⟩) hP hK
/-- a weaker end -/
theorem AMet.imp {y : MethodName} {cc : ByteArray} {nL : Nat} {ret : Option FieldType} {d mc ms : Nat} {as : List Value} {h : List AE} {post post' : Option Value → List AE → Prop} (hm : AMet y cc nL ret d mc ms as h post) (hi : ∀ v h', post v h' → post' v h') : AMet y cc nL ret d mc ms as h post' := by
  intro l D tc sa ad sz p e ha hcs hk s m args below hfr happ hP hK
  obtain ⟨n, oc, g1, g2, g3, ⟨⟨v, h', ad', q1, q2, q3⟩, q4⟩, q5⟩ := hm l D tc sa ad sz p e ha hcs hk s m args below hfr happ hP hK
  exact ⟨n, oc, g1, g2, g3, ⟨⟨v, h', ad', q1, hi _ _ q2, q3⟩, q4⟩, q5⟩

abbrev ShO (a : Nat) (b : Int32) : AE := .inr (4, [.ref a, .int b])
def widB (b : Int32) : Prop := b = 0 ∨ b = 8 ∨ b = 16 ∨ b = 32
def lowB (b v : Int32) : Int32 := if b = 8 then v.toInt8.toInt32 else if b = 16 then v.toInt16.toInt32 else v
set_option maxRecDepth 100000 in
theorem c_X4_isWidth (b : Int32) : AMet yX4_isWidth cX4_isWidth 1 (some (.boolean)) 0 0 0 [.int b] [] (pI fun r h => r = bI (decide (b = 0 ∨ b = 8 ∨ b = 16 ∨ b = 32)) ∧ h = []) := by
  refine AMet.of (by decide +kernel) rfl (fun E ad0 hE => ?_)
  refine A_iload_n hE 1 dX4_isWidth_0 rfl rfl ?_
  refine A_if_eq hE 4 22 dX4_isWidth_1 rfl rfl (fun c1 => ?_) (fun c1 => ?_)
  · refine A_iconst hE 23 dX4_isWidth_22 rfl (1) rfl ?_
    refine A_goto hE 27 dX4_isWidth_23 rfl ?_
    refine A_zret hE dX4_isWidth_27 (by first | exact Or.inl rfl | exact Or.inr rfl) ⟨?_, rfl⟩
    exact bI_t (Or.inl c1)
  · refine A_iload_n hE 5 dX4_isWidth_4 rfl rfl ?_
    refine A_bipush hE 7 dX4_isWidth_5 rfl (8) (by decide) ?_
    refine A_icmp_eq hE 10 22 dX4_isWidth_7 rfl rfl (fun c7 => ?_) (fun c7 => ?_)
    · refine A_iconst hE 23 dX4_isWidth_22 rfl (1) rfl ?_
      refine A_goto hE 27 dX4_isWidth_23 rfl ?_
      refine A_zret hE dX4_isWidth_27 (by first | exact Or.inl rfl | exact Or.inr rfl) ⟨?_, rfl⟩
      exact bI_t (Or.inr (Or.inl c7))
    · refine A_iload_n hE 11 dX4_isWidth_10 rfl rfl ?_
      refine A_bipush hE 13 dX4_isWidth_11 rfl (16) (by decide) ?_
      refine A_icmp_eq hE 16 22 dX4_isWidth_13 rfl rfl (fun c13 => ?_) (fun c13 => ?_)
      · refine A_iconst hE 23 dX4_isWidth_22 rfl (1) rfl ?_
        refine A_goto hE 27 dX4_isWidth_23 rfl ?_
        refine A_zret hE dX4_isWidth_27 (by first | exact Or.inl rfl | exact Or.inr rfl) ⟨?_, rfl⟩
        exact bI_t (Or.inr (Or.inr (Or.inl c13)))
      · refine A_iload_n hE 17 dX4_isWidth_16 rfl rfl ?_
        refine A_bipush hE 19 dX4_isWidth_17 rfl (32) (by decide) ?_
        refine A_icmp_ne hE 22 26 dX4_isWidth_19 rfl rfl (fun c19 => ?_) (fun c19 => ?_)
        · refine A_iconst hE 27 dX4_isWidth_26 rfl (0) rfl ?_
          refine A_zret hE dX4_isWidth_27 (by first | exact Or.inl rfl | exact Or.inr rfl) ⟨?_, rfl⟩
          exact bI_f (fun z => by rcases z with z | z | z | z; exact c1 z; exact c7 z; exact c13 z; exact c19 z)
        · refine A_iconst hE 23 dX4_isWidth_22 rfl (1) rfl ?_
          refine A_goto hE 27 dX4_isWidth_23 rfl ?_
          refine A_zret hE dX4_isWidth_27 (by first | exact Or.inl rfl | exact Or.inr rfl) ⟨?_, rfl⟩
          exact bI_t (Or.inr (Or.inr (Or.inr c19)))
set_option maxRecDepth 100000 in
theorem c_X4_isMissing (b : Int32) (sz : Nat) (v : Nat → Int32) : AMet yX4_isMissing cX4_isMissing 1 (some (.boolean)) 0 0 0 [.ref 0] [ShO 1 b, cRow 2 (nI sz), cI 24 v] (pI fun r h => r = bI (decide (b = 0)) ∧ h = [ShO 1 b, cRow 2 (nI sz), cI 24 v]) := by
  refine AMet.of (by decide +kernel) rfl (fun E ad0 hE => ?_)
  refine A_aload_n hE 1 dX4_isMissing_0 rfl rfl ?_
  refine A_get hE 4 dX4_isMissing_1 rfl fkX4_20 rfl rfl ?_
  refine A_if_ne hE 7 11 dX4_isMissing_4 rfl rfl (fun c4 => ?_) (fun c4 => ?_)
  · refine A_iconst hE 12 dX4_isMissing_11 rfl (0) rfl ?_
    refine A_zret hE dX4_isMissing_12 (by first | exact Or.inl rfl | exact Or.inr rfl) ⟨?_, rfl⟩
    exact bI_f c4
  · refine A_iconst hE 8 dX4_isMissing_7 rfl (1) rfl ?_
    refine A_goto hE 12 dX4_isMissing_8 rfl ?_
    refine A_zret hE dX4_isMissing_12 (by first | exact Or.inl rfl | exact Or.inr rfl) ⟨?_, rfl⟩
    exact bI_t c4
set_option maxRecDepth 100000 in
theorem c_X4_layOut (b wd : Int32) (sz n : Nat) (v : Nat → Int32) (hn : n ≤ 24) : AMet yX4_layOut cX4_layOut 4 none 1 0 0 [.ref 0, .int wd, .int (nI n)] [ShO 1 b, cRow 2 (nI sz), cI 24 v] (pV fun h => h = [ShO 1 wd, cRow 2 (nI n), cI 24 (fun z => if z < n then 0 else v z)]) := by
  refine AMet.of (by decide +kernel) rfl (fun E ad0 hE => ?_)
  have loop : ∀ (m j : Nat), j + m = n → AW E (rmD 1 0 0) 4 (QM E ad0 3 0 0 (pV fun h => h = [ShO 1 wd, cRow 2 (nI n), cI 24 (fun z => if z < n then 0 else v z)])) ad0 3 0 0 14 [(0, .ref 0), (2, .int (nI n)), (3, .int (nI j))] [] [ShO 1 wd, cRow 2 (nI j), cI 24 (fun z => if z < j then 0 else v z)] := by
    intro m
    induction m with
    | zero =>
      intro j hj
      obtain rfl : j = n := by omega
      refine A_iload_n hE 15 dX4_layOut_14 rfl rfl ?_
      refine A_iload_n hE 16 dX4_layOut_15 rfl rfl ?_
      refine A_icmp_ge hE 19 39 dX4_layOut_16 rfl rfl (fun c16 => ?_) (fun c16 => absurd (nI_le (Nat.le_refl _) (by omega)) c16)
      refine A_vret hE dX4_layOut_39 rfl
    | succ m ih =>
      intro j hj
      have hlt : j < n := by omega
      refine A_iload_n hE 15 dX4_layOut_14 rfl rfl ?_
      refine A_iload_n hE 16 dX4_layOut_15 rfl rfl ?_
      refine A_icmp_ge hE 19 39 dX4_layOut_16 rfl rfl (fun c16 => absurd c16 (nI_ge hlt (by omega))) (fun c16 => ?_)
      refine A_iload_n hE 20 dX4_layOut_19 rfl rfl ?_
      refine A_bipush hE 22 dX4_layOut_20 rfl (24) (by decide) ?_
      refine A_icmp_ge hE 25 39 dX4_layOut_22 rfl rfl (fun c22 => absurd c22 (nI_ge (a := j) (b := 24) (by omega) (by omega))) (fun c22 => ?_)
      refine A_aload_n hE 26 dX4_layOut_25 rfl rfl ?_
      refine A_get hE 29 dX4_layOut_26 rfl fkX4_14 rfl rfl ?_
      refine A_iconst hE 30 dX4_layOut_29 rfl (0) rfl ?_
      refine A_callVv hE 33 (c_X3_add 24 (fun z => if z < j then 0 else v z) j 0 (by omega) rfl) [1, 2] dX4_layOut_30 rfl mkX4_27 rfl rfl rfl rfl rfl rfl rfl (Nat.le_of_ble_eq_true rfl) (Nat.le_of_ble_eq_true rfl) rfl (fun h30 g30 hp30 hw30 => ?_)
      obtain rfl := hp30
      rw [if_pos (show j < 24 by omega), if_pos (show j < 24 by omega)] at hw30
      obtain rfl := Option.some.inj hw30
      rw [show upd (fun z => if z < j then 0 else v z) j 0 = (fun z => if z < j + 1 then 0 else v z) by
        funext z
        by_cases hz : z = j
        · subst hz; rw [upd_s, if_pos (by omega)]
        · rw [upd_n hz]; by_cases h2 : z < j
          · rw [if_pos h2, if_pos (by omega)]
          · rw [if_neg h2, if_neg (by omega)]]
      refine A_iinc hE 36 dX4_layOut_33 rfl rfl (1) rfl rfl rfl ?_
      rw [nI_1]
      refine A_lv [0, 2, 3] rfl ?_
      refine A_goto hE 14 dX4_layOut_36 rfl ?_
      exact ih (j + 1) (by omega)
  refine A_aload_n hE 1 dX4_layOut_0 rfl rfl ?_
  refine A_iload_n hE 2 dX4_layOut_1 rfl rfl ?_
  refine A_put hE 5 dX4_layOut_2 rfl fkX4_20 rfl rfl rfl rfl ?_
  refine A_aload_n hE 6 dX4_layOut_5 rfl rfl ?_
  refine A_get hE 9 dX4_layOut_6 rfl fkX4_14 rfl rfl ?_
  refine A_callVv hE 12 (c_X3_empty 24 v (nI sz)) [1, 2] dX4_layOut_9 rfl mkX4_24 rfl rfl rfl rfl rfl rfl rfl (Nat.le_of_ble_eq_true rfl) (Nat.le_of_ble_eq_true rfl) rfl (fun h9 g9 hp9 hw9 => ?_)
  obtain rfl := hp9
  obtain rfl := Option.some.inj hw9
  refine A_iconst hE 13 dX4_layOut_12 rfl (0) rfl ?_
  refine A_istore_n hE 14 dX4_layOut_13 rfl rfl rfl ?_
  refine A_lv [0, 2, 3] rfl ?_
  refine (show _ = _ by funext z; rw [if_neg (Nat.not_lt_zero z)] : v = (fun z => if z < 0 then 0 else v z)) ▸ ?_
  exact loop n 0 (Nat.zero_add _)
set_option maxRecDepth 100000 in
theorem c_X4_lowestBits (b x : Int32) (sz : Nat) (v : Nat → Int32) (hb : widB b) : AMet yX4_lowestBits cX4_lowestBits 2 (some (.int)) 0 0 0 [.ref 0, .int x] [ShO 1 b, cRow 2 (nI sz), cI 24 v] (pI fun r h => r = lowB b x ∧ h = [ShO 1 b, cRow 2 (nI sz), cI 24 v]) := by
  refine AMet.of (by decide +kernel) rfl (fun E ad0 hE => ?_)
  rcases hb with rfl | rfl | rfl | rfl
  · refine A_aload_n hE 1 dX4_lowestBits_0 rfl rfl ?_
    refine A_get hE 4 dX4_lowestBits_1 rfl fkX4_20 rfl rfl ?_
    refine A_lookup hE 38 dX4_lowestBits_4 (by decide) (off := 34) (by decide) rfl ?_
    refine A_iload_n hE 39 dX4_lowestBits_38 rfl rfl ?_
    refine A_iret hE dX4_lowestBits_39 ⟨rfl, rfl⟩
  · refine A_aload_n hE 1 dX4_lowestBits_0 rfl rfl ?_
    refine A_get hE 4 dX4_lowestBits_1 rfl fkX4_20 rfl rfl ?_
    refine A_lookup hE 32 dX4_lowestBits_4 (by decide) (off := 28) (by decide) rfl ?_
    refine A_iload_n hE 33 dX4_lowestBits_32 rfl rfl ?_
    refine A_i2b hE 34 dX4_lowestBits_33 rfl ?_
    refine A_iret hE dX4_lowestBits_34 ⟨rfl, rfl⟩
  · refine A_aload_n hE 1 dX4_lowestBits_0 rfl rfl ?_
    refine A_get hE 4 dX4_lowestBits_1 rfl fkX4_20 rfl rfl ?_
    refine A_lookup hE 35 dX4_lowestBits_4 (by decide) (off := 31) (by decide) rfl ?_
    refine A_iload_n hE 36 dX4_lowestBits_35 rfl rfl ?_
    refine A_i2s hE 37 dX4_lowestBits_36 rfl ?_
    refine A_iret hE dX4_lowestBits_37 ⟨rfl, rfl⟩
  · refine A_aload_n hE 1 dX4_lowestBits_0 rfl rfl ?_
    refine A_get hE 4 dX4_lowestBits_1 rfl fkX4_20 rfl rfl ?_
    refine A_lookup hE 38 dX4_lowestBits_4 (by decide) (off := 34) (by decide) rfl ?_
    refine A_iload_n hE 39 dX4_lowestBits_38 rfl rfl ?_
    refine A_iret hE dX4_lowestBits_39 ⟨rfl, rfl⟩
set_option maxRecDepth 100000 in
theorem c_X2_lawOf (s : St) (a b c d e f : Nat) (x : Int32) : AMet yX2_lawOf cX2_lawOf 2 (some ((.object "LoanedRound$Law"))) 0 0 0 [.ref 0, .int x] [RoundO a b c d e f s] (pR fun i h => i = (if x = 0 then a else b) ∧ h = [RoundO a b c d e f s]) := by
  refine AMet.of (by decide +kernel) rfl (fun E ad0 hE => ?_)
  refine A_iload_n hE 1 dX2_lawOf_0 rfl rfl ?_
  refine A_if_ne hE 4 11 dX2_lawOf_1 rfl rfl (fun c1 => ?_) (fun c1 => ?_)
  · refine A_aload_n hE 12 dX2_lawOf_11 rfl rfl ?_
    refine A_get hE 15 dX2_lawOf_12 rfl fkX2_20 rfl rfl ?_
    refine A_aret hE dX2_lawOf_15 ⟨?_, rfl⟩
    rw [if_neg c1]
  · refine A_aload_n hE 5 dX2_lawOf_4 rfl rfl ?_
    refine A_get hE 8 dX2_lawOf_5 rfl fkX2_14 rfl rfl ?_
    refine A_goto hE 15 dX2_lawOf_8 rfl ?_
    refine A_aret hE dX2_lawOf_15 ⟨?_, rfl⟩
    rw [if_pos c1]
/-- two states, the one that takes over and the one that is taken over -/
abbrev StO (a b c : Nat) : AE := .inr (5, [.ref a, .ref b, .ref c])
abbrev S2 (J : St) (n0 : Nat) (f0 k0 : Nat → Int32) (n1 : Nat) (f1 k1 : Nat → Int32) (tl : Nat) (tp : Nat → Int32) (wl : Nat) (wt : Nat → Int32) (s : St) (t0 : Sp) (g0 h0 : Nat → Int32) (t1 : Sp) (g1 h1 : Nat → Int32) (tl2 : Nat) (tp2 : Nat → Int32) (wl2 : Nat) (wt2 : Nat → Int32) : List AE :=
  [StO 1 20 22, RoundO 12 16 2 3 4 5 J, cI 8 (arr J 0), cI 8 (arr J 1), cI 8 (arr J 2), cI 8 (arr J 3),
   StO 7 32 34, RoundO 24 28 8 9 10 11 s, cI 8 (arr s 0), cI 8 (arr s 1), cI 8 (arr s 2), cI 8 (arr s 3),
   LawO 13 15 0, cRow 14 (nI n0), cI 60 f0, cI 60 k0, LawO 17 19 1, cRow 18 (nI n1), cI 60 f1, cI 60 k1, cRow 21 (nI tl), cI 60 tp, cRow 23 (nI wl), cI 24 wt,
   LawO 25 27 0, cRow 26 (nI t0.length), cI 60 g0, cI 60 h0, LawO 29 31 1, cRow 30 (nI t1.length), cI 60 g1, cI 60 h1, cRow 33 (nI tl2), cI 60 tp2, cRow 35 (nI wl2), cI 24 wt2]

set_option maxRecDepth 100000 in
theorem c_X5_takeOver (J : St) (n0 : Nat) (f0 k0 : Nat → Int32) (n1 : Nat) (f1 k1 : Nat → Int32) (tl : Nat) (tp : Nat → Int32) (wl : Nat) (wt : Nat → Int32) (s : St) (t0 : Sp) (g0 h0 : Nat → Int32) (t1 : Sp) (g1 h1 : Nat → Int32) (tl2 : Nat) (tp2 : Nat → Int32) (wl2 : Nat) (wt2 : Nat → Int32) (ht0 : t0.length ≤ 60) (ht1 : t1.length ≤ 60) (htl : tl2 ≤ 60) (hwl : wl2 ≤ 24) : AMet yX5_takeOver cX5_takeOver 2 none 4 0 0 [.ref 0, .ref 6] (S2 J n0 f0 k0 n1 f1 k1 tl tp wl wt s t0 g0 h0 t1 g1 h1 tl2 tp2 wl2 wt2) (pV fun h => h = S2 s t0.length (ovr t0.length g0 f0) k0 t1.length (ovr t1.length g1 f1) k1 tl2 (ovr tl2 tp2 tp) wl2 (ovr wl2 wt2 wt) s t0 g0 h0 t1 g1 h1 tl2 tp2 wl2 wt2) := by
  refine AMet.of (by decide +kernel) rfl (fun E ad0 hE => ?_)
  refine A_aload_n hE 1 dX5_takeOver_0 rfl rfl ?_
  refine A_get hE 4 dX5_takeOver_1 rfl fkX5_12 rfl rfl ?_
  refine A_aload_n hE 5 dX5_takeOver_4 rfl rfl ?_
  refine A_get hE 8 dX5_takeOver_5 rfl fkX5_12 rfl rfl ?_
  refine A_callVv hE 11 (c_X2_takeOver s (arr J 0) (arr J 1) (arr J 2) (arr J 3) t0 t1 g0 h0 g1 h1 n0 n1 f0 k0 f1 k1 (pm J) (J 8) (J 0) (J 1) (J 2) (J 3) (J 4) (J 5) ht0 ht1) [1, 2, 3, 4, 5, 7, 8, 9, 10, 11, 12, 13, 14, 15, 16, 17, 18, 19, 24, 25, 26, 27, 28, 29, 30, 31] dX5_takeOver_8 rfl mkX5_30 rfl rfl rfl rfl rfl rfl rfl (Nat.le_of_ble_eq_true rfl) (Nat.le_of_ble_eq_true rfl) rfl (fun h8 g8 hp8 hw8 => ?_)
  obtain rfl := hp8
  obtain rfl := Option.some.inj hw8
  refine A_h (S2 s t0.length (ovr t0.length g0 f0) k0 t1.length (ovr t1.length g1 f1) k1 tl tp wl wt s t0 g0 h0 t1 g1 h1 tl2 tp2 wl2 wt2) rfl ?_
  refine A_aload_n hE 12 dX5_takeOver_11 rfl rfl ?_
  refine A_get hE 15 dX5_takeOver_12 rfl fkX5_23 rfl rfl ?_
  refine A_aload_n hE 16 dX5_takeOver_15 rfl rfl ?_
  refine A_get hE 19 dX5_takeOver_16 rfl fkX5_23 rfl rfl ?_
  refine A_callVv hE 22 (c_X3_takeOver 60 60 tp tp2 (nI tl) tl2 htl htl rfl rfl) [20, 21, 32, 33] dX5_takeOver_19 rfl mkX5_34 rfl rfl rfl rfl rfl rfl rfl (Nat.le_of_ble_eq_true rfl) (Nat.le_of_ble_eq_true rfl) rfl (fun h19 g19 hp19 hw19 => ?_)
  obtain rfl := hp19
  obtain rfl := Option.some.inj hw19
  refine A_h (S2 s t0.length (ovr t0.length g0 f0) k0 t1.length (ovr t1.length g1 f1) k1 tl2 (ovr tl2 tp2 tp) wl wt s t0 g0 h0 t1 g1 h1 tl2 tp2 wl2 wt2) rfl ?_
  refine A_aload_n hE 23 dX5_takeOver_22 rfl rfl ?_
  refine A_get hE 26 dX5_takeOver_23 rfl fkX5_27 rfl rfl ?_
  refine A_aload_n hE 27 dX5_takeOver_26 rfl rfl ?_
  refine A_get hE 30 dX5_takeOver_27 rfl fkX5_27 rfl rfl ?_
  refine A_callVv hE 33 (c_X3_takeOver 24 24 wt wt2 (nI wl) wl2 hwl hwl rfl rfl) [22, 23, 34, 35] dX5_takeOver_30 rfl mkX5_34 rfl rfl rfl rfl rfl rfl rfl (Nat.le_of_ble_eq_true rfl) (Nat.le_of_ble_eq_true rfl) rfl (fun h30 g30 hp30 hw30 => ?_)
  obtain rfl := hp30
  obtain rfl := Option.some.inj hw30
  refine A_h (S2 s t0.length (ovr t0.length g0 f0) k0 t1.length (ovr t1.length g1 f1) k1 tl2 (ovr tl2 tp2 tp) wl2 (ovr wl2 wt2 wt) s t0 g0 h0 t1 g1 h1 tl2 tp2 wl2 wt2) rfl ?_
  refine A_vret hE dX5_takeOver_33 rfl
