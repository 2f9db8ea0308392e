abbrev Rs : Type := Int32 × St × (Nat → Int32)
def bad (k : Nat) (s : St) (er : Nat → Int32) : Rs := (-1000000000 - nI k, s, upd er k (er k + 1))
def isH (s : St) (h : Int32) : Prop := 0 ≤ h ∧ h < s 8
def kH (h : Int32) : Nat := h.toNatClampNeg
def homeF (s : St) (er : Nat → Int32) (km : Int32) : Rs := if 0 ≤ km ∧ km ≤ 69 then (if s 8 = 8 then bad 4 s er else (nI (hn s), inS km s, er)) else bad 1 s er
def homeIsF (t0 t1 : Sp) (s : St) (er : Nat → Int32) (h what : Int32) : Rs := if (0 ≤ h ∧ h < s 8) ∧ (0 ≤ what ∧ what ≤ 7) then (if what = 5 then said t0 s h.toNatClampNeg else if what = 6 then behind t1 s h.toNatClampNeg else if what = 7 then blunts s h.toNatClampNeg else its s h.toNatClampNeg what.toNatClampNeg, s, er) else bad 1 s er
def becomeF (s : St) (er : Nat → Int32) (h km : Int32) : Rs := if (0 ≤ h ∧ h < s 8) ∧ (0 ≤ km ∧ km ≤ 69) then (its s h.toNatClampNeg 0, upd (upd s (9 + 5 * h.toNatClampNeg + 0) (km / 10)) (9 + 5 * h.toNatClampNeg + 1) (rm km 10), er) else bad 1 s er
def abv (x : Int32) : Int32 := if x = 4 then 1 else if x = 5 then 2 else 0
def asF (s : St) (er : Nat → Int32) (h kd : Int32) : Rs := if (0 ≤ h ∧ h < s 8) ∧ (0 ≤ kd ∧ kd ≤ 6) then (if kd = 0 ∨ its s h.toNatClampNeg 0 = kd ∨ abv (its s h.toNatClampNeg 0) = kd then (its s h.toNatClampNeg 1, s, er) else bad 5 s er) else bad 1 s er
def pastF (s : St) (er : Nat → Int32) (h v : Int32) : Rs := if (0 ≤ h ∧ h < s 8) ∧ (0 ≤ v ∧ v ≤ 1) then (its s h.toNatClampNeg 4, upd s (9 + 5 * h.toNatClampNeg + 4) v, er) else bad 1 s er
def goesF (s : St) (er : Nat → Int32) (h : Int32) : Rs := if 0 ≤ h ∧ h < s 8 then (s 4, upd s 4 h, er) else bad 1 s er
def setF (s : St) (er : Nat → Int32) (what v : Int32) : Rs := if (0 ≤ what ∧ what ≤ 2) ∧ ((if what = 2 then 1 else 0) ≤ v ∧ v ≤ (if what = 2 then 40 else 99)) then (s (1 + what.toNatClampNeg), upd s (1 + what.toNatClampNeg) v, er) else bad 1 s er
def hearsF (s : St) (er : Nat → Int32) (h v : Int32) : Rs := if (0 ≤ h ∧ h < s 8) ∧ (0 ≤ v ∧ v ≤ 9999) then (its s h.toNatClampNeg 2, upd s (9 + 5 * h.toNatClampNeg + 2) v, er) else bad 1 s er
def lawF (t0 t1 : Sp) (s : St) (er : Nat → Int32) (u a b c : Int32) : Rs := if 0 ≤ u ∧ u ≤ 1 then (if u = 0 then lawV 0 t0 a b c else lawV 1 t1 a b c, s, er) else bad 1 s er
def daysF (t0 t1 : Sp) (s : St) (er : Nat → Int32) (n : Int32) : Rs := if 1 ≤ n ∧ n ≤ 60 then (if 9999 < s 0 + n then bad 3 s er else (dN t0 t1 n.toNatClampNeg s 1, dN t0 t1 n.toNatClampNeg s, er)) else bad 1 s er
def loN (t0 t1 : Sp) : Nat → St → St
  | 0, s => s
  | n + 1, s => loN t0 t1 n (day1 t0 t1 (drawS s))
def looseF (t0 t1 : Sp) (s : St) (er : Nat → Int32) (n : Int32) : Rs := if 1 ≤ n ∧ n ≤ 30 then (if 9999 < s 0 + n then bad 3 s er else (loN t0 t1 n.toNatClampNeg s 1, loN t0 t1 n.toNatClampNeg s, er)) else bad 1 s er
def dayF' (s : St) (er : Nat → Int32) (v : Int32) : Rs := if 0 ≤ v ∧ v ≤ 9999 then (s 0, upd s 0 v, er) else bad 1 s er
def seedF (s : St) (er : Nat → Int32) (v : Int32) : Rs := (s 5, upd s 5 v, er)
def thenV (s : St) (what : Int32) : Int32 := if what = 0 then s 1 else if what = 1 then s 2 else if what = 2 then s 4 else sumH s (hn s)
def thenF (t0 t1 : Sp) (s : St) (er : Nat → Int32) (n what : Int32) : Rs := if (0 ≤ n ∧ n ≤ 60) ∧ (0 ≤ what ∧ what ≤ 3) then (thenV (dN t0 t1 n.toNatClampNeg s) what, s, er) else bad 1 s er
theorem in_eq {s : St} (w : wf s) (h8 : hn s < 8) (km : Int32) : upd (upd (upd (upd (upd (upd s (9 + 5 * hn s + 0) (km / 10)) (9 + 5 * hn s + 1) (rm km 10)) (9 + 5 * hn s + 2) 0) (9 + 5 * hn s + 3) 0) (9 + 5 * hn s + 4) 0) 8 (s 8 + 1) = inS km s := by
  obtain ⟨-, -, -, -, -, b⟩ := w.2.2.2.2.1 (hn s) h8
  obtain ⟨b1, b2, b3⟩ := b (Nat.le_refl _)
  have b1 : s (9 + 5 * hn s + 2) = 0 := b1
  have b2 : s (9 + 5 * hn s + 3) = 0 := b2
  have b3 : s (9 + 5 * hn s + 4) = 0 := b3
  have e8 : s 8 + 1 = nI (hn s + 1) := by rw [w.2.1, nI_1, ]
  unfold inS
  rw [e8]
  funext z
  by_cases z8 : z = 8
  · rw [z8, upd_s, upd_s]
  · rw [upd_n z8, upd_n z8]
    by_cases z4 : z = 9 + 5 * hn s + 4
    · rw [z4, upd_s, upd_n (by omega), upd_n (by omega), b3]
    · rw [upd_n z4]
      by_cases z3 : z = 9 + 5 * hn s + 3
      · rw [z3, upd_s, upd_n (by omega), upd_n (by omega), b2]
      · rw [upd_n z3]
        by_cases z2 : z = 9 + 5 * hn s + 2
        · rw [z2, upd_s, upd_n (by omega), upd_n (by omega), b1]
        · rw [upd_n z2]
theorem upd_hi {s : St} {k z : Nat} {v : Int32} (hk : k < 49) (hz : 49 ≤ z) : upd s k v z = s z := upd_n (by omega)
theorem day_hi {t0 t1 : Sp} {s : St} (w : wf s) {z : Nat} (hz : 49 ≤ z) : day1 t0 t1 s z = s z := by
  have e1 : hearS t0 s z = s z := by
    unfold hearS
    by_cases h : 0 < hn s
    · have ha : atN s < 8 := by have := w.1; rcases w.2.2.2.1 with q | q <;> omega
      rw [if_pos h, upd_hi (by omega) hz, upd_hi (by omega) hz]
    · rw [if_neg h]
  have e2 : ∀ x : St, goS t1 x z = x z := by
    intro x
    unfold goS go2
    split
    · rw [upd_hi (by omega) hz, upd_hi (by omega) hz, upd_hi (by omega) hz]
    · rfl
  have e3 : ∀ x : St, ageS x z = x z := by
    intro x
    unfold ageS
    split
    · rw [upd_hi (by omega) hz, upd_hi (by omega) hz]
    · rw [upd_hi (by omega) hz]
  rw [day1, carS, e3, e2, e1]
theorem dN_hi {t0 t1 : Sp} {z : Nat} (hz : 49 ≤ z) : ∀ (n : Nat) {s : St}, wf s → dN t0 t1 n s z = s z
  | 0, _, _ => rfl
  | n + 1, s, w => by rw [dN, dN_hi hz n (wf_day w), day_hi w hz]
/-- what has been laid aside comes back -/
theorem back_eq {s be s' : St} (h : ∀ z, 49 ≤ z → s' z = s z) : ovr 49 (ovr 49 s be) s' = s := by
  funext z
  unfold ovr
  by_cases hz : z < 49
  · rw [if_pos hz, if_pos hz]
  · rw [if_neg hz, h z (by omega)]

set_option maxRecDepth 100000 in
theorem c_X9_isKm (km : Int32) : AMet yX9_isKm cX9_isKm 1 (some (.boolean)) 1 0 0 [.int km] [] (pI fun r h => r = bI (decide (0 ≤ km ∧ km ≤ 69)) ∧ h = []) := by
  refine AMet.of (by decide +kernel) rfl (fun E ad0 hE => ?_)
  refine A_iload_n hE 1 dX9_isKm_0 rfl rfl ?_
  refine A_iconst hE 2 dX9_isKm_1 rfl (0) rfl ?_
  refine A_bipush hE 4 dX9_isKm_2 rfl (69) (by decide) ?_
  refine A_callSi hE 7 (c_X9_in km 0 69) [] dX9_isKm_4 rfl mkX9_47 rfl rfl rfl rfl rfl rfl (Nat.le_of_ble_eq_true rfl) (Nat.le_of_ble_eq_true rfl) rfl (fun x4 h4 g4 hp4 hw4 => ?_)
  obtain ⟨rfl, rfl⟩ := hp4
  obtain rfl := Option.some.inj hw4
  refine A_zret hE dX9_isKm_7 (bI_or _) ⟨rfl, rfl⟩
set_option maxRecDepth 100000 in
theorem c_X9_home (s K be er st na pi tr bi sz nu as' : Nat → Int32) (im at' op sp us tn sk ip : Int32) (km : Int32) (w : wf s) : AMet yX9_home cX9_home 3 (some (.int)) 2 0 0 [.ref 0, .int km] (MW s K be er st na pi tr bi sz nu as' im at' op sp us tn sk ip) (pI fun x0 hz0 => x0 = (homeF s er km).1 ∧ hz0 = MW (homeF s er km).2.1 K be (homeF s er km).2.2 st na pi tr bi sz nu as' im at' op sp us tn sk ip) := by
  refine AMet.of (by decide +kernel) rfl (fun E ad0 hE => ?_)
  obtain ⟨w1, w2, w3, w4, w5, w6, w7⟩ := id w
  refine A_iload_n hE 1 dX9_home_0 rfl rfl ?_
  refine A_callSi hE 4 (c_X9_isKm km) [] dX9_home_1 rfl mkX9_153 rfl rfl rfl rfl rfl rfl (Nat.le_of_ble_eq_true rfl) (Nat.le_of_ble_eq_true rfl) rfl (fun x1 h1 g1 hp1 hw1 => ?_)
  obtain ⟨rfl, rfl⟩ := hp1
  obtain rfl := Option.some.inj hw1
  refine A_if_ne hE 7 13 dX9_home_4 rfl rfl (fun c4 => ?_) (fun c4 => ?_)
  · have hk := bI_1 c4
    refine A_aload_n hE 14 dX9_home_13 rfl rfl ?_
    refine A_get hE 17 dX9_home_14 rfl fkX9_7 rfl rfl ?_
    refine A_bipush hE 19 dX9_home_17 rfl (8) (by decide) ?_
    refine A_iald hE 20 8 dX9_home_19 rfl rfl rfl (by omega) rfl ?_
    refine A_bipush hE 22 dX9_home_20 rfl (8) (by decide) ?_
    refine A_icmp_ne hE 25 31 dX9_home_22 rfl rfl (fun c22 => ?_) (fun c22 => ?_)
    · have h8 : hn s < 8 := by rcases Nat.lt_or_ge (hn s) 8 with e | e; exact e; exact absurd (by rw [w2, show hn s = 8 by omega]; rfl) c22
      refine A_aload_n hE 32 dX9_home_31 rfl rfl ?_
      refine A_get hE 35 dX9_home_32 rfl fkX9_7 rfl rfl ?_
      refine A_bipush hE 37 dX9_home_35 rfl (8) (by decide) ?_
      refine A_iald hE 38 8 dX9_home_37 rfl rfl rfl (by omega) rfl ?_
      refine A_istore_n hE 39 dX9_home_38 rfl rfl rfl ?_
      refine A_aload_n hE 40 dX9_home_39 rfl rfl ?_
      refine A_iload_n hE 41 dX9_home_40 rfl rfl ?_
      refine A_iconst hE 42 dX9_home_41 rfl (0) rfl ?_
      refine A_iload_n hE 43 dX9_home_42 rfl rfl ?_
      refine A_bipush hE 45 dX9_home_43 rfl (10) (by decide) ?_
      refine A_idiv hE 46 dX9_home_45 rfl (by decide) ?_
      refine A_callVv hE 49 (c_X9_lays1 s K be er st na pi tr bi sz nu as' im at' op sp us tn sk ip (s 8) 0 (hn s) 0 w2 rfl h8 (by omega) (km / 10)) [0, 1, 2, 3, 4, 5, 6, 7, 8, 9, 10, 11, 12] dX9_home_46 rfl mkX9_143 rfl rfl rfl rfl rfl rfl rfl (Nat.le_of_ble_eq_true rfl) (Nat.le_of_ble_eq_true rfl) rfl (fun h46 g46 hp46 hw46 => ?_)
      obtain rfl := hp46
      obtain rfl := Option.some.inj hw46
      refine A_h (MW (upd s (9 + 5 * hn s + 0) (km / 10)) K be er st na pi tr bi sz nu as' im at' op sp us tn sk ip) rfl ?_
      refine A_aload_n hE 50 dX9_home_49 rfl rfl ?_
      refine A_iload_n hE 51 dX9_home_50 rfl rfl ?_
      refine A_iconst hE 52 dX9_home_51 rfl (1) rfl ?_
      refine A_iload_n hE 53 dX9_home_52 rfl rfl ?_
      refine A_bipush hE 55 dX9_home_53 rfl (10) (by decide) ?_
      refine A_irem hE 56 dX9_home_55 rfl (by decide) ?_
      refine A_callVv hE 59 (c_X9_lays1 (upd s (9 + 5 * hn s + 0) (km / 10)) K be er st na pi tr bi sz nu as' im at' op sp us tn sk ip (s 8) 1 (hn s) 1 w2 rfl h8 (by omega) (rm km 10)) [0, 1, 2, 3, 4, 5, 6, 7, 8, 9, 10, 11, 12] dX9_home_56 rfl mkX9_143 rfl rfl rfl rfl rfl rfl rfl (Nat.le_of_ble_eq_true rfl) (Nat.le_of_ble_eq_true rfl) rfl (fun h56 g56 hp56 hw56 => ?_)
      obtain rfl := hp56
      obtain rfl := Option.some.inj hw56
      refine A_h (MW (upd (upd s (9 + 5 * hn s + 0) (km / 10)) (9 + 5 * hn s + 1) (rm km 10)) K be er st na pi tr bi sz nu as' im at' op sp us tn sk ip) rfl ?_
      refine A_aload_n hE 60 dX9_home_59 rfl rfl ?_
      refine A_iload_n hE 61 dX9_home_60 rfl rfl ?_
      refine A_iconst hE 62 dX9_home_61 rfl (2) rfl ?_
      refine A_iconst hE 63 dX9_home_62 rfl (0) rfl ?_
      refine A_callVv hE 66 (c_X9_lays1 (upd (upd s (9 + 5 * hn s + 0) (km / 10)) (9 + 5 * hn s + 1) (rm km 10)) K be er st na pi tr bi sz nu as' im at' op sp us tn sk ip (s 8) 2 (hn s) 2 w2 rfl h8 (by omega) 0) [0, 1, 2, 3, 4, 5, 6, 7, 8, 9, 10, 11, 12] dX9_home_63 rfl mkX9_143 rfl rfl rfl rfl rfl rfl rfl (Nat.le_of_ble_eq_true rfl) (Nat.le_of_ble_eq_true rfl) rfl (fun h63 g63 hp63 hw63 => ?_)
      obtain rfl := hp63
      obtain rfl := Option.some.inj hw63
      refine A_h (MW (upd (upd (upd s (9 + 5 * hn s + 0) (km / 10)) (9 + 5 * hn s + 1) (rm km 10)) (9 + 5 * hn s + 2) 0) K be er st na pi tr bi sz nu as' im at' op sp us tn sk ip) rfl ?_
      refine A_aload_n hE 67 dX9_home_66 rfl rfl ?_
      refine A_iload_n hE 68 dX9_home_67 rfl rfl ?_
      refine A_iconst hE 69 dX9_home_68 rfl (3) rfl ?_
      refine A_iconst hE 70 dX9_home_69 rfl (0) rfl ?_
      refine A_callVv hE 73 (c_X9_lays1 (upd (upd (upd s (9 + 5 * hn s + 0) (km / 10)) (9 + 5 * hn s + 1) (rm km 10)) (9 + 5 * hn s + 2) 0) K be er st na pi tr bi sz nu as' im at' op sp us tn sk ip (s 8) 3 (hn s) 3 w2 rfl h8 (by omega) 0) [0, 1, 2, 3, 4, 5, 6, 7, 8, 9, 10, 11, 12] dX9_home_70 rfl mkX9_143 rfl rfl rfl rfl rfl rfl rfl (Nat.le_of_ble_eq_true rfl) (Nat.le_of_ble_eq_true rfl) rfl (fun h70 g70 hp70 hw70 => ?_)
      obtain rfl := hp70
      obtain rfl := Option.some.inj hw70
      refine A_h (MW (upd (upd (upd (upd s (9 + 5 * hn s + 0) (km / 10)) (9 + 5 * hn s + 1) (rm km 10)) (9 + 5 * hn s + 2) 0) (9 + 5 * hn s + 3) 0) K be er st na pi tr bi sz nu as' im at' op sp us tn sk ip) rfl ?_
      refine A_aload_n hE 74 dX9_home_73 rfl rfl ?_
      refine A_iload_n hE 75 dX9_home_74 rfl rfl ?_
      refine A_iconst hE 76 dX9_home_75 rfl (4) rfl ?_
      refine A_iconst hE 77 dX9_home_76 rfl (0) rfl ?_
      refine A_callVv hE 80 (c_X9_lays1 (upd (upd (upd (upd s (9 + 5 * hn s + 0) (km / 10)) (9 + 5 * hn s + 1) (rm km 10)) (9 + 5 * hn s + 2) 0) (9 + 5 * hn s + 3) 0) K be er st na pi tr bi sz nu as' im at' op sp us tn sk ip (s 8) 4 (hn s) 4 w2 rfl h8 (by omega) 0) [0, 1, 2, 3, 4, 5, 6, 7, 8, 9, 10, 11, 12] dX9_home_77 rfl mkX9_143 rfl rfl rfl rfl rfl rfl rfl (Nat.le_of_ble_eq_true rfl) (Nat.le_of_ble_eq_true rfl) rfl (fun h77 g77 hp77 hw77 => ?_)
      obtain rfl := hp77
      obtain rfl := Option.some.inj hw77
      refine A_h (MW (upd (upd (upd (upd (upd s (9 + 5 * hn s + 0) (km / 10)) (9 + 5 * hn s + 1) (rm km 10)) (9 + 5 * hn s + 2) 0) (9 + 5 * hn s + 3) 0) (9 + 5 * hn s + 4) 0) K be er st na pi tr bi sz nu as' im at' op sp us tn sk ip) rfl ?_
      refine A_aload_n hE 81 dX9_home_80 rfl rfl ?_
      refine A_get hE 84 dX9_home_81 rfl fkX9_7 rfl rfl ?_
      refine A_bipush hE 86 dX9_home_84 rfl (8) (by decide) ?_
      refine A_dup2 hE 87 dX9_home_86 rfl rfl rfl ?_
      refine A_iald hE 88 8 dX9_home_87 rfl rfl rfl (by omega) rfl ?_
      rw [show (upd (upd (upd (upd (upd s (9 + 5 * hn s + 0) (km / 10)) (9 + 5 * hn s + 1) (rm km 10)) (9 + 5 * hn s + 2) 0) (9 + 5 * hn s + 3) 0) (9 + 5 * hn s + 4) 0) 8 = s 8 by rw [upd_lo_hi (by omega), upd_lo_hi (by omega), upd_lo_hi (by omega), upd_lo_hi (by omega), upd_lo_hi (by omega)]]
      refine A_iconst hE 89 dX9_home_88 rfl (1) rfl ?_
      refine A_iadd hE 90 dX9_home_89 rfl ?_
      refine A_iast hE 91 8 dX9_home_90 rfl rfl rfl (by omega) rfl rfl ?_
      refine A_iload_n hE 92 dX9_home_91 rfl rfl ?_
      refine A_iret hE dX9_home_92 ?_
      rw [homeF, if_pos hk, if_neg c22]
      exact ⟨w2, by rw [← in_eq w h8]⟩
    · refine A_aload_n hE 26 dX9_home_25 rfl rfl ?_
      refine A_iconst hE 27 dX9_home_26 rfl (4) rfl ?_
      refine A_callVi hE 30 (c_X9_error s K be er st na pi tr bi sz nu as' im at' op sp us tn sk ip 4 (by omega)) [0, 1, 2, 3, 4, 5, 6, 7, 8, 9, 10, 11, 12] dX9_home_27 rfl mkX9_51 rfl rfl rfl rfl rfl rfl rfl (Nat.le_of_ble_eq_true rfl) (Nat.le_of_ble_eq_true rfl) rfl (fun x27 h27 g27 hp27 hw27 => ?_)
      obtain ⟨rfl, rfl⟩ := hp27
      obtain rfl := Option.some.inj hw27
      refine A_h (MW s K be (upd er 4 (er 4 + 1)) st na pi tr bi sz nu as' im at' op sp us tn sk ip) rfl ?_
      refine A_iret hE dX9_home_30 ?_
      rw [homeF, if_pos hk, if_pos c22]
      exact ⟨rfl, rfl⟩
  · have hk := bI_0 c4
    refine A_aload_n hE 8 dX9_home_7 rfl rfl ?_
    refine A_iconst hE 9 dX9_home_8 rfl (1) rfl ?_
    refine A_callVi hE 12 (c_X9_error s K be er st na pi tr bi sz nu as' im at' op sp us tn sk ip 1 (by omega)) [0, 1, 2, 3, 4, 5, 6, 7, 8, 9, 10, 11, 12] dX9_home_9 rfl mkX9_51 rfl rfl rfl rfl rfl rfl rfl (Nat.le_of_ble_eq_true rfl) (Nat.le_of_ble_eq_true rfl) rfl (fun x9 h9 g9 hp9 hw9 => ?_)
    obtain ⟨rfl, rfl⟩ := hp9
    obtain rfl := Option.some.inj hw9
    refine A_h (MW s K be (upd er 1 (er 1 + 1)) st na pi tr bi sz nu as' im at' op sp us tn sk ip) rfl ?_
    refine A_iret hE dX9_home_12 ?_
    rw [homeF, if_neg hk]
    exact ⟨rfl, rfl⟩
set_option maxRecDepth 100000 in
theorem c_X9_homeIs (s K be er st na pi tr bi sz nu as' : Nat → Int32) (im at' op sp us tn sk ip : Int32) (h what : Int32) (t0 t1 : Sp) (w : wf s) (l0 : MText s 0 t0) (l1 : MText s 1 t1) : AMet yX9_homeIs cX9_homeIs 3 (some (.int)) 4 0 0 [.ref 0, .int h, .int what] (MW s K be er st na pi tr bi sz nu as' im at' op sp us tn sk ip) (pI fun x0 hz0 => x0 = (homeIsF t0 t1 s er h what).1 ∧ ∃ na' pi' : Nat → Int32, hz0 = MW (homeIsF t0 t1 s er h what).2.1 K be (homeIsF t0 t1 s er h what).2.2 st na' pi' tr bi sz nu as' im at' op sp us tn sk ip) := by
  refine AMet.of (by decide +kernel) rfl (fun E ad0 hE => ?_)
  obtain ⟨w1, w2, w3, w4, w5, w6, w7⟩ := id w
  refine A_aload_n hE 1 dX9_homeIs_0 rfl rfl ?_
  refine A_iload_n hE 2 dX9_homeIs_1 rfl rfl ?_
  refine A_callVi hE 5 (c_X9_isHome s K be er st na pi tr bi sz nu as' im at' op sp us tn sk ip h (hn s) w1 w2) [0, 1, 2, 3, 4, 5, 6, 7, 8, 9, 10, 11, 12] dX9_homeIs_2 rfl mkX9_156 rfl rfl rfl rfl rfl rfl rfl (Nat.le_of_ble_eq_true rfl) (Nat.le_of_ble_eq_true rfl) rfl (fun x2 h2 g2 hp2 hw2 => ?_)
  obtain ⟨rfl, rfl⟩ := hp2
  obtain rfl := Option.some.inj hw2
  refine A_h (MW s K be er st na pi tr bi sz nu as' im at' op sp us tn sk ip) rfl ?_
  refine A_if_eq hE 8 18 dX9_homeIs_5 rfl rfl (fun c5 => ?_) (fun c5 => ?_)
  · have hh := bI_0 c5
    refine A_aload_n hE 19 dX9_homeIs_18 rfl rfl ?_
    refine A_iconst hE 20 dX9_homeIs_19 rfl (1) rfl ?_
    refine A_callVi hE 23 (c_X9_error s K be er st na pi tr bi sz nu as' im at' op sp us tn sk ip 1 (by omega)) [0, 1, 2, 3, 4, 5, 6, 7, 8, 9, 10, 11, 12] dX9_homeIs_20 rfl mkX9_51 rfl rfl rfl rfl rfl rfl rfl (Nat.le_of_ble_eq_true rfl) (Nat.le_of_ble_eq_true rfl) rfl (fun x20 h20 g20 hp20 hw20 => ?_)
    obtain ⟨rfl, rfl⟩ := hp20
    obtain rfl := Option.some.inj hw20
    refine A_h (MW s K be (upd er 1 (er 1 + 1)) st na pi tr bi sz nu as' im at' op sp us tn sk ip) rfl ?_
    refine A_iret hE dX9_homeIs_23 ?_
    rw [homeIsF, if_neg (fun z => hh z.1)]
    exact ⟨rfl, na, pi, rfl⟩
  · have hh := bI_1 c5
    have hq := hh
    rw [w2] at hq
    obtain ⟨k, hk, rfl⟩ := iK hq.1 hq.2 (by omega)
    have ek : (nI k).toNatClampNeg = k := nI_clamp (by omega)
    refine A_iload_n hE 9 dX9_homeIs_8 rfl rfl ?_
    refine A_iconst hE 10 dX9_homeIs_9 rfl (0) rfl ?_
    refine A_bipush hE 12 dX9_homeIs_10 rfl (7) (by decide) ?_
    refine A_callSi hE 15 (c_X9_in what 0 7) [] dX9_homeIs_12 rfl mkX9_47 rfl rfl rfl rfl rfl rfl (Nat.le_of_ble_eq_true rfl) (Nat.le_of_ble_eq_true rfl) rfl (fun x12 h12 g12 hp12 hw12 => ?_)
    obtain ⟨rfl, rfl⟩ := hp12
    obtain rfl := Option.some.inj hw12
    refine A_if_ne hE 18 24 dX9_homeIs_15 rfl rfl (fun c15 => ?_) (fun c15 => ?_)
    · have hw := bI_1 c15
      refine A_iload_n hE 25 dX9_homeIs_24 rfl rfl ?_
      refine A_iconst hE 26 dX9_homeIs_25 rfl (5) rfl ?_
      refine A_icmp_ne hE 29 37 dX9_homeIs_26 rfl rfl (fun c26 => ?_) (fun c26 => ?_)
      · refine A_iload_n hE 38 dX9_homeIs_37 rfl rfl ?_
        refine A_bipush hE 40 dX9_homeIs_38 rfl (6) (by decide) ?_
        refine A_icmp_ne hE 43 51 dX9_homeIs_40 rfl rfl (fun c40 => ?_) (fun c40 => ?_)
        · refine A_iload_n hE 52 dX9_homeIs_51 rfl rfl ?_
          refine A_bipush hE 54 dX9_homeIs_52 rfl (7) (by decide) ?_
          refine A_icmp_ne hE 57 65 dX9_homeIs_54 rfl rfl (fun c54 => ?_) (fun c54 => ?_)
          · obtain ⟨j, hj, ej⟩ := iK2 (n := 7) hw.1 hw.2 (by omega)
            have hj5 : j < 5 := by
              rcases (show j < 5 ∨ j = 5 ∨ j = 6 ∨ j = 7 by omega) with z | z | z | z
              · exact z
              · exact absurd (by rw [ej, z]; rfl) c26
              · exact absurd (by rw [ej, z]; rfl) c40
              · exact absurd (by rw [ej, z]; rfl) c54
            refine A_aload_n hE 66 dX9_homeIs_65 rfl rfl ?_
            refine A_iload_n hE 67 dX9_homeIs_66 rfl rfl ?_
            refine A_iload_n hE 68 dX9_homeIs_67 rfl rfl ?_
            refine A_callVi hE 71 (c_X9_its s K be er st na pi tr bi sz nu as' im at' op sp us tn sk ip (nI k) what k j rfl ej (by omega) hj5) [0, 1, 2, 3, 4, 5, 6, 7, 8, 9, 10, 11, 12] dX9_homeIs_68 rfl mkX9_111 rfl rfl rfl rfl rfl rfl rfl (Nat.le_of_ble_eq_true rfl) (Nat.le_of_ble_eq_true rfl) rfl (fun x68 h68 g68 hp68 hw68 => ?_)
            obtain ⟨rfl, rfl⟩ := hp68
            obtain rfl := Option.some.inj hw68
            refine A_h (MW s K be er st na pi tr bi sz nu as' im at' op sp us tn sk ip) rfl ?_
            refine A_iret hE dX9_homeIs_71 ?_
            rw [homeIsF, if_pos ⟨hh, hw⟩, ek, if_neg c26, if_neg c40, if_neg c54, ej, nI_clamp (by omega)]
            exact ⟨rfl, na, pi, rfl⟩
          · refine A_aload_n hE 58 dX9_homeIs_57 rfl rfl ?_
            refine A_iload_n hE 59 dX9_homeIs_58 rfl rfl ?_
            refine A_callVi hE 62 (c_X9_bluntsOf s K be er st na pi tr bi sz nu as' im at' op sp us tn sk ip (nI k) k rfl (by omega) (w5 _ (by omega))) [0, 1, 2, 3, 4, 5, 6, 7, 8, 9, 10, 11, 12] dX9_homeIs_59 rfl mkX9_140 rfl rfl rfl rfl rfl rfl rfl (Nat.le_of_ble_eq_true rfl) (Nat.le_of_ble_eq_true rfl) rfl (fun x59 h59 g59 hp59 hw59 => ?_)
            obtain ⟨rfl, rfl⟩ := hp59
            obtain rfl := Option.some.inj hw59
            refine A_h (MW s K be er st na pi tr bi sz nu as' im at' op sp us tn sk ip) rfl ?_
            refine A_goto hE 71 dX9_homeIs_62 rfl ?_
            refine A_iret hE dX9_homeIs_71 ?_
            rw [homeIsF, if_pos ⟨hh, hw⟩, ek, if_neg c26, if_neg c40, if_pos c54]
            exact ⟨rfl, na, pi, rfl⟩
        · refine A_aload_n hE 44 dX9_homeIs_43 rfl rfl ?_
          refine A_iload_n hE 45 dX9_homeIs_44 rfl rfl ?_
          refine A_callVi hE 48 (c_X9_behindAt s K be er st na pi tr bi sz nu as' im at' op sp us tn sk ip (nI k) k rfl (by omega) (w5 _ (by omega)) t1 l1) [0, 1, 2, 3, 4, 5, 6, 7, 8, 9, 10, 11, 12] dX9_homeIs_45 rfl mkX9_137 rfl rfl rfl rfl rfl rfl rfl (Nat.le_of_ble_eq_true rfl) (Nat.le_of_ble_eq_true rfl) rfl (fun x45 h45 g45 hp45 hw45 => ?_)
          obtain ⟨rfl, na1, pi1, rfl⟩ := hp45
          obtain rfl := Option.some.inj hw45
          refine A_h (MW s K be er st na1 pi1 tr bi sz nu as' im at' op sp us tn sk ip) rfl ?_
          refine A_goto hE 71 dX9_homeIs_48 rfl ?_
          refine A_iret hE dX9_homeIs_71 ?_
          rw [homeIsF, if_pos ⟨hh, hw⟩, ek, if_neg c26, if_pos c40]
          exact ⟨rfl, na1, pi1, rfl⟩
      · refine A_aload_n hE 30 dX9_homeIs_29 rfl rfl ?_
        refine A_iload_n hE 31 dX9_homeIs_30 rfl rfl ?_
        refine A_callVi hE 34 (c_X9_saidAt s K be er st na pi tr bi sz nu as' im at' op sp us tn sk ip (nI k) k rfl (by omega) (w5 _ (by omega)) t0 l0) [0, 1, 2, 3, 4, 5, 6, 7, 8, 9, 10, 11, 12] dX9_homeIs_31 rfl mkX9_134 rfl rfl rfl rfl rfl rfl rfl (Nat.le_of_ble_eq_true rfl) (Nat.le_of_ble_eq_true rfl) rfl (fun x31 h31 g31 hp31 hw31 => ?_)
        obtain ⟨rfl, na1, pi1, rfl⟩ := hp31
        obtain rfl := Option.some.inj hw31
        refine A_h (MW s K be er st na1 pi1 tr bi sz nu as' im at' op sp us tn sk ip) rfl ?_
        refine A_goto hE 71 dX9_homeIs_34 rfl ?_
        refine A_iret hE dX9_homeIs_71 ?_
        rw [homeIsF, if_pos ⟨hh, hw⟩, ek, if_pos c26]
        exact ⟨rfl, na1, pi1, rfl⟩
    · have hw := bI_0 c15
      refine A_aload_n hE 19 dX9_homeIs_18 rfl rfl ?_
      refine A_iconst hE 20 dX9_homeIs_19 rfl (1) rfl ?_
      refine A_callVi hE 23 (c_X9_error s K be er st na pi tr bi sz nu as' im at' op sp us tn sk ip 1 (by omega)) [0, 1, 2, 3, 4, 5, 6, 7, 8, 9, 10, 11, 12] dX9_homeIs_20 rfl mkX9_51 rfl rfl rfl rfl rfl rfl rfl (Nat.le_of_ble_eq_true rfl) (Nat.le_of_ble_eq_true rfl) rfl (fun x20 h20 g20 hp20 hw20 => ?_)
      obtain ⟨rfl, rfl⟩ := hp20
      obtain rfl := Option.some.inj hw20
      refine A_h (MW s K be (upd er 1 (er 1 + 1)) st na pi tr bi sz nu as' im at' op sp us tn sk ip) rfl ?_
      refine A_iret hE dX9_homeIs_23 ?_
      rw [homeIsF, if_neg (fun z => hw z.2)]
      exact ⟨rfl, na, pi, rfl⟩
set_option maxRecDepth 100000 in
theorem c_X9_become (s K be er st na pi tr bi sz nu as' : Nat → Int32) (im at' op sp us tn sk ip : Int32) (h km : Int32) (w : wf s) : AMet yX9_become cX9_become 4 (some (.int)) 2 0 0 [.ref 0, .int h, .int km] (MW s K be er st na pi tr bi sz nu as' im at' op sp us tn sk ip) (pI fun x0 hz0 => x0 = (becomeF s er h km).1 ∧ hz0 = MW (becomeF s er h km).2.1 K be (becomeF s er h km).2.2 st na pi tr bi sz nu as' im at' op sp us tn sk ip) := by
  refine AMet.of (by decide +kernel) rfl (fun E ad0 hE => ?_)
  obtain ⟨w1, w2, w3, w4, w5, w6, w7⟩ := id w
  refine A_aload_n hE 1 dX9_become_0 rfl rfl ?_
  refine A_iload_n hE 2 dX9_become_1 rfl rfl ?_
  refine A_callVi hE 5 (c_X9_isHome s K be er st na pi tr bi sz nu as' im at' op sp us tn sk ip h (hn s) w1 w2) [0, 1, 2, 3, 4, 5, 6, 7, 8, 9, 10, 11, 12] dX9_become_2 rfl mkX9_156 rfl rfl rfl rfl rfl rfl rfl (Nat.le_of_ble_eq_true rfl) (Nat.le_of_ble_eq_true rfl) rfl (fun x2 h2 g2 hp2 hw2 => ?_)
  obtain ⟨rfl, rfl⟩ := hp2
  obtain rfl := Option.some.inj hw2
  refine A_h (MW s K be er st na pi tr bi sz nu as' im at' op sp us tn sk ip) rfl ?_
  refine A_if_eq hE 8 15 dX9_become_5 rfl rfl (fun c5 => ?_) (fun c5 => ?_)
  · have hh := bI_0 c5
    refine A_aload_n hE 16 dX9_become_15 rfl rfl ?_
    refine A_iconst hE 17 dX9_become_16 rfl (1) rfl ?_
    refine A_callVi hE 20 (c_X9_error s K be er st na pi tr bi sz nu as' im at' op sp us tn sk ip 1 (by omega)) [0, 1, 2, 3, 4, 5, 6, 7, 8, 9, 10, 11, 12] dX9_become_17 rfl mkX9_51 rfl rfl rfl rfl rfl rfl rfl (Nat.le_of_ble_eq_true rfl) (Nat.le_of_ble_eq_true rfl) rfl (fun x17 h17 g17 hp17 hw17 => ?_)
    obtain ⟨rfl, rfl⟩ := hp17
    obtain rfl := Option.some.inj hw17
    refine A_h (MW s K be (upd er 1 (er 1 + 1)) st na pi tr bi sz nu as' im at' op sp us tn sk ip) rfl ?_
    refine A_iret hE dX9_become_20 ?_
    rw [becomeF, if_neg (fun z => hh z.1)]
    exact ⟨rfl, rfl⟩
  · have hh := bI_1 c5
    have hq := hh
    rw [w2] at hq
    obtain ⟨k, hk, rfl⟩ := iK hq.1 hq.2 (by omega)
    have ek : (nI k).toNatClampNeg = k := nI_clamp (by omega)
    refine A_iload_n hE 9 dX9_become_8 rfl rfl ?_
    refine A_callSi hE 12 (c_X9_isKm km) [] dX9_become_9 rfl mkX9_153 rfl rfl rfl rfl rfl rfl (Nat.le_of_ble_eq_true rfl) (Nat.le_of_ble_eq_true rfl) rfl (fun x9 h9 g9 hp9 hw9 => ?_)
    obtain ⟨rfl, rfl⟩ := hp9
    obtain rfl := Option.some.inj hw9
    refine A_if_ne hE 15 21 dX9_become_12 rfl rfl (fun c12 => ?_) (fun c12 => ?_)
    · have hw := bI_1 c12
      refine A_aload_n hE 22 dX9_become_21 rfl rfl ?_
      refine A_iload_n hE 23 dX9_become_22 rfl rfl ?_
      refine A_iconst hE 24 dX9_become_23 rfl (0) rfl ?_
      refine A_callVi hE 27 (c_X9_its s K be er st na pi tr bi sz nu as' im at' op sp us tn sk ip (nI k) 0 k 0 rfl rfl (by omega) (by omega)) [0, 1, 2, 3, 4, 5, 6, 7, 8, 9, 10, 11, 12] dX9_become_24 rfl mkX9_111 rfl rfl rfl rfl rfl rfl rfl (Nat.le_of_ble_eq_true rfl) (Nat.le_of_ble_eq_true rfl) rfl (fun x24 h24 g24 hp24 hw24 => ?_)
      obtain ⟨rfl, rfl⟩ := hp24
      obtain rfl := Option.some.inj hw24
      refine A_h (MW s K be er st na pi tr bi sz nu as' im at' op sp us tn sk ip) rfl ?_
      refine A_istore_n hE 28 dX9_become_27 rfl rfl rfl ?_
      refine A_aload_n hE 29 dX9_become_28 rfl rfl ?_
      refine A_iload_n hE 30 dX9_become_29 rfl rfl ?_
      refine A_iconst hE 31 dX9_become_30 rfl (0) rfl ?_
      refine A_iload_n hE 32 dX9_become_31 rfl rfl ?_
      refine A_bipush hE 34 dX9_become_32 rfl (10) (by decide) ?_
      refine A_idiv hE 35 dX9_become_34 rfl (by decide) ?_
      refine A_callVv hE 38 (c_X9_lays1 s K be er st na pi tr bi sz nu as' im at' op sp us tn sk ip (nI k) 0 k 0 rfl rfl (by omega) (by omega) _) [0, 1, 2, 3, 4, 5, 6, 7, 8, 9, 10, 11, 12] dX9_become_35 rfl mkX9_143 rfl rfl rfl rfl rfl rfl rfl (Nat.le_of_ble_eq_true rfl) (Nat.le_of_ble_eq_true rfl) rfl (fun h35 g35 hp35 hw35 => ?_)
      obtain rfl := hp35
      obtain rfl := Option.some.inj hw35
      refine A_h (MW (upd s (9 + 5 * k + 0) (km / 10)) K be er st na pi tr bi sz nu as' im at' op sp us tn sk ip) rfl ?_
      refine A_aload_n hE 39 dX9_become_38 rfl rfl ?_
      refine A_iload_n hE 40 dX9_become_39 rfl rfl ?_
      refine A_iconst hE 41 dX9_become_40 rfl (1) rfl ?_
      refine A_iload_n hE 42 dX9_become_41 rfl rfl ?_
      refine A_bipush hE 44 dX9_become_42 rfl (10) (by decide) ?_
      refine A_irem hE 45 dX9_become_44 rfl (by decide) ?_
      refine A_callVv hE 48 (c_X9_lays1 (upd s (9 + 5 * k + 0) (km / 10)) K be er st na pi tr bi sz nu as' im at' op sp us tn sk ip (nI k) 1 k 1 rfl rfl (by omega) (by omega) _) [0, 1, 2, 3, 4, 5, 6, 7, 8, 9, 10, 11, 12] dX9_become_45 rfl mkX9_143 rfl rfl rfl rfl rfl rfl rfl (Nat.le_of_ble_eq_true rfl) (Nat.le_of_ble_eq_true rfl) rfl (fun h45 g45 hp45 hw45 => ?_)
      obtain rfl := hp45
      obtain rfl := Option.some.inj hw45
      refine A_h (MW (upd (upd s (9 + 5 * k + 0) (km / 10)) (9 + 5 * k + 1) (rm km 10)) K be er st na pi tr bi sz nu as' im at' op sp us tn sk ip) rfl ?_
      refine A_iload_n hE 49 dX9_become_48 rfl rfl ?_
      refine A_iret hE dX9_become_49 ?_
      rw [becomeF, if_pos ⟨hh, hw⟩, ek]
      exact ⟨rfl, rfl⟩
    · have hw := bI_0 c12
      refine A_aload_n hE 16 dX9_become_15 rfl rfl ?_
      refine A_iconst hE 17 dX9_become_16 rfl (1) rfl ?_
      refine A_callVi hE 20 (c_X9_error s K be er st na pi tr bi sz nu as' im at' op sp us tn sk ip 1 (by omega)) [0, 1, 2, 3, 4, 5, 6, 7, 8, 9, 10, 11, 12] dX9_become_17 rfl mkX9_51 rfl rfl rfl rfl rfl rfl rfl (Nat.le_of_ble_eq_true rfl) (Nat.le_of_ble_eq_true rfl) rfl (fun x17 h17 g17 hp17 hw17 => ?_)
      obtain ⟨rfl, rfl⟩ := hp17
      obtain rfl := Option.some.inj hw17
      refine A_h (MW s K be (upd er 1 (er 1 + 1)) st na pi tr bi sz nu as' im at' op sp us tn sk ip) rfl ?_
      refine A_iret hE dX9_become_20 ?_
      rw [becomeF, if_neg (fun z => hw z.2)]
      exact ⟨rfl, rfl⟩
set_option maxRecDepth 100000 in
theorem c_X9_above (x : Int32) : AMet yX9_above cX9_above 1 (some (.int)) 0 0 0 [.int x] [] (pI fun r h => r = abv x ∧ h = []) := by
  refine AMet.of (by decide +kernel) rfl (fun E ad0 hE => ?_)
  refine A_iload_n hE 1 dX9_above_0 rfl rfl ?_
  refine A_iconst hE 2 dX9_above_1 rfl (4) rfl ?_
  refine A_icmp_ne hE 5 9 dX9_above_2 rfl rfl (fun c2 => ?_) (fun c2 => ?_)
  · refine A_iload_n hE 10 dX9_above_9 rfl rfl ?_
    refine A_iconst hE 11 dX9_above_10 rfl (5) rfl ?_
    refine A_icmp_ne hE 14 18 dX9_above_11 rfl rfl (fun c11 => ?_) (fun c11 => ?_)
    · refine A_iconst hE 19 dX9_above_18 rfl (0) rfl ?_
      refine A_iret hE dX9_above_19 ⟨?_, rfl⟩
      rw [abv, if_neg c2, if_neg c11]
    · refine A_iconst hE 15 dX9_above_14 rfl (2) rfl ?_
      refine A_goto hE 19 dX9_above_15 rfl ?_
      refine A_iret hE dX9_above_19 ⟨?_, rfl⟩
      rw [abv, if_neg c2, if_pos c11]
  · refine A_iconst hE 6 dX9_above_5 rfl (1) rfl ?_
    refine A_goto hE 19 dX9_above_6 rfl ?_
    refine A_iret hE dX9_above_19 ⟨?_, rfl⟩
    rw [abv, if_pos c2]
set_option maxRecDepth 100000 in
theorem c_X9_as (s K be er st na pi tr bi sz nu as' : Nat → Int32) (im at' op sp us tn sk ip : Int32) (h kd : Int32) (w : wf s) : AMet yX9_as cX9_as 5 (some (.int)) 2 0 0 [.ref 0, .int h, .int kd] (MW s K be er st na pi tr bi sz nu as' im at' op sp us tn sk ip) (pI fun x0 hz0 => x0 = (asF s er h kd).1 ∧ hz0 = MW (asF s er h kd).2.1 K be (asF s er h kd).2.2 st na pi tr bi sz nu as' im at' op sp us tn sk ip) := by
  refine AMet.of (by decide +kernel) rfl (fun E ad0 hE => ?_)
  obtain ⟨w1, w2, w3, w4, w5, w6, w7⟩ := id w
  refine A_aload_n hE 1 dX9_as_0 rfl rfl ?_
  refine A_iload_n hE 2 dX9_as_1 rfl rfl ?_
  refine A_callVi hE 5 (c_X9_isHome s K be er st na pi tr bi sz nu as' im at' op sp us tn sk ip h (hn s) w1 w2) [0, 1, 2, 3, 4, 5, 6, 7, 8, 9, 10, 11, 12] dX9_as_2 rfl mkX9_156 rfl rfl rfl rfl rfl rfl rfl (Nat.le_of_ble_eq_true rfl) (Nat.le_of_ble_eq_true rfl) rfl (fun x2 h2 g2 hp2 hw2 => ?_)
  obtain ⟨rfl, rfl⟩ := hp2
  obtain rfl := Option.some.inj hw2
  refine A_h (MW s K be er st na pi tr bi sz nu as' im at' op sp us tn sk ip) rfl ?_
  refine A_if_eq hE 8 18 dX9_as_5 rfl rfl (fun c5 => ?_) (fun c5 => ?_)
  · have hh := bI_0 c5
    refine A_aload_n hE 19 dX9_as_18 rfl rfl ?_
    refine A_iconst hE 20 dX9_as_19 rfl (1) rfl ?_
    refine A_callVi hE 23 (c_X9_error s K be er st na pi tr bi sz nu as' im at' op sp us tn sk ip 1 (by omega)) [0, 1, 2, 3, 4, 5, 6, 7, 8, 9, 10, 11, 12] dX9_as_20 rfl mkX9_51 rfl rfl rfl rfl rfl rfl rfl (Nat.le_of_ble_eq_true rfl) (Nat.le_of_ble_eq_true rfl) rfl (fun x20 h20 g20 hp20 hw20 => ?_)
    obtain ⟨rfl, rfl⟩ := hp20
    obtain rfl := Option.some.inj hw20
    refine A_h (MW s K be (upd er 1 (er 1 + 1)) st na pi tr bi sz nu as' im at' op sp us tn sk ip) rfl ?_
    refine A_iret hE dX9_as_23 ?_
    rw [asF, if_neg (fun z => hh z.1)]
    exact ⟨rfl, rfl⟩
  · have hh := bI_1 c5
    have hq := hh
    rw [w2] at hq
    obtain ⟨k, hk, rfl⟩ := iK hq.1 hq.2 (by omega)
    have ek : (nI k).toNatClampNeg = k := nI_clamp (by omega)
    refine A_iload_n hE 9 dX9_as_8 rfl rfl ?_
    refine A_iconst hE 10 dX9_as_9 rfl (0) rfl ?_
    refine A_bipush hE 12 dX9_as_10 rfl (6) (by decide) ?_
    refine A_callSi hE 15 (c_X9_in kd 0 6) [] dX9_as_12 rfl mkX9_47 rfl rfl rfl rfl rfl rfl (Nat.le_of_ble_eq_true rfl) (Nat.le_of_ble_eq_true rfl) rfl (fun x12 h12 g12 hp12 hw12 => ?_)
    obtain ⟨rfl, rfl⟩ := hp12
    obtain rfl := Option.some.inj hw12
    refine A_if_ne hE 18 24 dX9_as_15 rfl rfl (fun c15 => ?_) (fun c15 => ?_)
    · have hw := bI_1 c15
      refine A_aload_n hE 25 dX9_as_24 rfl rfl ?_
      refine A_iload_n hE 26 dX9_as_25 rfl rfl ?_
      refine A_iconst hE 27 dX9_as_26 rfl (0) rfl ?_
      refine A_callVi hE 30 (c_X9_its s K be er st na pi tr bi sz nu as' im at' op sp us tn sk ip (nI k) 0 k 0 rfl rfl (by omega) (by omega)) [0, 1, 2, 3, 4, 5, 6, 7, 8, 9, 10, 11, 12] dX9_as_27 rfl mkX9_111 rfl rfl rfl rfl rfl rfl rfl (Nat.le_of_ble_eq_true rfl) (Nat.le_of_ble_eq_true rfl) rfl (fun x27 h27 g27 hp27 hw27 => ?_)
      obtain ⟨rfl, rfl⟩ := hp27
      obtain rfl := Option.some.inj hw27
      refine A_h (MW s K be er st na pi tr bi sz nu as' im at' op sp us tn sk ip) rfl ?_
      refine A_istore_n hE 31 dX9_as_30 rfl rfl rfl ?_
      refine A_iload_n hE 32 dX9_as_31 rfl rfl ?_
      refine A_if_eq hE 35 48 dX9_as_32 rfl rfl (fun c32 => ?_) (fun c32 => ?_)
      · refine A_iconst hE 49 dX9_as_48 rfl (1) rfl ?_
        refine A_goto hE 53 dX9_as_49 rfl ?_
        refine A_istore hE 55 dX9_as_53 rfl rfl rfl ?_
        refine A_iload hE 57 dX9_as_55 rfl rfl ?_
        refine A_if_eq hE 60 69 dX9_as_57 rfl rfl (fun c57 => absurd c57 (by decide)) (fun c57 => ?_)
        refine A_aload_n hE 61 dX9_as_60 rfl rfl ?_
        refine A_iload_n hE 62 dX9_as_61 rfl rfl ?_
        refine A_iconst hE 63 dX9_as_62 rfl (1) rfl ?_
        refine A_callVi hE 66 (c_X9_its s K be er st na pi tr bi sz nu as' im at' op sp us tn sk ip (nI k) 1 k 1 rfl rfl (by omega) (by omega)) [0, 1, 2, 3, 4, 5, 6, 7, 8, 9, 10, 11, 12] dX9_as_63 rfl mkX9_111 rfl rfl rfl rfl rfl rfl rfl (Nat.le_of_ble_eq_true rfl) (Nat.le_of_ble_eq_true rfl) rfl (fun x63 h63 g63 hp63 hw63 => ?_)
        obtain ⟨rfl, rfl⟩ := hp63
        obtain rfl := Option.some.inj hw63
        refine A_h (MW s K be er st na pi tr bi sz nu as' im at' op sp us tn sk ip) rfl ?_
        refine A_goto hE 74 dX9_as_66 rfl ?_
        refine A_iret hE dX9_as_74 ?_
        rw [asF, if_pos ⟨hh, hw⟩, ek, if_pos (Or.inl c32)]
        exact ⟨rfl, rfl⟩
      · refine A_iload_n hE 36 dX9_as_35 rfl rfl ?_
        refine A_iload_n hE 37 dX9_as_36 rfl rfl ?_
        refine A_icmp_eq hE 40 48 dX9_as_37 rfl rfl (fun c37 => ?_) (fun c37 => ?_)
        · refine A_iconst hE 49 dX9_as_48 rfl (1) rfl ?_
          refine A_goto hE 53 dX9_as_49 rfl ?_
          refine A_istore hE 55 dX9_as_53 rfl rfl rfl ?_
          refine A_iload hE 57 dX9_as_55 rfl rfl ?_
          refine A_if_eq hE 60 69 dX9_as_57 rfl rfl (fun c57 => absurd c57 (by decide)) (fun c57 => ?_)
          refine A_aload_n hE 61 dX9_as_60 rfl rfl ?_
          refine A_iload_n hE 62 dX9_as_61 rfl rfl ?_
          refine A_iconst hE 63 dX9_as_62 rfl (1) rfl ?_
          refine A_callVi hE 66 (c_X9_its s K be er st na pi tr bi sz nu as' im at' op sp us tn sk ip (nI k) 1 k 1 rfl rfl (by omega) (by omega)) [0, 1, 2, 3, 4, 5, 6, 7, 8, 9, 10, 11, 12] dX9_as_63 rfl mkX9_111 rfl rfl rfl rfl rfl rfl rfl (Nat.le_of_ble_eq_true rfl) (Nat.le_of_ble_eq_true rfl) rfl (fun x63 h63 g63 hp63 hw63 => ?_)
          obtain ⟨rfl, rfl⟩ := hp63
          obtain rfl := Option.some.inj hw63
          refine A_h (MW s K be er st na pi tr bi sz nu as' im at' op sp us tn sk ip) rfl ?_
          refine A_goto hE 74 dX9_as_66 rfl ?_
          refine A_iret hE dX9_as_74 ?_
          rw [asF, if_pos ⟨hh, hw⟩, ek, if_pos (Or.inr (Or.inl c37))]
          exact ⟨rfl, rfl⟩
        · refine A_iload_n hE 41 dX9_as_40 rfl rfl ?_
          refine A_callSi hE 44 (c_X9_above (its s k 0)) [] dX9_as_41 rfl mkX9_159 rfl rfl rfl rfl rfl rfl (Nat.le_of_ble_eq_true rfl) (Nat.le_of_ble_eq_true rfl) rfl (fun x41 h41 g41 hp41 hw41 => ?_)
          obtain ⟨rfl, rfl⟩ := hp41
          obtain rfl := Option.some.inj hw41
          refine A_iload_n hE 45 dX9_as_44 rfl rfl ?_
          refine A_icmp_ne hE 48 52 dX9_as_45 rfl rfl (fun c45 => ?_) (fun c45 => ?_)
          · refine A_iconst hE 53 dX9_as_52 rfl (0) rfl ?_
            refine A_istore hE 55 dX9_as_53 rfl rfl rfl ?_
            refine A_iload hE 57 dX9_as_55 rfl rfl ?_
            refine A_if_eq hE 60 69 dX9_as_57 rfl rfl (fun c57 => ?_) (fun c57 => absurd rfl c57)
            refine A_aload_n hE 70 dX9_as_69 rfl rfl ?_
            refine A_iconst hE 71 dX9_as_70 rfl (5) rfl ?_
            refine A_callVi hE 74 (c_X9_error s K be er st na pi tr bi sz nu as' im at' op sp us tn sk ip 5 (by omega)) [0, 1, 2, 3, 4, 5, 6, 7, 8, 9, 10, 11, 12] dX9_as_71 rfl mkX9_51 rfl rfl rfl rfl rfl rfl rfl (Nat.le_of_ble_eq_true rfl) (Nat.le_of_ble_eq_true rfl) rfl (fun x71 h71 g71 hp71 hw71 => ?_)
            obtain ⟨rfl, rfl⟩ := hp71
            obtain rfl := Option.some.inj hw71
            refine A_h (MW s K be (upd er 5 (er 5 + 1)) st na pi tr bi sz nu as' im at' op sp us tn sk ip) rfl ?_
            refine A_iret hE dX9_as_74 ?_
            rw [asF, if_pos ⟨hh, hw⟩, ek, if_neg (fun z => z.elim c32 (fun z => z.elim c37 c45))]
            exact ⟨rfl, rfl⟩
          · refine A_iconst hE 49 dX9_as_48 rfl (1) rfl ?_
            refine A_goto hE 53 dX9_as_49 rfl ?_
            refine A_istore hE 55 dX9_as_53 rfl rfl rfl ?_
            refine A_iload hE 57 dX9_as_55 rfl rfl ?_
            refine A_if_eq hE 60 69 dX9_as_57 rfl rfl (fun c57 => absurd c57 (by decide)) (fun c57 => ?_)
            refine A_aload_n hE 61 dX9_as_60 rfl rfl ?_
            refine A_iload_n hE 62 dX9_as_61 rfl rfl ?_
            refine A_iconst hE 63 dX9_as_62 rfl (1) rfl ?_
            refine A_callVi hE 66 (c_X9_its s K be er st na pi tr bi sz nu as' im at' op sp us tn sk ip (nI k) 1 k 1 rfl rfl (by omega) (by omega)) [0, 1, 2, 3, 4, 5, 6, 7, 8, 9, 10, 11, 12] dX9_as_63 rfl mkX9_111 rfl rfl rfl rfl rfl rfl rfl (Nat.le_of_ble_eq_true rfl) (Nat.le_of_ble_eq_true rfl) rfl (fun x63 h63 g63 hp63 hw63 => ?_)
            obtain ⟨rfl, rfl⟩ := hp63
            obtain rfl := Option.some.inj hw63
            refine A_h (MW s K be er st na pi tr bi sz nu as' im at' op sp us tn sk ip) rfl ?_
            refine A_goto hE 74 dX9_as_66 rfl ?_
            refine A_iret hE dX9_as_74 ?_
            rw [asF, if_pos ⟨hh, hw⟩, ek, if_pos (Or.inr (Or.inr c45))]
            exact ⟨rfl, rfl⟩
    · have hw := bI_0 c15
      refine A_aload_n hE 19 dX9_as_18 rfl rfl ?_
      refine A_iconst hE 20 dX9_as_19 rfl (1) rfl ?_
      refine A_callVi hE 23 (c_X9_error s K be er st na pi tr bi sz nu as' im at' op sp us tn sk ip 1 (by omega)) [0, 1, 2, 3, 4, 5, 6, 7, 8, 9, 10, 11, 12] dX9_as_20 rfl mkX9_51 rfl rfl rfl rfl rfl rfl rfl (Nat.le_of_ble_eq_true rfl) (Nat.le_of_ble_eq_true rfl) rfl (fun x20 h20 g20 hp20 hw20 => ?_)
      obtain ⟨rfl, rfl⟩ := hp20
      obtain rfl := Option.some.inj hw20
      refine A_h (MW s K be (upd er 1 (er 1 + 1)) st na pi tr bi sz nu as' im at' op sp us tn sk ip) rfl ?_
      refine A_iret hE dX9_as_23 ?_
      rw [asF, if_neg (fun z => hw z.2)]
      exact ⟨rfl, rfl⟩
set_option maxRecDepth 100000 in
theorem c_X9_past (s K be er st na pi tr bi sz nu as' : Nat → Int32) (im at' op sp us tn sk ip : Int32) (h v : Int32) (w : wf s) : AMet yX9_past cX9_past 3 (some (.int)) 2 0 0 [.ref 0, .int h, .int v] (MW s K be er st na pi tr bi sz nu as' im at' op sp us tn sk ip) (pI fun x0 hz0 => x0 = (pastF s er h v).1 ∧ hz0 = MW (pastF s er h v).2.1 K be (pastF s er h v).2.2 st na pi tr bi sz nu as' im at' op sp us tn sk ip) := by
  refine AMet.of (by decide +kernel) rfl (fun E ad0 hE => ?_)
  obtain ⟨w1, w2, w3, w4, w5, w6, w7⟩ := id w
  refine A_aload_n hE 1 dX9_past_0 rfl rfl ?_
  refine A_iload_n hE 2 dX9_past_1 rfl rfl ?_
  refine A_callVi hE 5 (c_X9_isHome s K be er st na pi tr bi sz nu as' im at' op sp us tn sk ip h (hn s) w1 w2) [0, 1, 2, 3, 4, 5, 6, 7, 8, 9, 10, 11, 12] dX9_past_2 rfl mkX9_156 rfl rfl rfl rfl rfl rfl rfl (Nat.le_of_ble_eq_true rfl) (Nat.le_of_ble_eq_true rfl) rfl (fun x2 h2 g2 hp2 hw2 => ?_)
  obtain ⟨rfl, rfl⟩ := hp2
  obtain rfl := Option.some.inj hw2
  refine A_h (MW s K be er st na pi tr bi sz nu as' im at' op sp us tn sk ip) rfl ?_
  refine A_if_eq hE 8 33 dX9_past_5 rfl rfl (fun c5 => ?_) (fun c5 => ?_)
  · have hh := bI_0 c5
    refine A_aload_n hE 34 dX9_past_33 rfl rfl ?_
    refine A_iconst hE 35 dX9_past_34 rfl (1) rfl ?_
    refine A_callVi hE 38 (c_X9_error s K be er st na pi tr bi sz nu as' im at' op sp us tn sk ip 1 (by omega)) [0, 1, 2, 3, 4, 5, 6, 7, 8, 9, 10, 11, 12] dX9_past_35 rfl mkX9_51 rfl rfl rfl rfl rfl rfl rfl (Nat.le_of_ble_eq_true rfl) (Nat.le_of_ble_eq_true rfl) rfl (fun x35 h35 g35 hp35 hw35 => ?_)
    obtain ⟨rfl, rfl⟩ := hp35
    obtain rfl := Option.some.inj hw35
    refine A_h (MW s K be (upd er 1 (er 1 + 1)) st na pi tr bi sz nu as' im at' op sp us tn sk ip) rfl ?_
    refine A_iret hE dX9_past_38 ?_
    rw [pastF, if_neg (fun z => hh z.1)]
    exact ⟨rfl, rfl⟩
  · have hh := bI_1 c5
    have hq := hh
    rw [w2] at hq
    obtain ⟨k, hk, rfl⟩ := iK hq.1 hq.2 (by omega)
    have ek : (nI k).toNatClampNeg = k := nI_clamp (by omega)
    refine A_iload_n hE 9 dX9_past_8 rfl rfl ?_
    refine A_iconst hE 10 dX9_past_9 rfl (0) rfl ?_
    refine A_iconst hE 11 dX9_past_10 rfl (1) rfl ?_
    refine A_callSi hE 14 (c_X9_in v 0 1) [] dX9_past_11 rfl mkX9_47 rfl rfl rfl rfl rfl rfl (Nat.le_of_ble_eq_true rfl) (Nat.le_of_ble_eq_true rfl) rfl (fun x11 h11 g11 hp11 hw11 => ?_)
    obtain ⟨rfl, rfl⟩ := hp11
    obtain rfl := Option.some.inj hw11
    refine A_if_eq hE 17 33 dX9_past_14 rfl rfl (fun c14 => ?_) (fun c14 => ?_)
    · have hw := bI_0 c14
      refine A_aload_n hE 34 dX9_past_33 rfl rfl ?_
      refine A_iconst hE 35 dX9_past_34 rfl (1) rfl ?_
      refine A_callVi hE 38 (c_X9_error s K be er st na pi tr bi sz nu as' im at' op sp us tn sk ip 1 (by omega)) [0, 1, 2, 3, 4, 5, 6, 7, 8, 9, 10, 11, 12] dX9_past_35 rfl mkX9_51 rfl rfl rfl rfl rfl rfl rfl (Nat.le_of_ble_eq_true rfl) (Nat.le_of_ble_eq_true rfl) rfl (fun x35 h35 g35 hp35 hw35 => ?_)
      obtain ⟨rfl, rfl⟩ := hp35
      obtain rfl := Option.some.inj hw35
      refine A_h (MW s K be (upd er 1 (er 1 + 1)) st na pi tr bi sz nu as' im at' op sp us tn sk ip) rfl ?_
      refine A_iret hE dX9_past_38 ?_
      rw [pastF, if_neg (fun z => hw z.2)]
      exact ⟨rfl, rfl⟩
    · have hw := bI_1 c14
      refine A_aload_n hE 18 dX9_past_17 rfl rfl ?_
      refine A_bipush hE 20 dX9_past_18 rfl (9) (by decide) ?_
      refine A_iconst hE 21 dX9_past_20 rfl (5) rfl ?_
      refine A_iload_n hE 22 dX9_past_21 rfl rfl ?_
      refine A_imul hE 23 dX9_past_22 rfl ?_
      refine A_iadd hE 24 dX9_past_23 rfl ?_
      refine A_iconst hE 25 dX9_past_24 rfl (4) rfl ?_
      refine A_iadd hE 26 dX9_past_25 rfl ?_
      refine A_iload_n hE 27 dX9_past_26 rfl rfl ?_
      rw [show (9 : Int32) + 5 * nI k + 4 = nI (9 + 5 * k + 4) from ix5 k 4]
      refine A_callVi hE 30 (c_X9_change1 s K be er st na pi tr bi sz nu as' im at' op sp us tn sk ip _ (9 + 5 * k + 4) v rfl (by omega)) [0, 1, 2, 3, 4, 5, 6, 7, 8, 9, 10, 11, 12] dX9_past_27 rfl mkX9_162 rfl rfl rfl rfl rfl rfl rfl (Nat.le_of_ble_eq_true rfl) (Nat.le_of_ble_eq_true rfl) rfl (fun x27 h27 g27 hp27 hw27 => ?_)
      obtain ⟨rfl, rfl⟩ := hp27
      obtain rfl := Option.some.inj hw27
      refine A_h (MW (upd s (9 + 5 * k + 4) v) K be er st na pi tr bi sz nu as' im at' op sp us tn sk ip) rfl ?_
      refine A_goto hE 38 dX9_past_30 rfl ?_
      refine A_iret hE dX9_past_38 ?_
      rw [pastF, if_pos ⟨hh, hw⟩, ek]
      exact ⟨rfl, rfl⟩
set_option maxRecDepth 100000 in
theorem c_X9_hears (s K be er st na pi tr bi sz nu as' : Nat → Int32) (im at' op sp us tn sk ip : Int32) (h v : Int32) (w : wf s) : AMet yX9_hears cX9_hears 3 (some (.int)) 2 0 0 [.ref 0, .int h, .int v] (MW s K be er st na pi tr bi sz nu as' im at' op sp us tn sk ip) (pI fun x0 hz0 => x0 = (hearsF s er h v).1 ∧ hz0 = MW (hearsF s er h v).2.1 K be (hearsF s er h v).2.2 st na pi tr bi sz nu as' im at' op sp us tn sk ip) := by
  refine AMet.of (by decide +kernel) rfl (fun E ad0 hE => ?_)
  obtain ⟨w1, w2, w3, w4, w5, w6, w7⟩ := id w
  refine A_aload_n hE 1 dX9_hears_0 rfl rfl ?_
  refine A_iload_n hE 2 dX9_hears_1 rfl rfl ?_
  refine A_callVi hE 5 (c_X9_isHome s K be er st na pi tr bi sz nu as' im at' op sp us tn sk ip h (hn s) w1 w2) [0, 1, 2, 3, 4, 5, 6, 7, 8, 9, 10, 11, 12] dX9_hears_2 rfl mkX9_156 rfl rfl rfl rfl rfl rfl rfl (Nat.le_of_ble_eq_true rfl) (Nat.le_of_ble_eq_true rfl) rfl (fun x2 h2 g2 hp2 hw2 => ?_)
  obtain ⟨rfl, rfl⟩ := hp2
  obtain rfl := Option.some.inj hw2
  refine A_h (MW s K be er st na pi tr bi sz nu as' im at' op sp us tn sk ip) rfl ?_
  refine A_if_eq hE 8 35 dX9_hears_5 rfl rfl (fun c5 => ?_) (fun c5 => ?_)
  · have hh := bI_0 c5
    refine A_aload_n hE 36 dX9_hears_35 rfl rfl ?_
    refine A_iconst hE 37 dX9_hears_36 rfl (1) rfl ?_
    refine A_callVi hE 40 (c_X9_error s K be er st na pi tr bi sz nu as' im at' op sp us tn sk ip 1 (by omega)) [0, 1, 2, 3, 4, 5, 6, 7, 8, 9, 10, 11, 12] dX9_hears_37 rfl mkX9_51 rfl rfl rfl rfl rfl rfl rfl (Nat.le_of_ble_eq_true rfl) (Nat.le_of_ble_eq_true rfl) rfl (fun x37 h37 g37 hp37 hw37 => ?_)
    obtain ⟨rfl, rfl⟩ := hp37
    obtain rfl := Option.some.inj hw37
    refine A_h (MW s K be (upd er 1 (er 1 + 1)) st na pi tr bi sz nu as' im at' op sp us tn sk ip) rfl ?_
    refine A_iret hE dX9_hears_40 ?_
    rw [hearsF, if_neg (fun z => hh z.1)]
    exact ⟨rfl, rfl⟩
  · have hh := bI_1 c5
    have hq := hh
    rw [w2] at hq
    obtain ⟨k, hk, rfl⟩ := iK hq.1 hq.2 (by omega)
    have ek : (nI k).toNatClampNeg = k := nI_clamp (by omega)
    refine A_iload_n hE 9 dX9_hears_8 rfl rfl ?_
    refine A_iconst hE 10 dX9_hears_9 rfl (0) rfl ?_
    refine A_sipush hE 13 dX9_hears_10 rfl (9999) (by decide) ?_
    refine A_callSi hE 16 (c_X9_in v 0 9999) [] dX9_hears_13 rfl mkX9_47 rfl rfl rfl rfl rfl rfl (Nat.le_of_ble_eq_true rfl) (Nat.le_of_ble_eq_true rfl) rfl (fun x13 h13 g13 hp13 hw13 => ?_)
    obtain ⟨rfl, rfl⟩ := hp13
    obtain rfl := Option.some.inj hw13
    refine A_if_eq hE 19 35 dX9_hears_16 rfl rfl (fun c16 => ?_) (fun c16 => ?_)
    · have hw := bI_0 c16
      refine A_aload_n hE 36 dX9_hears_35 rfl rfl ?_
      refine A_iconst hE 37 dX9_hears_36 rfl (1) rfl ?_
      refine A_callVi hE 40 (c_X9_error s K be er st na pi tr bi sz nu as' im at' op sp us tn sk ip 1 (by omega)) [0, 1, 2, 3, 4, 5, 6, 7, 8, 9, 10, 11, 12] dX9_hears_37 rfl mkX9_51 rfl rfl rfl rfl rfl rfl rfl (Nat.le_of_ble_eq_true rfl) (Nat.le_of_ble_eq_true rfl) rfl (fun x37 h37 g37 hp37 hw37 => ?_)
      obtain ⟨rfl, rfl⟩ := hp37
      obtain rfl := Option.some.inj hw37
      refine A_h (MW s K be (upd er 1 (er 1 + 1)) st na pi tr bi sz nu as' im at' op sp us tn sk ip) rfl ?_
      refine A_iret hE dX9_hears_40 ?_
      rw [hearsF, if_neg (fun z => hw z.2)]
      exact ⟨rfl, rfl⟩
    · have hw := bI_1 c16
      refine A_aload_n hE 20 dX9_hears_19 rfl rfl ?_
      refine A_bipush hE 22 dX9_hears_20 rfl (9) (by decide) ?_
      refine A_iconst hE 23 dX9_hears_22 rfl (5) rfl ?_
      refine A_iload_n hE 24 dX9_hears_23 rfl rfl ?_
      refine A_imul hE 25 dX9_hears_24 rfl ?_
      refine A_iadd hE 26 dX9_hears_25 rfl ?_
      refine A_iconst hE 27 dX9_hears_26 rfl (2) rfl ?_
      refine A_iadd hE 28 dX9_hears_27 rfl ?_
      refine A_iload_n hE 29 dX9_hears_28 rfl rfl ?_
      rw [show (9 : Int32) + 5 * nI k + 2 = nI (9 + 5 * k + 2) from ix5 k 2]
      refine A_callVi hE 32 (c_X9_change1 s K be er st na pi tr bi sz nu as' im at' op sp us tn sk ip _ (9 + 5 * k + 2) v rfl (by omega)) [0, 1, 2, 3, 4, 5, 6, 7, 8, 9, 10, 11, 12] dX9_hears_29 rfl mkX9_162 rfl rfl rfl rfl rfl rfl rfl (Nat.le_of_ble_eq_true rfl) (Nat.le_of_ble_eq_true rfl) rfl (fun x29 h29 g29 hp29 hw29 => ?_)
      obtain ⟨rfl, rfl⟩ := hp29
      obtain rfl := Option.some.inj hw29
      refine A_h (MW (upd s (9 + 5 * k + 2) v) K be er st na pi tr bi sz nu as' im at' op sp us tn sk ip) rfl ?_
      refine A_goto hE 40 dX9_hears_32 rfl ?_
      refine A_iret hE dX9_hears_40 ?_
      rw [hearsF, if_pos ⟨hh, hw⟩, ek]
      exact ⟨rfl, rfl⟩
set_option maxRecDepth 100000 in
theorem c_X9_goes (s K be er st na pi tr bi sz nu as' : Nat → Int32) (im at' op sp us tn sk ip : Int32) (h : Int32) (w : wf s) : AMet yX9_goes cX9_goes 2 (some (.int)) 2 0 0 [.ref 0, .int h] (MW s K be er st na pi tr bi sz nu as' im at' op sp us tn sk ip) (pI fun x0 hz0 => x0 = (goesF s er h).1 ∧ hz0 = MW (goesF s er h).2.1 K be (goesF s er h).2.2 st na pi tr bi sz nu as' im at' op sp us tn sk ip) := by
  refine AMet.of (by decide +kernel) rfl (fun E ad0 hE => ?_)
  obtain ⟨w1, w2, w3, w4, w5, w6, w7⟩ := id w
  refine A_aload_n hE 1 dX9_goes_0 rfl rfl ?_
  refine A_iload_n hE 2 dX9_goes_1 rfl rfl ?_
  refine A_callVi hE 5 (c_X9_isHome s K be er st na pi tr bi sz nu as' im at' op sp us tn sk ip h (hn s) w1 w2) [0, 1, 2, 3, 4, 5, 6, 7, 8, 9, 10, 11, 12] dX9_goes_2 rfl mkX9_156 rfl rfl rfl rfl rfl rfl rfl (Nat.le_of_ble_eq_true rfl) (Nat.le_of_ble_eq_true rfl) rfl (fun x2 h2 g2 hp2 hw2 => ?_)
  obtain ⟨rfl, rfl⟩ := hp2
  obtain rfl := Option.some.inj hw2
  refine A_h (MW s K be er st na pi tr bi sz nu as' im at' op sp us tn sk ip) rfl ?_
  refine A_if_eq hE 8 17 dX9_goes_5 rfl rfl (fun c5 => ?_) (fun c5 => ?_)
  · have hh := bI_0 c5
    refine A_aload_n hE 18 dX9_goes_17 rfl rfl ?_
    refine A_iconst hE 19 dX9_goes_18 rfl (1) rfl ?_
    refine A_callVi hE 22 (c_X9_error s K be er st na pi tr bi sz nu as' im at' op sp us tn sk ip 1 (by omega)) [0, 1, 2, 3, 4, 5, 6, 7, 8, 9, 10, 11, 12] dX9_goes_19 rfl mkX9_51 rfl rfl rfl rfl rfl rfl rfl (Nat.le_of_ble_eq_true rfl) (Nat.le_of_ble_eq_true rfl) rfl (fun x19 h19 g19 hp19 hw19 => ?_)
    obtain ⟨rfl, rfl⟩ := hp19
    obtain rfl := Option.some.inj hw19
    refine A_h (MW s K be (upd er 1 (er 1 + 1)) st na pi tr bi sz nu as' im at' op sp us tn sk ip) rfl ?_
    refine A_iret hE dX9_goes_22 ?_
    rw [goesF, if_neg hh]
    exact ⟨rfl, rfl⟩
  · have hh := bI_1 c5
    refine A_aload_n hE 9 dX9_goes_8 rfl rfl ?_
    refine A_iconst hE 10 dX9_goes_9 rfl (4) rfl ?_
    refine A_iload_n hE 11 dX9_goes_10 rfl rfl ?_
    refine A_callVi hE 14 (c_X9_change1 s K be er st na pi tr bi sz nu as' im at' op sp us tn sk ip 4 4 h rfl (by omega)) [0, 1, 2, 3, 4, 5, 6, 7, 8, 9, 10, 11, 12] dX9_goes_11 rfl mkX9_162 rfl rfl rfl rfl rfl rfl rfl (Nat.le_of_ble_eq_true rfl) (Nat.le_of_ble_eq_true rfl) rfl (fun x11 h11 g11 hp11 hw11 => ?_)
    obtain ⟨rfl, rfl⟩ := hp11
    obtain rfl := Option.some.inj hw11
    refine A_h (MW (upd s 4 h) K be er st na pi tr bi sz nu as' im at' op sp us tn sk ip) rfl ?_
    refine A_goto hE 22 dX9_goes_14 rfl ?_
    refine A_iret hE dX9_goes_22 ?_
    rw [goesF, if_pos hh]
    exact ⟨rfl, rfl⟩
set_option maxRecDepth 100000 in
theorem c_X9_day (s K be er st na pi tr bi sz nu as' : Nat → Int32) (im at' op sp us tn sk ip : Int32) (v : Int32) : AMet yX9_day cX9_day 2 (some (.int)) 2 0 0 [.ref 0, .int v] (MW s K be er st na pi tr bi sz nu as' im at' op sp us tn sk ip) (pI fun x0 hz0 => x0 = (dayF' s er v).1 ∧ hz0 = MW (dayF' s er v).2.1 K be (dayF' s er v).2.2 st na pi tr bi sz nu as' im at' op sp us tn sk ip) := by
  refine AMet.of (by decide +kernel) rfl (fun E ad0 hE => ?_)
  refine A_iload_n hE 1 dX9_day_0 rfl rfl ?_
  refine A_iconst hE 2 dX9_day_1 rfl (0) rfl ?_
  refine A_sipush hE 5 dX9_day_2 rfl (9999) (by decide) ?_
  refine A_callSi hE 8 (c_X9_in v 0 9999) [] dX9_day_5 rfl mkX9_47 rfl rfl rfl rfl rfl rfl (Nat.le_of_ble_eq_true rfl) (Nat.le_of_ble_eq_true rfl) rfl (fun x5 h5 g5 hp5 hw5 => ?_)
  obtain ⟨rfl, rfl⟩ := hp5
  obtain rfl := Option.some.inj hw5
  refine A_if_eq hE 11 20 dX9_day_8 rfl rfl (fun c8 => ?_) (fun c8 => ?_)
  · have hh := bI_0 c8
    refine A_aload_n hE 21 dX9_day_20 rfl rfl ?_
    refine A_iconst hE 22 dX9_day_21 rfl (1) rfl ?_
    refine A_callVi hE 25 (c_X9_error s K be er st na pi tr bi sz nu as' im at' op sp us tn sk ip 1 (by omega)) [0, 1, 2, 3, 4, 5, 6, 7, 8, 9, 10, 11, 12] dX9_day_22 rfl mkX9_51 rfl rfl rfl rfl rfl rfl rfl (Nat.le_of_ble_eq_true rfl) (Nat.le_of_ble_eq_true rfl) rfl (fun x22 h22 g22 hp22 hw22 => ?_)
    obtain ⟨rfl, rfl⟩ := hp22
    obtain rfl := Option.some.inj hw22
    refine A_h (MW s K be (upd er 1 (er 1 + 1)) st na pi tr bi sz nu as' im at' op sp us tn sk ip) rfl ?_
    refine A_iret hE dX9_day_25 ?_
    rw [dayF', if_neg hh]
    exact ⟨rfl, rfl⟩
  · have hh := bI_1 c8
    refine A_aload_n hE 12 dX9_day_11 rfl rfl ?_
    refine A_iconst hE 13 dX9_day_12 rfl (0) rfl ?_
    refine A_iload_n hE 14 dX9_day_13 rfl rfl ?_
    refine A_callVi hE 17 (c_X9_change1 s K be er st na pi tr bi sz nu as' im at' op sp us tn sk ip 0 0 v rfl (by omega)) [0, 1, 2, 3, 4, 5, 6, 7, 8, 9, 10, 11, 12] dX9_day_14 rfl mkX9_162 rfl rfl rfl rfl rfl rfl rfl (Nat.le_of_ble_eq_true rfl) (Nat.le_of_ble_eq_true rfl) rfl (fun x14 h14 g14 hp14 hw14 => ?_)
    obtain ⟨rfl, rfl⟩ := hp14
    obtain rfl := Option.some.inj hw14
    refine A_h (MW (upd s 0 v) K be er st na pi tr bi sz nu as' im at' op sp us tn sk ip) rfl ?_
    refine A_goto hE 25 dX9_day_17 rfl ?_
    refine A_iret hE dX9_day_25 ?_
    rw [dayF', if_pos hh]
    exact ⟨rfl, rfl⟩
set_option maxRecDepth 100000 in
theorem c_X9_seed (s K be er st na pi tr bi sz nu as' : Nat → Int32) (im at' op sp us tn sk ip : Int32) (v : Int32) : AMet yX9_seed cX9_seed 2 (some (.int)) 2 0 0 [.ref 0, .int v] (MW s K be er st na pi tr bi sz nu as' im at' op sp us tn sk ip) (pI fun x0 hz0 => x0 = (seedF s er v).1 ∧ hz0 = MW (seedF s er v).2.1 K be (seedF s er v).2.2 st na pi tr bi sz nu as' im at' op sp us tn sk ip) := by
  refine AMet.of (by decide +kernel) rfl (fun E ad0 hE => ?_)
  refine A_aload_n hE 1 dX9_seed_0 rfl rfl ?_
  refine A_iconst hE 2 dX9_seed_1 rfl (5) rfl ?_
  refine A_iload_n hE 3 dX9_seed_2 rfl rfl ?_
  refine A_callVi hE 6 (c_X9_change1 s K be er st na pi tr bi sz nu as' im at' op sp us tn sk ip 5 5 v rfl (by omega)) [0, 1, 2, 3, 4, 5, 6, 7, 8, 9, 10, 11, 12] dX9_seed_3 rfl mkX9_162 rfl rfl rfl rfl rfl rfl rfl (Nat.le_of_ble_eq_true rfl) (Nat.le_of_ble_eq_true rfl) rfl (fun x3 h3 g3 hp3 hw3 => ?_)
  obtain ⟨rfl, rfl⟩ := hp3
  obtain rfl := Option.some.inj hw3
  refine A_h (MW (upd s 5 v) K be er st na pi tr bi sz nu as' im at' op sp us tn sk ip) rfl ?_
  refine A_iret hE dX9_seed_6 ⟨rfl, rfl⟩
set_option maxRecDepth 100000 in
theorem c_X9_days (s K be er st na pi tr bi sz nu as' : Nat → Int32) (im at' op sp us tn sk ip : Int32) (n : Int32) (t0 t1 : Sp) (w : wf s) (l0 : MText s 0 t0) (l1 : MText s 1 t1) : AMet yX9_days cX9_days 2 (some (.int)) 6 0 0 [.ref 0, .int n] (MW s K be er st na pi tr bi sz nu as' im at' op sp us tn sk ip) (pI fun x0 hz0 => x0 = (daysF t0 t1 s er n).1 ∧ ∃ na' pi' : Nat → Int32, hz0 = MW (daysF t0 t1 s er n).2.1 K be (daysF t0 t1 s er n).2.2 st na' pi' tr bi sz nu as' im at' op sp us tn sk ip) := by
  refine AMet.of (by decide +kernel) rfl (fun E ad0 hE => ?_)
  refine A_iload_n hE 1 dX9_days_0 rfl rfl ?_
  refine A_iconst hE 2 dX9_days_1 rfl (1) rfl ?_
  refine A_bipush hE 4 dX9_days_2 rfl (60) (by decide) ?_
  refine A_callSi hE 7 (c_X9_in n 1 60) [] dX9_days_4 rfl mkX9_47 rfl rfl rfl rfl rfl rfl (Nat.le_of_ble_eq_true rfl) (Nat.le_of_ble_eq_true rfl) rfl (fun x4 h4 g4 hp4 hw4 => ?_)
  obtain ⟨rfl, rfl⟩ := hp4
  obtain rfl := Option.some.inj hw4
  refine A_if_ne hE 10 16 dX9_days_7 rfl rfl (fun c7 => ?_) (fun c7 => ?_)
  · have hh := bI_1 c7
    obtain ⟨k, hk, rfl⟩ := iK2 (n := 60) (Int32.le_trans (show (0 : Int32) ≤ 1 by decide) hh.1) hh.2 (by omega)
    have ek : (nI k).toNatClampNeg = k := nI_clamp (by omega)
    refine A_aload_n hE 17 dX9_days_16 rfl rfl ?_
    refine A_get hE 20 dX9_days_17 rfl fkX9_7 rfl rfl ?_
    refine A_iconst hE 21 dX9_days_20 rfl (0) rfl ?_
    refine A_iald hE 22 0 dX9_days_21 rfl rfl rfl (by omega) rfl ?_
    refine A_iload_n hE 23 dX9_days_22 rfl rfl ?_
    refine A_iadd hE 24 dX9_days_23 rfl ?_
    refine A_sipush hE 27 dX9_days_24 rfl (9999) (by decide) ?_
    refine A_icmp_le hE 30 36 dX9_days_27 rfl rfl (fun c27 => ?_) (fun c27 => ?_)
    · refine A_aload_n hE 37 dX9_days_36 rfl rfl ?_
      refine A_iload_n hE 38 dX9_days_37 rfl rfl ?_
      refine A_callVv hE 41 (c_X9_goesOn s K be er st na pi tr bi sz nu as' im at' op sp us tn sk ip t0 t1 k (by omega) w l0 l1) [0, 1, 2, 3, 4, 5, 6, 7, 8, 9, 10, 11, 12] dX9_days_38 rfl mkX9_165 rfl rfl rfl rfl rfl rfl rfl (Nat.le_of_ble_eq_true rfl) (Nat.le_of_ble_eq_true rfl) rfl (fun h38 g38 hp38 hw38 => ?_)
      obtain ⟨na1, pi1, rfl⟩ := hp38
      obtain rfl := Option.some.inj hw38
      refine A_h (MW (dN t0 t1 k s) K be er st na1 pi1 tr bi sz nu as' im at' op sp us tn sk ip) rfl ?_
      refine A_aload_n hE 42 dX9_days_41 rfl rfl ?_
      refine A_get hE 45 dX9_days_42 rfl fkX9_7 rfl rfl ?_
      refine A_iconst hE 46 dX9_days_45 rfl (1) rfl ?_
      refine A_iald hE 47 1 dX9_days_46 rfl rfl rfl (by omega) rfl ?_
      refine A_iret hE dX9_days_47 ?_
      rw [daysF, if_pos hh, if_neg (iN c27), ek]
      exact ⟨rfl, na1, pi1, rfl⟩
    · refine A_aload_n hE 31 dX9_days_30 rfl rfl ?_
      refine A_iconst hE 32 dX9_days_31 rfl (3) rfl ?_
      refine A_callVi hE 35 (c_X9_error s K be er st na pi tr bi sz nu as' im at' op sp us tn sk ip 3 (by omega)) [0, 1, 2, 3, 4, 5, 6, 7, 8, 9, 10, 11, 12] dX9_days_32 rfl mkX9_51 rfl rfl rfl rfl rfl rfl rfl (Nat.le_of_ble_eq_true rfl) (Nat.le_of_ble_eq_true rfl) rfl (fun x32 h32 g32 hp32 hw32 => ?_)
      obtain ⟨rfl, rfl⟩ := hp32
      obtain rfl := Option.some.inj hw32
      refine A_h (MW s K be (upd er 3 (er 3 + 1)) st na pi tr bi sz nu as' im at' op sp us tn sk ip) rfl ?_
      refine A_iret hE dX9_days_35 ?_
      rw [daysF, if_pos hh, if_pos (iG c27)]
      exact ⟨rfl, na, pi, rfl⟩
  · have hh := bI_0 c7
    refine A_aload_n hE 11 dX9_days_10 rfl rfl ?_
    refine A_iconst hE 12 dX9_days_11 rfl (1) rfl ?_
    refine A_callVi hE 15 (c_X9_error s K be er st na pi tr bi sz nu as' im at' op sp us tn sk ip 1 (by omega)) [0, 1, 2, 3, 4, 5, 6, 7, 8, 9, 10, 11, 12] dX9_days_12 rfl mkX9_51 rfl rfl rfl rfl rfl rfl rfl (Nat.le_of_ble_eq_true rfl) (Nat.le_of_ble_eq_true rfl) rfl (fun x12 h12 g12 hp12 hw12 => ?_)
    obtain ⟨rfl, rfl⟩ := hp12
    obtain rfl := Option.some.inj hw12
    refine A_h (MW s K be (upd er 1 (er 1 + 1)) st na pi tr bi sz nu as' im at' op sp us tn sk ip) rfl ?_
    refine A_iret hE dX9_days_15 ?_
    rw [daysF, if_neg hh]
    exact ⟨rfl, na, pi, rfl⟩
set_option maxRecDepth 100000 in
theorem c_X9_law (s K be er st na pi tr bi sz nu as' : Nat → Int32) (im at' op sp us tn sk ip : Int32) (u a b c : Int32) (t0 t1 : Sp) (l0 : MText s 0 t0) (l1 : MText s 1 t1) : AMet yX9_law cX9_law 5 (some (.int)) 3 0 0 [.ref 0, .int u, .int a, .int b, .int c] (MW s K be er st na pi tr bi sz nu as' im at' op sp us tn sk ip) (pI fun x0 hz0 => x0 = (lawF t0 t1 s er u a b c).1 ∧ ∃ na' pi' : Nat → Int32, hz0 = MW (lawF t0 t1 s er u a b c).2.1 K be (lawF t0 t1 s er u a b c).2.2 st na' pi' tr bi sz nu as' im at' op sp us tn sk ip) := by
  refine AMet.of (by decide +kernel) rfl (fun E ad0 hE => ?_)
  refine A_iload_n hE 1 dX9_law_0 rfl rfl ?_
  refine A_iconst hE 2 dX9_law_1 rfl (0) rfl ?_
  refine A_iconst hE 3 dX9_law_2 rfl (1) rfl ?_
  refine A_callSi hE 6 (c_X9_in u 0 1) [] dX9_law_3 rfl mkX9_47 rfl rfl rfl rfl rfl rfl (Nat.le_of_ble_eq_true rfl) (Nat.le_of_ble_eq_true rfl) rfl (fun x3 h3 g3 hp3 hw3 => ?_)
  obtain ⟨rfl, rfl⟩ := hp3
  obtain rfl := Option.some.inj hw3
  refine A_if_eq hE 9 21 dX9_law_6 rfl rfl (fun c6 => ?_) (fun c6 => ?_)
  · have hh := bI_0 c6
    refine A_aload_n hE 22 dX9_law_21 rfl rfl ?_
    refine A_iconst hE 23 dX9_law_22 rfl (1) rfl ?_
    refine A_callVi hE 26 (c_X9_error s K be er st na pi tr bi sz nu as' im at' op sp us tn sk ip 1 (by omega)) [0, 1, 2, 3, 4, 5, 6, 7, 8, 9, 10, 11, 12] dX9_law_23 rfl mkX9_51 rfl rfl rfl rfl rfl rfl rfl (Nat.le_of_ble_eq_true rfl) (Nat.le_of_ble_eq_true rfl) rfl (fun x23 h23 g23 hp23 hw23 => ?_)
    obtain ⟨rfl, rfl⟩ := hp23
    obtain rfl := Option.some.inj hw23
    refine A_h (MW s K be (upd er 1 (er 1 + 1)) st na pi tr bi sz nu as' im at' op sp us tn sk ip) rfl ?_
    refine A_iret hE dX9_law_26 ?_
    rw [lawF, if_neg hh]
    exact ⟨rfl, na, pi, rfl⟩
  · have hh := bI_1 c6
    obtain ⟨k, hk, rfl⟩ := iK2 (n := 1) hh.1 hh.2 (by omega)
    obtain rfl | rfl : k = 0 ∨ k = 1 := by omega
    · refine A_aload_n hE 10 dX9_law_9 rfl rfl ?_
      refine A_iload_n hE 11 dX9_law_10 rfl rfl ?_
      refine A_iload_n hE 12 dX9_law_11 rfl rfl ?_
      refine A_iload_n hE 13 dX9_law_12 rfl rfl ?_
      refine A_iload hE 15 dX9_law_13 rfl rfl ?_
      refine A_callVi hE 18 (c_givenBy0 s K be er st na pi tr bi sz nu as' im at' op sp us tn sk ip t0 a b c l0) [0, 1, 2, 3, 4, 5, 6, 7, 8, 9, 10, 11, 12] dX9_law_15 rfl mkX9_127 rfl rfl rfl rfl rfl rfl rfl (Nat.le_of_ble_eq_true rfl) (Nat.le_of_ble_eq_true rfl) rfl (fun x15 h15 g15 hp15 hw15 => ?_)
      obtain ⟨rfl, na1, pi1, rfl⟩ := hp15
      obtain rfl := Option.some.inj hw15
      refine A_h (MW s K be er st na1 pi1 tr bi sz nu as' im at' op sp us tn sk ip) rfl ?_
      refine A_goto hE 26 dX9_law_18 rfl ?_
      refine A_iret hE dX9_law_26 ?_
      rw [lawF, if_pos hh, if_pos (show nI 0 = 0 from rfl)]
      exact ⟨rfl, na1, pi1, rfl⟩
    · refine A_aload_n hE 10 dX9_law_9 rfl rfl ?_
      refine A_iload_n hE 11 dX9_law_10 rfl rfl ?_
      refine A_iload_n hE 12 dX9_law_11 rfl rfl ?_
      refine A_iload_n hE 13 dX9_law_12 rfl rfl ?_
      refine A_iload hE 15 dX9_law_13 rfl rfl ?_
      refine A_callVi hE 18 (c_givenBy1 s K be er st na pi tr bi sz nu as' im at' op sp us tn sk ip t1 a b c l1) [0, 1, 2, 3, 4, 5, 6, 7, 8, 9, 10, 11, 12] dX9_law_15 rfl mkX9_127 rfl rfl rfl rfl rfl rfl rfl (Nat.le_of_ble_eq_true rfl) (Nat.le_of_ble_eq_true rfl) rfl (fun x15 h15 g15 hp15 hw15 => ?_)
      obtain ⟨rfl, na1, pi1, rfl⟩ := hp15
      obtain rfl := Option.some.inj hw15
      refine A_h (MW s K be er st na1 pi1 tr bi sz nu as' im at' op sp us tn sk ip) rfl ?_
      refine A_goto hE 26 dX9_law_18 rfl ?_
      refine A_iret hE dX9_law_26 ?_
      rw [lawF, if_pos hh, if_neg (by decide)]
      exact ⟨rfl, na1, pi1, rfl⟩
set_option maxRecDepth 100000 in
theorem c_X9_then (s K be er st na pi tr bi sz nu as' : Nat → Int32) (im at' op sp us tn sk ip : Int32) (n what : Int32) (t0 t1 : Sp) (w : wf s) (l0 : MText s 0 t0) (l1 : MText s 1 t1) : AMet yX9_then cX9_then 4 (some (.int)) 6 0 0 [.ref 0, .int n, .int what] (MW s K be er st na pi tr bi sz nu as' im at' op sp us tn sk ip) (pI fun x0 hz0 => x0 = (thenF t0 t1 s er n what).1 ∧ ∃ be' na' pi' : Nat → Int32, hz0 = MW (thenF t0 t1 s er n what).2.1 K be' (thenF t0 t1 s er n what).2.2 st na' pi' tr bi sz nu as' im at' op sp us tn sk ip) := by
  refine AMet.of (by decide +kernel) rfl (fun E ad0 hE => ?_)
  refine A_iload_n hE 1 dX9_then_0 rfl rfl ?_
  refine A_iconst hE 2 dX9_then_1 rfl (0) rfl ?_
  refine A_bipush hE 4 dX9_then_2 rfl (60) (by decide) ?_
  refine A_callSi hE 7 (c_X9_in n 0 60) [] dX9_then_4 rfl mkX9_47 rfl rfl rfl rfl rfl rfl (Nat.le_of_ble_eq_true rfl) (Nat.le_of_ble_eq_true rfl) rfl (fun x4 h4 g4 hp4 hw4 => ?_)
  obtain ⟨rfl, rfl⟩ := hp4
  obtain rfl := Option.some.inj hw4
  refine A_if_eq hE 10 19 dX9_then_7 rfl rfl (fun c7 => ?_) (fun c7 => ?_)
  · have hh := bI_0 c7
    refine A_aload_n hE 20 dX9_then_19 rfl rfl ?_
    refine A_iconst hE 21 dX9_then_20 rfl (1) rfl ?_
    refine A_callVi hE 24 (c_X9_error s K be er st na pi tr bi sz nu as' im at' op sp us tn sk ip 1 (by omega)) [0, 1, 2, 3, 4, 5, 6, 7, 8, 9, 10, 11, 12] dX9_then_21 rfl mkX9_51 rfl rfl rfl rfl rfl rfl rfl (Nat.le_of_ble_eq_true rfl) (Nat.le_of_ble_eq_true rfl) rfl (fun x21 h21 g21 hp21 hw21 => ?_)
    obtain ⟨rfl, rfl⟩ := hp21
    obtain rfl := Option.some.inj hw21
    refine A_h (MW s K be (upd er 1 (er 1 + 1)) st na pi tr bi sz nu as' im at' op sp us tn sk ip) rfl ?_
    refine A_iret hE dX9_then_24 ?_
    rw [thenF, if_neg (fun z => hh z.1)]
    exact ⟨rfl, be, na, pi, rfl⟩
  · have hh := bI_1 c7
    obtain ⟨k, hk, rfl⟩ := iK2 (n := 60) hh.1 hh.2 (by omega)
    have ek : (nI k).toNatClampNeg = k := nI_clamp (by omega)
    refine A_iload_n hE 11 dX9_then_10 rfl rfl ?_
    refine A_iconst hE 12 dX9_then_11 rfl (0) rfl ?_
    refine A_iconst hE 13 dX9_then_12 rfl (3) rfl ?_
    refine A_callSi hE 16 (c_X9_in what 0 3) [] dX9_then_13 rfl mkX9_47 rfl rfl rfl rfl rfl rfl (Nat.le_of_ble_eq_true rfl) (Nat.le_of_ble_eq_true rfl) rfl (fun x13 h13 g13 hp13 hw13 => ?_)
    obtain ⟨rfl, rfl⟩ := hp13
    obtain rfl := Option.some.inj hw13
    refine A_if_ne hE 19 25 dX9_then_16 rfl rfl (fun c16 => ?_) (fun c16 => ?_)
    · have hw := bI_1 c16
      refine A_aload_n hE 26 dX9_then_25 rfl rfl ?_
      refine A_callVv hE 29 (c_X9_saves s K be er st na pi tr bi sz nu as' im at' op sp us tn sk ip) [0, 1, 2, 3, 4, 5, 6, 7, 8, 9, 10, 11, 12] dX9_then_26 rfl mkX9_170 rfl rfl rfl rfl rfl rfl rfl (Nat.le_of_ble_eq_true rfl) (Nat.le_of_ble_eq_true rfl) rfl (fun h26 g26 hp26 hw26 => ?_)
      obtain rfl := hp26
      obtain rfl := Option.some.inj hw26
      refine A_h (MW s K (ovr 49 s be) er st na pi tr bi sz nu as' im at' op sp us tn sk ip) rfl ?_
      refine A_aload_n hE 30 dX9_then_29 rfl rfl ?_
      refine A_iload_n hE 31 dX9_then_30 rfl rfl ?_
      refine A_callVv hE 34 (c_X9_goesOn s K (ovr 49 s be) er st na pi tr bi sz nu as' im at' op sp us tn sk ip t0 t1 k (by omega) w l0 l1) [0, 1, 2, 3, 4, 5, 6, 7, 8, 9, 10, 11, 12] dX9_then_31 rfl mkX9_165 rfl rfl rfl rfl rfl rfl rfl (Nat.le_of_ble_eq_true rfl) (Nat.le_of_ble_eq_true rfl) rfl (fun h31 g31 hp31 hw31 => ?_)
      obtain ⟨na1, pi1, rfl⟩ := hp31
      obtain rfl := Option.some.inj hw31
      refine A_h (MW (dN t0 t1 k s) K (ovr 49 s be) er st na1 pi1 tr bi sz nu as' im at' op sp us tn sk ip) rfl ?_
      refine A_iload_n hE 35 dX9_then_34 rfl rfl ?_
      refine A_if_ne hE 38 47 dX9_then_35 rfl rfl (fun c35 => ?_) (fun c35 => ?_)
      · refine A_iload_n hE 48 dX9_then_47 rfl rfl ?_
        refine A_iconst hE 49 dX9_then_48 rfl (1) rfl ?_
        refine A_icmp_ne hE 52 61 dX9_then_49 rfl rfl (fun c49 => ?_) (fun c49 => ?_)
        · refine A_iload_n hE 62 dX9_then_61 rfl rfl ?_
          refine A_iconst hE 63 dX9_then_62 rfl (2) rfl ?_
          refine A_icmp_ne hE 66 75 dX9_then_63 rfl rfl (fun c63 => ?_) (fun c63 => ?_)
          · refine A_aload_n hE 76 dX9_then_75 rfl rfl ?_
            refine A_callVi hE 79 (c_X9_heardAll (dN t0 t1 k s) K (ovr 49 s be) er st na1 pi1 tr bi sz nu as' im at' op sp us tn sk ip (wf_dN k w)) [0, 1, 2, 3, 4, 5, 6, 7, 8, 9, 10, 11, 12] dX9_then_76 rfl mkX9_173 rfl rfl rfl rfl rfl rfl rfl (Nat.le_of_ble_eq_true rfl) (Nat.le_of_ble_eq_true rfl) rfl (fun x76 h76 g76 hp76 hw76 => ?_)
            obtain ⟨rfl, rfl⟩ := hp76
            obtain rfl := Option.some.inj hw76
            refine A_h (MW (dN t0 t1 k s) K (ovr 49 s be) er st na1 pi1 tr bi sz nu as' im at' op sp us tn sk ip) rfl ?_
            refine A_istore_n hE 80 dX9_then_79 rfl rfl rfl ?_
            refine A_aload_n hE 81 dX9_then_80 rfl rfl ?_
            refine A_callVv hE 84 (c_X9_putsBack (dN t0 t1 k s) K (ovr 49 s be) er st na1 pi1 tr bi sz nu as' im at' op sp us tn sk ip) [0, 1, 2, 3, 4, 5, 6, 7, 8, 9, 10, 11, 12] dX9_then_81 rfl mkX9_176 rfl rfl rfl rfl rfl rfl rfl (Nat.le_of_ble_eq_true rfl) (Nat.le_of_ble_eq_true rfl) rfl (fun h81 g81 hp81 hw81 => ?_)
            obtain rfl := hp81
            obtain rfl := Option.some.inj hw81
            refine A_h (MW s K (ovr 49 s be) er st na1 pi1 tr bi sz nu as' im at' op sp us tn sk ip) (by rw [back_eq (fun z hz => dN_hi hz k w)]; rfl) ?_
            refine A_iload_n hE 85 dX9_then_84 rfl rfl ?_
            refine A_iret hE dX9_then_85 ?_
            rw [thenF, if_pos ⟨hh, hw⟩, ek, thenV, if_neg c35, if_neg c49, if_neg c63]
            exact ⟨rfl, _, na1, pi1, rfl⟩
          · refine A_aload_n hE 67 dX9_then_66 rfl rfl ?_
            refine A_get hE 70 dX9_then_67 rfl fkX9_7 rfl rfl ?_
            refine A_iconst hE 71 dX9_then_70 rfl (4) rfl ?_
            refine A_iald hE 72 4 dX9_then_71 rfl rfl rfl (by omega) rfl ?_
            refine A_goto hE 79 dX9_then_72 rfl ?_
            refine A_istore_n hE 80 dX9_then_79 rfl rfl rfl ?_
            refine A_aload_n hE 81 dX9_then_80 rfl rfl ?_
            refine A_callVv hE 84 (c_X9_putsBack (dN t0 t1 k s) K (ovr 49 s be) er st na1 pi1 tr bi sz nu as' im at' op sp us tn sk ip) [0, 1, 2, 3, 4, 5, 6, 7, 8, 9, 10, 11, 12] dX9_then_81 rfl mkX9_176 rfl rfl rfl rfl rfl rfl rfl (Nat.le_of_ble_eq_true rfl) (Nat.le_of_ble_eq_true rfl) rfl (fun h81 g81 hp81 hw81 => ?_)
            obtain rfl := hp81
            obtain rfl := Option.some.inj hw81
            refine A_h (MW s K (ovr 49 s be) er st na1 pi1 tr bi sz nu as' im at' op sp us tn sk ip) (by rw [back_eq (fun z hz => dN_hi hz k w)]; rfl) ?_
            refine A_iload_n hE 85 dX9_then_84 rfl rfl ?_
            refine A_iret hE dX9_then_85 ?_
            rw [thenF, if_pos ⟨hh, hw⟩, ek, thenV, if_neg c35, if_neg c49, if_pos c63]
            exact ⟨rfl, _, na1, pi1, rfl⟩
        · refine A_aload_n hE 53 dX9_then_52 rfl rfl ?_
          refine A_get hE 56 dX9_then_53 rfl fkX9_7 rfl rfl ?_
          refine A_iconst hE 57 dX9_then_56 rfl (2) rfl ?_
          refine A_iald hE 58 2 dX9_then_57 rfl rfl rfl (by omega) rfl ?_
          refine A_goto hE 79 dX9_then_58 rfl ?_
          refine A_istore_n hE 80 dX9_then_79 rfl rfl rfl ?_
          refine A_aload_n hE 81 dX9_then_80 rfl rfl ?_
          refine A_callVv hE 84 (c_X9_putsBack (dN t0 t1 k s) K (ovr 49 s be) er st na1 pi1 tr bi sz nu as' im at' op sp us tn sk ip) [0, 1, 2, 3, 4, 5, 6, 7, 8, 9, 10, 11, 12] dX9_then_81 rfl mkX9_176 rfl rfl rfl rfl rfl rfl rfl (Nat.le_of_ble_eq_true rfl) (Nat.le_of_ble_eq_true rfl) rfl (fun h81 g81 hp81 hw81 => ?_)
          obtain rfl := hp81
          obtain rfl := Option.some.inj hw81
          refine A_h (MW s K (ovr 49 s be) er st na1 pi1 tr bi sz nu as' im at' op sp us tn sk ip) (by rw [back_eq (fun z hz => dN_hi hz k w)]; rfl) ?_
          refine A_iload_n hE 85 dX9_then_84 rfl rfl ?_
          refine A_iret hE dX9_then_85 ?_
          rw [thenF, if_pos ⟨hh, hw⟩, ek, thenV, if_neg c35, if_pos c49]
          exact ⟨rfl, _, na1, pi1, rfl⟩
      · refine A_aload_n hE 39 dX9_then_38 rfl rfl ?_
        refine A_get hE 42 dX9_then_39 rfl fkX9_7 rfl rfl ?_
        refine A_iconst hE 43 dX9_then_42 rfl (1) rfl ?_
        refine A_iald hE 44 1 dX9_then_43 rfl rfl rfl (by omega) rfl ?_
        refine A_goto hE 79 dX9_then_44 rfl ?_
        refine A_istore_n hE 80 dX9_then_79 rfl rfl rfl ?_
        refine A_aload_n hE 81 dX9_then_80 rfl rfl ?_
        refine A_callVv hE 84 (c_X9_putsBack (dN t0 t1 k s) K (ovr 49 s be) er st na1 pi1 tr bi sz nu as' im at' op sp us tn sk ip) [0, 1, 2, 3, 4, 5, 6, 7, 8, 9, 10, 11, 12] dX9_then_81 rfl mkX9_176 rfl rfl rfl rfl rfl rfl rfl (Nat.le_of_ble_eq_true rfl) (Nat.le_of_ble_eq_true rfl) rfl (fun h81 g81 hp81 hw81 => ?_)
        obtain rfl := hp81
        obtain rfl := Option.some.inj hw81
        refine A_h (MW s K (ovr 49 s be) er st na1 pi1 tr bi sz nu as' im at' op sp us tn sk ip) (by rw [back_eq (fun z hz => dN_hi hz k w)]; rfl) ?_
        refine A_iload_n hE 85 dX9_then_84 rfl rfl ?_
        refine A_iret hE dX9_then_85 ?_
        rw [thenF, if_pos ⟨hh, hw⟩, ek, thenV, if_pos c35]
        exact ⟨rfl, _, na1, pi1, rfl⟩
    · have hw := bI_0 c16
      refine A_aload_n hE 20 dX9_then_19 rfl rfl ?_
      refine A_iconst hE 21 dX9_then_20 rfl (1) rfl ?_
      refine A_callVi hE 24 (c_X9_error s K be er st na pi tr bi sz nu as' im at' op sp us tn sk ip 1 (by omega)) [0, 1, 2, 3, 4, 5, 6, 7, 8, 9, 10, 11, 12] dX9_then_21 rfl mkX9_51 rfl rfl rfl rfl rfl rfl rfl (Nat.le_of_ble_eq_true rfl) (Nat.le_of_ble_eq_true rfl) rfl (fun x21 h21 g21 hp21 hw21 => ?_)
      obtain ⟨rfl, rfl⟩ := hp21
      obtain rfl := Option.some.inj hw21
      refine A_h (MW s K be (upd er 1 (er 1 + 1)) st na pi tr bi sz nu as' im at' op sp us tn sk ip) rfl ?_
      refine A_iret hE dX9_then_24 ?_
      rw [thenF, if_neg (fun z => hw z.2)]
      exact ⟨rfl, be, na, pi, rfl⟩
