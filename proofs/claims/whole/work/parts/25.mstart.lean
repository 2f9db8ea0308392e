theorem upd_hi' {s : St} {k : Nat} {v : Int32} (hk : k < 49) {z : Nat} (hz : 49 ≤ z) : upd s k v z = s z := upd_hi hk hz
theorem sw_hi {s : St} {a b j z : Nat} (ha : a < 8) (hb : b < 8) (hj : j < 5) (hz : 49 ≤ z) : sw1 s a b j z = s z := by
  unfold sw1
  rw [upd_n (by omega), upd_n (by omega)]
theorem swS_hi {s : St} {a b z : Nat} (ha : a < 8) (hb : b < 8) (hz : 49 ≤ z) : swS a b s z = s z := by
  unfold swS
  rw [sw_hi ha hb (by omega) hz, sw_hi ha hb (by omega) hz, sw_hi ha hb (by omega) hz, sw_hi ha hb (by omega) hz, sw_hi ha hb (by omega) hz]
theorem MText.eqv {s s' : St} {u : Nat} {ss : Sp} (h : ∀ z, 49 ≤ z → s' z = s z) (m : MText s u ss) : MText s' u ss := by
  obtain ⟨h1, h2, h3⟩ := m
  refine ⟨h1, ?_, fun i hi => ?_⟩
  · rw [h _ (by omega)]; exact h2
  · rw [h _ (by omega), h _ (by omega)]; exact h3 i hi
def sw0 (s : St) (a b : Nat) : Nat → Nat → St
  | 0, _ => s
  | m + 1, j => sw0 (sw1 s a b j) a b m (j + 1)
theorem sw0_5 (s : St) (a b : Nat) : sw0 s a b 5 0 = swS a b s := rfl
def swapF (t0 t1 : Sp) (s : St) (er : Nat → Int32) (n what : Int32) : Rs := if (0 ≤ n ∧ n ≤ 40) ∧ (0 ≤ what ∧ what ≤ 1) then (if (swO t0 t1 s n.toNatClampNeg (hn s) 0 (-1, sumN t0 t1 n.toNatClampNeg s)).1 < 0 then bad 2 s er else (if what = 0 then (swO t0 t1 s n.toNatClampNeg (hn s) 0 (-1, sumN t0 t1 n.toNatClampNeg s)).1 else (swO t0 t1 s n.toNatClampNeg (hn s) 0 (-1, sumN t0 t1 n.toNatClampNeg s)).2, s, er)) else bad 1 s er

set_option maxRecDepth 100000 in
theorem c_X9_startFor (s K be er st na pi tr bi sz nu as' : Nat → Int32) (im at' op sp us tn sk ip : Int32) (h n what : Int32) (t0 t1 : Sp) (w : wf s) (l0 : MText s 0 t0) (l1 : MText s 1 t1) : AMet yX9_startFor cX9_startFor 8 (some (.int)) 6 0 0 [.ref 0, .int h, .int n, .int what] (MW s K be er st na pi tr bi sz nu as' im at' op sp us tn sk ip) (pI fun x0 hz0 => x0 = (startF t0 t1 s er h n what).1 ∧ ∃ be' na' pi' : Nat → Int32, hz0 = MW (startF t0 t1 s er h n what).2.1 K be' (startF t0 t1 s er h n what).2.2 st na' pi' tr bi sz nu as' im at' op sp us tn sk ip) := by
  refine AMet.of (by decide +kernel) rfl (fun E ad0 hE => ?_)
  obtain ⟨w1, w2, w3, w4, w5, w6, w7⟩ := id w
  refine A_aload_n hE 1 dX9_startFor_0 rfl rfl ?_
  refine A_iload_n hE 2 dX9_startFor_1 rfl rfl ?_
  refine A_callVi hE 5 (c_X9_isHome s K be er st na pi tr bi sz nu as' im at' op sp us tn sk ip h (hn s) w1 w2) [0, 1, 2, 3, 4, 5, 6, 7, 8, 9, 10, 11, 12] dX9_startFor_2 rfl mkX9_156 rfl rfl rfl rfl rfl rfl rfl (Nat.le_of_ble_eq_true rfl) (Nat.le_of_ble_eq_true rfl) rfl (fun x2 h2 g2 hp2 hw2 => ?_)
  obtain ⟨rfl, rfl⟩ := hp2
  obtain rfl := Option.some.inj hw2
  refine A_h (MW s K be er st na pi tr bi sz nu as' im at' op sp us tn sk ip) rfl ?_
  refine A_if_eq hE 8 16 dX9_startFor_5 rfl rfl (fun c5 => ?_) (fun c5 => ?_)
  · have hh := bI_0 c5
    refine A_aload_n hE 17 dX9_startFor_16 rfl rfl ?_
    refine A_iconst hE 18 dX9_startFor_17 rfl (1) rfl ?_
    refine A_callVi hE 21 (c_X9_error s K be er st na pi tr bi sz nu as' im at' op sp us tn sk ip 1 (by omega)) [0, 1, 2, 3, 4, 5, 6, 7, 8, 9, 10, 11, 12] dX9_startFor_18 rfl mkX9_51 rfl rfl rfl rfl rfl rfl rfl (Nat.le_of_ble_eq_true rfl) (Nat.le_of_ble_eq_true rfl) rfl (fun x18 h18 g18 hp18 hw18 => ?_)
    obtain ⟨rfl, rfl⟩ := hp18
    obtain rfl := Option.some.inj hw18
    refine A_h (MW s K be (upd er 1 (er 1 + 1)) st na pi tr bi sz nu as' im at' op sp us tn sk ip) rfl ?_
    refine A_iret hE dX9_startFor_21 ?_
    rw [startF, if_neg (fun z => hh z.1)]
    exact ⟨rfl, be, na, pi, rfl⟩
  · have hh := bI_1 c5
    have hq := hh
    rw [w2] at hq
    obtain ⟨k, hk, rfl⟩ := iK hq.1 hq.2 (by omega)
    have ek : (nI k).toNatClampNeg = k := nI_clamp (by omega)
    refine A_iload_n hE 9 dX9_startFor_8 rfl rfl ?_
    refine A_iload_n hE 10 dX9_startFor_9 rfl rfl ?_
    refine A_callSi hE 13 (c_X9_isAsked n what) [] dX9_startFor_10 rfl mkX9_179 rfl rfl rfl rfl rfl rfl (Nat.le_of_ble_eq_true rfl) (Nat.le_of_ble_eq_true rfl) rfl (fun x10 h10 g10 hp10 hw10 => ?_)
    obtain ⟨rfl, rfl⟩ := hp10
    obtain rfl := Option.some.inj hw10
    refine A_if_ne hE 16 22 dX9_startFor_13 rfl rfl (fun c13 => ?_) (fun c13 => ?_)
    · have hv := bI_1 c13
      obtain ⟨j, hkj, rfl⟩ := iK2 (n := 40) hv.1.1 hv.1.2 (by omega)
      have ej : (nI j).toNatClampNeg = j := nI_clamp (by omega)
      refine A_iconst hE 23 dX9_startFor_22 rfl (0) rfl ?_
      refine A_istore hE 25 dX9_startFor_23 rfl rfl rfl ?_
      refine A_iconst hE 26 dX9_startFor_25 rfl (-1) rfl ?_
      refine A_istore hE 28 dX9_startFor_26 rfl rfl rfl ?_
      refine A_aload_n hE 29 dX9_startFor_28 rfl rfl ?_
      refine A_callVv hE 32 (c_X9_saves s K be er st na pi tr bi sz nu as' im at' op sp us tn sk ip) [0, 1, 2, 3, 4, 5, 6, 7, 8, 9, 10, 11, 12] dX9_startFor_29 rfl mkX9_170 rfl rfl rfl rfl rfl rfl rfl (Nat.le_of_ble_eq_true rfl) (Nat.le_of_ble_eq_true rfl) rfl (fun h29 g29 hp29 hw29 => ?_)
      obtain rfl := hp29
      obtain rfl := Option.some.inj hw29
      refine A_h (MW s K (ovr 49 s be) er st na pi tr bi sz nu as' im at' op sp us tn sk ip) rfl ?_
      refine A_iconst hE 33 dX9_startFor_32 rfl (0) rfl ?_
      refine A_istore hE 35 dX9_startFor_33 rfl rfl rfl ?_
      have loop : ∀ (m a : Nat) (q : Int32 × Int32) (na pi : Nat → Int32), a + m = hn s → ssM t0 t1 s k j (hn s) 0 (0, -1) = ssM t0 t1 s k j m a q → AW E (rmD 6 0 0) 8 (QM E ad0 13 0 0 (pI fun x0 hz0 => x0 = (startF t0 t1 s er (nI k) (nI j) what).1 ∧ ∃ be' na' pi' : Nat → Int32, hz0 = MW (startF t0 t1 s er (nI k) (nI j) what).2.1 K be' (startF t0 t1 s er (nI k) (nI j) what).2.2 st na' pi' tr bi sz nu as' im at' op sp us tn sk ip)) ad0 13 0 0 35 [(0, .ref 0), (1, .int (nI k)), (2, .int (nI j)), (3, .int what), (4, .int q.1), (5, .int q.2), (6, .int (nI a))] [] (MW s K (ovr 49 s be) er st na pi tr bi sz nu as' im at' op sp us tn sk ip) := by
        intro m
        induction m with
        | zero =>
          intro a q na pi ha hx
          obtain rfl : a = hn s := by omega
          refine A_iload hE 37 dX9_startFor_35 rfl rfl ?_
          refine A_aload_n hE 38 dX9_startFor_37 rfl rfl ?_
          refine A_get hE 41 dX9_startFor_38 rfl fkX9_7 rfl rfl ?_
          refine A_bipush hE 43 dX9_startFor_41 rfl (8) (by decide) ?_
          refine A_iald hE 44 8 dX9_startFor_43 rfl rfl rfl (by omega) rfl ?_
          refine A_icmp_ge hE 47 110 dX9_startFor_44 rfl rfl (fun c44 => ?_) (fun c44 => absurd (by rw [w2]; exact nI_le (Nat.le_refl _) (by omega)) c44)
          refine A_iload_n hE 111 dX9_startFor_110 rfl rfl ?_
          refine A_if_ne hE 114 119 dX9_startFor_111 rfl rfl (fun c111 => ?_) (fun c111 => ?_)
          · refine A_iload hE 121 dX9_startFor_119 rfl rfl ?_
            refine A_iret hE dX9_startFor_121 ?_
            rw [startF, if_pos ⟨hh, hv⟩, ek, ej, hx, ssM, if_neg c111]
            exact ⟨rfl, _, na, pi, rfl⟩
          · refine A_iload hE 116 dX9_startFor_114 rfl rfl ?_
            refine A_goto hE 121 dX9_startFor_116 rfl ?_
            refine A_iret hE dX9_startFor_121 ?_
            rw [startF, if_pos ⟨hh, hv⟩, ek, ej, hx, ssM, if_pos c111]
            exact ⟨rfl, _, na, pi, rfl⟩
        | succ m ih =>
          intro a q na pi ha hx
          have hlt : a < hn s := by omega
          refine A_iload hE 37 dX9_startFor_35 rfl rfl ?_
          refine A_aload_n hE 38 dX9_startFor_37 rfl rfl ?_
          refine A_get hE 41 dX9_startFor_38 rfl fkX9_7 rfl rfl ?_
          refine A_bipush hE 43 dX9_startFor_41 rfl (8) (by decide) ?_
          refine A_iald hE 44 8 dX9_startFor_43 rfl rfl rfl (by omega) rfl ?_
          refine A_icmp_ge hE 47 110 dX9_startFor_44 rfl rfl (fun c44 => absurd c44 (by rw [w2]; exact nI_ge hlt (by omega))) (fun c44 => ?_)
          refine A_aload_n hE 48 dX9_startFor_47 rfl rfl ?_
          refine A_get hE 51 dX9_startFor_48 rfl fkX9_7 rfl rfl ?_
          refine A_iconst hE 52 dX9_startFor_51 rfl (4) rfl ?_
          refine A_iload hE 54 dX9_startFor_52 rfl rfl ?_
          refine A_iast hE 55 4 dX9_startFor_54 rfl rfl rfl (by omega) rfl rfl ?_
          refine A_aload_n hE 56 dX9_startFor_55 rfl rfl ?_
          refine A_iload_n hE 57 dX9_startFor_56 rfl rfl ?_
          refine A_callVv hE 60 (c_X9_goesOn (upd s 4 (nI a)) K (ovr 49 s be) er st na pi tr bi sz nu as' im at' op sp us tn sk ip t0 t1 j (by omega) (wf_4 w hlt) (l0.lo (by omega)) (l1.lo (by omega))) [0, 1, 2, 3, 4, 5, 6, 7, 8, 9, 10, 11, 12] dX9_startFor_57 rfl mkX9_165 rfl rfl rfl rfl rfl rfl rfl (Nat.le_of_ble_eq_true rfl) (Nat.le_of_ble_eq_true rfl) rfl (fun h57 g57 hp57 hw57 => ?_)
          obtain ⟨na1, pi1, rfl⟩ := hp57
          obtain rfl := Option.some.inj hw57
          refine A_h (MW (dN t0 t1 j (upd s 4 (nI a))) K (ovr 49 s be) er st na1 pi1 tr bi sz nu as' im at' op sp us tn sk ip) rfl ?_
          refine A_aload_n hE 61 dX9_startFor_60 rfl rfl ?_
          refine A_iload_n hE 62 dX9_startFor_61 rfl rfl ?_
          refine A_iconst hE 63 dX9_startFor_62 rfl (2) rfl ?_
          refine A_callVi hE 66 (c_X9_its (dN t0 t1 j (upd s 4 (nI a))) K (ovr 49 s be) er st na1 pi1 tr bi sz nu as' im at' op sp us tn sk ip (nI k) 2 k 2 rfl rfl (by omega) (by omega)) [0, 1, 2, 3, 4, 5, 6, 7, 8, 9, 10, 11, 12] dX9_startFor_63 rfl mkX9_111 rfl rfl rfl rfl rfl rfl rfl (Nat.le_of_ble_eq_true rfl) (Nat.le_of_ble_eq_true rfl) rfl (fun x63 h63 g63 hp63 hw63 => ?_)
          obtain ⟨rfl, rfl⟩ := hp63
          obtain rfl := Option.some.inj hw63
          refine A_h (MW (dN t0 t1 j (upd s 4 (nI a))) K (ovr 49 s be) er st na1 pi1 tr bi sz nu as' im at' op sp us tn sk ip) rfl ?_
          refine A_istore hE 68 dX9_startFor_66 rfl rfl rfl ?_
          refine A_aload_n hE 69 dX9_startFor_68 rfl rfl ?_
          refine A_callVv hE 72 (c_X9_putsBack (dN t0 t1 j (upd s 4 (nI a))) K (ovr 49 s be) er st na1 pi1 tr bi sz nu as' im at' op sp us tn sk ip) [0, 1, 2, 3, 4, 5, 6, 7, 8, 9, 10, 11, 12] dX9_startFor_69 rfl mkX9_176 rfl rfl rfl rfl rfl rfl rfl (Nat.le_of_ble_eq_true rfl) (Nat.le_of_ble_eq_true rfl) rfl (fun h69 g69 hp69 hw69 => ?_)
          obtain rfl := hp69
          obtain rfl := Option.some.inj hw69
          refine A_h (MW s K (ovr 49 s be) er st na1 pi1 tr bi sz nu as' im at' op sp us tn sk ip) (by rw [back_eq (fun z hz => by rw [dN_hi hz j (wf_4 w hlt), upd_hi (by omega) hz])]; rfl) ?_
          refine A_iload hE 74 dX9_startFor_72 rfl rfl ?_
          refine A_iload hE 76 dX9_startFor_74 rfl rfl ?_
          refine A_icmp_le hE 79 84 dX9_startFor_76 rfl rfl (fun c76 => ?_) (fun c76 => ?_)
          · refine A_iload hE 86 dX9_startFor_84 rfl rfl ?_
            refine A_istore hE 88 dX9_startFor_86 rfl rfl rfl ?_
            refine A_iload hE 90 dX9_startFor_88 rfl rfl ?_
            refine A_iload hE 92 dX9_startFor_90 rfl rfl ?_
            refine A_icmp_le hE 95 100 dX9_startFor_92 rfl rfl (fun c92 => ?_) (fun c92 => absurd c76 c92)
            refine A_iload hE 102 dX9_startFor_100 rfl rfl ?_
            refine A_istore hE 104 dX9_startFor_102 rfl rfl rfl ?_
            refine A_iinc hE 107 dX9_startFor_104 rfl rfl (1) rfl rfl rfl ?_
            rw [nI_1]
            refine A_lv [0, 1, 2, 3, 4, 5, 6] rfl ?_
            refine A_goto hE 35 dX9_startFor_107 rfl ?_
            exact ih (a + 1) q na1 pi1 (by omega) (hx.trans (by rw [ssM, if_neg (iN c76)]))
          · refine A_iload hE 81 dX9_startFor_79 rfl rfl ?_
            refine A_goto hE 86 dX9_startFor_81 rfl ?_
            refine A_istore hE 88 dX9_startFor_86 rfl rfl rfl ?_
            refine A_iload hE 90 dX9_startFor_88 rfl rfl ?_
            refine A_iload hE 92 dX9_startFor_90 rfl rfl ?_
            refine A_icmp_le hE 95 100 dX9_startFor_92 rfl rfl (fun c92 => absurd c92 c76) (fun c92 => ?_)
            refine A_iload hE 97 dX9_startFor_95 rfl rfl ?_
            refine A_goto hE 102 dX9_startFor_97 rfl ?_
            refine A_istore hE 104 dX9_startFor_102 rfl rfl rfl ?_
            refine A_iinc hE 107 dX9_startFor_104 rfl rfl (1) rfl rfl rfl ?_
            rw [nI_1]
            refine A_lv [0, 1, 2, 3, 4, 5, 6] rfl ?_
            refine A_goto hE 35 dX9_startFor_107 rfl ?_
            exact ih (a + 1) (nI a, its (dN t0 t1 j (upd s 4 (nI a))) k 2) na1 pi1 (by omega) (hx.trans (by rw [ssM, if_pos (iG c76)]))
      refine A_lv [0, 1, 2, 3, 4, 5, 6] rfl ?_
      exact loop (hn s) 0 (0, -1) na pi (Nat.zero_add _) rfl
    · have hv := bI_0 c13
      refine A_aload_n hE 17 dX9_startFor_16 rfl rfl ?_
      refine A_iconst hE 18 dX9_startFor_17 rfl (1) rfl ?_
      refine A_callVi hE 21 (c_X9_error s K be er st na pi tr bi sz nu as' im at' op sp us tn sk ip 1 (by omega)) [0, 1, 2, 3, 4, 5, 6, 7, 8, 9, 10, 11, 12] dX9_startFor_18 rfl mkX9_51 rfl rfl rfl rfl rfl rfl rfl (Nat.le_of_ble_eq_true rfl) (Nat.le_of_ble_eq_true rfl) rfl (fun x18 h18 g18 hp18 hw18 => ?_)
      obtain ⟨rfl, rfl⟩ := hp18
      obtain rfl := Option.some.inj hw18
      refine A_h (MW s K be (upd er 1 (er 1 + 1)) st na pi tr bi sz nu as' im at' op sp us tn sk ip) rfl ?_
      refine A_iret hE dX9_startFor_21 ?_
      rw [startF, if_neg (fun z => hv z.2)]
      exact ⟨rfl, be, na, pi, rfl⟩
set_option maxRecDepth 100000 in
theorem c_X9_changePlaces (s K be er st na pi tr bi sz nu as' : Nat → Int32) (im at' op sp us tn sk ip : Int32) (a b : Nat) (ha : a < 8) (hb : b < 8) : AMet yX9_changePlaces cX9_changePlaces 5 none 1 0 0 [.ref 0, .int (nI a), .int (nI b)] (MW s K be er st na pi tr bi sz nu as' im at' op sp us tn sk ip) (pV fun h => h = MW (swS a b s) K be er st na pi tr bi sz nu as' im at' op sp us tn sk ip) := by
  refine AMet.of (by decide +kernel) rfl (fun E ad0 hE => ?_)
  refine A_iconst hE 1 dX9_changePlaces_0 rfl (0) rfl ?_
  refine A_istore_n hE 2 dX9_changePlaces_1 rfl rfl rfl ?_
  have loop : ∀ (m j : Nat) (s' : Nat → Int32), j + m = 5 → sw0 s' a b m j = swS a b s → AW E (rmD 1 0 0) 5 (QM E ad0 13 0 0 (pV fun h => h = MW (swS a b s) K be er st na pi tr bi sz nu as' im at' op sp us tn sk ip)) ad0 13 0 0 2 [(0, .ref 0), (1, .int (nI a)), (2, .int (nI b)), (3, .int (nI j))] [] (MW s' K be er st na pi tr bi sz nu as' im at' op sp us tn sk ip) := by
    intro m
    induction m with
    | zero =>
      intro j s' hj hx
      obtain rfl : j = 5 := by omega
      refine A_iload_n hE 3 dX9_changePlaces_2 rfl rfl ?_
      refine A_iconst hE 4 dX9_changePlaces_3 rfl (5) rfl ?_
      refine A_icmp_ge hE 7 41 dX9_changePlaces_4 rfl rfl (fun c4 => ?_) (fun c4 => absurd (nI_le (a := 5) (b := 5) (by omega) (by omega)) c4)
      refine A_vret hE dX9_changePlaces_41 ?_
      rw [← hx]
      rfl
    | succ m ih =>
      intro j s' hj hx
      refine A_iload_n hE 3 dX9_changePlaces_2 rfl rfl ?_
      refine A_iconst hE 4 dX9_changePlaces_3 rfl (5) rfl ?_
      refine A_icmp_ge hE 7 41 dX9_changePlaces_4 rfl rfl (fun c4 => absurd c4 (nI_ge (a := j) (b := 5) (by omega) (by omega))) (fun c4 => ?_)
      refine A_aload_n hE 8 dX9_changePlaces_7 rfl rfl ?_
      refine A_iload_n hE 9 dX9_changePlaces_8 rfl rfl ?_
      refine A_iload_n hE 10 dX9_changePlaces_9 rfl rfl ?_
      refine A_callVi hE 13 (c_X9_its s' K be er st na pi tr bi sz nu as' im at' op sp us tn sk ip (nI a) (nI j) a j rfl rfl (by omega) (by omega)) [0, 1, 2, 3, 4, 5, 6, 7, 8, 9, 10, 11, 12] dX9_changePlaces_10 rfl mkX9_111 rfl rfl rfl rfl rfl rfl rfl (Nat.le_of_ble_eq_true rfl) (Nat.le_of_ble_eq_true rfl) rfl (fun x10 h10 g10 hp10 hw10 => ?_)
      obtain ⟨rfl, rfl⟩ := hp10
      obtain rfl := Option.some.inj hw10
      refine A_h (MW s' K be er st na pi tr bi sz nu as' im at' op sp us tn sk ip) rfl ?_
      refine A_istore hE 15 dX9_changePlaces_13 rfl rfl rfl ?_
      refine A_aload_n hE 16 dX9_changePlaces_15 rfl rfl ?_
      refine A_iload_n hE 17 dX9_changePlaces_16 rfl rfl ?_
      refine A_iload_n hE 18 dX9_changePlaces_17 rfl rfl ?_
      refine A_aload_n hE 19 dX9_changePlaces_18 rfl rfl ?_
      refine A_iload_n hE 20 dX9_changePlaces_19 rfl rfl ?_
      refine A_iload_n hE 21 dX9_changePlaces_20 rfl rfl ?_
      refine A_callVi hE 24 (c_X9_its s' K be er st na pi tr bi sz nu as' im at' op sp us tn sk ip (nI b) (nI j) b j rfl rfl (by omega) (by omega)) [0, 1, 2, 3, 4, 5, 6, 7, 8, 9, 10, 11, 12] dX9_changePlaces_21 rfl mkX9_111 rfl rfl rfl rfl rfl rfl rfl (Nat.le_of_ble_eq_true rfl) (Nat.le_of_ble_eq_true rfl) rfl (fun x21 h21 g21 hp21 hw21 => ?_)
      obtain ⟨rfl, rfl⟩ := hp21
      obtain rfl := Option.some.inj hw21
      refine A_h (MW s' K be er st na pi tr bi sz nu as' im at' op sp us tn sk ip) rfl ?_
      refine A_callVv hE 27 (c_X9_lays1 s' K be er st na pi tr bi sz nu as' im at' op sp us tn sk ip (nI a) (nI j) a j rfl rfl (by omega) (by omega) _) [0, 1, 2, 3, 4, 5, 6, 7, 8, 9, 10, 11, 12] dX9_changePlaces_24 rfl mkX9_143 rfl rfl rfl rfl rfl rfl rfl (Nat.le_of_ble_eq_true rfl) (Nat.le_of_ble_eq_true rfl) rfl (fun h24 g24 hp24 hw24 => ?_)
      obtain rfl := hp24
      obtain rfl := Option.some.inj hw24
      refine A_h (MW (upd s' (9 + 5 * a + j) (its s' b j)) K be er st na pi tr bi sz nu as' im at' op sp us tn sk ip) rfl ?_
      refine A_aload_n hE 28 dX9_changePlaces_27 rfl rfl ?_
      refine A_iload_n hE 29 dX9_changePlaces_28 rfl rfl ?_
      refine A_iload_n hE 30 dX9_changePlaces_29 rfl rfl ?_
      refine A_iload hE 32 dX9_changePlaces_30 rfl rfl ?_
      refine A_callVv hE 35 (c_X9_lays1 (upd s' (9 + 5 * a + j) (its s' b j)) K be er st na pi tr bi sz nu as' im at' op sp us tn sk ip (nI b) (nI j) b j rfl rfl (by omega) (by omega) _) [0, 1, 2, 3, 4, 5, 6, 7, 8, 9, 10, 11, 12] dX9_changePlaces_32 rfl mkX9_143 rfl rfl rfl rfl rfl rfl rfl (Nat.le_of_ble_eq_true rfl) (Nat.le_of_ble_eq_true rfl) rfl (fun h32 g32 hp32 hw32 => ?_)
      obtain rfl := hp32
      obtain rfl := Option.some.inj hw32
      refine A_h (MW (sw1 s' a b j) K be er st na pi tr bi sz nu as' im at' op sp us tn sk ip) rfl ?_
      refine A_iinc hE 38 dX9_changePlaces_35 rfl rfl (1) rfl rfl rfl ?_
      rw [nI_1]
      refine A_lv [0, 1, 2, 3] rfl ?_
      refine A_goto hE 2 dX9_changePlaces_38 rfl ?_
      exact ih (j + 1) _ (by omega) hx
  refine A_lv [0, 1, 2, 3] rfl ?_
  exact loop 5 0 s rfl (sw0_5 s a b)
set_option maxRecDepth 100000 in
theorem c_X9_swapFor (s K be er st na pi tr bi sz nu as' : Nat → Int32) (im at' op sp us tn sk ip : Int32) (n what : Int32) (t0 t1 : Sp) (w : wf s) (l0 : MText s 0 t0) (l1 : MText s 1 t1) : AMet yX9_swapFor cX9_swapFor 8 (some (.int)) 6 0 0 [.ref 0, .int n, .int what] (MW s K be er st na pi tr bi sz nu as' im at' op sp us tn sk ip) (pI fun x0 hz0 => x0 = (swapF t0 t1 s er n what).1 ∧ ∃ be' na' pi' : Nat → Int32, hz0 = MW (swapF t0 t1 s er n what).2.1 K be' (swapF t0 t1 s er n what).2.2 st na' pi' tr bi sz nu as' im at' op sp us tn sk ip) := by
  refine AMet.of (by decide +kernel) rfl (fun E ad0 hE => ?_)
  obtain ⟨w1, w2, w3, w4, w5, w6, w7⟩ := id w
  refine A_iload_n hE 1 dX9_swapFor_0 rfl rfl ?_
  refine A_iload_n hE 2 dX9_swapFor_1 rfl rfl ?_
  refine A_callSi hE 5 (c_X9_isAsked n what) [] dX9_swapFor_2 rfl mkX9_179 rfl rfl rfl rfl rfl rfl (Nat.le_of_ble_eq_true rfl) (Nat.le_of_ble_eq_true rfl) rfl (fun x2 h2 g2 hp2 hw2 => ?_)
  obtain ⟨rfl, rfl⟩ := hp2
  obtain rfl := Option.some.inj hw2
  refine A_if_ne hE 8 14 dX9_swapFor_5 rfl rfl (fun c5 => ?_) (fun c5 => ?_)
  · have hv := bI_1 c5
    obtain ⟨j, hkj, rfl⟩ := iK2 (n := 40) hv.1.1 hv.1.2 (by omega)
    have ej : (nI j).toNatClampNeg = j := nI_clamp (by omega)
    refine A_aload_n hE 15 dX9_swapFor_14 rfl rfl ?_
    refine A_callVv hE 18 (c_X9_saves s K be er st na pi tr bi sz nu as' im at' op sp us tn sk ip) [0, 1, 2, 3, 4, 5, 6, 7, 8, 9, 10, 11, 12] dX9_swapFor_15 rfl mkX9_170 rfl rfl rfl rfl rfl rfl rfl (Nat.le_of_ble_eq_true rfl) (Nat.le_of_ble_eq_true rfl) rfl (fun h15 g15 hp15 hw15 => ?_)
    obtain rfl := hp15
    obtain rfl := Option.some.inj hw15
    refine A_h (MW s K (ovr 49 s be) er st na pi tr bi sz nu as' im at' op sp us tn sk ip) rfl ?_
    refine A_aload_n hE 19 dX9_swapFor_18 rfl rfl ?_
    refine A_iload_n hE 20 dX9_swapFor_19 rfl rfl ?_
    refine A_callVv hE 23 (c_X9_goesOn s K (ovr 49 s be) er st na pi tr bi sz nu as' im at' op sp us tn sk ip t0 t1 j (by omega) w l0 l1) [0, 1, 2, 3, 4, 5, 6, 7, 8, 9, 10, 11, 12] dX9_swapFor_20 rfl mkX9_165 rfl rfl rfl rfl rfl rfl rfl (Nat.le_of_ble_eq_true rfl) (Nat.le_of_ble_eq_true rfl) rfl (fun h20 g20 hp20 hw20 => ?_)
    obtain ⟨na1, pi1, rfl⟩ := hp20
    obtain rfl := Option.some.inj hw20
    refine A_h (MW (dN t0 t1 j s) K (ovr 49 s be) er st na1 pi1 tr bi sz nu as' im at' op sp us tn sk ip) rfl ?_
    refine A_aload_n hE 24 dX9_swapFor_23 rfl rfl ?_
    refine A_callVi hE 27 (c_X9_heardAll (dN t0 t1 j s) K (ovr 49 s be) er st na1 pi1 tr bi sz nu as' im at' op sp us tn sk ip (wf_dN j w)) [0, 1, 2, 3, 4, 5, 6, 7, 8, 9, 10, 11, 12] dX9_swapFor_24 rfl mkX9_173 rfl rfl rfl rfl rfl rfl rfl (Nat.le_of_ble_eq_true rfl) (Nat.le_of_ble_eq_true rfl) rfl (fun x24 h24 g24 hp24 hw24 => ?_)
    obtain ⟨rfl, rfl⟩ := hp24
    obtain rfl := Option.some.inj hw24
    refine A_h (MW (dN t0 t1 j s) K (ovr 49 s be) er st na1 pi1 tr bi sz nu as' im at' op sp us tn sk ip) rfl ?_
    refine A_istore_n hE 28 dX9_swapFor_27 rfl rfl rfl ?_
    refine A_aload_n hE 29 dX9_swapFor_28 rfl rfl ?_
    refine A_callVv hE 32 (c_X9_putsBack (dN t0 t1 j s) K (ovr 49 s be) er st na1 pi1 tr bi sz nu as' im at' op sp us tn sk ip) [0, 1, 2, 3, 4, 5, 6, 7, 8, 9, 10, 11, 12] dX9_swapFor_29 rfl mkX9_176 rfl rfl rfl rfl rfl rfl rfl (Nat.le_of_ble_eq_true rfl) (Nat.le_of_ble_eq_true rfl) rfl (fun h29 g29 hp29 hw29 => ?_)
    obtain rfl := hp29
    obtain rfl := Option.some.inj hw29
    refine A_h (MW s K (ovr 49 s be) er st na1 pi1 tr bi sz nu as' im at' op sp us tn sk ip) (by rw [back_eq (fun z hz => dN_hi hz j w)]; rfl) ?_
    refine A_iconst hE 33 dX9_swapFor_32 rfl (-1) rfl ?_
    refine A_istore hE 35 dX9_swapFor_33 rfl rfl rfl ?_
    refine A_iconst hE 36 dX9_swapFor_35 rfl (0) rfl ?_
    refine A_istore hE 38 dX9_swapFor_36 rfl rfl rfl ?_
    have outer : ∀ (m a : Nat) (q : Int32 × Int32) (na pi : Nat → Int32), a + m = hn s → swO t0 t1 s j (hn s) 0 (-1, sumN t0 t1 j s) = swO t0 t1 s j m a q → AW E (rmD 6 0 0) 8 (QM E ad0 13 0 0 (pI fun x0 hz0 => x0 = (swapF t0 t1 s er (nI j) what).1 ∧ ∃ be' na' pi' : Nat → Int32, hz0 = MW (swapF t0 t1 s er (nI j) what).2.1 K be' (swapF t0 t1 s er (nI j) what).2.2 st na' pi' tr bi sz nu as' im at' op sp us tn sk ip)) ad0 13 0 0 38 [(0, .ref 0), (1, .int (nI j)), (2, .int what), (3, .int q.2), (4, .int q.1), (5, .int (nI a))] [] (MW s K (ovr 49 s be) er st na pi tr bi sz nu as' im at' op sp us tn sk ip) := by
      intro m
      induction m with
      | zero =>
        intro a q na pi ha hx
        obtain rfl : a = hn s := by omega
        refine A_iload hE 40 dX9_swapFor_38 rfl rfl ?_
        refine A_aload_n hE 41 dX9_swapFor_40 rfl rfl ?_
        refine A_get hE 44 dX9_swapFor_41 rfl fkX9_7 rfl rfl ?_
        refine A_bipush hE 46 dX9_swapFor_44 rfl (8) (by decide) ?_
        refine A_iald hE 47 8 dX9_swapFor_46 rfl rfl rfl (by omega) rfl ?_
        refine A_icmp_ge hE 50 137 dX9_swapFor_47 rfl rfl (fun c47 => ?_) (fun c47 => absurd (by rw [w2]; exact nI_le (Nat.le_refl _) (by omega)) c47)
        refine A_iload hE 139 dX9_swapFor_137 rfl rfl ?_
        refine A_if_ge hE 142 150 dX9_swapFor_139 rfl rfl (fun c139 => ?_) (fun c139 => ?_)
        · refine A_iload_n hE 151 dX9_swapFor_150 rfl rfl ?_
          refine A_if_ne hE 154 159 dX9_swapFor_151 rfl rfl (fun c151 => ?_) (fun c151 => ?_)
          · refine A_iload_n hE 160 dX9_swapFor_159 rfl rfl ?_
            refine A_iret hE dX9_swapFor_160 ?_
            rw [swapF, if_pos hv, ej, hx, swO, if_neg (iN c139), if_neg c151]
            exact ⟨rfl, _, na, pi, rfl⟩
          · refine A_iload hE 156 dX9_swapFor_154 rfl rfl ?_
            refine A_goto hE 160 dX9_swapFor_156 rfl ?_
            refine A_iret hE dX9_swapFor_160 ?_
            rw [swapF, if_pos hv, ej, hx, swO, if_neg (iN c139), if_pos c151]
            exact ⟨rfl, _, na, pi, rfl⟩
        · refine A_aload_n hE 143 dX9_swapFor_142 rfl rfl ?_
          refine A_iconst hE 144 dX9_swapFor_143 rfl (2) rfl ?_
          refine A_callVi hE 147 (c_X9_error s K (ovr 49 s be) er st na pi tr bi sz nu as' im at' op sp us tn sk ip 2 (by omega)) [0, 1, 2, 3, 4, 5, 6, 7, 8, 9, 10, 11, 12] dX9_swapFor_144 rfl mkX9_51 rfl rfl rfl rfl rfl rfl rfl (Nat.le_of_ble_eq_true rfl) (Nat.le_of_ble_eq_true rfl) rfl (fun x144 h144 g144 hp144 hw144 => ?_)
          obtain ⟨rfl, rfl⟩ := hp144
          obtain rfl := Option.some.inj hw144
          refine A_h (MW s K (ovr 49 s be) (upd er 2 (er 2 + 1)) st na pi tr bi sz nu as' im at' op sp us tn sk ip) rfl ?_
          refine A_goto hE 160 dX9_swapFor_147 rfl ?_
          refine A_iret hE dX9_swapFor_160 ?_
          rw [swapF, if_pos hv, ej, hx, swO, if_pos (iG c139)]
          exact ⟨rfl, _, na, pi, rfl⟩
      | succ m ih =>
        intro a q na pi ha hx
        have hlt : a < hn s := by omega
        have inner : ∀ (m' b : Nat) (q' : Int32 × Int32) (na pi : Nat → Int32), a + 1 ≤ b → b + m' = hn s → swI t0 t1 s j a (hn s - (a + 1)) (a + 1) q = swI t0 t1 s j a m' b q' → AW E (rmD 6 0 0) 8 (QM E ad0 13 0 0 (pI fun x0 hz0 => x0 = (swapF t0 t1 s er (nI j) what).1 ∧ ∃ be' na' pi' : Nat → Int32, hz0 = MW (swapF t0 t1 s er (nI j) what).2.1 K be' (swapF t0 t1 s er (nI j) what).2.2 st na' pi' tr bi sz nu as' im at' op sp us tn sk ip)) ad0 13 0 0 56 [(0, .ref 0), (1, .int (nI j)), (2, .int what), (3, .int q'.2), (4, .int q'.1), (5, .int (nI a)), (6, .int (nI b))] [] (MW s K (ovr 49 s be) er st na pi tr bi sz nu as' im at' op sp us tn sk ip) := by
          intro m'
          induction m' with
          | zero =>
            intro b q' na pi hab hb hy
            obtain rfl : b = hn s := by omega
            refine A_iload hE 58 dX9_swapFor_56 rfl rfl ?_
            refine A_aload_n hE 59 dX9_swapFor_58 rfl rfl ?_
            refine A_get hE 62 dX9_swapFor_59 rfl fkX9_7 rfl rfl ?_
            refine A_bipush hE 64 dX9_swapFor_62 rfl (8) (by decide) ?_
            refine A_iald hE 65 8 dX9_swapFor_64 rfl rfl rfl (by omega) rfl ?_
            refine A_icmp_ge hE 68 131 dX9_swapFor_65 rfl rfl (fun c65 => ?_) (fun c65 => absurd (by rw [w2]; exact nI_le (Nat.le_refl _) (by omega)) c65)
            refine A_iinc hE 134 dX9_swapFor_131 rfl rfl (1) rfl rfl rfl ?_
            rw [nI_1]
            refine A_lv [0, 1, 2, 3, 4, 5] rfl ?_
            refine A_goto hE 38 dX9_swapFor_134 rfl ?_
            exact ih (a + 1) q' na pi (by omega) (hx.trans (by rw [swO, hy, swI]))
          | succ m' ihb =>
            intro b q' na pi hab hb hy
            have hltb : b < hn s := by omega
            refine A_iload hE 58 dX9_swapFor_56 rfl rfl ?_
            refine A_aload_n hE 59 dX9_swapFor_58 rfl rfl ?_
            refine A_get hE 62 dX9_swapFor_59 rfl fkX9_7 rfl rfl ?_
            refine A_bipush hE 64 dX9_swapFor_62 rfl (8) (by decide) ?_
            refine A_iald hE 65 8 dX9_swapFor_64 rfl rfl rfl (by omega) rfl ?_
            refine A_icmp_ge hE 68 131 dX9_swapFor_65 rfl rfl (fun c65 => absurd c65 (by rw [w2]; exact nI_ge hltb (by omega))) (fun c65 => ?_)
            refine A_aload_n hE 69 dX9_swapFor_68 rfl rfl ?_
            refine A_iload hE 71 dX9_swapFor_69 rfl rfl ?_
            refine A_iload hE 73 dX9_swapFor_71 rfl rfl ?_
            refine A_callVv hE 76 (c_X9_changePlaces s K (ovr 49 s be) er st na pi tr bi sz nu as' im at' op sp us tn sk ip a b (by omega) (by omega)) [0, 1, 2, 3, 4, 5, 6, 7, 8, 9, 10, 11, 12] dX9_swapFor_73 rfl mkX9_183 rfl rfl rfl rfl rfl rfl rfl (Nat.le_of_ble_eq_true rfl) (Nat.le_of_ble_eq_true rfl) rfl (fun h73 g73 hp73 hw73 => ?_)
            obtain rfl := hp73
            obtain rfl := Option.some.inj hw73
            refine A_h (MW (swS a b s) K (ovr 49 s be) er st na pi tr bi sz nu as' im at' op sp us tn sk ip) rfl ?_
            refine A_aload_n hE 77 dX9_swapFor_76 rfl rfl ?_
            refine A_iload_n hE 78 dX9_swapFor_77 rfl rfl ?_
            refine A_callVv hE 81 (c_X9_goesOn (swS a b s) K (ovr 49 s be) er st na pi tr bi sz nu as' im at' op sp us tn sk ip t0 t1 j (by omega) (wf_swS w hlt hltb) (l0.eqv (fun z hz => swS_hi (by omega) (by omega) hz)) (l1.eqv (fun z hz => swS_hi (by omega) (by omega) hz))) [0, 1, 2, 3, 4, 5, 6, 7, 8, 9, 10, 11, 12] dX9_swapFor_78 rfl mkX9_165 rfl rfl rfl rfl rfl rfl rfl (Nat.le_of_ble_eq_true rfl) (Nat.le_of_ble_eq_true rfl) rfl (fun h78 g78 hp78 hw78 => ?_)
            obtain ⟨na1, pi1, rfl⟩ := hp78
            obtain rfl := Option.some.inj hw78
            refine A_h (MW (dN t0 t1 j (swS a b s)) K (ovr 49 s be) er st na1 pi1 tr bi sz nu as' im at' op sp us tn sk ip) rfl ?_
            refine A_aload_n hE 82 dX9_swapFor_81 rfl rfl ?_
            refine A_callVi hE 85 (c_X9_heardAll (dN t0 t1 j (swS a b s)) K (ovr 49 s be) er st na1 pi1 tr bi sz nu as' im at' op sp us tn sk ip (wf_dN j (wf_swS w hlt hltb))) [0, 1, 2, 3, 4, 5, 6, 7, 8, 9, 10, 11, 12] dX9_swapFor_82 rfl mkX9_173 rfl rfl rfl rfl rfl rfl rfl (Nat.le_of_ble_eq_true rfl) (Nat.le_of_ble_eq_true rfl) rfl (fun x82 h82 g82 hp82 hw82 => ?_)
            obtain ⟨rfl, rfl⟩ := hp82
            obtain rfl := Option.some.inj hw82
            refine A_h (MW (dN t0 t1 j (swS a b s)) K (ovr 49 s be) er st na1 pi1 tr bi sz nu as' im at' op sp us tn sk ip) rfl ?_
            refine A_istore hE 87 dX9_swapFor_85 rfl rfl rfl ?_
            refine A_aload_n hE 88 dX9_swapFor_87 rfl rfl ?_
            refine A_callVv hE 91 (c_X9_putsBack (dN t0 t1 j (swS a b s)) K (ovr 49 s be) er st na1 pi1 tr bi sz nu as' im at' op sp us tn sk ip) [0, 1, 2, 3, 4, 5, 6, 7, 8, 9, 10, 11, 12] dX9_swapFor_88 rfl mkX9_176 rfl rfl rfl rfl rfl rfl rfl (Nat.le_of_ble_eq_true rfl) (Nat.le_of_ble_eq_true rfl) rfl (fun h88 g88 hp88 hw88 => ?_)
            obtain rfl := hp88
            obtain rfl := Option.some.inj hw88
            refine A_h (MW s K (ovr 49 s be) er st na1 pi1 tr bi sz nu as' im at' op sp us tn sk ip) (by rw [back_eq (fun z hz => by rw [dN_hi hz j (wf_swS w hlt hltb), swS_hi (by omega) (by omega) hz])]; rfl) ?_
            refine A_iload hE 93 dX9_swapFor_91 rfl rfl ?_
            refine A_iload_n hE 94 dX9_swapFor_93 rfl rfl ?_
            refine A_icmp_ge hE 97 108 dX9_swapFor_94 rfl rfl (fun c94 => ?_) (fun c94 => ?_)
            · refine A_iload hE 110 dX9_swapFor_108 rfl rfl ?_
              refine A_istore hE 112 dX9_swapFor_110 rfl rfl rfl ?_
              refine A_iload hE 114 dX9_swapFor_112 rfl rfl ?_
              refine A_iload_n hE 115 dX9_swapFor_114 rfl rfl ?_
              refine A_icmp_ge hE 118 123 dX9_swapFor_115 rfl rfl (fun c115 => ?_) (fun c115 => absurd c94 c115)
              refine A_iload_n hE 124 dX9_swapFor_123 rfl rfl ?_
              refine A_istore_n hE 125 dX9_swapFor_124 rfl rfl rfl ?_
              refine A_iinc hE 128 dX9_swapFor_125 rfl rfl (1) rfl rfl rfl ?_
              rw [nI_1]
              refine A_lv [0, 1, 2, 3, 4, 5, 6] rfl ?_
              refine A_goto hE 56 dX9_swapFor_128 rfl ?_
              exact ihb (b + 1) q' na1 pi1 (by omega) (by omega) (hy.trans (by rw [swI, if_neg (show ¬ sumN t0 t1 j (swS a b s) < q'.2 from iN c94)]))
            · refine A_bipush hE 99 dX9_swapFor_97 rfl (10) (by decide) ?_
              refine A_iload hE 101 dX9_swapFor_99 rfl rfl ?_
              refine A_imul hE 102 dX9_swapFor_101 rfl ?_
              refine A_iload hE 104 dX9_swapFor_102 rfl rfl ?_
              refine A_iadd hE 105 dX9_swapFor_104 rfl ?_
              refine A_goto hE 110 dX9_swapFor_105 rfl ?_
              refine A_istore hE 112 dX9_swapFor_110 rfl rfl rfl ?_
              refine A_iload hE 114 dX9_swapFor_112 rfl rfl ?_
              refine A_iload_n hE 115 dX9_swapFor_114 rfl rfl ?_
              refine A_icmp_ge hE 118 123 dX9_swapFor_115 rfl rfl (fun c115 => absurd c115 c94) (fun c115 => ?_)
              refine A_iload hE 120 dX9_swapFor_118 rfl rfl ?_
              refine A_goto hE 124 dX9_swapFor_120 rfl ?_
              refine A_istore_n hE 125 dX9_swapFor_124 rfl rfl rfl ?_
              refine A_iinc hE 128 dX9_swapFor_125 rfl rfl (1) rfl rfl rfl ?_
              rw [nI_1]
              refine A_lv [0, 1, 2, 3, 4, 5, 6] rfl ?_
              refine A_goto hE 56 dX9_swapFor_128 rfl ?_
              exact ihb (b + 1) (10 * nI a + nI b, sumN t0 t1 j (swS a b s)) na1 pi1 (by omega) (by omega) (hy.trans (by rw [swI, if_pos (show sumN t0 t1 j (swS a b s) < q'.2 from iG c94)]))
        refine A_iload hE 40 dX9_swapFor_38 rfl rfl ?_
        refine A_aload_n hE 41 dX9_swapFor_40 rfl rfl ?_
        refine A_get hE 44 dX9_swapFor_41 rfl fkX9_7 rfl rfl ?_
        refine A_bipush hE 46 dX9_swapFor_44 rfl (8) (by decide) ?_
        refine A_iald hE 47 8 dX9_swapFor_46 rfl rfl rfl (by omega) rfl ?_
        refine A_icmp_ge hE 50 137 dX9_swapFor_47 rfl rfl (fun c47 => absurd c47 (by rw [w2]; exact nI_ge hlt (by omega))) (fun c47 => ?_)
        refine A_iload hE 52 dX9_swapFor_50 rfl rfl ?_
        refine A_iconst hE 53 dX9_swapFor_52 rfl (1) rfl ?_
        refine A_iadd hE 54 dX9_swapFor_53 rfl ?_
        refine A_istore hE 56 dX9_swapFor_54 rfl rfl rfl ?_
        rw [nI_1]
        refine A_lv [0, 1, 2, 3, 4, 5, 6] rfl ?_
        exact inner (hn s - (a + 1)) (a + 1) q na pi (Nat.le_refl _) (by omega) rfl
    refine A_lv [0, 1, 2, 3, 4, 5] rfl ?_
    exact outer (hn s) 0 (-1, sumN t0 t1 j s) na1 pi1 (Nat.zero_add _) rfl
  · have hv := bI_0 c5
    refine A_aload_n hE 9 dX9_swapFor_8 rfl rfl ?_
    refine A_iconst hE 10 dX9_swapFor_9 rfl (1) rfl ?_
    refine A_callVi hE 13 (c_X9_error s K be er st na pi tr bi sz nu as' im at' op sp us tn sk ip 1 (by omega)) [0, 1, 2, 3, 4, 5, 6, 7, 8, 9, 10, 11, 12] dX9_swapFor_10 rfl mkX9_51 rfl rfl rfl rfl rfl rfl rfl (Nat.le_of_ble_eq_true rfl) (Nat.le_of_ble_eq_true rfl) rfl (fun x10 h10 g10 hp10 hw10 => ?_)
    obtain ⟨rfl, rfl⟩ := hp10
    obtain rfl := Option.some.inj hw10
    refine A_h (MW s K be (upd er 1 (er 1 + 1)) st na pi tr bi sz nu as' im at' op sp us tn sk ip) rfl ?_
    refine A_iret hE dX9_swapFor_13 ?_
    rw [swapF, if_neg hv]
    exact ⟨rfl, be, na, pi, rfl⟩
