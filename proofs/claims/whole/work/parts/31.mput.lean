def hearAllF (s : St) (er bi sz nu : Nat → Int32) (h : Int32) : Rs := if 0 ≤ h ∧ h ≤ 3 then (if bi h.toNatClampNeg = 0 then bad 2 s er else (nI (tk (vn h.toNatClampNeg nu) (sz h.toNatClampNeg).toNatClampNeg 0 s).2, (tk (vn h.toNatClampNeg nu) (sz h.toNatClampNeg).toNatClampNeg 0 s).1, er)) else bad 1 s er
def judgeF (s : St) (er bi sz nu : Nat → Int32) (h : Int32) : Rs := if 0 ≤ h ∧ h ≤ 3 then (if bi h.toNatClampNeg = 0 then bad 2 s er else (nI (rtF s (vn h.toNatClampNeg nu) (sz h.toNatClampNeg).toNatClampNeg 0), s, er)) else bad 1 s er

set_option maxRecDepth 100000 in
theorem c_X9_hearAll (s K be er st na pi tr bi sz nu as' : Nat → Int32) (im at' op sp us tn sk ip : Int32) (h : Int32) (hS : wfSh bi sz) (w : wf s) : AMet yX9_hearAll cX9_hearAll 4 (some (.int)) 3 0 0 [.ref 0, .int h] (MW s K be er st na pi tr bi sz nu as' im at' op sp us tn sk ip) (pI fun x0 hz0 => x0 = (hearAllF s er bi sz nu h).1 ∧ hz0 = MW (hearAllF s er bi sz nu h).2.1 K be (hearAllF s er bi sz nu h).2.2 st na pi tr bi sz nu as' im at' op sp us tn sk ip) := by
  refine AMet.of (by decide +kernel) rfl (fun E ad0 hE => ?_)
  obtain ⟨w1, w2, w3, w4, w5, w6, w7⟩ := id w
  by_cases hh : 0 ≤ h ∧ h ≤ 3
  · obtain ⟨k, hkk, rfl⟩ := iK2 (n := 3) hh.1 hh.2 (by omega)
    have ek : (nI k).toNatClampNeg = k := nI_clamp (by omega)
    obtain ⟨hwd, z0, hz24, hz⟩ := hS k (by omega)
    by_cases hb : bi k = 0
    · refine A_aload_n hE 1 dX9_hearAll_0 rfl rfl ?_
      refine A_iload_n hE 2 dX9_hearAll_1 rfl rfl ?_
      refine A_callVi hE 5 (c_X9_lacks s K be er st na pi tr bi sz nu as' im at' op sp us tn sk ip (nI k)) [0, 1, 2, 3, 4, 5, 6, 7, 8, 9, 10, 11, 12] dX9_hearAll_2 rfl mkX9_229 rfl rfl rfl rfl rfl rfl rfl (Nat.le_of_ble_eq_true rfl) (Nat.le_of_ble_eq_true rfl) rfl (fun x2 h2 g2 hp2 hw2 => ?_)
      obtain ⟨rfl, rfl⟩ := hp2
      obtain rfl := Option.some.inj hw2
      refine A_h (MW s K be er st na pi tr bi sz nu as' im at' op sp us tn sk ip) rfl ?_
      rw [lacksV, if_pos hh, ek, if_pos hb]
      refine A_istore_n hE 6 dX9_hearAll_5 rfl rfl rfl ?_
      refine A_iload_n hE 7 dX9_hearAll_6 rfl rfl ?_
      refine A_if_eq hE 10 16 dX9_hearAll_7 rfl rfl (fun c7 => absurd c7 (by decide)) (fun c7 => ?_)
      refine A_aload_n hE 11 dX9_hearAll_10 rfl rfl ?_
      refine A_iload_n hE 12 dX9_hearAll_11 rfl rfl ?_
      refine A_callVi hE 15 (c_X9_error s K be er st na pi tr bi sz nu as' im at' op sp us tn sk ip 2 (by omega)) [0, 1, 2, 3, 4, 5, 6, 7, 8, 9, 10, 11, 12] dX9_hearAll_12 rfl mkX9_51 rfl rfl rfl rfl rfl rfl rfl (Nat.le_of_ble_eq_true rfl) (Nat.le_of_ble_eq_true rfl) rfl (fun x12 h12 g12 hp12 hw12 => ?_)
      obtain ⟨rfl, rfl⟩ := hp12
      obtain rfl := Option.some.inj hw12
      refine A_h (MW s K be (upd er 2 (er 2 + 1)) st na pi tr bi sz nu as' im at' op sp us tn sk ip) rfl ?_
      refine A_iret hE dX9_hearAll_15 ?_
      rw [hearAllF, if_pos hh, ek, if_pos hb]
      exact ⟨rfl, rfl⟩
    · refine A_aload_n hE 1 dX9_hearAll_0 rfl rfl ?_
      refine A_iload_n hE 2 dX9_hearAll_1 rfl rfl ?_
      refine A_callVi hE 5 (c_X9_lacks s K be er st na pi tr bi sz nu as' im at' op sp us tn sk ip (nI k)) [0, 1, 2, 3, 4, 5, 6, 7, 8, 9, 10, 11, 12] dX9_hearAll_2 rfl mkX9_229 rfl rfl rfl rfl rfl rfl rfl (Nat.le_of_ble_eq_true rfl) (Nat.le_of_ble_eq_true rfl) rfl (fun x2 h2 g2 hp2 hw2 => ?_)
      obtain ⟨rfl, rfl⟩ := hp2
      obtain rfl := Option.some.inj hw2
      refine A_h (MW s K be er st na pi tr bi sz nu as' im at' op sp us tn sk ip) rfl ?_
      rw [lacksV, if_pos hh, ek, if_neg hb]
      refine A_istore_n hE 6 dX9_hearAll_5 rfl rfl rfl ?_
      refine A_iload_n hE 7 dX9_hearAll_6 rfl rfl ?_
      refine A_if_eq hE 10 16 dX9_hearAll_7 rfl rfl (fun c7 => ?_) (fun c7 => absurd rfl c7)
      refine A_iconst hE 17 dX9_hearAll_16 rfl (0) rfl ?_
      refine A_istore_n hE 18 dX9_hearAll_17 rfl rfl rfl ?_
      have loop : ∀ (f j : Nat) (s' : Nat → Int32), j + f = z0 → tk (vn k nu) z0 0 s = tk (vn k nu) f j s' → wf s' → hn s' = hn s → AW E (rmD 3 0 0) 4 (QM E ad0 13 0 0 (pI fun x0 hz0 => x0 = (hearAllF s er bi sz nu (nI k)).1 ∧ hz0 = MW (hearAllF s er bi sz nu (nI k)).2.1 K be (hearAllF s er bi sz nu (nI k)).2.2 st na pi tr bi sz nu as' im at' op sp us tn sk ip)) ad0 13 0 0 18 [(0, .ref 0), (1, .int (nI k)), (2, .int 0), (3, .int (nI j))] [] (MW s' K be er st na pi tr bi sz nu as' im at' op sp us tn sk ip) := by
        intro f
        induction f with
        | zero =>
          intro j s' hj hx w' hn'
          obtain rfl : j = z0 := by omega
          refine A_iload_n hE 19 dX9_hearAll_18 rfl rfl ?_
          refine A_aload_n hE 20 dX9_hearAll_19 rfl rfl ?_
          refine A_get hE 23 dX9_hearAll_20 rfl fkX9_37 rfl rfl ?_
          refine A_iload_n hE 24 dX9_hearAll_23 rfl rfl ?_
          refine A_iald hE 25 k dX9_hearAll_24 rfl rfl rfl (by omega) rfl ?_
          rw [hz]
          refine A_icmp_ge hE 28 83 dX9_hearAll_25 rfl rfl (fun c25 => ?_) (fun c25 => absurd (nI_le (Nat.le_refl _) (by omega)) c25)
          refine A_iload_n hE 84 dX9_hearAll_83 rfl rfl ?_
          refine A_iret hE dX9_hearAll_84 ?_
          rw [hearAllF, if_pos hh, ek, if_neg hb, hz, nI_clamp (by omega), hx, tk]
          exact ⟨rfl, rfl⟩
        | succ f ih =>
          intro j s' hj hx w' hn'
          have v2 : s' 8 = nI (hn s) := by rw [w'.2.1, hn']
          replace hx : tk (vn k nu) z0 0 s = if j < hn s ∧ 0 ≤ vn k nu j ∧ vn k nu j ≤ 9999 then tk (vn k nu) f (j + 1) (upd s' (9 + 5 * j + 2) (vn k nu j)) else (s', j) := by rw [← hn']; exact hx
          refine A_iload_n hE 19 dX9_hearAll_18 rfl rfl ?_
          refine A_aload_n hE 20 dX9_hearAll_19 rfl rfl ?_
          refine A_get hE 23 dX9_hearAll_20 rfl fkX9_37 rfl rfl ?_
          refine A_iload_n hE 24 dX9_hearAll_23 rfl rfl ?_
          refine A_iald hE 25 k dX9_hearAll_24 rfl rfl rfl (by omega) rfl ?_
          rw [hz]
          refine A_icmp_ge hE 28 83 dX9_hearAll_25 rfl rfl (fun c25 => absurd c25 (nI_ge (a := j) (b := z0) (by omega) (by omega))) (fun c25 => ?_)
          refine A_iload_n hE 29 dX9_hearAll_28 rfl rfl ?_
          refine A_aload_n hE 30 dX9_hearAll_29 rfl rfl ?_
          refine A_get hE 33 dX9_hearAll_30 rfl fkX9_7 rfl rfl ?_
          refine A_bipush hE 35 dX9_hearAll_33 rfl (8) (by decide) ?_
          refine A_iald hE 36 8 dX9_hearAll_35 rfl rfl rfl (by omega) rfl ?_
          rw [v2]
          refine A_icmp_ge hE 39 83 dX9_hearAll_36 rfl rfl (fun c36 => ?_) (fun c36 => ?_)
          · refine A_iload_n hE 84 dX9_hearAll_83 rfl rfl ?_
            refine A_iret hE dX9_hearAll_84 ?_
            rw [hearAllF, if_pos hh, ek, if_neg hb, hz, nI_clamp (by omega), hx, if_neg (fun z => absurd c36 (nI_ge z.1 (by omega)))]
            exact ⟨rfl, rfl⟩
          · have hjn : j < hn s := Nat.lt_of_not_le (fun z => c36 (nI_le z (by omega)))
            refine A_aload_n hE 40 dX9_hearAll_39 rfl rfl ?_
            refine A_get hE 43 dX9_hearAll_40 rfl fkX9_40 rfl rfl ?_
            refine A_bipush hE 45 dX9_hearAll_43 rfl (24) (by decide) ?_
            refine A_iload_n hE 46 dX9_hearAll_45 rfl rfl ?_
            refine A_imul hE 47 dX9_hearAll_46 rfl ?_
            refine A_iload_n hE 48 dX9_hearAll_47 rfl rfl ?_
            refine A_iadd hE 49 dX9_hearAll_48 rfl ?_
            refine A_iald hE 50 (24 * k + j) dX9_hearAll_49 rfl rfl (ix24 k j) (by omega) rfl ?_
            refine A_iconst hE 51 dX9_hearAll_50 rfl (0) rfl ?_
            refine A_sipush hE 54 dX9_hearAll_51 rfl (9999) (by decide) ?_
            refine A_callSi hE 57 (c_X9_in (vn k nu j) 0 9999) [] dX9_hearAll_54 rfl mkX9_47 rfl rfl rfl rfl rfl rfl (Nat.le_of_ble_eq_true rfl) (Nat.le_of_ble_eq_true rfl) rfl (fun x54 h54 g54 hp54 hw54 => ?_)
            obtain ⟨rfl, rfl⟩ := hp54
            obtain rfl := Option.some.inj hw54
            refine A_if_eq hE 60 83 dX9_hearAll_57 rfl rfl (fun c57 => ?_) (fun c57 => ?_)
            · have hv := bI_0 c57
              refine A_iload_n hE 84 dX9_hearAll_83 rfl rfl ?_
              refine A_iret hE dX9_hearAll_84 ?_
              rw [hearAllF, if_pos hh, ek, if_neg hb, hz, nI_clamp (by omega), hx, if_neg (fun z => hv z.2)]
              exact ⟨rfl, rfl⟩
            · have hv := bI_1 c57
              refine A_aload_n hE 61 dX9_hearAll_60 rfl rfl ?_
              refine A_iload_n hE 62 dX9_hearAll_61 rfl rfl ?_
              refine A_iconst hE 63 dX9_hearAll_62 rfl (2) rfl ?_
              refine A_aload_n hE 64 dX9_hearAll_63 rfl rfl ?_
              refine A_get hE 67 dX9_hearAll_64 rfl fkX9_40 rfl rfl ?_
              refine A_bipush hE 69 dX9_hearAll_67 rfl (24) (by decide) ?_
              refine A_iload_n hE 70 dX9_hearAll_69 rfl rfl ?_
              refine A_imul hE 71 dX9_hearAll_70 rfl ?_
              refine A_iload_n hE 72 dX9_hearAll_71 rfl rfl ?_
              refine A_iadd hE 73 dX9_hearAll_72 rfl ?_
              refine A_iald hE 74 (24 * k + j) dX9_hearAll_73 rfl rfl (ix24 k j) (by omega) rfl ?_
              refine A_callVv hE 77 (c_X9_lays1 s' K be er st na pi tr bi sz nu as' im at' op sp us tn sk ip (nI j) 2 j 2 rfl rfl (by omega) (by omega) (vn k nu j)) [0, 1, 2, 3, 4, 5, 6, 7, 8, 9, 10, 11, 12] dX9_hearAll_74 rfl mkX9_143 rfl rfl rfl rfl rfl rfl rfl (Nat.le_of_ble_eq_true rfl) (Nat.le_of_ble_eq_true rfl) rfl (fun h74 g74 hp74 hw74 => ?_)
              obtain rfl := hp74
              obtain rfl := Option.some.inj hw74
              refine A_h (MW (upd s' (9 + 5 * j + 2) (vn k nu j)) K be er st na pi tr bi sz nu as' im at' op sp us tn sk ip) rfl ?_
              refine A_iinc hE 80 dX9_hearAll_77 rfl rfl (1) rfl rfl rfl ?_
              rw [nI_1]
              refine A_lv [0, 1, 2, 3] rfl ?_
              refine A_goto hE 18 dX9_hearAll_80 rfl ?_
              exact ih (j + 1) _ (by omega) (by rw [hx, if_pos ⟨hjn, hv.1, hv.2⟩]) (wf_hi (Or.inl rfl) (iK2 (n := 9999) hv.1 hv.2 (by omega)) (by omega) w') (by rw [← hn']; exact hn_eq (by rw [upd_n (by omega)]; exact w'.2.1) (by omega))
      refine A_lv [0, 1, 2, 3] rfl ?_
      exact loop z0 0 s (Nat.zero_add _) rfl w rfl
  · refine A_aload_n hE 1 dX9_hearAll_0 rfl rfl ?_
    refine A_iload_n hE 2 dX9_hearAll_1 rfl rfl ?_
    refine A_callVi hE 5 (c_X9_lacks s K be er st na pi tr bi sz nu as' im at' op sp us tn sk ip h) [0, 1, 2, 3, 4, 5, 6, 7, 8, 9, 10, 11, 12] dX9_hearAll_2 rfl mkX9_229 rfl rfl rfl rfl rfl rfl rfl (Nat.le_of_ble_eq_true rfl) (Nat.le_of_ble_eq_true rfl) rfl (fun x2 h2 g2 hp2 hw2 => ?_)
    obtain ⟨rfl, rfl⟩ := hp2
    obtain rfl := Option.some.inj hw2
    refine A_h (MW s K be er st na pi tr bi sz nu as' im at' op sp us tn sk ip) rfl ?_
    rw [lacksV, if_neg hh]
    refine A_istore_n hE 6 dX9_hearAll_5 rfl rfl rfl ?_
    refine A_iload_n hE 7 dX9_hearAll_6 rfl rfl ?_
    refine A_if_eq hE 10 16 dX9_hearAll_7 rfl rfl (fun c7 => absurd c7 (by decide)) (fun c7 => ?_)
    refine A_aload_n hE 11 dX9_hearAll_10 rfl rfl ?_
    refine A_iload_n hE 12 dX9_hearAll_11 rfl rfl ?_
    refine A_callVi hE 15 (c_X9_error s K be er st na pi tr bi sz nu as' im at' op sp us tn sk ip 1 (by omega)) [0, 1, 2, 3, 4, 5, 6, 7, 8, 9, 10, 11, 12] dX9_hearAll_12 rfl mkX9_51 rfl rfl rfl rfl rfl rfl rfl (Nat.le_of_ble_eq_true rfl) (Nat.le_of_ble_eq_true rfl) rfl (fun x12 h12 g12 hp12 hw12 => ?_)
    obtain ⟨rfl, rfl⟩ := hp12
    obtain rfl := Option.some.inj hw12
    refine A_h (MW s K be (upd er 1 (er 1 + 1)) st na pi tr bi sz nu as' im at' op sp us tn sk ip) rfl ?_
    refine A_iret hE dX9_hearAll_15 ?_
    rw [hearAllF, if_neg hh]
    exact ⟨rfl, rfl⟩
set_option maxRecDepth 100000 in
theorem c_X9_judge (s K be er st na pi tr bi sz nu as' : Nat → Int32) (im at' op sp us tn sk ip : Int32) (h : Int32) (hS : wfSh bi sz) (w : wf s) : AMet yX9_judge cX9_judge 4 (some (.int)) 3 0 0 [.ref 0, .int h] (MW s K be er st na pi tr bi sz nu as' im at' op sp us tn sk ip) (pI fun x0 hz0 => x0 = (judgeF s er bi sz nu h).1 ∧ hz0 = MW (judgeF s er bi sz nu h).2.1 K be (judgeF s er bi sz nu h).2.2 st na pi tr bi sz nu as' im at' op sp us tn sk ip) := by
  refine AMet.of (by decide +kernel) rfl (fun E ad0 hE => ?_)
  obtain ⟨w1, w2, w3, w4, w5, w6, w7⟩ := id w
  by_cases hh : 0 ≤ h ∧ h ≤ 3
  · obtain ⟨k, hkk, rfl⟩ := iK2 (n := 3) hh.1 hh.2 (by omega)
    have ek : (nI k).toNatClampNeg = k := nI_clamp (by omega)
    obtain ⟨hwd, z0, hz24, hz⟩ := hS k (by omega)
    by_cases hb : bi k = 0
    · refine A_aload_n hE 1 dX9_judge_0 rfl rfl ?_
      refine A_iload_n hE 2 dX9_judge_1 rfl rfl ?_
      refine A_callVi hE 5 (c_X9_lacks s K be er st na pi tr bi sz nu as' im at' op sp us tn sk ip (nI k)) [0, 1, 2, 3, 4, 5, 6, 7, 8, 9, 10, 11, 12] dX9_judge_2 rfl mkX9_229 rfl rfl rfl rfl rfl rfl rfl (Nat.le_of_ble_eq_true rfl) (Nat.le_of_ble_eq_true rfl) rfl (fun x2 h2 g2 hp2 hw2 => ?_)
      obtain ⟨rfl, rfl⟩ := hp2
      obtain rfl := Option.some.inj hw2
      refine A_h (MW s K be er st na pi tr bi sz nu as' im at' op sp us tn sk ip) rfl ?_
      rw [lacksV, if_pos hh, ek, if_pos hb]
      refine A_istore_n hE 6 dX9_judge_5 rfl rfl rfl ?_
      refine A_iload_n hE 7 dX9_judge_6 rfl rfl ?_
      refine A_if_eq hE 10 16 dX9_judge_7 rfl rfl (fun c7 => absurd c7 (by decide)) (fun c7 => ?_)
      refine A_aload_n hE 11 dX9_judge_10 rfl rfl ?_
      refine A_iload_n hE 12 dX9_judge_11 rfl rfl ?_
      refine A_callVi hE 15 (c_X9_error s K be er st na pi tr bi sz nu as' im at' op sp us tn sk ip 2 (by omega)) [0, 1, 2, 3, 4, 5, 6, 7, 8, 9, 10, 11, 12] dX9_judge_12 rfl mkX9_51 rfl rfl rfl rfl rfl rfl rfl (Nat.le_of_ble_eq_true rfl) (Nat.le_of_ble_eq_true rfl) rfl (fun x12 h12 g12 hp12 hw12 => ?_)
      obtain ⟨rfl, rfl⟩ := hp12
      obtain rfl := Option.some.inj hw12
      refine A_h (MW s K be (upd er 2 (er 2 + 1)) st na pi tr bi sz nu as' im at' op sp us tn sk ip) rfl ?_
      refine A_iret hE dX9_judge_15 ?_
      rw [judgeF, if_pos hh, ek, if_pos hb]
      exact ⟨rfl, rfl⟩
    · refine A_aload_n hE 1 dX9_judge_0 rfl rfl ?_
      refine A_iload_n hE 2 dX9_judge_1 rfl rfl ?_
      refine A_callVi hE 5 (c_X9_lacks s K be er st na pi tr bi sz nu as' im at' op sp us tn sk ip (nI k)) [0, 1, 2, 3, 4, 5, 6, 7, 8, 9, 10, 11, 12] dX9_judge_2 rfl mkX9_229 rfl rfl rfl rfl rfl rfl rfl (Nat.le_of_ble_eq_true rfl) (Nat.le_of_ble_eq_true rfl) rfl (fun x2 h2 g2 hp2 hw2 => ?_)
      obtain ⟨rfl, rfl⟩ := hp2
      obtain rfl := Option.some.inj hw2
      refine A_h (MW s K be er st na pi tr bi sz nu as' im at' op sp us tn sk ip) rfl ?_
      rw [lacksV, if_pos hh, ek, if_neg hb]
      refine A_istore_n hE 6 dX9_judge_5 rfl rfl rfl ?_
      refine A_iload_n hE 7 dX9_judge_6 rfl rfl ?_
      refine A_if_eq hE 10 16 dX9_judge_7 rfl rfl (fun c7 => ?_) (fun c7 => absurd rfl c7)
      refine A_iconst hE 17 dX9_judge_16 rfl (0) rfl ?_
      refine A_istore_n hE 18 dX9_judge_17 rfl rfl rfl ?_
      have loop : ∀ (f j : Nat), j + f = z0 → rtF s (vn k nu) z0 0 = rtF s (vn k nu) f j → AW E (rmD 3 0 0) 4 (QM E ad0 13 0 0 (pI fun x0 hz0 => x0 = (judgeF s er bi sz nu (nI k)).1 ∧ hz0 = MW (judgeF s er bi sz nu (nI k)).2.1 K be (judgeF s er bi sz nu (nI k)).2.2 st na pi tr bi sz nu as' im at' op sp us tn sk ip)) ad0 13 0 0 18 [(0, .ref 0), (1, .int (nI k)), (2, .int 0), (3, .int (nI j))] [] (MW s K be er st na pi tr bi sz nu as' im at' op sp us tn sk ip) := by
        intro f
        induction f with
        | zero =>
          intro j hj hx
          obtain rfl : j = z0 := by omega
          refine A_iload_n hE 19 dX9_judge_18 rfl rfl ?_
          refine A_aload_n hE 20 dX9_judge_19 rfl rfl ?_
          refine A_get hE 23 dX9_judge_20 rfl fkX9_37 rfl rfl ?_
          refine A_iload_n hE 24 dX9_judge_23 rfl rfl ?_
          refine A_iald hE 25 k dX9_judge_24 rfl rfl rfl (by omega) rfl ?_
          rw [hz]
          refine A_icmp_ge hE 28 65 dX9_judge_25 rfl rfl (fun c25 => ?_) (fun c25 => absurd (nI_le (Nat.le_refl _) (by omega)) c25)
          refine A_iload_n hE 66 dX9_judge_65 rfl rfl ?_
          refine A_iret hE dX9_judge_66 ?_
          rw [judgeF, if_pos hh, ek, if_neg hb, hz, nI_clamp (by omega), hx, rtF]
          exact ⟨rfl, rfl⟩
        | succ f ih =>
          intro j hj hx
          have v2 : s 8 = nI (hn s) := w2
          replace hx : rtF s (vn k nu) z0 0 = if j < hn s ∧ vn k nu j = its s j 3 then rtF s (vn k nu) f (j + 1) else j := hx
          refine A_iload_n hE 19 dX9_judge_18 rfl rfl ?_
          refine A_aload_n hE 20 dX9_judge_19 rfl rfl ?_
          refine A_get hE 23 dX9_judge_20 rfl fkX9_37 rfl rfl ?_
          refine A_iload_n hE 24 dX9_judge_23 rfl rfl ?_
          refine A_iald hE 25 k dX9_judge_24 rfl rfl rfl (by omega) rfl ?_
          rw [hz]
          refine A_icmp_ge hE 28 65 dX9_judge_25 rfl rfl (fun c25 => absurd c25 (nI_ge (a := j) (b := z0) (by omega) (by omega))) (fun c25 => ?_)
          refine A_iload_n hE 29 dX9_judge_28 rfl rfl ?_
          refine A_aload_n hE 30 dX9_judge_29 rfl rfl ?_
          refine A_get hE 33 dX9_judge_30 rfl fkX9_7 rfl rfl ?_
          refine A_bipush hE 35 dX9_judge_33 rfl (8) (by decide) ?_
          refine A_iald hE 36 8 dX9_judge_35 rfl rfl rfl (by omega) rfl ?_
          rw [v2]
          refine A_icmp_ge hE 39 65 dX9_judge_36 rfl rfl (fun c36 => ?_) (fun c36 => ?_)
          · refine A_iload_n hE 66 dX9_judge_65 rfl rfl ?_
            refine A_iret hE dX9_judge_66 ?_
            rw [judgeF, if_pos hh, ek, if_neg hb, hz, nI_clamp (by omega), hx, if_neg (fun z => absurd c36 (nI_ge z.1 (by omega)))]
            exact ⟨rfl, rfl⟩
          · have hjn : j < hn s := Nat.lt_of_not_le (fun z => c36 (nI_le z (by omega)))
            refine A_aload_n hE 40 dX9_judge_39 rfl rfl ?_
            refine A_get hE 43 dX9_judge_40 rfl fkX9_40 rfl rfl ?_
            refine A_bipush hE 45 dX9_judge_43 rfl (24) (by decide) ?_
            refine A_iload_n hE 46 dX9_judge_45 rfl rfl ?_
            refine A_imul hE 47 dX9_judge_46 rfl ?_
            refine A_iload_n hE 48 dX9_judge_47 rfl rfl ?_
            refine A_iadd hE 49 dX9_judge_48 rfl ?_
            refine A_iald hE 50 (24 * k + j) dX9_judge_49 rfl rfl (ix24 k j) (by omega) rfl ?_
            refine A_aload_n hE 51 dX9_judge_50 rfl rfl ?_
            refine A_iload_n hE 52 dX9_judge_51 rfl rfl ?_
            refine A_iconst hE 53 dX9_judge_52 rfl (3) rfl ?_
            refine A_callVi hE 56 (c_X9_its s K be er st na pi tr bi sz nu as' im at' op sp us tn sk ip (nI j) 3 j 3 rfl rfl (by omega) (by omega)) [0, 1, 2, 3, 4, 5, 6, 7, 8, 9, 10, 11, 12] dX9_judge_53 rfl mkX9_111 rfl rfl rfl rfl rfl rfl rfl (Nat.le_of_ble_eq_true rfl) (Nat.le_of_ble_eq_true rfl) rfl (fun x53 h53 g53 hp53 hw53 => ?_)
            obtain ⟨rfl, rfl⟩ := hp53
            obtain rfl := Option.some.inj hw53
            refine A_h (MW s K be er st na pi tr bi sz nu as' im at' op sp us tn sk ip) rfl ?_
            refine A_icmp_ne hE 59 65 dX9_judge_56 rfl rfl (fun c56 => ?_) (fun c56 => ?_)
            · refine A_iload_n hE 66 dX9_judge_65 rfl rfl ?_
              refine A_iret hE dX9_judge_66 ?_
              rw [judgeF, if_pos hh, ek, if_neg hb, hz, nI_clamp (by omega), hx, if_neg (fun z => c56 z.2)]
              exact ⟨rfl, rfl⟩
            · refine A_iinc hE 62 dX9_judge_59 rfl rfl (1) rfl rfl rfl ?_
              rw [nI_1]
              refine A_lv [0, 1, 2, 3] rfl ?_
              refine A_goto hE 18 dX9_judge_62 rfl ?_
              exact ih (j + 1) (by omega) (by rw [hx, if_pos ⟨hjn, c56⟩])
      refine A_lv [0, 1, 2, 3] rfl ?_
      exact loop z0 0 (Nat.zero_add _) rfl
  · refine A_aload_n hE 1 dX9_judge_0 rfl rfl ?_
    refine A_iload_n hE 2 dX9_judge_1 rfl rfl ?_
    refine A_callVi hE 5 (c_X9_lacks s K be er st na pi tr bi sz nu as' im at' op sp us tn sk ip h) [0, 1, 2, 3, 4, 5, 6, 7, 8, 9, 10, 11, 12] dX9_judge_2 rfl mkX9_229 rfl rfl rfl rfl rfl rfl rfl (Nat.le_of_ble_eq_true rfl) (Nat.le_of_ble_eq_true rfl) rfl (fun x2 h2 g2 hp2 hw2 => ?_)
    obtain ⟨rfl, rfl⟩ := hp2
    obtain rfl := Option.some.inj hw2
    refine A_h (MW s K be er st na pi tr bi sz nu as' im at' op sp us tn sk ip) rfl ?_
    rw [lacksV, if_neg hh]
    refine A_istore_n hE 6 dX9_judge_5 rfl rfl rfl ?_
    refine A_iload_n hE 7 dX9_judge_6 rfl rfl ?_
    refine A_if_eq hE 10 16 dX9_judge_7 rfl rfl (fun c7 => absurd c7 (by decide)) (fun c7 => ?_)
    refine A_aload_n hE 11 dX9_judge_10 rfl rfl ?_
    refine A_iload_n hE 12 dX9_judge_11 rfl rfl ?_
    refine A_callVi hE 15 (c_X9_error s K be er st na pi tr bi sz nu as' im at' op sp us tn sk ip 1 (by omega)) [0, 1, 2, 3, 4, 5, 6, 7, 8, 9, 10, 11, 12] dX9_judge_12 rfl mkX9_51 rfl rfl rfl rfl rfl rfl rfl (Nat.le_of_ble_eq_true rfl) (Nat.le_of_ble_eq_true rfl) rfl (fun x12 h12 g12 hp12 hw12 => ?_)
    obtain ⟨rfl, rfl⟩ := hp12
    obtain rfl := Option.some.inj hw12
    refine A_h (MW s K be (upd er 1 (er 1 + 1)) st na pi tr bi sz nu as' im at' op sp us tn sk ip) rfl ?_
    refine A_iret hE dX9_judge_15 ?_
    rw [judgeF, if_neg hh]
    exact ⟨rfl, rfl⟩
