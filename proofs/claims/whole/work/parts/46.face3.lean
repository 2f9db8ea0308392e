set_option maxRecDepth 100000 in
theorem c_X8_greatestShared (a b : Nat) (ha : a ≤ 1000) (hb0 : 0 < b) (hb : b ≤ 1000) : AMet yX8_greatestShared cX8_greatestShared 3 (some (.int)) 0 0 0 [.int (nI a), .int (nI b)] [] (pI fun r h => r = nI (Nat.gcd a b) ∧ h = []) := by
  refine AMet.of (by decide +kernel) rfl (fun E ad0 hE => ?_)
  have loop : ∀ (d : Nat), d ≤ b → (∀ e, d < e → e ≤ b → ¬ (a % e = 0 ∧ b % e = 0)) → AW E (rmD 0 0 0) 3 (QM E ad0 0 0 0 (pI fun r h => r = nI (Nat.gcd a b) ∧ h = [])) ad0 0 0 0 2 [(0, .int (nI a)), (1, .int (nI b)), (2, .int (nI d))] [] [] := by
    intro d
    induction d with
    | zero =>
      intro hd H
      refine A_iload_n hE 3 dX8_greatestShared_2 rfl rfl ?_
      refine A_iconst hE 4 dX8_greatestShared_3 rfl (1) rfl ?_
      refine A_icmp_le hE 7 27 dX8_greatestShared_4 rfl rfl (fun c4 => ?_) (fun c4 => absurd (by decide) c4)
      refine A_iconst hE 28 dX8_greatestShared_27 rfl (1) rfl ?_
      refine A_iret hE dX8_greatestShared_28 ?_
      have g0 : 0 < Nat.gcd a b := Nat.gcd_pos_of_pos_right a hb0
      have g1 : Nat.gcd a b ≤ b := Nat.gcd_le_right a hb0
      have g2 : ¬ 1 < Nat.gcd a b := fun z => H _ (by omega) g1 ⟨Nat.mod_eq_zero_of_dvd (Nat.gcd_dvd_left a b), Nat.mod_eq_zero_of_dvd (Nat.gcd_dvd_right a b)⟩
      rw [show Nat.gcd a b = 1 by omega]
      exact ⟨rfl, rfl⟩
    | succ d ih =>
      intro hd H
      by_cases hd1 : d = 0
      · subst hd1
        refine A_iload_n hE 3 dX8_greatestShared_2 rfl rfl ?_
        refine A_iconst hE 4 dX8_greatestShared_3 rfl (1) rfl ?_
        refine A_icmp_le hE 7 27 dX8_greatestShared_4 rfl rfl (fun c4 => ?_) (fun c4 => absurd (by decide) c4)
        refine A_iconst hE 28 dX8_greatestShared_27 rfl (1) rfl ?_
        refine A_iret hE dX8_greatestShared_28 ?_
        have g0 : 0 < Nat.gcd a b := Nat.gcd_pos_of_pos_right a hb0
        have g1 : Nat.gcd a b ≤ b := Nat.gcd_le_right a hb0
        have g2 : ¬ 1 < Nat.gcd a b := fun z => H _ (by omega) g1 ⟨Nat.mod_eq_zero_of_dvd (Nat.gcd_dvd_left a b), Nat.mod_eq_zero_of_dvd (Nat.gcd_dvd_right a b)⟩
        rw [show Nat.gcd a b = 1 by omega]
        exact ⟨rfl, rfl⟩
      · have ea : rm (nI a) (nI (d + 1)) = nI (a % (d + 1)) := pk_rem (by omega) (by omega) (by omega)
        have eb : rm (nI b) (nI (d + 1)) = nI (b % (d + 1)) := pk_rem (by omega) (by omega) (by omega)
        have la := Nat.mod_lt a (show 0 < d + 1 by omega)
        have lb := Nat.mod_lt b (show 0 < d + 1 by omega)
        refine A_iload_n hE 3 dX8_greatestShared_2 rfl rfl ?_
        refine A_iconst hE 4 dX8_greatestShared_3 rfl (1) rfl ?_
        refine A_icmp_le hE 7 27 dX8_greatestShared_4 rfl rfl (fun c4 => absurd c4 (nI_ge (a := 1) (by omega) (by omega))) (fun c4 => ?_)
        refine A_iload_n hE 8 dX8_greatestShared_7 rfl rfl ?_
        refine A_iload_n hE 9 dX8_greatestShared_8 rfl rfl ?_
        refine A_irem hE 10 dX8_greatestShared_9 rfl (nI_ne0 (by omega) (by omega)) ?_
        refine A_if_ne hE 13 21 dX8_greatestShared_10 rfl rfl (fun c10 => ?_) (fun c10 => ?_)
        · have ha1 : ¬ a % (d + 1) = 0 := fun z => c10 (by rw [ea, z]; rfl)
          refine A_iinc hE 24 dX8_greatestShared_21 rfl rfl (-1) rfl rfl rfl ?_
          rw [nI_m1]
          have H' : ∀ e, d < e → e ≤ b → ¬ (a % e = 0 ∧ b % e = 0) := by
            intro e h1 h2
            by_cases q : e = d + 1
            · rw [q]; exact fun z => ha1 z.1
            · exact H e (by omega) h2
          refine A_lv [0, 1, 2] rfl ?_
          refine A_goto hE 2 dX8_greatestShared_24 rfl ?_
          exact ih (by omega) H'
        · have ha0 : a % (d + 1) = 0 := by
            rw [ea] at c10
            have := (nI_eq (by omega) (b := 0) (by omega)).mp c10
            exact this
          refine A_iload_n hE 14 dX8_greatestShared_13 rfl rfl ?_
          refine A_iload_n hE 15 dX8_greatestShared_14 rfl rfl ?_
          refine A_irem hE 16 dX8_greatestShared_15 rfl (nI_ne0 (by omega) (by omega)) ?_
          refine A_if_ne hE 19 21 dX8_greatestShared_16 rfl rfl (fun c16 => ?_) (fun c16 => ?_)
          · have hb2 : ¬ b % (d + 1) = 0 := fun z => c16 (by rw [eb, z]; rfl)
            refine A_iinc hE 24 dX8_greatestShared_21 rfl rfl (-1) rfl rfl rfl ?_
            rw [nI_m1]
            have H' : ∀ e, d < e → e ≤ b → ¬ (a % e = 0 ∧ b % e = 0) := by
              intro e h1 h2
              by_cases q : e = d + 1
              · rw [q]; exact fun z => hb2 z.2
              · exact H e (by omega) h2
            refine A_lv [0, 1, 2] rfl ?_
            refine A_goto hE 2 dX8_greatestShared_24 rfl ?_
            exact ih (by omega) H'
          · have hb1 : b % (d + 1) = 0 := by
              rw [eb] at c16
              have := (nI_eq (by omega) (b := 0) (by omega)).mp c16
              exact this
            refine A_iload_n hE 20 dX8_greatestShared_19 rfl rfl ?_
            refine A_iret hE dX8_greatestShared_20 ?_
            have hd1 : d + 1 ∣ Nat.gcd a b := Nat.dvd_gcd (Nat.dvd_of_mod_eq_zero ha0) (Nat.dvd_of_mod_eq_zero hb1)
            have g0 : 0 < Nat.gcd a b := Nat.gcd_pos_of_pos_right a hb0
            have g1 : Nat.gcd a b ≤ b := Nat.gcd_le_right a hb0
            have g2 := Nat.le_of_dvd g0 hd1
            have g3 : ¬ d + 1 < Nat.gcd a b := fun z => H _ z g1 ⟨Nat.mod_eq_zero_of_dvd (Nat.gcd_dvd_left a b), Nat.mod_eq_zero_of_dvd (Nat.gcd_dvd_right a b)⟩
            rw [show Nat.gcd a b = d + 1 by omega]
            exact ⟨rfl, rfl⟩
  refine A_iload_n hE 1 dX8_greatestShared_0 rfl rfl ?_
  refine A_istore_n hE 2 dX8_greatestShared_1 rfl rfl rfl ?_
  refine A_lv [0, 1, 2] rfl ?_
  exact loop b (Nat.le_refl _) (fun e h1 h2 => by omega)
set_option maxRecDepth 100000 in
theorem c_X8_odds (er : Nat → Int32) (im : Int32) (s : St) (t0 : Sp) (g0 h0 : Nat → Int32) (t1 : Sp) (g1 h1 : Nat → Int32) (tl : Nat) (tp : Nat → Int32) (wl : Nat) (wt : Nat → Int32) (wh mu : Int32) (J : St) (pt : Int32) (vK : Nat) (vk vm : Int32) (tn : Nat) (tr : Nat → Int32) (v1 v2 : Value) (pl ft : Int32) (rk : Nat) (rf : Nat → Int32) (K : St) (m0 : Nat) (f0 k0 : Nat → Int32) (m1 : Nat) (f1 k1 : Nat → Int32) (tl2 : Nat) (tp2 : Nat → Int32) (wl2 : Nat) (wt2 sb : Nat → Int32) (zs : Nat → Nat) (sn : Nat → Nat → Int32) (dn : Nat) (df dk : Nat → Int32) (dm : Nat) (dg dl : Nat → Int32) (h v n p : Int32) (w : wf s) (l0 : LawC 0 t0 g0) (l1 : LawC 1 t1 g1) : AMet yX8_odds cX8_odds 8 (some (.int)) 6 0 0 [.ref 0, .int h, .int v, .int n, .int p] (Y71 er im s t0 g0 h0 t1 g1 h1 tl tp wl wt wh mu J pt vK vk vm tn tr v1 v2 pl ft rk rf K m0 f0 k0 m1 f1 k1 tl2 tp2 wl2 wt2 sb zs sn dn df dk dm dg dl) (pI fun x0 hz0 => x0 = (oddsF t0 t1 s er h v n p).1 ∧ ∃ (J' : St) (wh' mu' : Int32) (dn' dm' : Nat) (df' dk' dg' dl' : Nat → Int32), hz0 = Y71 (oddsF t0 t1 s er h v n p).2.2 im (oddsF t0 t1 s er h v n p).2.1 t0 g0 h0 t1 g1 h1 tl tp wl wt wh' mu' J' pt vK vk vm tn tr v1 v2 pl ft rk rf K m0 f0 k0 m1 f1 k1 tl2 tp2 wl2 wt2 sb zs sn dn' df' dk' dm' dg' dl') := by
  refine AMet.of (by decide +kernel) rfl (fun E ad0 hE => ?_)
  obtain ⟨w1, w2, w3, w4, w5, w6, w7⟩ := id w
  refine A_aload_n hE 1 dX8_odds_0 rfl rfl ?_
  refine A_get hE 4 dX8_odds_1 rfl fkX8_10 rfl rfl ?_
  refine A_get hE 7 dX8_odds_4 rfl fkX8_63 rfl rfl ?_
  refine A_iload_n hE 8 dX8_odds_7 rfl rfl ?_
  refine A_callVi hE 11 (c_X2_has s t0 t1 g0 h0 g1 h1 h) [11, 3, 4, 5, 6, 7, 8, 9, 10, 12, 13, 14, 15] dX8_odds_8 rfl mkX8_75 rfl rfl rfl rfl rfl rfl rfl (Nat.le_of_ble_eq_true rfl) (Nat.le_of_ble_eq_true rfl) rfl (fun x8 h8 g8 hp8 hw8 => ?_)
  obtain ⟨rfl, rfl⟩ := hp8
  obtain rfl := Option.some.inj hw8
  refine A_h (Y71 er im s t0 g0 h0 t1 g1 h1 tl tp wl wt wh mu J pt vK vk vm tn tr v1 v2 pl ft rk rf K m0 f0 k0 m1 f1 k1 tl2 tp2 wl2 wt2 sb zs sn dn df dk dm dg dl) rfl ?_
  refine A_if_eq hE 14 45 dX8_odds_11 rfl rfl (fun c11 => ?_) (fun c11 => ?_)
  · have hh := bI_0 c11
    refine A_aload_n hE 46 dX8_odds_45 rfl rfl ?_
    refine A_iconst hE 47 dX8_odds_46 rfl (1) rfl ?_
    refine A_callVi hE 50 (c_X8_error er im 1 (by omega)) [0, 1] dX8_odds_47 rfl mkX8_59 rfl rfl rfl rfl rfl rfl rfl (Nat.le_of_ble_eq_true rfl) (Nat.le_of_ble_eq_true rfl) rfl (fun x47 h47 g47 hp47 hw47 => ?_)
    obtain ⟨rfl, rfl⟩ := hp47
    obtain rfl := Option.some.inj hw47
    refine A_h (Y71 (upd er 1 (er 1 + 1)) im s t0 g0 h0 t1 g1 h1 tl tp wl wt wh mu J pt vK vk vm tn tr v1 v2 pl ft rk rf K m0 f0 k0 m1 f1 k1 tl2 tp2 wl2 wt2 sb zs sn dn df dk dm dg dl) rfl ?_
    refine A_iret hE dX8_odds_50 ?_
    rw [oddsF, if_neg (fun z => hh z.1)]
    exact ⟨rfl, J, wh, mu, dn, dm, df, dk, dg, dl, rfl⟩
  · have hh := bI_1 c11
    have hq := hh
    rw [w2] at hq
    obtain ⟨k, hk, rfl⟩ := iK hq.1 hq.2 (by omega)
    have ek : (nI k).toNatClampNeg = k := nI_clamp (by omega)
    refine A_iload_n hE 15 dX8_odds_14 rfl rfl ?_
    refine A_iconst hE 16 dX8_odds_15 rfl (0) rfl ?_
    refine A_sipush hE 19 dX8_odds_16 rfl (9999) (by decide) ?_
    refine A_callSi hE 22 (c_X8_isWithin v 0 9999) [] dX8_odds_19 rfl mkX8_55 rfl rfl rfl rfl rfl rfl (Nat.le_of_ble_eq_true rfl) (Nat.le_of_ble_eq_true rfl) rfl (fun x19 h19 g19 hp19 hw19 => ?_)
    obtain ⟨rfl, rfl⟩ := hp19
    obtain rfl := Option.some.inj hw19
    refine A_if_eq hE 25 45 dX8_odds_22 rfl rfl (fun c22 => ?_) (fun c22 => ?_)
    · have hv := bI_0 c22
      refine A_aload_n hE 46 dX8_odds_45 rfl rfl ?_
      refine A_iconst hE 47 dX8_odds_46 rfl (1) rfl ?_
      refine A_callVi hE 50 (c_X8_error er im 1 (by omega)) [0, 1] dX8_odds_47 rfl mkX8_59 rfl rfl rfl rfl rfl rfl rfl (Nat.le_of_ble_eq_true rfl) (Nat.le_of_ble_eq_true rfl) rfl (fun x47 h47 g47 hp47 hw47 => ?_)
      obtain ⟨rfl, rfl⟩ := hp47
      obtain rfl := Option.some.inj hw47
      refine A_h (Y71 (upd er 1 (er 1 + 1)) im s t0 g0 h0 t1 g1 h1 tl tp wl wt wh mu J pt vK vk vm tn tr v1 v2 pl ft rk rf K m0 f0 k0 m1 f1 k1 tl2 tp2 wl2 wt2 sb zs sn dn df dk dm dg dl) rfl ?_
      refine A_iret hE dX8_odds_50 ?_
      rw [oddsF, if_neg (fun z => hv z.2.1)]
      exact ⟨rfl, J, wh, mu, dn, dm, df, dk, dg, dl, rfl⟩
    · have hv := bI_1 c22
      refine A_iload_n hE 26 dX8_odds_25 rfl rfl ?_
      refine A_iconst hE 27 dX8_odds_26 rfl (0) rfl ?_
      refine A_bipush hE 29 dX8_odds_27 rfl (40) (by decide) ?_
      refine A_callSi hE 32 (c_X8_isWithin n 0 40) [] dX8_odds_29 rfl mkX8_55 rfl rfl rfl rfl rfl rfl (Nat.le_of_ble_eq_true rfl) (Nat.le_of_ble_eq_true rfl) rfl (fun x29 h29 g29 hp29 hw29 => ?_)
      obtain ⟨rfl, rfl⟩ := hp29
      obtain rfl := Option.some.inj hw29
      refine A_if_eq hE 35 45 dX8_odds_32 rfl rfl (fun c32 => ?_) (fun c32 => ?_)
      · have hn' := bI_0 c32
        refine A_aload_n hE 46 dX8_odds_45 rfl rfl ?_
        refine A_iconst hE 47 dX8_odds_46 rfl (1) rfl ?_
        refine A_callVi hE 50 (c_X8_error er im 1 (by omega)) [0, 1] dX8_odds_47 rfl mkX8_59 rfl rfl rfl rfl rfl rfl rfl (Nat.le_of_ble_eq_true rfl) (Nat.le_of_ble_eq_true rfl) rfl (fun x47 h47 g47 hp47 hw47 => ?_)
        obtain ⟨rfl, rfl⟩ := hp47
        obtain rfl := Option.some.inj hw47
        refine A_h (Y71 (upd er 1 (er 1 + 1)) im s t0 g0 h0 t1 g1 h1 tl tp wl wt wh mu J pt vK vk vm tn tr v1 v2 pl ft rk rf K m0 f0 k0 m1 f1 k1 tl2 tp2 wl2 wt2 sb zs sn dn df dk dm dg dl) rfl ?_
        refine A_iret hE dX8_odds_50 ?_
        rw [oddsF, if_neg (fun z => hn' z.2.2.1)]
        exact ⟨rfl, J, wh, mu, dn, dm, df, dk, dg, dl, rfl⟩
      · have hn' := bI_1 c32
        obtain ⟨j, hkj, rfl⟩ := iK2 (n := 40) hn'.1 hn'.2 (by omega)
        have ej : (nI j).toNatClampNeg = j := nI_clamp (by omega)
        refine A_iload hE 37 dX8_odds_35 rfl rfl ?_
        refine A_iconst hE 38 dX8_odds_37 rfl (0) rfl ?_
        refine A_iconst hE 39 dX8_odds_38 rfl (1) rfl ?_
        refine A_callSi hE 42 (c_X8_isWithin p 0 1) [] dX8_odds_39 rfl mkX8_55 rfl rfl rfl rfl rfl rfl (Nat.le_of_ble_eq_true rfl) (Nat.le_of_ble_eq_true rfl) rfl (fun x39 h39 g39 hp39 hw39 => ?_)
        obtain ⟨rfl, rfl⟩ := hp39
        obtain rfl := Option.some.inj hw39
        refine A_if_ne hE 45 51 dX8_odds_42 rfl rfl (fun c42 => ?_) (fun c42 => ?_)
        · have hp := bI_1 c42
          refine A_bipush hE 53 dX8_odds_51 rfl (100) (by decide) ?_
          refine A_istore hE 55 dX8_odds_53 rfl rfl rfl ?_
          refine A_aload_n hE 56 dX8_odds_55 rfl rfl ?_
          refine A_get hE 59 dX8_odds_56 rfl fkX8_29 rfl rfl ?_
          refine A_aload_n hE 60 dX8_odds_59 rfl rfl ?_
          refine A_get hE 63 dX8_odds_60 rfl fkX8_10 rfl rfl ?_
          refine A_get hE 66 dX8_odds_63 rfl fkX8_63 rfl rfl ?_
          refine A_iload_n hE 67 dX8_odds_66 rfl rfl ?_
          refine A_iload_n hE 68 dX8_odds_67 rfl rfl ?_
          refine A_iload_n hE 69 dX8_odds_68 rfl rfl ?_
          refine A_callVi hE 72 (c_X6_likelyViews s J wh mu t0 t1 g0 h0 g1 h1 dn dm df dk dg dl k j v (by omega) (by omega) w l0 l1) [20, 11, 12, 13, 14, 15, 21, 22, 23, 24, 25, 3, 4, 5, 6, 7, 8, 9, 10, 63, 64, 65, 66, 67, 68, 69, 70] dX8_odds_69 rfl mkX8_211 rfl rfl rfl rfl rfl rfl rfl (Nat.le_of_ble_eq_true rfl) (Nat.le_of_ble_eq_true rfl) rfl (fun x69 h69 g69 hp69 hw69 => ?_)
          obtain ⟨rfl, J1, n2, m2, f2, k2, f3, k3, rfl⟩ := hp69
          obtain rfl := Option.some.inj hw69
          refine A_h (Y71 er im s t0 g0 h0 t1 g1 h1 tl tp wl wt wh mu J1 pt vK vk vm tn tr v1 v2 pl ft rk rf K m0 f0 k0 m1 f1 k1 tl2 tp2 wl2 wt2 sb zs sn n2 f2 k2 m2 f3 k3) rfl ?_
          rw [show lvF' t0 t1 s k j v 100 0 0 = nI (lvN t0 t1 s k j v 100 0 0) from lv_eq t0 t1 s k j v 100 0 0]
          have hc : (lvN t0 t1 s k j v 100 0 0) ≤ 100 := by have := lvN_le (t0 := t0) (t1 := t1) (s := s) (k := k) (n := j) (v := v) 100 0 0; omega
          have hg : 0 < Nat.gcd (lvN t0 t1 s k j v 100 0 0) 100 := Nat.gcd_pos_of_pos_right _ (by omega)
          have hg2 : Nat.gcd (lvN t0 t1 s k j v 100 0 0) 100 ≤ 100 := Nat.gcd_le_right _ (by omega)
          refine A_istore hE 74 dX8_odds_72 rfl rfl rfl ?_
          refine A_iload hE 76 dX8_odds_74 rfl rfl ?_
          refine A_iload hE 78 dX8_odds_76 rfl rfl ?_
          refine A_callSi hE 81 (c_X8_greatestShared (lvN t0 t1 s k j v 100 0 0) 100 (by omega) (by omega) (by omega)) [] dX8_odds_78 rfl mkX8_215 rfl rfl rfl rfl rfl rfl (Nat.le_of_ble_eq_true rfl) (Nat.le_of_ble_eq_true rfl) rfl (fun x78 h78 g78 hp78 hw78 => ?_)
          obtain ⟨rfl, rfl⟩ := hp78
          obtain rfl := Option.some.inj hw78
          refine A_istore hE 83 dX8_odds_81 rfl rfl rfl ?_
          refine A_iload hE 85 dX8_odds_83 rfl rfl ?_
          refine A_if_ne hE 88 96 dX8_odds_85 rfl rfl (fun c85 => ?_) (fun c85 => ?_)
          · refine A_iload hE 98 dX8_odds_96 rfl rfl ?_
            refine A_iload hE 100 dX8_odds_98 rfl rfl ?_
            refine A_idiv hE 101 dX8_odds_100 rfl (nI_ne0 hg (by omega)) ?_
            refine A_iret hE dX8_odds_101 ?_
            rw [oddsF, if_pos ⟨hh, hv, hn', hp⟩, ek, ej, if_neg c85]
            exact ⟨(pk_div (a := 100) (by omega) hg (by omega)), J1, wh, mu, n2, m2, f2, k2, f3, k3, rfl⟩
          · refine A_iload hE 90 dX8_odds_88 rfl rfl ?_
            refine A_iload hE 92 dX8_odds_90 rfl rfl ?_
            refine A_idiv hE 93 dX8_odds_92 rfl (nI_ne0 hg (by omega)) ?_
            refine A_goto hE 101 dX8_odds_93 rfl ?_
            refine A_iret hE dX8_odds_101 ?_
            rw [oddsF, if_pos ⟨hh, hv, hn', hp⟩, ek, ej, if_pos c85]
            exact ⟨(pk_div (by omega) hg (by omega)), J1, wh, mu, n2, m2, f2, k2, f3, k3, rfl⟩
        · have hp := bI_0 c42
          refine A_aload_n hE 46 dX8_odds_45 rfl rfl ?_
          refine A_iconst hE 47 dX8_odds_46 rfl (1) rfl ?_
          refine A_callVi hE 50 (c_X8_error er im 1 (by omega)) [0, 1] dX8_odds_47 rfl mkX8_59 rfl rfl rfl rfl rfl rfl rfl (Nat.le_of_ble_eq_true rfl) (Nat.le_of_ble_eq_true rfl) rfl (fun x47 h47 g47 hp47 hw47 => ?_)
          obtain ⟨rfl, rfl⟩ := hp47
          obtain rfl := Option.some.inj hw47
          refine A_h (Y71 (upd er 1 (er 1 + 1)) im s t0 g0 h0 t1 g1 h1 tl tp wl wt wh mu J pt vK vk vm tn tr v1 v2 pl ft rk rf K m0 f0 k0 m1 f1 k1 tl2 tp2 wl2 wt2 sb zs sn dn df dk dm dg dl) rfl ?_
          refine A_iret hE dX8_odds_50 ?_
          rw [oddsF, if_neg (fun z => hp z.2.2.2)]
          exact ⟨rfl, J, wh, mu, dn, dm, df, dk, dg, dl, rfl⟩
set_option maxRecDepth 100000 in
theorem c_X8_body (er : Nat → Int32) (im : Int32) (s : St) (t0 : Sp) (g0 h0 : Nat → Int32) (t1 : Sp) (g1 h1 : Nat → Int32) (tl : Nat) (tp : Nat → Int32) (wl : Nat) (wt : Nat → Int32) (wh mu : Int32) (J : St) (pt : Int32) (vK : Nat) (vk vm : Int32) (tn : Nat) (tr : Nat → Int32) (i : Int32) (htn : tn ≤ 30) : AMet yX8_body cX8_body 2 (some (.int)) 1 0 0 [.ref 0, .int i] (Y29 er im s t0 g0 h0 t1 g1 h1 tl tp wl wt wh mu J pt vK vk vm tn tr) (pI fun x0 hz0 => x0 = (bodyF s er tn tr i).1 ∧ hz0 = Y29 (bodyF s er tn tr i).2.2 im s t0 g0 h0 t1 g1 h1 tl tp wl wt wh mu J pt vK vk vm tn tr) := by
  refine AMet.of (by decide +kernel) rfl (fun E ad0 hE => ?_)
  refine A_aload_n hE 1 dX8_body_0 rfl rfl ?_
  refine A_get hE 4 dX8_body_1 rfl fkX8_36 rfl rfl ?_
  refine A_get hE 7 dX8_body_4 rfl fkX8_245 rfl rfl ?_
  refine A_iload_n hE 8 dX8_body_7 rfl rfl ?_
  refine A_callVi hE 11 (c_X3_has 30 tr (nI tn) i) [27, 28] dX8_body_8 rfl mkX8_248 rfl rfl rfl rfl rfl rfl rfl (Nat.le_of_ble_eq_true rfl) (Nat.le_of_ble_eq_true rfl) rfl (fun x8 h8 g8 hp8 hw8 => ?_)
  obtain ⟨rfl, rfl⟩ := hp8
  obtain rfl := Option.some.inj hw8
  refine A_h (Y29 er im s t0 g0 h0 t1 g1 h1 tl tp wl wt wh mu J pt vK vk vm tn tr) rfl ?_
  refine A_if_ne hE 14 20 dX8_body_11 rfl rfl (fun c11 => ?_) (fun c11 => ?_)
  · have hh := bI_1 c11
    obtain ⟨j, hj, rfl⟩ := iK hh.1 hh.2 (by omega)
    refine A_aload_n hE 21 dX8_body_20 rfl rfl ?_
    refine A_get hE 24 dX8_body_21 rfl fkX8_36 rfl rfl ?_
    refine A_get hE 27 dX8_body_24 rfl fkX8_245 rfl rfl ?_
    refine A_get hE 30 dX8_body_27 rfl fkX8_249 rfl rfl ?_
    refine A_iload_n hE 31 dX8_body_30 rfl rfl ?_
    refine A_iald hE 32 j dX8_body_31 rfl rfl rfl (by omega) rfl ?_
    refine A_iret hE dX8_body_32 ?_
    rw [bodyF, if_pos hh, nI_clamp (by omega)]
    exact ⟨rfl, rfl⟩
  · have hh := bI_0 c11
    refine A_aload_n hE 15 dX8_body_14 rfl rfl ?_
    refine A_iconst hE 16 dX8_body_15 rfl (2) rfl ?_
    refine A_callVi hE 19 (c_X8_error er im 2 (by omega)) [0, 1] dX8_body_16 rfl mkX8_59 rfl rfl rfl rfl rfl rfl rfl (Nat.le_of_ble_eq_true rfl) (Nat.le_of_ble_eq_true rfl) rfl (fun x16 h16 g16 hp16 hw16 => ?_)
    obtain ⟨rfl, rfl⟩ := hp16
    obtain rfl := Option.some.inj hw16
    refine A_h (Y29 (upd er 2 (er 2 + 1)) im s t0 g0 h0 t1 g1 h1 tl tp wl wt wh mu J pt vK vk vm tn tr) rfl ?_
    refine A_iret hE dX8_body_19 ?_
    rw [bodyF, if_neg hh]
    exact ⟨rfl, rfl⟩
set_option maxRecDepth 100000 in
theorem c_X8_count (er : Nat → Int32) (im : Int32) (s : St) (t0 : Sp) (g0 h0 : Nat → Int32) (t1 : Sp) (g1 h1 : Nat → Int32) (tl : Nat) (tp : Nat → Int32) (wl : Nat) (wt : Nat → Int32) (wh mu : Int32) (J : St) (pt : Int32) (vK : Nat) (vk vm : Int32) (tn : Nat) (tr : Nat → Int32) (what : Int32) (w : wf s) (h6 : s 6 = nI tl) (h7 : s 7 = nI wl) : AMet yX8_count cX8_count 3 (some (.int)) 1 0 0 [.ref 0, .int what] (Y29 er im s t0 g0 h0 t1 g1 h1 tl tp wl wt wh mu J pt vK vk vm tn tr) (pI fun x0 hz0 => x0 = (countF s er tn what).1 ∧ hz0 = Y29 (countF s er tn what).2.2 im s t0 g0 h0 t1 g1 h1 tl tp wl wt wh mu J pt vK vk vm tn tr) := by
  refine AMet.of (by decide +kernel) rfl (fun E ad0 hE => ?_)
  by_cases hw : 0 ≤ what ∧ what ≤ 11
  · obtain ⟨j, hj, rfl⟩ := iK2 (n := 11) hw.1 hw.2 (by omega)
    rw [countF, if_pos hw, nI_clamp (by omega)]
    match j, hj with
    | 0, _ =>
      refine A_aload_n hE 1 dX8_count_0 rfl rfl ?_
      refine A_get hE 4 dX8_count_1 rfl fkX8_10 rfl rfl ?_
      refine A_get hE 7 dX8_count_4 rfl fkX8_63 rfl rfl ?_
      refine A_astore_n hE 8 dX8_count_7 rfl rfl rfl ?_
      refine A_iload_n hE 9 dX8_count_8 rfl rfl ?_
      refine A_tabIn hE 72 dX8_count_9 (by decide) (by decide) (off := 63) (by decide) rfl ?_
      refine A_aload_n hE 73 dX8_count_72 rfl rfl ?_
      refine A_get hE 76 dX8_count_73 rfl fkX8_67 rfl rfl ?_
      refine A_iret hE dX8_count_76 ?_
      exact ⟨rfl, rfl⟩
    | 1, _ =>
      refine A_aload_n hE 1 dX8_count_0 rfl rfl ?_
      refine A_get hE 4 dX8_count_1 rfl fkX8_10 rfl rfl ?_
      refine A_get hE 7 dX8_count_4 rfl fkX8_63 rfl rfl ?_
      refine A_astore_n hE 8 dX8_count_7 rfl rfl rfl ?_
      refine A_iload_n hE 9 dX8_count_8 rfl rfl ?_
      refine A_tabIn hE 77 dX8_count_9 (by decide) (by decide) (off := 68) (by decide) rfl ?_
      refine A_aload_n hE 78 dX8_count_77 rfl rfl ?_
      refine A_get hE 81 dX8_count_78 rfl fkX8_164 rfl rfl ?_
      refine A_iret hE dX8_count_81 ?_
      exact ⟨rfl, rfl⟩
    | 2, _ =>
      refine A_aload_n hE 1 dX8_count_0 rfl rfl ?_
      refine A_get hE 4 dX8_count_1 rfl fkX8_10 rfl rfl ?_
      refine A_get hE 7 dX8_count_4 rfl fkX8_63 rfl rfl ?_
      refine A_astore_n hE 8 dX8_count_7 rfl rfl rfl ?_
      refine A_iload_n hE 9 dX8_count_8 rfl rfl ?_
      refine A_tabIn hE 82 dX8_count_9 (by decide) (by decide) (off := 73) (by decide) rfl ?_
      refine A_aload_n hE 83 dX8_count_82 rfl rfl ?_
      refine A_get hE 86 dX8_count_83 rfl fkX8_111 rfl rfl ?_
      refine A_iret hE dX8_count_86 ?_
      exact ⟨rfl, rfl⟩
    | 3, _ =>
      refine A_aload_n hE 1 dX8_count_0 rfl rfl ?_
      refine A_get hE 4 dX8_count_1 rfl fkX8_10 rfl rfl ?_
      refine A_get hE 7 dX8_count_4 rfl fkX8_63 rfl rfl ?_
      refine A_astore_n hE 8 dX8_count_7 rfl rfl rfl ?_
      refine A_iload_n hE 9 dX8_count_8 rfl rfl ?_
      refine A_tabIn hE 87 dX8_count_9 (by decide) (by decide) (off := 78) (by decide) rfl ?_
      refine A_aload_n hE 88 dX8_count_87 rfl rfl ?_
      refine A_get hE 91 dX8_count_88 rfl fkX8_170 rfl rfl ?_
      refine A_iret hE dX8_count_91 ?_
      exact ⟨rfl, rfl⟩
    | 4, _ =>
      refine A_aload_n hE 1 dX8_count_0 rfl rfl ?_
      refine A_get hE 4 dX8_count_1 rfl fkX8_10 rfl rfl ?_
      refine A_get hE 7 dX8_count_4 rfl fkX8_63 rfl rfl ?_
      refine A_astore_n hE 8 dX8_count_7 rfl rfl rfl ?_
      refine A_iload_n hE 9 dX8_count_8 rfl rfl ?_
      refine A_tabIn hE 92 dX8_count_9 (by decide) (by decide) (off := 83) (by decide) rfl ?_
      refine A_aload_n hE 93 dX8_count_92 rfl rfl ?_
      refine A_get hE 96 dX8_count_93 rfl fkX8_183 rfl rfl ?_
      refine A_iret hE dX8_count_96 ?_
      exact ⟨rfl, rfl⟩
    | 5, _ =>
      refine A_aload_n hE 1 dX8_count_0 rfl rfl ?_
      refine A_get hE 4 dX8_count_1 rfl fkX8_10 rfl rfl ?_
      refine A_get hE 7 dX8_count_4 rfl fkX8_63 rfl rfl ?_
      refine A_astore_n hE 8 dX8_count_7 rfl rfl rfl ?_
      refine A_iload_n hE 9 dX8_count_8 rfl rfl ?_
      refine A_tabIn hE 97 dX8_count_9 (by decide) (by decide) (off := 88) (by decide) rfl ?_
      refine A_aload_n hE 98 dX8_count_97 rfl rfl ?_
      refine A_get hE 101 dX8_count_98 rfl fkX8_289 rfl rfl ?_
      refine A_iret hE dX8_count_101 ?_
      exact ⟨rfl, rfl⟩
    | 6, _ =>
      refine A_aload_n hE 1 dX8_count_0 rfl rfl ?_
      refine A_get hE 4 dX8_count_1 rfl fkX8_10 rfl rfl ?_
      refine A_get hE 7 dX8_count_4 rfl fkX8_63 rfl rfl ?_
      refine A_astore_n hE 8 dX8_count_7 rfl rfl rfl ?_
      refine A_iload_n hE 9 dX8_count_8 rfl rfl ?_
      refine A_tabIn hE 102 dX8_count_9 (by decide) (by decide) (off := 93) (by decide) rfl ?_
      refine A_aload_n hE 103 dX8_count_102 rfl rfl ?_
      refine A_callVi hE 106 (c_X2_heardTogether s t0 t1 g0 h0 g1 h1 w) [11, 3, 4, 5, 6, 7, 8, 9, 10, 12, 13, 14, 15] dX8_count_103 rfl mkX8_186 rfl rfl rfl rfl rfl rfl rfl (Nat.le_of_ble_eq_true rfl) (Nat.le_of_ble_eq_true rfl) rfl (fun x103 h103 g103 hp103 hw103 => ?_)
      obtain ⟨rfl, rfl⟩ := hp103
      obtain rfl := Option.some.inj hw103
      refine A_h (Y29 er im s t0 g0 h0 t1 g1 h1 tl tp wl wt wh mu J pt vK vk vm tn tr) rfl ?_
      refine A_iret hE dX8_count_106 ?_
      exact ⟨rfl, rfl⟩
    | 7, _ =>
      refine A_aload_n hE 1 dX8_count_0 rfl rfl ?_
      refine A_get hE 4 dX8_count_1 rfl fkX8_10 rfl rfl ?_
      refine A_get hE 7 dX8_count_4 rfl fkX8_63 rfl rfl ?_
      refine A_astore_n hE 8 dX8_count_7 rfl rfl rfl ?_
      refine A_iload_n hE 9 dX8_count_8 rfl rfl ?_
      refine A_tabIn hE 107 dX8_count_9 (by decide) (by decide) (off := 98) (by decide) rfl ?_
      refine A_aload_n hE 108 dX8_count_107 rfl rfl ?_
      refine A_get hE 111 dX8_count_108 rfl fkX8_292 rfl rfl ?_
      refine A_iret hE dX8_count_111 ?_
      exact ⟨rfl, rfl⟩
    | 8, _ =>
      refine A_aload_n hE 1 dX8_count_0 rfl rfl ?_
      refine A_get hE 4 dX8_count_1 rfl fkX8_10 rfl rfl ?_
      refine A_get hE 7 dX8_count_4 rfl fkX8_63 rfl rfl ?_
      refine A_astore_n hE 8 dX8_count_7 rfl rfl rfl ?_
      refine A_iload_n hE 9 dX8_count_8 rfl rfl ?_
      refine A_tabIn hE 112 dX8_count_9 (by decide) (by decide) (off := 103) (by decide) rfl ?_
      refine A_aload_n hE 113 dX8_count_112 rfl rfl ?_
      refine A_get hE 116 dX8_count_113 rfl fkX8_10 rfl rfl ?_
      refine A_get hE 119 dX8_count_116 rfl fkX8_123 rfl rfl ?_
      refine A_get hE 122 dX8_count_119 rfl fkX8_127 rfl rfl ?_
      refine A_iret hE dX8_count_122 ?_
      exact ⟨h6.symm, rfl⟩
    | 9, _ =>
      refine A_aload_n hE 1 dX8_count_0 rfl rfl ?_
      refine A_get hE 4 dX8_count_1 rfl fkX8_10 rfl rfl ?_
      refine A_get hE 7 dX8_count_4 rfl fkX8_63 rfl rfl ?_
      refine A_astore_n hE 8 dX8_count_7 rfl rfl rfl ?_
      refine A_iload_n hE 9 dX8_count_8 rfl rfl ?_
      refine A_tabIn hE 123 dX8_count_9 (by decide) (by decide) (off := 114) (by decide) rfl ?_
      refine A_aload_n hE 124 dX8_count_123 rfl rfl ?_
      refine A_get hE 127 dX8_count_124 rfl fkX8_10 rfl rfl ?_
      refine A_get hE 130 dX8_count_127 rfl fkX8_283 rfl rfl ?_
      refine A_get hE 133 dX8_count_130 rfl fkX8_127 rfl rfl ?_
      refine A_iret hE dX8_count_133 ?_
      exact ⟨h7.symm, rfl⟩
    | 10, _ =>
      refine A_aload_n hE 1 dX8_count_0 rfl rfl ?_
      refine A_get hE 4 dX8_count_1 rfl fkX8_10 rfl rfl ?_
      refine A_get hE 7 dX8_count_4 rfl fkX8_63 rfl rfl ?_
      refine A_astore_n hE 8 dX8_count_7 rfl rfl rfl ?_
      refine A_iload_n hE 9 dX8_count_8 rfl rfl ?_
      refine A_tabIn hE 134 dX8_count_9 (by decide) (by decide) (off := 125) (by decide) rfl ?_
      refine A_aload_n hE 135 dX8_count_134 rfl rfl ?_
      refine A_get hE 138 dX8_count_135 rfl fkX8_36 rfl rfl ?_
      refine A_get hE 141 dX8_count_138 rfl fkX8_245 rfl rfl ?_
      refine A_get hE 144 dX8_count_141 rfl fkX8_127 rfl rfl ?_
      refine A_iret hE dX8_count_144 ?_
      exact ⟨rfl, rfl⟩
    | 11, _ =>
      refine A_aload_n hE 1 dX8_count_0 rfl rfl ?_
      refine A_get hE 4 dX8_count_1 rfl fkX8_10 rfl rfl ?_
      refine A_get hE 7 dX8_count_4 rfl fkX8_63 rfl rfl ?_
      refine A_astore_n hE 8 dX8_count_7 rfl rfl rfl ?_
      refine A_iload_n hE 9 dX8_count_8 rfl rfl ?_
      refine A_tabIn hE 145 dX8_count_9 (by decide) (by decide) (off := 136) (by decide) rfl ?_
      refine A_aload_n hE 146 dX8_count_145 rfl rfl ?_
      refine A_get hE 149 dX8_count_146 rfl fkX8_176 rfl rfl ?_
      refine A_iret hE dX8_count_149 ?_
      exact ⟨rfl, rfl⟩
  · have hn11 := tabO (n := 11) (by omega) hw
    rw [countF, if_neg hw]
    refine A_aload_n hE 1 dX8_count_0 rfl rfl ?_
    refine A_get hE 4 dX8_count_1 rfl fkX8_10 rfl rfl ?_
    refine A_get hE 7 dX8_count_4 rfl fkX8_63 rfl rfl ?_
    refine A_astore_n hE 8 dX8_count_7 rfl rfl rfl ?_
    refine A_iload_n hE 9 dX8_count_8 rfl rfl ?_
    refine A_tabOut hE 150 dX8_count_9 hn11 rfl ?_
    refine A_aload_n hE 151 dX8_count_150 rfl rfl ?_
    refine A_iconst hE 152 dX8_count_151 rfl (1) rfl ?_
    refine A_callVi hE 155 (c_X8_error er im 1 (by omega)) [0, 1] dX8_count_152 rfl mkX8_59 rfl rfl rfl rfl rfl rfl rfl (Nat.le_of_ble_eq_true rfl) (Nat.le_of_ble_eq_true rfl) rfl (fun x152 h152 g152 hp152 hw152 => ?_)
    obtain ⟨rfl, rfl⟩ := hp152
    obtain rfl := Option.some.inj hw152
    refine A_h (Y29 (upd er 1 (er 1 + 1)) im s t0 g0 h0 t1 g1 h1 tl tp wl wt wh mu J pt vK vk vm tn tr) rfl ?_
    refine A_iret hE dX8_count_155 ?_
    exact ⟨rfl, rfl⟩
set_option maxRecDepth 100000 in
theorem c_X8_tell_full (er : Nat → Int32) (im : Int32) (s : St) (t0 : Sp) (g0 h0 : Nat → Int32) (t1 : Sp) (g1 h1 : Nat → Int32) (tl : Nat) (tp : Nat → Int32) (wl : Nat) (wt : Nat → Int32) (v : Int32) (hwl : wl = 24) : AMet yX8_tell cX8_tell 2 (some (.int)) 1 0 0 [.ref 0, .int v] (Y20 er im s t0 g0 h0 t1 g1 h1 tl tp wl wt) (pI fun x0 hz0 => x0 = -1000000000 - nI 4 ∧ hz0 = Y20 (upd er 4 (er 4 + 1)) im s t0 g0 h0 t1 g1 h1 tl tp wl wt) := by
  refine AMet.of (by decide +kernel) rfl (fun E ad0 hE => ?_)
  refine A_aload_n hE 1 dX8_tell_0 rfl rfl ?_
  refine A_get hE 4 dX8_tell_1 rfl fkX8_10 rfl rfl ?_
  refine A_get hE 7 dX8_tell_4 rfl fkX8_283 rfl rfl ?_
  refine A_get hE 10 dX8_tell_7 rfl fkX8_127 rfl rfl ?_
  refine A_bipush hE 12 dX8_tell_10 rfl (24) (by decide) ?_
  refine A_icmp_lt hE 15 21 dX8_tell_12 rfl rfl (fun c12 => absurd c12 (by rw [hwl]; decide)) (fun c12 => ?_)
  refine A_aload_n hE 16 dX8_tell_15 rfl rfl ?_
  refine A_iconst hE 17 dX8_tell_16 rfl (4) rfl ?_
  refine A_callVi hE 20 (c_X8_error er im 4 (by omega)) [0, 1] dX8_tell_17 rfl mkX8_59 rfl rfl rfl rfl rfl rfl rfl (Nat.le_of_ble_eq_true rfl) (Nat.le_of_ble_eq_true rfl) rfl (fun x17 h17 g17 hp17 hw17 => ?_)
  obtain ⟨rfl, rfl⟩ := hp17
  obtain rfl := Option.some.inj hw17
  refine A_h (Y20 (upd er 4 (er 4 + 1)) im s t0 g0 h0 t1 g1 h1 tl tp wl wt) rfl ?_
  refine A_iret hE dX8_tell_20 ⟨rfl, rfl⟩
set_option maxRecDepth 100000 in
theorem c_X8_tell_ok (er : Nat → Int32) (im : Int32) (s : St) (t0 : Sp) (g0 h0 : Nat → Int32) (t1 : Sp) (g1 h1 : Nat → Int32) (tl : Nat) (tp : Nat → Int32) (wl : Nat) (wt : Nat → Int32) (v : Int32) (hwl : wl < 24) : AMet yX8_tell cX8_tell 2 (some (.int)) 1 0 0 [.ref 0, .int v] (Y20 er im s t0 g0 h0 t1 g1 h1 tl tp wl wt) (pI fun x0 hz0 => x0 = nI (wl + 1) ∧ hz0 = Y20 er im s t0 g0 h0 t1 g1 h1 tl tp (wl + 1) (upd wt wl v)) := by
  refine AMet.of (by decide +kernel) rfl (fun E ad0 hE => ?_)
  refine A_aload_n hE 1 dX8_tell_0 rfl rfl ?_
  refine A_get hE 4 dX8_tell_1 rfl fkX8_10 rfl rfl ?_
  refine A_get hE 7 dX8_tell_4 rfl fkX8_283 rfl rfl ?_
  refine A_get hE 10 dX8_tell_7 rfl fkX8_127 rfl rfl ?_
  refine A_bipush hE 12 dX8_tell_10 rfl (24) (by decide) ?_
  refine A_icmp_lt hE 15 21 dX8_tell_12 rfl rfl (fun c12 => ?_) (fun c12 => absurd (nI_lt (b := 24) hwl (by omega)) c12)
  refine A_aload_n hE 22 dX8_tell_21 rfl rfl ?_
  refine A_get hE 25 dX8_tell_22 rfl fkX8_10 rfl rfl ?_
  refine A_get hE 28 dX8_tell_25 rfl fkX8_283 rfl rfl ?_
  refine A_iload_n hE 29 dX8_tell_28 rfl rfl ?_
  refine A_callVv hE 32 (c_X3_add 24 wt wl v (by omega) rfl) [18, 19] dX8_tell_29 rfl mkX8_132 rfl rfl rfl rfl rfl rfl rfl (Nat.le_of_ble_eq_true rfl) (Nat.le_of_ble_eq_true rfl) rfl (fun h29 g29 hp29 hw29 => ?_)
  obtain rfl := hp29
  obtain rfl := Option.some.inj hw29
  refine A_h (Y20 er im s t0 g0 h0 t1 g1 h1 tl tp (wl + 1) (upd wt wl v)) (by rw [if_pos hwl, if_pos hwl]; rfl) ?_
  refine A_aload_n hE 33 dX8_tell_32 rfl rfl ?_
  refine A_get hE 36 dX8_tell_33 rfl fkX8_10 rfl rfl ?_
  refine A_get hE 39 dX8_tell_36 rfl fkX8_283 rfl rfl ?_
  refine A_get hE 42 dX8_tell_39 rfl fkX8_127 rfl rfl ?_
  refine A_iret hE dX8_tell_42 ⟨rfl, rfl⟩
theorem rs_le {t0 : Sp} {s : St} {v : Nat → Int32} : ∀ m j, rsF t0 s v m j ≤ j + m
  | 0, _ => Nat.le_refl _
  | m + 1, j => by
    rw [rsF]
    split
    · exact Nat.le_trans (rs_le m (j + 1)) (by omega)
    · omega
set_option maxRecDepth 100000 in
theorem c_X8_check (er : Nat → Int32) (im : Int32) (s : St) (t0 : Sp) (g0 h0 : Nat → Int32) (t1 : Sp) (g1 h1 : Nat → Int32) (tl : Nat) (tp : Nat → Int32) (wl : Nat) (wt : Nat → Int32) (w : wf s) (l0 : LawC 0 t0 g0) (hwl : wl ≤ 24) : AMet yX8_check cX8_check 3 (some (.int)) 4 0 0 [.ref 0] (Y20 er im s t0 g0 h0 t1 g1 h1 tl tp wl wt) (pI fun x0 hz0 => x0 = (if (rsF t0 s wt wl 0) = wl then 0 else 1 + nI (rsF t0 s wt wl 0)) ∧ ∃ h0' : Nat → Int32, hz0 = Y20 er im s t0 g0 h0' t1 g1 h1 tl tp 0 wt) := by
  refine AMet.of (by decide +kernel) rfl (fun E ad0 hE => ?_)
  refine A_aload_n hE 1 dX8_check_0 rfl rfl ?_
  refine A_get hE 4 dX8_check_1 rfl fkX8_10 rfl rfl ?_
  refine A_get hE 7 dX8_check_4 rfl fkX8_63 rfl rfl ?_
  refine A_aload_n hE 8 dX8_check_7 rfl rfl ?_
  refine A_get hE 11 dX8_check_8 rfl fkX8_10 rfl rfl ?_
  refine A_get hE 14 dX8_check_11 rfl fkX8_283 rfl rfl ?_
  refine A_callVi hE 17 (c_X2_rightSaid s t0 t1 g0 h0 g1 h1 wl wt hwl w l0) [11, 3, 4, 5, 6, 7, 8, 9, 10, 12, 13, 14, 15, 18, 19] dX8_check_14 rfl mkX8_286 rfl rfl rfl rfl rfl rfl rfl (Nat.le_of_ble_eq_true rfl) (Nat.le_of_ble_eq_true rfl) rfl (fun x14 h14 g14 hp14 hw14 => ?_)
  obtain ⟨rfl, hx, rfl⟩ := hp14
  obtain rfl := Option.some.inj hw14
  refine A_h (Y20 er im s t0 g0 hx t1 g1 h1 tl tp wl wt) rfl ?_
  refine A_istore_n hE 18 dX8_check_17 rfl rfl rfl ?_
  refine A_iload_n hE 19 dX8_check_18 rfl rfl ?_
  refine A_aload_n hE 20 dX8_check_19 rfl rfl ?_
  refine A_get hE 23 dX8_check_20 rfl fkX8_10 rfl rfl ?_
  refine A_get hE 26 dX8_check_23 rfl fkX8_283 rfl rfl ?_
  refine A_get hE 29 dX8_check_26 rfl fkX8_127 rfl rfl ?_
  refine A_icmp_ne hE 32 36 dX8_check_29 rfl rfl (fun c29 => ?_) (fun c29 => ?_)
  · have he : ¬ (rsF t0 s wt wl 0) = wl := fun z => c29 (by rw [z])
    refine A_iconst hE 37 dX8_check_36 rfl (0) rfl ?_
    refine A_istore_n hE 38 dX8_check_37 rfl rfl rfl ?_
    refine A_aload_n hE 39 dX8_check_38 rfl rfl ?_
    refine A_get hE 42 dX8_check_39 rfl fkX8_10 rfl rfl ?_
    refine A_get hE 45 dX8_check_42 rfl fkX8_283 rfl rfl ?_
    refine A_callVv hE 48 (c_X3_empty 24 wt (nI wl)) [18, 19] dX8_check_45 rfl mkX8_143 rfl rfl rfl rfl rfl rfl rfl (Nat.le_of_ble_eq_true rfl) (Nat.le_of_ble_eq_true rfl) rfl (fun h45 g45 hp45 hw45 => ?_)
    obtain rfl := hp45
    obtain rfl := Option.some.inj hw45
    refine A_h (Y20 er im s t0 g0 hx t1 g1 h1 tl tp 0 wt) rfl ?_
    refine A_iload_n hE 49 dX8_check_48 rfl rfl ?_
    refine A_if_eq hE 52 56 dX8_check_49 rfl rfl (fun c49 => ?_) (fun c49 => absurd rfl c49)
    refine A_iconst hE 57 dX8_check_56 rfl (1) rfl ?_
    refine A_iload_n hE 58 dX8_check_57 rfl rfl ?_
    refine A_iadd hE 59 dX8_check_58 rfl ?_
    refine A_iret hE dX8_check_59 ?_
    rw [if_neg he]
    exact ⟨rfl, hx, rfl⟩
  · have he : (rsF t0 s wt wl 0) = wl := (nI_eq (by have := rs_le (t0 := t0) (s := s) (v := wt) wl 0; omega) (by omega)).mp c29
    refine A_iconst hE 33 dX8_check_32 rfl (1) rfl ?_
    refine A_goto hE 37 dX8_check_33 rfl ?_
    refine A_istore_n hE 38 dX8_check_37 rfl rfl rfl ?_
    refine A_aload_n hE 39 dX8_check_38 rfl rfl ?_
    refine A_get hE 42 dX8_check_39 rfl fkX8_10 rfl rfl ?_
    refine A_get hE 45 dX8_check_42 rfl fkX8_283 rfl rfl ?_
    refine A_callVv hE 48 (c_X3_empty 24 wt (nI wl)) [18, 19] dX8_check_45 rfl mkX8_143 rfl rfl rfl rfl rfl rfl rfl (Nat.le_of_ble_eq_true rfl) (Nat.le_of_ble_eq_true rfl) rfl (fun h45 g45 hp45 hw45 => ?_)
    obtain rfl := hp45
    obtain rfl := Option.some.inj hw45
    refine A_h (Y20 er im s t0 g0 hx t1 g1 h1 tl tp 0 wt) rfl ?_
    refine A_iload_n hE 49 dX8_check_48 rfl rfl ?_
    refine A_if_eq hE 52 56 dX8_check_49 rfl rfl (fun c49 => absurd c49 (by decide)) (fun c49 => ?_)
    refine A_iconst hE 53 dX8_check_52 rfl (0) rfl ?_
    refine A_goto hE 59 dX8_check_53 rfl ?_
    refine A_iret hE dX8_check_59 ?_
    rw [if_pos he]
    exact ⟨rfl, hx, rfl⟩
def fdT (c : Int64) (tl k : Nat) (tp : Nat → Int32) : Nat → Int32 := fun z => if tl ≤ z ∧ z < tl + k then byteAt c (z - tl) else tp z
theorem fd_0 {c : Int64} {tl : Nat} {tp : Nat → Int32} : tp = fdT c tl 0 tp := by
  funext z
  exact (if_neg (by omega)).symm
theorem fd_step {c : Int64} {tl k : Nat} {tp : Nat → Int32} : upd (fdT c tl k tp) (tl + k) (byteAt c k) = fdT c tl (k + 1) tp := by
  funext z
  by_cases h : z = tl + k
  · rw [h, upd_s, fdT, if_pos (by omega), show tl + k - tl = k by omega]
  · rw [upd_n h]
    unfold fdT
    by_cases h2 : tl ≤ z ∧ z < tl + k
    · rw [if_pos h2, if_pos (by omega)]
    · rw [if_neg h2, if_neg (by omega)]
set_option maxRecDepth 100000 in
theorem c_X8_feed_no (er : Nat → Int32) (im : Int32) (s : St) (t0 : Sp) (g0 h0 : Nat → Int32) (t1 : Sp) (g1 h1 : Nat → Int32) (tl : Nat) (tp : Nat → Int32) (wl : Nat) (wt : Nat → Int32) (c : Int64) (m : Int32) (hm : ¬ (1 ≤ m ∧ m ≤ 8)) : AMet yX8_feed cX8_feed 5 (some (.int)) 1 0 0 [.ref 0, .long c, .int m] (Y20 er im s t0 g0 h0 t1 g1 h1 tl tp wl wt) (pI fun x0 hz0 => x0 = -1000000000 - nI 1 ∧ hz0 = Y20 (upd er 1 (er 1 + 1)) im s t0 g0 h0 t1 g1 h1 tl tp wl wt) := by
  refine AMet.of (by decide +kernel) rfl (fun E ad0 hE => ?_)
  refine A_iload_n hE 1 dX8_feed_0 rfl rfl ?_
  refine A_iconst hE 2 dX8_feed_1 rfl (1) rfl ?_
  refine A_bipush hE 4 dX8_feed_2 rfl (8) (by decide) ?_
  refine A_callSi hE 7 (c_X8_isWithin m 1 8) [] dX8_feed_4 rfl mkX8_55 rfl rfl rfl rfl rfl rfl (Nat.le_of_ble_eq_true rfl) (Nat.le_of_ble_eq_true rfl) rfl (fun x4 h4 g4 hp4 hw4 => ?_)
  obtain ⟨rfl, rfl⟩ := hp4
  obtain rfl := Option.some.inj hw4
  refine A_if_ne hE 10 16 dX8_feed_7 rfl rfl (fun c7 => absurd (bI_1 c7) hm) (fun c7 => ?_)
  refine A_aload_n hE 11 dX8_feed_10 rfl rfl ?_
  refine A_iconst hE 12 dX8_feed_11 rfl (1) rfl ?_
  refine A_callVi hE 15 (c_X8_error er im 1 (by omega)) [0, 1] dX8_feed_12 rfl mkX8_59 rfl rfl rfl rfl rfl rfl rfl (Nat.le_of_ble_eq_true rfl) (Nat.le_of_ble_eq_true rfl) rfl (fun x12 h12 g12 hp12 hw12 => ?_)
  obtain ⟨rfl, rfl⟩ := hp12
  obtain rfl := Option.some.inj hw12
  refine A_h (Y20 (upd er 1 (er 1 + 1)) im s t0 g0 h0 t1 g1 h1 tl tp wl wt) rfl ?_
  refine A_iret hE dX8_feed_15 ⟨rfl, rfl⟩
set_option maxRecDepth 100000 in
theorem c_X8_feed_full (er : Nat → Int32) (im : Int32) (s : St) (t0 : Sp) (g0 h0 : Nat → Int32) (t1 : Sp) (g1 h1 : Nat → Int32) (tl : Nat) (tp : Nat → Int32) (wl : Nat) (wt : Nat → Int32) (c : Int64) (m : Int32) (hm : 1 ≤ m ∧ m ≤ 8) (hf : 60 < nI tl + m) : AMet yX8_feed cX8_feed 5 (some (.int)) 1 0 0 [.ref 0, .long c, .int m] (Y20 er im s t0 g0 h0 t1 g1 h1 tl tp wl wt) (pI fun x0 hz0 => x0 = -1000000000 - nI 4 ∧ hz0 = Y20 (upd er 4 (er 4 + 1)) im s t0 g0 h0 t1 g1 h1 tl tp wl wt) := by
  refine AMet.of (by decide +kernel) rfl (fun E ad0 hE => ?_)
  refine A_iload_n hE 1 dX8_feed_0 rfl rfl ?_
  refine A_iconst hE 2 dX8_feed_1 rfl (1) rfl ?_
  refine A_bipush hE 4 dX8_feed_2 rfl (8) (by decide) ?_
  refine A_callSi hE 7 (c_X8_isWithin m 1 8) [] dX8_feed_4 rfl mkX8_55 rfl rfl rfl rfl rfl rfl (Nat.le_of_ble_eq_true rfl) (Nat.le_of_ble_eq_true rfl) rfl (fun x4 h4 g4 hp4 hw4 => ?_)
  obtain ⟨rfl, rfl⟩ := hp4
  obtain rfl := Option.some.inj hw4
  refine A_if_ne hE 10 16 dX8_feed_7 rfl rfl (fun c7 => ?_) (fun c7 => absurd hm (bI_0 c7))
  refine A_aload_n hE 17 dX8_feed_16 rfl rfl ?_
  refine A_get hE 20 dX8_feed_17 rfl fkX8_10 rfl rfl ?_
  refine A_get hE 23 dX8_feed_20 rfl fkX8_123 rfl rfl ?_
  refine A_get hE 26 dX8_feed_23 rfl fkX8_127 rfl rfl ?_
  refine A_iload_n hE 27 dX8_feed_26 rfl rfl ?_
  refine A_iadd hE 28 dX8_feed_27 rfl ?_
  refine A_bipush hE 30 dX8_feed_28 rfl (60) (by decide) ?_
  refine A_icmp_le hE 33 39 dX8_feed_30 rfl rfl (fun c30 => absurd hf (iN c30)) (fun c30 => ?_)
  refine A_aload_n hE 34 dX8_feed_33 rfl rfl ?_
  refine A_iconst hE 35 dX8_feed_34 rfl (4) rfl ?_
  refine A_callVi hE 38 (c_X8_error er im 4 (by omega)) [0, 1] dX8_feed_35 rfl mkX8_59 rfl rfl rfl rfl rfl rfl rfl (Nat.le_of_ble_eq_true rfl) (Nat.le_of_ble_eq_true rfl) rfl (fun x35 h35 g35 hp35 hw35 => ?_)
  obtain ⟨rfl, rfl⟩ := hp35
  obtain rfl := Option.some.inj hw35
  refine A_h (Y20 (upd er 4 (er 4 + 1)) im s t0 g0 h0 t1 g1 h1 tl tp wl wt) rfl ?_
  refine A_iret hE dX8_feed_38 ⟨rfl, rfl⟩
set_option maxRecDepth 100000 in
theorem c_X8_feed_ok (er : Nat → Int32) (im : Int32) (s : St) (t0 : Sp) (g0 h0 : Nat → Int32) (t1 : Sp) (g1 h1 : Nat → Int32) (tl : Nat) (tp : Nat → Int32) (wl : Nat) (wt : Nat → Int32) (c : Int64) (k : Nat) (hk1 : 1 ≤ k) (hk8 : k ≤ 8) (hf : tl + k ≤ 60) : AMet yX8_feed cX8_feed 5 (some (.int)) 1 0 0 [.ref 0, .long c, .int (nI k)] (Y20 er im s t0 g0 h0 t1 g1 h1 tl tp wl wt) (pI fun x0 hz0 => x0 = nI (tl + k) ∧ hz0 = Y20 er im s t0 g0 h0 t1 g1 h1 (tl + k) (fdT c tl k tp) wl wt) := by
  refine AMet.of (by decide +kernel) rfl (fun E ad0 hE => ?_)
  have loop : ∀ (m i : Nat), i + m = k → AW E (rmD 1 0 0) 5 (QM E ad0 20 0 0 (pI fun x0 hz0 => x0 = nI (tl + k) ∧ hz0 = Y20 er im s t0 g0 h0 t1 g1 h1 (tl + k) (fdT c tl k tp) wl wt)) ad0 20 0 0 42 [(0, .ref 0), (1, .long c), (3, .int (nI k)), (4, .int (nI i))] [] (Y20 er im s t0 g0 h0 t1 g1 h1 (tl + i) (fdT c tl i tp) wl wt) := by
    intro m
    induction m with
    | zero =>
      intro i hi
      obtain rfl : i = k := by omega
      refine A_iload hE 44 dX8_feed_42 rfl rfl ?_
      refine A_iload_n hE 45 dX8_feed_44 rfl rfl ?_
      refine A_icmp_ge hE 48 76 dX8_feed_45 rfl rfl (fun c45 => ?_) (fun c45 => absurd (nI_le (Nat.le_refl _) (by omega)) c45)
      refine A_aload_n hE 77 dX8_feed_76 rfl rfl ?_
      refine A_get hE 80 dX8_feed_77 rfl fkX8_10 rfl rfl ?_
      refine A_get hE 83 dX8_feed_80 rfl fkX8_123 rfl rfl ?_
      refine A_get hE 86 dX8_feed_83 rfl fkX8_127 rfl rfl ?_
      refine A_iret hE dX8_feed_86 ⟨rfl, rfl⟩
    | succ m ih =>
      intro i hi
      refine A_iload hE 44 dX8_feed_42 rfl rfl ?_
      refine A_iload_n hE 45 dX8_feed_44 rfl rfl ?_
      refine A_icmp_ge hE 48 76 dX8_feed_45 rfl rfl (fun c45 => absurd c45 (nI_ge (show i < k by omega) (by omega))) (fun c45 => ?_)
      refine A_aload_n hE 49 dX8_feed_48 rfl rfl ?_
      refine A_get hE 52 dX8_feed_49 rfl fkX8_10 rfl rfl ?_
      refine A_get hE 55 dX8_feed_52 rfl fkX8_123 rfl rfl ?_
      refine A_lload_n hE 56 dX8_feed_55 rfl rfl ?_
      refine A_bipush hE 58 dX8_feed_56 rfl (8) (by decide) ?_
      refine A_iload hE 60 dX8_feed_58 rfl rfl ?_
      refine A_imul hE 61 dX8_feed_60 rfl ?_
      refine A_lushr hE 62 dX8_feed_61 rfl ?_
      refine A_l2i hE 63 dX8_feed_62 rfl ?_
      refine A_sipush hE 66 dX8_feed_63 rfl (255) (by decide) ?_
      refine A_iand hE 67 dX8_feed_66 rfl ?_
      rw [show (c.toUInt64 >>> ((8 * nI i : Int32).toInt64.toUInt64 &&& Int64.toUInt64 63)).toInt64.toInt32 &&& 255 = byteAt c i from byte_eq c i (by omega)]
      refine A_callVv hE 70 (c_X3_add 60 (fdT c tl i tp) (tl + i) (byteAt c i) (by omega) rfl) [16, 17] dX8_feed_67 rfl mkX8_132 rfl rfl rfl rfl rfl rfl rfl (Nat.le_of_ble_eq_true rfl) (Nat.le_of_ble_eq_true rfl) rfl (fun h67 g67 hp67 hw67 => ?_)
      obtain rfl := hp67
      obtain rfl := Option.some.inj hw67
      refine A_h (Y20 er im s t0 g0 h0 t1 g1 h1 (tl + (i + 1)) (fdT c tl (i + 1) tp) wl wt) (by rw [if_pos (show tl + i < 60 by omega), if_pos (show tl + i < 60 by omega), fd_step]; rfl) ?_
      refine A_iinc hE 73 dX8_feed_70 rfl rfl (1) rfl rfl rfl ?_
      rw [nI_1]
      refine A_lv [0, 1, 3, 4] rfl ?_
      refine A_goto hE 42 dX8_feed_73 rfl ?_
      exact ih (i + 1) (by omega)
  refine A_iload_n hE 1 dX8_feed_0 rfl rfl ?_
  refine A_iconst hE 2 dX8_feed_1 rfl (1) rfl ?_
  refine A_bipush hE 4 dX8_feed_2 rfl (8) (by decide) ?_
  refine A_callSi hE 7 (c_X8_isWithin (nI k) 1 8) [] dX8_feed_4 rfl mkX8_55 rfl rfl rfl rfl rfl rfl (Nat.le_of_ble_eq_true rfl) (Nat.le_of_ble_eq_true rfl) rfl (fun x4 h4 g4 hp4 hw4 => ?_)
  obtain ⟨rfl, rfl⟩ := hp4
  obtain rfl := Option.some.inj hw4
  refine A_if_ne hE 10 16 dX8_feed_7 rfl rfl (fun c7 => ?_) (fun c7 => absurd ⟨nI_le (a := 1) (by omega) (by omega), nI_le (b := 8) (by omega) (by omega)⟩ (bI_0 c7))
  refine A_aload_n hE 17 dX8_feed_16 rfl rfl ?_
  refine A_get hE 20 dX8_feed_17 rfl fkX8_10 rfl rfl ?_
  refine A_get hE 23 dX8_feed_20 rfl fkX8_123 rfl rfl ?_
  refine A_get hE 26 dX8_feed_23 rfl fkX8_127 rfl rfl ?_
  refine A_iload_n hE 27 dX8_feed_26 rfl rfl ?_
  refine A_iadd hE 28 dX8_feed_27 rfl ?_
  refine A_bipush hE 30 dX8_feed_28 rfl (60) (by decide) ?_
  refine A_icmp_le hE 33 39 dX8_feed_30 rfl rfl (fun c30 => ?_) (fun c30 => absurd (by rw [nI_add]; exact nI_le (b := 60) (by omega) (by omega)) c30)
  refine A_iconst hE 40 dX8_feed_39 rfl (0) rfl ?_
  refine A_istore hE 42 dX8_feed_40 rfl rfl rfl ?_
  refine A_lv [0, 1, 3, 4] rfl ?_
  exact A_h (Y20 er im s t0 g0 h0 t1 g1 h1 (tl + 0) (fdT c tl 0 tp) wl wt) (by rw [← fd_0]; rfl) (loop k 0 (Nat.zero_add _))
set_option maxRecDepth 100000 in
theorem c_ans_0 (er : Nat → Int32) (im : Int32) (s : St) (t0 : Sp) (g0 h0 : Nat → Int32) (t1 : Sp) (g1 h1 : Nat → Int32) (tl : Nat) (tp : Nat → Int32) (wl : Nat) (wt : Nat → Int32) (wh mu : Int32) (J : St) (pt : Int32) (vK : Nat) (vk vm : Int32) (tn : Nat) (tr : Nat → Int32) (k : Nat) (hk : k < 8) (x : Int32) (Kd : Nat) (hKd : Kd < 7) (hkd : its s k 0 = nI Kd) : AMet yX7_answer cX7_answer 5 (some (.int)) 7 0 0 [.ref 26, .ref 11, .int (nI k), .int 0, .int x] (Y29 er im s t0 g0 h0 t1 g1 h1 tl tp wl wt wh mu J pt vK vk vm tn tr) (pI fun x0 hz0 => x0 = cuV (nI k) Kd x ∧ hz0 = Y29 er im s t0 g0 h0 t1 g1 h1 tl tp wl wt wh mu J 0 Kd (nI k) (its s k 1) (apN (cuT Kd) 0) (apF (cuT Kd) 0 tr)) := by
  refine AMet.of (by decide +kernel) rfl (fun E ad0 hE => ?_)
  refine A_aload_n hE 1 dX7_answer_0 rfl rfl ?_
  refine A_get hE 4 dX7_answer_1 rfl fkX7_14 rfl rfl ?_
  refine A_callVv hE 7 (c_X3_empty 30 tr (nI tn)) [27, 28] dX7_answer_4 rfl mkX7_34 rfl rfl rfl rfl rfl rfl rfl (Nat.le_of_ble_eq_true rfl) (Nat.le_of_ble_eq_true rfl) rfl (fun h4 g4 hp4 hw4 => ?_)
  obtain rfl := hp4
  obtain rfl := Option.some.inj hw4
  refine A_h (Y29 er im s t0 g0 h0 t1 g1 h1 tl tp wl wt wh mu J pt vK vk vm 0 tr) rfl ?_
  refine A_aload_n hE 8 dX7_answer_7 rfl rfl ?_
  refine A_iconst hE 9 dX7_answer_8 rfl (0) rfl ?_
  refine A_put hE 12 dX7_answer_9 rfl fkX7_20 rfl rfl rfl rfl ?_
  refine A_aload_n hE 13 dX7_answer_12 rfl rfl ?_
  refine A_aload_n hE 14 dX7_answer_13 rfl rfl ?_
  refine A_get hE 17 dX7_answer_14 rfl fkX7_37 rfl rfl ?_
  refine A_iload_n hE 18 dX7_answer_17 rfl rfl ?_
  refine A_iald hE 19 k dX7_answer_18 rfl rfl rfl hk rfl ?_
  rw [show arr s 0 k = nI Kd from hkd]
  refine A_put hE 22 dX7_answer_19 rfl fkX7_24 rfl rfl rfl rfl ?_
  refine A_aload_n hE 23 dX7_answer_22 rfl rfl ?_
  refine A_iload_n hE 24 dX7_answer_23 rfl rfl ?_
  refine A_put hE 27 dX7_answer_24 rfl fkX7_28 rfl rfl rfl rfl ?_
  refine A_aload_n hE 28 dX7_answer_27 rfl rfl ?_
  refine A_aload_n hE 29 dX7_answer_28 rfl rfl ?_
  refine A_get hE 32 dX7_answer_29 rfl fkX7_43 rfl rfl ?_
  refine A_iload_n hE 33 dX7_answer_32 rfl rfl ?_
  refine A_iald hE 34 k dX7_answer_33 rfl rfl rfl hk rfl ?_
  refine A_put hE 37 dX7_answer_34 rfl fkX7_31 rfl rfl rfl rfl ?_
  refine A_h (Y29 er im s t0 g0 h0 t1 g1 h1 tl tp wl wt wh mu J 0 Kd (nI k) (its s k 1) 0 tr) rfl ?_
  refine A_aload_n hE 38 dX7_answer_37 rfl rfl ?_
  refine A_iload_n hE 39 dX7_answer_38 rfl rfl ?_
  refine A_aload_n hE 40 dX7_answer_39 rfl rfl ?_
  refine A_get hE 43 dX7_answer_40 rfl fkX7_24 rfl rfl ?_
  refine A_iload hE 45 dX7_answer_43 rfl rfl ?_
  refine A_iconst hE 46 dX7_answer_45 rfl (0) rfl ?_
  refine A_callVi hE 49 (c_cu Kd Kd (nI k) (its s k 1) x 0 tr 0 hKd hKd (by omega) (by omega)) [26, 27, 28] dX7_answer_46 rfl mkX7_46 rfl rfl rfl rfl rfl rfl rfl (Nat.le_of_ble_eq_true rfl) (Nat.le_of_ble_eq_true rfl) rfl (fun x46 h46 g46 hp46 hw46 => ?_)
  obtain ⟨rfl, rfl⟩ := hp46
  obtain rfl := Option.some.inj hw46
  refine A_h (Y29 er im s t0 g0 h0 t1 g1 h1 tl tp wl wt wh mu J 0 Kd (nI k) (its s k 1) (apN (cuT Kd) 0) (apF (cuT Kd) 0 tr)) rfl ?_
  refine A_iret hE dX7_answer_49 ⟨rfl, rfl⟩
set_option maxRecDepth 100000 in
theorem c_ans_1 (er : Nat → Int32) (im : Int32) (s : St) (t0 : Sp) (g0 h0 : Nat → Int32) (t1 : Sp) (g1 h1 : Nat → Int32) (tl : Nat) (tp : Nat → Int32) (wl : Nat) (wt : Nat → Int32) (wh mu : Int32) (J : St) (pt : Int32) (vK : Nat) (vk vm : Int32) (tn : Nat) (tr : Nat → Int32) (k : Nat) (hk : k < 8) (x : Int32) (Kd : Nat) (hKd : Kd < 7) (hkd : its s k 0 = nI Kd) : AMet yX7_answer cX7_answer 5 (some (.int)) 13 0 0 [.ref 26, .ref 11, .int (nI k), .int 1, .int x] (Y29 er im s t0 g0 h0 t1 g1 h1 tl tp wl wt wh mu J pt vK vk vm tn tr) (pI fun x0 hz0 => x0 = saV (nI k) (its s k 1) Kd Kd x ∧ hz0 = Y29 er im s t0 g0 h0 t1 g1 h1 tl tp wl wt wh mu J 0 Kd (nI k) (its s k 1) (apN (saT Kd Kd) 0) (apF (saT Kd Kd) 0 tr)) := by
  refine AMet.of (by decide +kernel) rfl (fun E ad0 hE => ?_)
  refine A_aload_n hE 1 dX7_answer_0 rfl rfl ?_
  refine A_get hE 4 dX7_answer_1 rfl fkX7_14 rfl rfl ?_
  refine A_callVv hE 7 (c_X3_empty 30 tr (nI tn)) [27, 28] dX7_answer_4 rfl mkX7_34 rfl rfl rfl rfl rfl rfl rfl (Nat.le_of_ble_eq_true rfl) (Nat.le_of_ble_eq_true rfl) rfl (fun h4 g4 hp4 hw4 => ?_)
  obtain rfl := hp4
  obtain rfl := Option.some.inj hw4
  refine A_h (Y29 er im s t0 g0 h0 t1 g1 h1 tl tp wl wt wh mu J pt vK vk vm 0 tr) rfl ?_
  refine A_aload_n hE 8 dX7_answer_7 rfl rfl ?_
  refine A_iconst hE 9 dX7_answer_8 rfl (0) rfl ?_
  refine A_put hE 12 dX7_answer_9 rfl fkX7_20 rfl rfl rfl rfl ?_
  refine A_aload_n hE 13 dX7_answer_12 rfl rfl ?_
  refine A_aload_n hE 14 dX7_answer_13 rfl rfl ?_
  refine A_get hE 17 dX7_answer_14 rfl fkX7_37 rfl rfl ?_
  refine A_iload_n hE 18 dX7_answer_17 rfl rfl ?_
  refine A_iald hE 19 k dX7_answer_18 rfl rfl rfl hk rfl ?_
  rw [show arr s 0 k = nI Kd from hkd]
  refine A_put hE 22 dX7_answer_19 rfl fkX7_24 rfl rfl rfl rfl ?_
  refine A_aload_n hE 23 dX7_answer_22 rfl rfl ?_
  refine A_iload_n hE 24 dX7_answer_23 rfl rfl ?_
  refine A_put hE 27 dX7_answer_24 rfl fkX7_28 rfl rfl rfl rfl ?_
  refine A_aload_n hE 28 dX7_answer_27 rfl rfl ?_
  refine A_aload_n hE 29 dX7_answer_28 rfl rfl ?_
  refine A_get hE 32 dX7_answer_29 rfl fkX7_43 rfl rfl ?_
  refine A_iload_n hE 33 dX7_answer_32 rfl rfl ?_
  refine A_iald hE 34 k dX7_answer_33 rfl rfl rfl hk rfl ?_
  refine A_put hE 37 dX7_answer_34 rfl fkX7_31 rfl rfl rfl rfl ?_
  refine A_h (Y29 er im s t0 g0 h0 t1 g1 h1 tl tp wl wt wh mu J 0 Kd (nI k) (its s k 1) 0 tr) rfl ?_
  refine A_aload_n hE 38 dX7_answer_37 rfl rfl ?_
  refine A_iload_n hE 39 dX7_answer_38 rfl rfl ?_
  refine A_aload_n hE 40 dX7_answer_39 rfl rfl ?_
  refine A_get hE 43 dX7_answer_40 rfl fkX7_24 rfl rfl ?_
  refine A_iload hE 45 dX7_answer_43 rfl rfl ?_
  refine A_iconst hE 46 dX7_answer_45 rfl (0) rfl ?_
  refine A_callVi hE 49 (c_sa Kd Kd (nI k) (its s k 1) x 0 tr 0 hKd hKd (by omega) (by omega)) [26, 27, 28] dX7_answer_46 rfl mkX7_46 rfl rfl rfl rfl rfl rfl rfl (Nat.le_of_ble_eq_true rfl) (Nat.le_of_ble_eq_true rfl) rfl (fun x46 h46 g46 hp46 hw46 => ?_)
  obtain ⟨rfl, rfl⟩ := hp46
  obtain rfl := Option.some.inj hw46
  refine A_h (Y29 er im s t0 g0 h0 t1 g1 h1 tl tp wl wt wh mu J 0 Kd (nI k) (its s k 1) (apN (saT Kd Kd) 0) (apF (saT Kd Kd) 0 tr)) rfl ?_
  refine A_iret hE dX7_answer_49 ⟨rfl, rfl⟩
set_option maxRecDepth 100000 in
theorem c_ans_2 (er : Nat → Int32) (im : Int32) (s : St) (t0 : Sp) (g0 h0 : Nat → Int32) (t1 : Sp) (g1 h1 : Nat → Int32) (tl : Nat) (tp : Nat → Int32) (wl : Nat) (wt : Nat → Int32) (wh mu : Int32) (J : St) (pt : Int32) (vK : Nat) (vk vm : Int32) (tn : Nat) (tr : Nat → Int32) (k : Nat) (hk : k < 8) (x : Int32) (Kd : Nat) (hKd : Kd < 7) (hkd : its s k 0 = nI Kd) : AMet yX7_answer cX7_answer 5 (some (.int)) 17 0 0 [.ref 26, .ref 11, .int (nI k), .int 2, .int x] (Y29 er im s t0 g0 h0 t1 g1 h1 tl tp wl wt wh mu J pt vK vk vm tn tr) (pI fun x0 hz0 => x0 = stV (nI k) (its s k 1) Kd Kd x ∧ hz0 = Y29 er im s t0 g0 h0 t1 g1 h1 tl tp wl wt wh mu J 0 Kd (nI k) (its s k 1) (apN (stT Kd Kd) 0) (apF (stT Kd Kd) 0 tr)) := by
  refine AMet.of (by decide +kernel) rfl (fun E ad0 hE => ?_)
  refine A_aload_n hE 1 dX7_answer_0 rfl rfl ?_
  refine A_get hE 4 dX7_answer_1 rfl fkX7_14 rfl rfl ?_
  refine A_callVv hE 7 (c_X3_empty 30 tr (nI tn)) [27, 28] dX7_answer_4 rfl mkX7_34 rfl rfl rfl rfl rfl rfl rfl (Nat.le_of_ble_eq_true rfl) (Nat.le_of_ble_eq_true rfl) rfl (fun h4 g4 hp4 hw4 => ?_)
  obtain rfl := hp4
  obtain rfl := Option.some.inj hw4
  refine A_h (Y29 er im s t0 g0 h0 t1 g1 h1 tl tp wl wt wh mu J pt vK vk vm 0 tr) rfl ?_
  refine A_aload_n hE 8 dX7_answer_7 rfl rfl ?_
  refine A_iconst hE 9 dX7_answer_8 rfl (0) rfl ?_
  refine A_put hE 12 dX7_answer_9 rfl fkX7_20 rfl rfl rfl rfl ?_
  refine A_aload_n hE 13 dX7_answer_12 rfl rfl ?_
  refine A_aload_n hE 14 dX7_answer_13 rfl rfl ?_
  refine A_get hE 17 dX7_answer_14 rfl fkX7_37 rfl rfl ?_
  refine A_iload_n hE 18 dX7_answer_17 rfl rfl ?_
  refine A_iald hE 19 k dX7_answer_18 rfl rfl rfl hk rfl ?_
  rw [show arr s 0 k = nI Kd from hkd]
  refine A_put hE 22 dX7_answer_19 rfl fkX7_24 rfl rfl rfl rfl ?_
  refine A_aload_n hE 23 dX7_answer_22 rfl rfl ?_
  refine A_iload_n hE 24 dX7_answer_23 rfl rfl ?_
  refine A_put hE 27 dX7_answer_24 rfl fkX7_28 rfl rfl rfl rfl ?_
  refine A_aload_n hE 28 dX7_answer_27 rfl rfl ?_
  refine A_aload_n hE 29 dX7_answer_28 rfl rfl ?_
  refine A_get hE 32 dX7_answer_29 rfl fkX7_43 rfl rfl ?_
  refine A_iload_n hE 33 dX7_answer_32 rfl rfl ?_
  refine A_iald hE 34 k dX7_answer_33 rfl rfl rfl hk rfl ?_
  refine A_put hE 37 dX7_answer_34 rfl fkX7_31 rfl rfl rfl rfl ?_
  refine A_h (Y29 er im s t0 g0 h0 t1 g1 h1 tl tp wl wt wh mu J 0 Kd (nI k) (its s k 1) 0 tr) rfl ?_
  refine A_aload_n hE 38 dX7_answer_37 rfl rfl ?_
  refine A_iload_n hE 39 dX7_answer_38 rfl rfl ?_
  refine A_aload_n hE 40 dX7_answer_39 rfl rfl ?_
  refine A_get hE 43 dX7_answer_40 rfl fkX7_24 rfl rfl ?_
  refine A_iload hE 45 dX7_answer_43 rfl rfl ?_
  refine A_iconst hE 46 dX7_answer_45 rfl (0) rfl ?_
  refine A_callVi hE 49 (c_st Kd Kd (nI k) (its s k 1) x 0 tr 0 hKd hKd (by omega) (by omega)) [26, 27, 28] dX7_answer_46 rfl mkX7_46 rfl rfl rfl rfl rfl rfl rfl (Nat.le_of_ble_eq_true rfl) (Nat.le_of_ble_eq_true rfl) rfl (fun x46 h46 g46 hp46 hw46 => ?_)
  obtain ⟨rfl, rfl⟩ := hp46
  obtain rfl := Option.some.inj hw46
  refine A_h (Y29 er im s t0 g0 h0 t1 g1 h1 tl tp wl wt wh mu J 0 Kd (nI k) (its s k 1) (apN (stT Kd Kd) 0) (apF (stT Kd Kd) 0 tr)) rfl ?_
  refine A_iret hE dX7_answer_49 ⟨rfl, rfl⟩
set_option maxRecDepth 100000 in
theorem c_ans_3p (er : Nat → Int32) (im : Int32) (s : St) (t0 : Sp) (g0 h0 : Nat → Int32) (t1 : Sp) (g1 h1 : Nat → Int32) (tl : Nat) (tp : Nat → Int32) (wl : Nat) (wt : Nat → Int32) (wh mu : Int32) (J : St) (pt : Int32) (vK : Nat) (vk vm : Int32) (tn : Nat) (tr : Nat → Int32) (k : Nat) (hk : k < 8) (x : Int32) (Kd : Nat) (hKd : Kd < 7) (hkd : its s k 0 = nI Kd) (hm : its s k 1 = nI k) : AMet yX7_answer cX7_answer 5 (some (.int)) 15 0 0 [.ref 26, .ref 11, .int (nI k), .int 3, .int x] (Y29 er im s t0 g0 h0 t1 g1 h1 tl tp wl wt wh mu J pt vK vk vm tn tr) (pI fun x0 hz0 => x0 = 0 ∧ hz0 = Y29 er im s t0 g0 h0 t1 g1 h1 tl tp wl wt wh mu J 1 Kd (nI k) (its s k 1) (apN (paTp Kd) 0) (apF (paTp Kd) 0 tr)) := by
  refine AMet.of (by decide +kernel) rfl (fun E ad0 hE => ?_)
  refine A_aload_n hE 1 dX7_answer_0 rfl rfl ?_
  refine A_get hE 4 dX7_answer_1 rfl fkX7_14 rfl rfl ?_
  refine A_callVv hE 7 (c_X3_empty 30 tr (nI tn)) [27, 28] dX7_answer_4 rfl mkX7_34 rfl rfl rfl rfl rfl rfl rfl (Nat.le_of_ble_eq_true rfl) (Nat.le_of_ble_eq_true rfl) rfl (fun h4 g4 hp4 hw4 => ?_)
  obtain rfl := hp4
  obtain rfl := Option.some.inj hw4
  refine A_h (Y29 er im s t0 g0 h0 t1 g1 h1 tl tp wl wt wh mu J pt vK vk vm 0 tr) rfl ?_
  refine A_aload_n hE 8 dX7_answer_7 rfl rfl ?_
  refine A_iconst hE 9 dX7_answer_8 rfl (0) rfl ?_
  refine A_put hE 12 dX7_answer_9 rfl fkX7_20 rfl rfl rfl rfl ?_
  refine A_aload_n hE 13 dX7_answer_12 rfl rfl ?_
  refine A_aload_n hE 14 dX7_answer_13 rfl rfl ?_
  refine A_get hE 17 dX7_answer_14 rfl fkX7_37 rfl rfl ?_
  refine A_iload_n hE 18 dX7_answer_17 rfl rfl ?_
  refine A_iald hE 19 k dX7_answer_18 rfl rfl rfl hk rfl ?_
  rw [show arr s 0 k = nI Kd from hkd]
  refine A_put hE 22 dX7_answer_19 rfl fkX7_24 rfl rfl rfl rfl ?_
  refine A_aload_n hE 23 dX7_answer_22 rfl rfl ?_
  refine A_iload_n hE 24 dX7_answer_23 rfl rfl ?_
  refine A_put hE 27 dX7_answer_24 rfl fkX7_28 rfl rfl rfl rfl ?_
  refine A_aload_n hE 28 dX7_answer_27 rfl rfl ?_
  refine A_aload_n hE 29 dX7_answer_28 rfl rfl ?_
  refine A_get hE 32 dX7_answer_29 rfl fkX7_43 rfl rfl ?_
  refine A_iload_n hE 33 dX7_answer_32 rfl rfl ?_
  refine A_iald hE 34 k dX7_answer_33 rfl rfl rfl hk rfl ?_
  refine A_put hE 37 dX7_answer_34 rfl fkX7_31 rfl rfl rfl rfl ?_
  refine A_h (Y29 er im s t0 g0 h0 t1 g1 h1 tl tp wl wt wh mu J 0 Kd (nI k) (its s k 1) 0 tr) rfl ?_
  refine A_aload_n hE 38 dX7_answer_37 rfl rfl ?_
  refine A_iload_n hE 39 dX7_answer_38 rfl rfl ?_
  refine A_aload_n hE 40 dX7_answer_39 rfl rfl ?_
  refine A_get hE 43 dX7_answer_40 rfl fkX7_24 rfl rfl ?_
  refine A_iload hE 45 dX7_answer_43 rfl rfl ?_
  refine A_iconst hE 46 dX7_answer_45 rfl (0) rfl ?_
  refine A_callVi hE 49 (c_pap Kd Kd (nI k) (its s k 1) x 0 tr 0 hKd hKd (by omega) (by omega) hm) [26, 27, 28] dX7_answer_46 rfl mkX7_46 rfl rfl rfl rfl rfl rfl rfl (Nat.le_of_ble_eq_true rfl) (Nat.le_of_ble_eq_true rfl) rfl (fun x46 h46 g46 hp46 hw46 => ?_)
  obtain ⟨rfl, rfl⟩ := hp46
  obtain rfl := Option.some.inj hw46
  refine A_h (Y29 er im s t0 g0 h0 t1 g1 h1 tl tp wl wt wh mu J 1 Kd (nI k) (its s k 1) (apN (paTp Kd) 0) (apF (paTp Kd) 0 tr)) rfl ?_
  refine A_iret hE dX7_answer_49 ⟨rfl, rfl⟩
set_option maxRecDepth 100000 in
theorem c_ans_3n (er : Nat → Int32) (im : Int32) (s : St) (t0 : Sp) (g0 h0 : Nat → Int32) (t1 : Sp) (g1 h1 : Nat → Int32) (tl : Nat) (tp : Nat → Int32) (wl : Nat) (wt : Nat → Int32) (wh mu : Int32) (J : St) (pt : Int32) (vK : Nat) (vk vm : Int32) (tn : Nat) (tr : Nat → Int32) (k : Nat) (hk : k < 8) (x : Int32) (Kd : Nat) (hKd : Kd < 7) (hkd : its s k 0 = nI Kd) (hm : ¬ its s k 1 = nI k) : AMet yX7_answer cX7_answer 5 (some (.int)) 15 0 0 [.ref 26, .ref 11, .int (nI k), .int 3, .int x] (Y29 er im s t0 g0 h0 t1 g1 h1 tl tp wl wt wh mu J pt vK vk vm tn tr) (pI fun x0 hz0 => x0 = paV (nI k) (its s k 1) Kd Kd x ∧ hz0 = Y29 er im s t0 g0 h0 t1 g1 h1 tl tp wl wt wh mu J 0 Kd (nI k) (its s k 1) (apN (paT Kd Kd) 0) (apF (paT Kd Kd) 0 tr)) := by
  refine AMet.of (by decide +kernel) rfl (fun E ad0 hE => ?_)
  refine A_aload_n hE 1 dX7_answer_0 rfl rfl ?_
  refine A_get hE 4 dX7_answer_1 rfl fkX7_14 rfl rfl ?_
  refine A_callVv hE 7 (c_X3_empty 30 tr (nI tn)) [27, 28] dX7_answer_4 rfl mkX7_34 rfl rfl rfl rfl rfl rfl rfl (Nat.le_of_ble_eq_true rfl) (Nat.le_of_ble_eq_true rfl) rfl (fun h4 g4 hp4 hw4 => ?_)
  obtain rfl := hp4
  obtain rfl := Option.some.inj hw4
  refine A_h (Y29 er im s t0 g0 h0 t1 g1 h1 tl tp wl wt wh mu J pt vK vk vm 0 tr) rfl ?_
  refine A_aload_n hE 8 dX7_answer_7 rfl rfl ?_
  refine A_iconst hE 9 dX7_answer_8 rfl (0) rfl ?_
  refine A_put hE 12 dX7_answer_9 rfl fkX7_20 rfl rfl rfl rfl ?_
  refine A_aload_n hE 13 dX7_answer_12 rfl rfl ?_
  refine A_aload_n hE 14 dX7_answer_13 rfl rfl ?_
  refine A_get hE 17 dX7_answer_14 rfl fkX7_37 rfl rfl ?_
  refine A_iload_n hE 18 dX7_answer_17 rfl rfl ?_
  refine A_iald hE 19 k dX7_answer_18 rfl rfl rfl hk rfl ?_
  rw [show arr s 0 k = nI Kd from hkd]
  refine A_put hE 22 dX7_answer_19 rfl fkX7_24 rfl rfl rfl rfl ?_
  refine A_aload_n hE 23 dX7_answer_22 rfl rfl ?_
  refine A_iload_n hE 24 dX7_answer_23 rfl rfl ?_
  refine A_put hE 27 dX7_answer_24 rfl fkX7_28 rfl rfl rfl rfl ?_
  refine A_aload_n hE 28 dX7_answer_27 rfl rfl ?_
  refine A_aload_n hE 29 dX7_answer_28 rfl rfl ?_
  refine A_get hE 32 dX7_answer_29 rfl fkX7_43 rfl rfl ?_
  refine A_iload_n hE 33 dX7_answer_32 rfl rfl ?_
  refine A_iald hE 34 k dX7_answer_33 rfl rfl rfl hk rfl ?_
  refine A_put hE 37 dX7_answer_34 rfl fkX7_31 rfl rfl rfl rfl ?_
  refine A_h (Y29 er im s t0 g0 h0 t1 g1 h1 tl tp wl wt wh mu J 0 Kd (nI k) (its s k 1) 0 tr) rfl ?_
  refine A_aload_n hE 38 dX7_answer_37 rfl rfl ?_
  refine A_iload_n hE 39 dX7_answer_38 rfl rfl ?_
  refine A_aload_n hE 40 dX7_answer_39 rfl rfl ?_
  refine A_get hE 43 dX7_answer_40 rfl fkX7_24 rfl rfl ?_
  refine A_iload hE 45 dX7_answer_43 rfl rfl ?_
  refine A_iconst hE 46 dX7_answer_45 rfl (0) rfl ?_
  refine A_callVi hE 49 (c_pan Kd Kd (nI k) (its s k 1) x 0 tr 0 hKd hKd (by omega) (by omega) hm) [26, 27, 28] dX7_answer_46 rfl mkX7_46 rfl rfl rfl rfl rfl rfl rfl (Nat.le_of_ble_eq_true rfl) (Nat.le_of_ble_eq_true rfl) rfl (fun x46 h46 g46 hp46 hw46 => ?_)
  obtain ⟨rfl, rfl⟩ := hp46
  obtain rfl := Option.some.inj hw46
  refine A_h (Y29 er im s t0 g0 h0 t1 g1 h1 tl tp wl wt wh mu J 0 Kd (nI k) (its s k 1) (apN (paT Kd Kd) 0) (apF (paT Kd Kd) 0 tr)) rfl ?_
  refine A_iret hE dX7_answer_49 ⟨rfl, rfl⟩
set_option maxRecDepth 100000 in
theorem c_X8_voice (er : Nat → Int32) (im : Int32) (s : St) (t0 : Sp) (g0 h0 : Nat → Int32) (t1 : Sp) (g1 h1 : Nat → Int32) (tl : Nat) (tp : Nat → Int32) (wl : Nat) (wt : Nat → Int32) (wh mu : Int32) (J : St) (pt : Int32) (vK : Nat) (vk vm : Int32) (tn : Nat) (tr : Nat → Int32) (h v x : Int32) (w : wf s) : AMet yX8_voice cX8_voice 5 (some (.int)) 18 0 0 [.ref 0, .int h, .int v, .int x] (Y29 er im s t0 g0 h0 t1 g1 h1 tl tp wl wt wh mu J pt vK vk vm tn tr) (pI fun x0 hz0 => x0 = (voiceF s er h v x).1 ∧ ∃ (pt' : Int32) (vK' : Nat) (vk' vm' : Int32), hz0 = Y29 (voiceF s er h v x).2.2 im s t0 g0 h0 t1 g1 h1 tl tp wl wt wh mu J pt' vK' vk' vm' (voiceT s h v tn) (voiceR s h v tr)) := by
  refine AMet.of (by decide +kernel) rfl (fun E ad0 hE => ?_)
  obtain ⟨w1, w2, w3, w4, w5, w6, w7⟩ := id w
  refine A_aload_n hE 1 dX8_voice_0 rfl rfl ?_
  refine A_get hE 4 dX8_voice_1 rfl fkX8_10 rfl rfl ?_
  refine A_get hE 7 dX8_voice_4 rfl fkX8_63 rfl rfl ?_
  refine A_iload_n hE 8 dX8_voice_7 rfl rfl ?_
  refine A_callVi hE 11 (c_X2_has s t0 t1 g0 h0 g1 h1 h) [11, 3, 4, 5, 6, 7, 8, 9, 10, 12, 13, 14, 15] dX8_voice_8 rfl mkX8_75 rfl rfl rfl rfl rfl rfl rfl (Nat.le_of_ble_eq_true rfl) (Nat.le_of_ble_eq_true rfl) rfl (fun x8 h8 g8 hp8 hw8 => ?_)
  obtain ⟨rfl, rfl⟩ := hp8
  obtain rfl := Option.some.inj hw8
  refine A_h (Y29 er im s t0 g0 h0 t1 g1 h1 tl tp wl wt wh mu J pt vK vk vm tn tr) rfl ?_
  refine A_if_eq hE 14 23 dX8_voice_11 rfl rfl (fun c11 => ?_) (fun c11 => ?_)
  · have hh := bI_0 c11
    refine A_aload_n hE 24 dX8_voice_23 rfl rfl ?_
    refine A_iconst hE 25 dX8_voice_24 rfl (1) rfl ?_
    refine A_callVi hE 28 (c_X8_error er im 1 (by omega)) [0, 1] dX8_voice_25 rfl mkX8_59 rfl rfl rfl rfl rfl rfl rfl (Nat.le_of_ble_eq_true rfl) (Nat.le_of_ble_eq_true rfl) rfl (fun x25 h25 g25 hp25 hw25 => ?_)
    obtain ⟨rfl, rfl⟩ := hp25
    obtain rfl := Option.some.inj hw25
    refine A_h (Y29 (upd er 1 (er 1 + 1)) im s t0 g0 h0 t1 g1 h1 tl tp wl wt wh mu J pt vK vk vm tn tr) rfl ?_
    refine A_iret hE dX8_voice_28 ?_
    have hno : ¬ ((0 ≤ h ∧ h < s 8) ∧ (0 ≤ v ∧ v ≤ 3)) := (fun z => hh z.1)
    rw [voiceF, voiceT, voiceR, if_neg hno, if_neg hno, if_neg hno]
    exact ⟨rfl, pt, vK, vk, vm, rfl⟩
  · have hh := bI_1 c11
    have hz := hh
    rw [w2] at hz
    obtain ⟨k, hk, rfl⟩ := iK hz.1 hz.2 (by omega)
    have ek : (nI k).toNatClampNeg = k := nI_clamp (by omega)
    refine A_iload_n hE 15 dX8_voice_14 rfl rfl ?_
    refine A_iconst hE 16 dX8_voice_15 rfl (0) rfl ?_
    refine A_iconst hE 17 dX8_voice_16 rfl (3) rfl ?_
    refine A_callSi hE 20 (c_X8_isWithin v 0 3) [] dX8_voice_17 rfl mkX8_55 rfl rfl rfl rfl rfl rfl (Nat.le_of_ble_eq_true rfl) (Nat.le_of_ble_eq_true rfl) rfl (fun x17 h17 g17 hp17 hw17 => ?_)
    obtain ⟨rfl, rfl⟩ := hp17
    obtain rfl := Option.some.inj hw17
    refine A_if_ne hE 23 29 dX8_voice_20 rfl rfl (fun c20 => ?_) (fun c20 => ?_)
    · have hq := bI_1 c20
      have hv := And.intro hh hq
      have hk8 : k < 8 := by omega
      obtain ⟨⟨q, hq7, hqk⟩, -⟩ := w5 k (by omega)
      have hkk : kdN s k < 7 := by unfold kdN; rw [hqk, nI_clamp (by omega)]; exact hq7
      have hKd : its s k 0 = nI (kdN s k) := by unfold kdN; rw [hqk, nI_clamp (by omega)]
      obtain ⟨j, hj, rfl⟩ := iK2 (n := 3) hq.1 hq.2 (by omega)
      match j, hj with
      | 0, _ =>
        refine A_aload_n hE 30 dX8_voice_29 rfl rfl ?_
        refine A_get hE 33 dX8_voice_30 rfl fkX8_36 rfl rfl ?_
        refine A_aload_n hE 34 dX8_voice_33 rfl rfl ?_
        refine A_get hE 37 dX8_voice_34 rfl fkX8_10 rfl rfl ?_
        refine A_get hE 40 dX8_voice_37 rfl fkX8_63 rfl rfl ?_
        refine A_iload_n hE 41 dX8_voice_40 rfl rfl ?_
        refine A_iload_n hE 42 dX8_voice_41 rfl rfl ?_
        refine A_iload_n hE 43 dX8_voice_42 rfl rfl ?_
        refine A_callVi hE 46 (c_ans_0 er im s t0 g0 h0 t1 g1 h1 tl tp wl wt wh mu J pt vK vk vm tn tr k hk8 x (kdN s k) hkk hKd) [0, 1, 2, 3, 4, 5, 6, 7, 8, 9, 10, 11, 12, 13, 14, 15, 16, 17, 18, 19, 20, 21, 22, 23, 24, 25, 26, 27, 28] dX8_voice_43 rfl mkX8_238 rfl rfl rfl rfl rfl rfl rfl (Nat.le_of_ble_eq_true rfl) (Nat.le_of_ble_eq_true rfl) rfl (fun x43 h43 g43 hp43 hw43 => ?_)
        obtain ⟨rfl, rfl⟩ := hp43
        obtain rfl := Option.some.inj hw43
        refine A_h (Y29 er im s t0 g0 h0 t1 g1 h1 tl tp wl wt wh mu J 0 (kdN s k) (nI k) (its s k 1) (apN (cuT (kdN s k)) 0) (apF (cuT (kdN s k)) 0 tr)) rfl ?_
        refine A_istore hE 48 dX8_voice_46 rfl rfl rfl ?_
        refine A_aload_n hE 49 dX8_voice_48 rfl rfl ?_
        refine A_get hE 52 dX8_voice_49 rfl fkX8_36 rfl rfl ?_
        refine A_get hE 55 dX8_voice_52 rfl fkX8_241 rfl rfl ?_
        refine A_if_eq hE 58 67 dX8_voice_55 rfl rfl (fun c55 => ?_) (fun c55 => absurd rfl c55)
        refine A_iload hE 69 dX8_voice_67 rfl rfl ?_
        refine A_iret hE dX8_voice_69 ?_
        simp only [voiceF, voiceT, voiceR, voV, voT, if_pos hv, ek, if_pos (show nI 0 = 0 from rfl), if_neg (show ¬ (nI 0 = 3 ∧ its s k 1 = nI k) from fun z => absurd z.1 (by decide))]
        exact ⟨by first | trivial | rfl, _, _, _, _, rfl⟩
      | 1, _ =>
        refine A_aload_n hE 30 dX8_voice_29 rfl rfl ?_
        refine A_get hE 33 dX8_voice_30 rfl fkX8_36 rfl rfl ?_
        refine A_aload_n hE 34 dX8_voice_33 rfl rfl ?_
        refine A_get hE 37 dX8_voice_34 rfl fkX8_10 rfl rfl ?_
        refine A_get hE 40 dX8_voice_37 rfl fkX8_63 rfl rfl ?_
        refine A_iload_n hE 41 dX8_voice_40 rfl rfl ?_
        refine A_iload_n hE 42 dX8_voice_41 rfl rfl ?_
        refine A_iload_n hE 43 dX8_voice_42 rfl rfl ?_
        refine A_callVi hE 46 (c_ans_1 er im s t0 g0 h0 t1 g1 h1 tl tp wl wt wh mu J pt vK vk vm tn tr k hk8 x (kdN s k) hkk hKd) [0, 1, 2, 3, 4, 5, 6, 7, 8, 9, 10, 11, 12, 13, 14, 15, 16, 17, 18, 19, 20, 21, 22, 23, 24, 25, 26, 27, 28] dX8_voice_43 rfl mkX8_238 rfl rfl rfl rfl rfl rfl rfl (Nat.le_of_ble_eq_true rfl) (Nat.le_of_ble_eq_true rfl) rfl (fun x43 h43 g43 hp43 hw43 => ?_)
        obtain ⟨rfl, rfl⟩ := hp43
        obtain rfl := Option.some.inj hw43
        refine A_h (Y29 er im s t0 g0 h0 t1 g1 h1 tl tp wl wt wh mu J 0 (kdN s k) (nI k) (its s k 1) (apN (saT (kdN s k) (kdN s k)) 0) (apF (saT (kdN s k) (kdN s k)) 0 tr)) rfl ?_
        refine A_istore hE 48 dX8_voice_46 rfl rfl rfl ?_
        refine A_aload_n hE 49 dX8_voice_48 rfl rfl ?_
        refine A_get hE 52 dX8_voice_49 rfl fkX8_36 rfl rfl ?_
        refine A_get hE 55 dX8_voice_52 rfl fkX8_241 rfl rfl ?_
        refine A_if_eq hE 58 67 dX8_voice_55 rfl rfl (fun c55 => ?_) (fun c55 => absurd rfl c55)
        refine A_iload hE 69 dX8_voice_67 rfl rfl ?_
        refine A_iret hE dX8_voice_69 ?_
        simp only [voiceF, voiceT, voiceR, voV, voT, if_pos hv, ek, if_neg (show ¬ nI 1 = 0 by decide), if_pos (show nI 1 = 1 from rfl), if_neg (show ¬ (nI 1 = 3 ∧ its s k 1 = nI k) from fun z => absurd z.1 (by decide))]
        exact ⟨by first | trivial | rfl, _, _, _, _, rfl⟩
      | 2, _ =>
        refine A_aload_n hE 30 dX8_voice_29 rfl rfl ?_
        refine A_get hE 33 dX8_voice_30 rfl fkX8_36 rfl rfl ?_
        refine A_aload_n hE 34 dX8_voice_33 rfl rfl ?_
        refine A_get hE 37 dX8_voice_34 rfl fkX8_10 rfl rfl ?_
        refine A_get hE 40 dX8_voice_37 rfl fkX8_63 rfl rfl ?_
        refine A_iload_n hE 41 dX8_voice_40 rfl rfl ?_
        refine A_iload_n hE 42 dX8_voice_41 rfl rfl ?_
        refine A_iload_n hE 43 dX8_voice_42 rfl rfl ?_
        refine A_callVi hE 46 (c_ans_2 er im s t0 g0 h0 t1 g1 h1 tl tp wl wt wh mu J pt vK vk vm tn tr k hk8 x (kdN s k) hkk hKd) [0, 1, 2, 3, 4, 5, 6, 7, 8, 9, 10, 11, 12, 13, 14, 15, 16, 17, 18, 19, 20, 21, 22, 23, 24, 25, 26, 27, 28] dX8_voice_43 rfl mkX8_238 rfl rfl rfl rfl rfl rfl rfl (Nat.le_of_ble_eq_true rfl) (Nat.le_of_ble_eq_true rfl) rfl (fun x43 h43 g43 hp43 hw43 => ?_)
        obtain ⟨rfl, rfl⟩ := hp43
        obtain rfl := Option.some.inj hw43
        refine A_h (Y29 er im s t0 g0 h0 t1 g1 h1 tl tp wl wt wh mu J 0 (kdN s k) (nI k) (its s k 1) (apN (stT (kdN s k) (kdN s k)) 0) (apF (stT (kdN s k) (kdN s k)) 0 tr)) rfl ?_
        refine A_istore hE 48 dX8_voice_46 rfl rfl rfl ?_
        refine A_aload_n hE 49 dX8_voice_48 rfl rfl ?_
        refine A_get hE 52 dX8_voice_49 rfl fkX8_36 rfl rfl ?_
        refine A_get hE 55 dX8_voice_52 rfl fkX8_241 rfl rfl ?_
        refine A_if_eq hE 58 67 dX8_voice_55 rfl rfl (fun c55 => ?_) (fun c55 => absurd rfl c55)
        refine A_iload hE 69 dX8_voice_67 rfl rfl ?_
        refine A_iret hE dX8_voice_69 ?_
        simp only [voiceF, voiceT, voiceR, voV, voT, if_pos hv, ek, if_neg (show ¬ nI 2 = 0 by decide), if_neg (show ¬ nI 2 = 1 by decide), if_pos (show nI 2 = 2 from rfl), if_neg (show ¬ (nI 2 = 3 ∧ its s k 1 = nI k) from fun z => absurd z.1 (by decide))]
        exact ⟨by first | trivial | rfl, _, _, _, _, rfl⟩
      | 3, _ =>
        by_cases hm : its s k 1 = nI k
        · refine A_aload_n hE 30 dX8_voice_29 rfl rfl ?_
          refine A_get hE 33 dX8_voice_30 rfl fkX8_36 rfl rfl ?_
          refine A_aload_n hE 34 dX8_voice_33 rfl rfl ?_
          refine A_get hE 37 dX8_voice_34 rfl fkX8_10 rfl rfl ?_
          refine A_get hE 40 dX8_voice_37 rfl fkX8_63 rfl rfl ?_
          refine A_iload_n hE 41 dX8_voice_40 rfl rfl ?_
          refine A_iload_n hE 42 dX8_voice_41 rfl rfl ?_
          refine A_iload_n hE 43 dX8_voice_42 rfl rfl ?_
          refine A_callVi hE 46 (c_ans_3p er im s t0 g0 h0 t1 g1 h1 tl tp wl wt wh mu J pt vK vk vm tn tr k hk8 x (kdN s k) hkk hKd hm) [0, 1, 2, 3, 4, 5, 6, 7, 8, 9, 10, 11, 12, 13, 14, 15, 16, 17, 18, 19, 20, 21, 22, 23, 24, 25, 26, 27, 28] dX8_voice_43 rfl mkX8_238 rfl rfl rfl rfl rfl rfl rfl (Nat.le_of_ble_eq_true rfl) (Nat.le_of_ble_eq_true rfl) rfl (fun x43 h43 g43 hp43 hw43 => ?_)
          obtain ⟨rfl, rfl⟩ := hp43
          obtain rfl := Option.some.inj hw43
          refine A_h (Y29 er im s t0 g0 h0 t1 g1 h1 tl tp wl wt wh mu J 1 (kdN s k) (nI k) (its s k 1) (apN (paTp (kdN s k)) 0) (apF (paTp (kdN s k)) 0 tr)) rfl ?_
          refine A_istore hE 48 dX8_voice_46 rfl rfl rfl ?_
          refine A_aload_n hE 49 dX8_voice_48 rfl rfl ?_
          refine A_get hE 52 dX8_voice_49 rfl fkX8_36 rfl rfl ?_
          refine A_get hE 55 dX8_voice_52 rfl fkX8_241 rfl rfl ?_
          refine A_if_eq hE 58 67 dX8_voice_55 rfl rfl (fun c55 => absurd c55 (by decide)) (fun c55 => ?_)
          refine A_aload_n hE 59 dX8_voice_58 rfl rfl ?_
          refine A_bipush hE 61 dX8_voice_59 rfl (6) (by decide) ?_
          refine A_callVi hE 64 (c_X8_error er im 6 (by omega)) [0, 1] dX8_voice_61 rfl mkX8_59 rfl rfl rfl rfl rfl rfl rfl (Nat.le_of_ble_eq_true rfl) (Nat.le_of_ble_eq_true rfl) rfl (fun x61 h61 g61 hp61 hw61 => ?_)
          obtain ⟨rfl, rfl⟩ := hp61
          obtain rfl := Option.some.inj hw61
          refine A_h (Y29 (upd er 6 (er 6 + 1)) im s t0 g0 h0 t1 g1 h1 tl tp wl wt wh mu J 1 (kdN s k) (nI k) (its s k 1) (apN (paTp (kdN s k)) 0) (apF (paTp (kdN s k)) 0 tr)) rfl ?_
          refine A_goto hE 69 dX8_voice_64 rfl ?_
          refine A_iret hE dX8_voice_69 ?_
          simp only [voiceF, voiceT, voiceR, voV, voT, if_pos hv, ek, if_neg (show ¬ nI 3 = 0 by decide), if_neg (show ¬ nI 3 = 1 by decide), if_neg (show ¬ nI 3 = 2 by decide), if_pos hm, if_pos (show nI 3 = 3 ∧ its s k 1 = nI k from ⟨rfl, hm⟩)]
          exact ⟨by first | trivial | rfl, _, _, _, _, rfl⟩
        · refine A_aload_n hE 30 dX8_voice_29 rfl rfl ?_
          refine A_get hE 33 dX8_voice_30 rfl fkX8_36 rfl rfl ?_
          refine A_aload_n hE 34 dX8_voice_33 rfl rfl ?_
          refine A_get hE 37 dX8_voice_34 rfl fkX8_10 rfl rfl ?_
          refine A_get hE 40 dX8_voice_37 rfl fkX8_63 rfl rfl ?_
          refine A_iload_n hE 41 dX8_voice_40 rfl rfl ?_
          refine A_iload_n hE 42 dX8_voice_41 rfl rfl ?_
          refine A_iload_n hE 43 dX8_voice_42 rfl rfl ?_
          refine A_callVi hE 46 (c_ans_3n er im s t0 g0 h0 t1 g1 h1 tl tp wl wt wh mu J pt vK vk vm tn tr k hk8 x (kdN s k) hkk hKd hm) [0, 1, 2, 3, 4, 5, 6, 7, 8, 9, 10, 11, 12, 13, 14, 15, 16, 17, 18, 19, 20, 21, 22, 23, 24, 25, 26, 27, 28] dX8_voice_43 rfl mkX8_238 rfl rfl rfl rfl rfl rfl rfl (Nat.le_of_ble_eq_true rfl) (Nat.le_of_ble_eq_true rfl) rfl (fun x43 h43 g43 hp43 hw43 => ?_)
          obtain ⟨rfl, rfl⟩ := hp43
          obtain rfl := Option.some.inj hw43
          refine A_h (Y29 er im s t0 g0 h0 t1 g1 h1 tl tp wl wt wh mu J 0 (kdN s k) (nI k) (its s k 1) (apN (paT (kdN s k) (kdN s k)) 0) (apF (paT (kdN s k) (kdN s k)) 0 tr)) rfl ?_
          refine A_istore hE 48 dX8_voice_46 rfl rfl rfl ?_
          refine A_aload_n hE 49 dX8_voice_48 rfl rfl ?_
          refine A_get hE 52 dX8_voice_49 rfl fkX8_36 rfl rfl ?_
          refine A_get hE 55 dX8_voice_52 rfl fkX8_241 rfl rfl ?_
          refine A_if_eq hE 58 67 dX8_voice_55 rfl rfl (fun c55 => ?_) (fun c55 => absurd rfl c55)
          refine A_iload hE 69 dX8_voice_67 rfl rfl ?_
          refine A_iret hE dX8_voice_69 ?_
          simp only [voiceF, voiceT, voiceR, voV, voT, if_pos hv, ek, if_neg (show ¬ nI 3 = 0 by decide), if_neg (show ¬ nI 3 = 1 by decide), if_neg (show ¬ nI 3 = 2 by decide), if_neg hm, if_neg (show ¬ (nI 3 = 3 ∧ its s k 1 = nI k) from fun z => hm z.2)]
          exact ⟨by first | trivial | rfl, _, _, _, _, rfl⟩
    · have hq := bI_0 c20
      refine A_aload_n hE 24 dX8_voice_23 rfl rfl ?_
      refine A_iconst hE 25 dX8_voice_24 rfl (1) rfl ?_
      refine A_callVi hE 28 (c_X8_error er im 1 (by omega)) [0, 1] dX8_voice_25 rfl mkX8_59 rfl rfl rfl rfl rfl rfl rfl (Nat.le_of_ble_eq_true rfl) (Nat.le_of_ble_eq_true rfl) rfl (fun x25 h25 g25 hp25 hw25 => ?_)
      obtain ⟨rfl, rfl⟩ := hp25
      obtain rfl := Option.some.inj hw25
      refine A_h (Y29 (upd er 1 (er 1 + 1)) im s t0 g0 h0 t1 g1 h1 tl tp wl wt wh mu J pt vK vk vm tn tr) rfl ?_
      refine A_iret hE dX8_voice_28 ?_
      have hno : ¬ ((0 ≤ nI k ∧ nI k < s 8) ∧ (0 ≤ v ∧ v ≤ 3)) := (fun z => hq z.2)
      rw [voiceF, voiceT, voiceR, if_neg hno, if_neg hno, if_neg hno]
      exact ⟨rfl, pt, vK, vk, vm, rfl⟩
