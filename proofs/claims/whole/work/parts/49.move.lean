set_option maxHeartbeats 4000000 in
set_option maxRecDepth 100000 in
theorem c_X8_move (er : Nat → Int32) (im : Int32) (s : St) (t0 : Sp) (g0 h0 : Nat → Int32) (t1 : Sp) (g1 h1 : Nat → Int32) (tl : Nat) (tp : Nat → Int32) (wl : Nat) (wt : Nat → Int32) (wh mu : Int32) (J : St) (pt : Int32) (vK : Nat) (vk vm : Int32) (tn : Nat) (tr : Nat → Int32) (v1 v2 : Value) (pl ft : Int32) (rk : Nat) (rf : Nat → Int32) (K : St) (m0 : Nat) (f0 k0 : Nat → Int32) (m1 : Nat) (f1 k1 : Nat → Int32) (tl2 : Nat) (tp2 : Nat → Int32) (wl2 : Nat) (wt2 sb : Nat → Int32) (zs : Nat → Nat) (sn : Nat → Nat → Int32) (h i q j n : Int32) (sz nu : Nat → Int32) (hR : ShR zs sn sz nu) (hB : ∀ k, k < 4 → widB (sb k)) : AMet yX8_move cX8_move 8 (some (.int)) 2 0 0 [.ref 0, .int h, .int i, .int q, .int j, .int n] (Y63 er im s t0 g0 h0 t1 g1 h1 tl tp wl wt wh mu J pt vK vk vm tn tr v1 v2 pl ft rk rf K m0 f0 k0 m1 f1 k1 tl2 tp2 wl2 wt2 sb zs sn) (pI fun x0 hz0 => x0 = (moveF er sb sz nu h i q j n).1 ∧ ∃ (zs' : Nat → Nat) (sn' : Nat → Nat → Int32), ShR zs' sn' (moveF er sb sz nu h i q j n).2.2.2.1 (moveF er sb sz nu h i q j n).2.2.2.2 ∧ hz0 = Y63 (moveF er sb sz nu h i q j n).2.1 im s t0 g0 h0 t1 g1 h1 tl tp wl wt wh mu J pt vK vk vm tn tr v1 v2 pl ft rk rf K m0 f0 k0 m1 f1 k1 tl2 tp2 wl2 wt2 (moveF er sb sz nu h i q j n).2.2.1 zs' sn') := by
  refine AMet.of (by decide +kernel) rfl (fun E ad0 hE => ?_)
  refine A_iload_n hE 1 dX8_move_0 rfl rfl ?_
  refine A_callSi hE 4 (c_X8_isSheet h) [] dX8_move_1 rfl mkX8_219 rfl rfl rfl rfl rfl rfl (Nat.le_of_ble_eq_true rfl) (Nat.le_of_ble_eq_true rfl) rfl (fun x1 h1 g1 hp1 hw1 => ?_)
  obtain ⟨rfl, rfl⟩ := hp1
  obtain rfl := Option.some.inj hw1
  refine A_if_eq hE 7 14 dX8_move_4 rfl rfl (fun c4 => ?_) (fun c4 => ?_)
  · have hh := bI_0 c4
    refine A_aload_n hE 15 dX8_move_14 rfl rfl ?_
    refine A_iconst hE 16 dX8_move_15 rfl (1) rfl ?_
    refine A_callVi hE 19 (c_X8_error er im 1 (by omega)) [0, 1] dX8_move_16 rfl mkX8_59 rfl rfl rfl rfl rfl rfl rfl (Nat.le_of_ble_eq_true rfl) (Nat.le_of_ble_eq_true rfl) rfl (fun x16 h16 g16 hp16 hw16 => ?_)
    obtain ⟨rfl, rfl⟩ := hp16
    obtain rfl := Option.some.inj hw16
    refine A_h (Y63 (upd er 1 (er 1 + 1)) im s t0 g0 h0 t1 g1 h1 tl tp wl wt wh mu J pt vK vk vm tn tr v1 v2 pl ft rk rf K m0 f0 k0 m1 f1 k1 tl2 tp2 wl2 wt2 sb zs sn) rfl ?_
    refine A_iret hE dX8_move_19 ?_
    rw [moveF, if_neg (fun z => hh z.1)]
    exact ⟨rfl, zs, sn, hR, rfl⟩
  · have hh := bI_1 c4
    obtain ⟨k, hkk, rfl⟩ := iK2 (n := 3) hh.1 hh.2 (by omega)
    have ek : (nI k).toNatClampNeg = k := nI_clamp (by omega)
    refine A_iload_n hE 8 dX8_move_7 rfl rfl ?_
    refine A_callSi hE 11 (c_X8_isSheet q) [] dX8_move_8 rfl mkX8_219 rfl rfl rfl rfl rfl rfl (Nat.le_of_ble_eq_true rfl) (Nat.le_of_ble_eq_true rfl) rfl (fun x8 h8 g8 hp8 hw8 => ?_)
    obtain ⟨rfl, rfl⟩ := hp8
    obtain rfl := Option.some.inj hw8
    refine A_if_ne hE 14 20 dX8_move_11 rfl rfl (fun c11 => ?_) (fun c11 => ?_)
    · have hg := bI_1 c11
      obtain ⟨l, hkl, rfl⟩ := iK2 (n := 3) hg.1 hg.2 (by omega)
      have el : (nI l).toNatClampNeg = l := nI_clamp (by omega)
      rcases (show k = 0 ∨ k = 1 ∨ k = 2 ∨ k = 3 by omega) with rfl | rfl | rfl | rfl
      · obtain ⟨hz24, hz, hvn⟩ := hR 0 (by omega)
        rcases (show l = 0 ∨ l = 1 ∨ l = 2 ∨ l = 3 by omega) with rfl | rfl | rfl | rfl
        · obtain ⟨hy24, hy, hwn⟩ := hR 0 (by omega)
          refine A_aload_n hE 21 dX8_move_20 rfl rfl ?_
          refine A_get hE 24 dX8_move_21 rfl fkX8_42 rfl rfl ?_
          refine A_iload_n hE 25 dX8_move_24 rfl rfl ?_
          refine A_aald hE 26 0 dX8_move_25 rfl rfl rfl (by omega) rfl rfl ?_
          refine A_astore hE 28 dX8_move_26 rfl rfl rfl ?_
          refine A_aload_n hE 29 dX8_move_28 rfl rfl ?_
          refine A_get hE 32 dX8_move_29 rfl fkX8_42 rfl rfl ?_
          refine A_iload_n hE 33 dX8_move_32 rfl rfl ?_
          refine A_aald hE 34 0 dX8_move_33 rfl rfl rfl (by omega) rfl rfl ?_
          refine A_astore hE 36 dX8_move_34 rfl rfl rfl ?_
          refine A_aload hE 38 dX8_move_36 rfl rfl ?_
          refine A_callVi hE 41 (c_X4_isMissing (sb 0) (zs 0) (sn 0)) [51, 52, 53] dX8_move_38 rfl mkX8_222 rfl rfl rfl rfl rfl rfl rfl (Nat.le_of_ble_eq_true rfl) (Nat.le_of_ble_eq_true rfl) rfl (fun x38 h38 g38 hp38 hw38 => ?_)
          obtain ⟨rfl, rfl⟩ := hp38
          obtain rfl := Option.some.inj hw38
          refine A_h (Y63 er im s t0 g0 h0 t1 g1 h1 tl tp wl wt wh mu J pt vK vk vm tn tr v1 v2 pl ft rk rf K m0 f0 k0 m1 f1 k1 tl2 tp2 wl2 wt2 sb zs sn) rfl ?_
          refine A_if_ne hE 44 52 dX8_move_41 rfl rfl (fun c41 => ?_) (fun c41 => ?_)
          · have hb := bI_1 (show ¬ _ = 0 from c41)
            refine A_aload_n hE 53 dX8_move_52 rfl rfl ?_
            refine A_iconst hE 54 dX8_move_53 rfl (2) rfl ?_
            refine A_callVi hE 57 (c_X8_error er im 2 (by omega)) [0, 1] dX8_move_54 rfl mkX8_59 rfl rfl rfl rfl rfl rfl rfl (Nat.le_of_ble_eq_true rfl) (Nat.le_of_ble_eq_true rfl) rfl (fun x54 h54 g54 hp54 hw54 => ?_)
            obtain ⟨rfl, rfl⟩ := hp54
            obtain rfl := Option.some.inj hw54
            refine A_h (Y63 (upd er 2 (er 2 + 1)) im s t0 g0 h0 t1 g1 h1 tl tp wl wt wh mu J pt vK vk vm tn tr v1 v2 pl ft rk rf K m0 f0 k0 m1 f1 k1 tl2 tp2 wl2 wt2 sb zs sn) rfl ?_
            refine A_iret hE dX8_move_57 ?_
            rw [moveF, if_pos ⟨hh, hg⟩, ek, if_pos (Or.inl hb)]
            exact ⟨rfl, zs, sn, hR, rfl⟩
          · have hb := bI_0 c41
            refine A_aload hE 46 dX8_move_44 rfl rfl ?_
            refine A_callVi hE 49 (c_X4_isMissing (sb 0) (zs 0) (sn 0)) [51, 52, 53] dX8_move_46 rfl mkX8_222 rfl rfl rfl rfl rfl rfl rfl (Nat.le_of_ble_eq_true rfl) (Nat.le_of_ble_eq_true rfl) rfl (fun x46 h46 g46 hp46 hw46 => ?_)
            obtain ⟨rfl, rfl⟩ := hp46
            obtain rfl := Option.some.inj hw46
            refine A_h (Y63 er im s t0 g0 h0 t1 g1 h1 tl tp wl wt wh mu J pt vK vk vm tn tr v1 v2 pl ft rk rf K m0 f0 k0 m1 f1 k1 tl2 tp2 wl2 wt2 sb zs sn) rfl ?_
            refine A_if_eq hE 52 58 dX8_move_49 rfl rfl (fun c49 => ?_) (fun c49 => ?_)
            · have hc := bI_0 c49
              refine A_aload hE 60 dX8_move_58 rfl rfl ?_
              refine A_get hE 63 dX8_move_60 rfl fkX8_260 rfl rfl ?_
              refine A_aload hE 65 dX8_move_63 rfl rfl ?_
              refine A_get hE 68 dX8_move_65 rfl fkX8_260 rfl rfl ?_
              refine A_icmp_eq hE 71 77 dX8_move_68 rfl rfl (fun c68 => ?_) (fun c68 => ?_)
              · have hd : sb 0 = sb 0 := c68
                refine A_aload hE 79 dX8_move_77 rfl rfl ?_
                refine A_get hE 82 dX8_move_79 rfl fkX8_226 rfl rfl ?_
                refine A_iload_n hE 83 dX8_move_82 rfl rfl ?_
                refine A_iload hE 85 dX8_move_83 rfl rfl ?_
                refine A_callVi hE 88 (c_X3_hasRun 24 (sn 0) (nI (zs 0)) i n) [52, 53] dX8_move_85 rfl mkX8_263 rfl rfl rfl rfl rfl rfl rfl (Nat.le_of_ble_eq_true rfl) (Nat.le_of_ble_eq_true rfl) rfl (fun x85 h85 g85 hp85 hw85 => ?_)
                obtain ⟨rfl, rfl⟩ := hp85
                obtain rfl := Option.some.inj hw85
                refine A_h (Y63 er im s t0 g0 h0 t1 g1 h1 tl tp wl wt wh mu J pt vK vk vm tn tr v1 v2 pl ft rk rf K m0 f0 k0 m1 f1 k1 tl2 tp2 wl2 wt2 sb zs sn) rfl ?_
                refine A_if_eq hE 91 106 dX8_move_88 rfl rfl (fun c88 => ?_) (fun c88 => ?_)
                · have r1 := bI_0 c88
                  refine A_aload_n hE 107 dX8_move_106 rfl rfl ?_
                  refine A_iconst hE 108 dX8_move_107 rfl (1) rfl ?_
                  refine A_callVi hE 111 (c_X8_error er im 1 (by omega)) [0, 1] dX8_move_108 rfl mkX8_59 rfl rfl rfl rfl rfl rfl rfl (Nat.le_of_ble_eq_true rfl) (Nat.le_of_ble_eq_true rfl) rfl (fun x108 h108 g108 hp108 hw108 => ?_)
                  obtain ⟨rfl, rfl⟩ := hp108
                  obtain rfl := Option.some.inj hw108
                  refine A_h (Y63 (upd er 1 (er 1 + 1)) im s t0 g0 h0 t1 g1 h1 tl tp wl wt wh mu J pt vK vk vm tn tr v1 v2 pl ft rk rf K m0 f0 k0 m1 f1 k1 tl2 tp2 wl2 wt2 sb zs sn) rfl ?_
                  refine A_iret hE dX8_move_111 ?_
                  rw [moveF, if_pos ⟨hh, hg⟩, ek, if_neg (fun z => z.elim hb hc), if_neg (fun z => z hd), if_neg (fun z => r1 ⟨z.1, mv_n hz24 z.1 z.2.1 (by have y := z.2.2.2.1; rw [hz] at y; exact y), z.2.1, by have y := z.2.2.2.1; rw [hz] at y; exact y⟩)]
                  exact ⟨rfl, zs, sn, hR, rfl⟩
                · have r1 := bI_1 c88
                  refine A_aload hE 93 dX8_move_91 rfl rfl ?_
                  refine A_get hE 96 dX8_move_93 rfl fkX8_226 rfl rfl ?_
                  refine A_iload hE 98 dX8_move_96 rfl rfl ?_
                  refine A_iload hE 100 dX8_move_98 rfl rfl ?_
                  refine A_callVi hE 103 (c_X3_hasRun 24 (sn 0) (nI (zs 0)) j n) [52, 53] dX8_move_100 rfl mkX8_263 rfl rfl rfl rfl rfl rfl rfl (Nat.le_of_ble_eq_true rfl) (Nat.le_of_ble_eq_true rfl) rfl (fun x100 h100 g100 hp100 hw100 => ?_)
                  obtain ⟨rfl, rfl⟩ := hp100
                  obtain rfl := Option.some.inj hw100
                  refine A_h (Y63 er im s t0 g0 h0 t1 g1 h1 tl tp wl wt wh mu J pt vK vk vm tn tr v1 v2 pl ft rk rf K m0 f0 k0 m1 f1 k1 tl2 tp2 wl2 wt2 sb zs sn) rfl ?_
                  refine A_if_ne hE 106 112 dX8_move_103 rfl rfl (fun c103 => ?_) (fun c103 => ?_)
                  · have r2 := bI_1 c103
                    obtain ⟨p, hp, rfl⟩ := nI_of (iN r1.2.2.1)
                    obtain ⟨r, hr, rfl⟩ := nI_of (iN r2.2.2.1)
                    obtain ⟨a, ha, rfl⟩ := nI_of (iN r1.1)
                    have b1 := mv_le hp hz24 ha r1.2.2.2
                    have b2 := mv_le hr hy24 ha r2.2.2.2
                    have ep : (nI p).toNatClampNeg = p := nI_clamp hp
                    have er' : (nI r).toNatClampNeg = r := nI_clamp hr
                    have ea : (nI a).toNatClampNeg = a := nI_clamp ha
                    refine A_aload hE 114 dX8_move_112 rfl rfl ?_
                    refine A_get hE 117 dX8_move_114 rfl fkX8_226 rfl rfl ?_
                    refine A_get hE 120 dX8_move_117 rfl fkX8_249 rfl rfl ?_
                    refine A_iload_n hE 121 dX8_move_120 rfl rfl ?_
                    refine A_aload hE 123 dX8_move_121 rfl rfl ?_
                    refine A_get hE 126 dX8_move_123 rfl fkX8_226 rfl rfl ?_
                    refine A_get hE 129 dX8_move_126 rfl fkX8_249 rfl rfl ?_
                    refine A_iload hE 131 dX8_move_129 rfl rfl ?_
                    refine A_iload hE 133 dX8_move_131 rfl rfl ?_
                    refine A_copyi hE 136 dX8_move_133 rfl acRX8 acN acS acI rfl rfl (nI_pos hp) (nI_pos hr) (nI_pos ha) (by rw [ep, ea]; omega) (by rw [er', ea]; omega) rfl (by decide) rfl ?_
                    refine A_h (Y63 er im s t0 g0 h0 t1 g1 h1 tl tp wl wt wh mu J pt vK vk vm tn tr v1 v2 pl ft rk rf K m0 f0 k0 m1 f1 k1 tl2 tp2 wl2 wt2 sb zs (updS sn 0 (va_cpy (sn 0) (sn 0) p r a))) (by rw [ep, er', ea]; rfl) ?_
                    refine A_iload hE 138 dX8_move_136 rfl rfl ?_
                    refine A_iret hE dX8_move_138 ?_
                    rw [moveF, if_pos ⟨hh, hg⟩, ek, if_neg (fun z => z.elim hb hc), if_neg (fun z => z hd), if_pos ⟨r1.1, r1.2.2.1, r2.2.2.1, by rw [hz]; exact r1.2.2.2, by rw [hy]; exact r2.2.2.2⟩, ep, er', ea]
                    exact ⟨rfl, _, _, hR.mov (k := 0) (l := 0) (by omega) (by omega) b1 b2, rfl⟩
                  · have r2 := bI_0 c103
                    refine A_aload_n hE 107 dX8_move_106 rfl rfl ?_
                    refine A_iconst hE 108 dX8_move_107 rfl (1) rfl ?_
                    refine A_callVi hE 111 (c_X8_error er im 1 (by omega)) [0, 1] dX8_move_108 rfl mkX8_59 rfl rfl rfl rfl rfl rfl rfl (Nat.le_of_ble_eq_true rfl) (Nat.le_of_ble_eq_true rfl) rfl (fun x108 h108 g108 hp108 hw108 => ?_)
                    obtain ⟨rfl, rfl⟩ := hp108
                    obtain rfl := Option.some.inj hw108
                    refine A_h (Y63 (upd er 1 (er 1 + 1)) im s t0 g0 h0 t1 g1 h1 tl tp wl wt wh mu J pt vK vk vm tn tr v1 v2 pl ft rk rf K m0 f0 k0 m1 f1 k1 tl2 tp2 wl2 wt2 sb zs sn) rfl ?_
                    refine A_iret hE dX8_move_111 ?_
                    rw [moveF, if_pos ⟨hh, hg⟩, ek, if_neg (fun z => z.elim hb hc), if_neg (fun z => z hd), if_neg (fun z => r2 ⟨z.1, mv_n hy24 z.1 z.2.2.1 (by have y := z.2.2.2.2; rw [hy] at y; exact y), z.2.2.1, by have y := z.2.2.2.2; rw [hy] at y; exact y⟩)]
                    exact ⟨rfl, zs, sn, hR, rfl⟩
              · have hd : ¬ sb 0 = sb 0 := c68
                refine A_aload_n hE 72 dX8_move_71 rfl rfl ?_
                refine A_iconst hE 73 dX8_move_72 rfl (5) rfl ?_
                refine A_callVi hE 76 (c_X8_error er im 5 (by omega)) [0, 1] dX8_move_73 rfl mkX8_59 rfl rfl rfl rfl rfl rfl rfl (Nat.le_of_ble_eq_true rfl) (Nat.le_of_ble_eq_true rfl) rfl (fun x73 h73 g73 hp73 hw73 => ?_)
                obtain ⟨rfl, rfl⟩ := hp73
                obtain rfl := Option.some.inj hw73
                refine A_h (Y63 (upd er 5 (er 5 + 1)) im s t0 g0 h0 t1 g1 h1 tl tp wl wt wh mu J pt vK vk vm tn tr v1 v2 pl ft rk rf K m0 f0 k0 m1 f1 k1 tl2 tp2 wl2 wt2 sb zs sn) rfl ?_
                refine A_iret hE dX8_move_76 ?_
                rw [moveF, if_pos ⟨hh, hg⟩, ek, if_neg (fun z => z.elim hb hc), if_pos hd]
                exact ⟨rfl, zs, sn, hR, rfl⟩
            · have hc := bI_1 c49
              refine A_aload_n hE 53 dX8_move_52 rfl rfl ?_
              refine A_iconst hE 54 dX8_move_53 rfl (2) rfl ?_
              refine A_callVi hE 57 (c_X8_error er im 2 (by omega)) [0, 1] dX8_move_54 rfl mkX8_59 rfl rfl rfl rfl rfl rfl rfl (Nat.le_of_ble_eq_true rfl) (Nat.le_of_ble_eq_true rfl) rfl (fun x54 h54 g54 hp54 hw54 => ?_)
              obtain ⟨rfl, rfl⟩ := hp54
              obtain rfl := Option.some.inj hw54
              refine A_h (Y63 (upd er 2 (er 2 + 1)) im s t0 g0 h0 t1 g1 h1 tl tp wl wt wh mu J pt vK vk vm tn tr v1 v2 pl ft rk rf K m0 f0 k0 m1 f1 k1 tl2 tp2 wl2 wt2 sb zs sn) rfl ?_
              refine A_iret hE dX8_move_57 ?_
              rw [moveF, if_pos ⟨hh, hg⟩, ek, if_pos (Or.inr hc)]
              exact ⟨rfl, zs, sn, hR, rfl⟩
        · obtain ⟨hy24, hy, hwn⟩ := hR 1 (by omega)
          refine A_aload_n hE 21 dX8_move_20 rfl rfl ?_
          refine A_get hE 24 dX8_move_21 rfl fkX8_42 rfl rfl ?_
          refine A_iload_n hE 25 dX8_move_24 rfl rfl ?_
          refine A_aald hE 26 0 dX8_move_25 rfl rfl rfl (by omega) rfl rfl ?_
          refine A_astore hE 28 dX8_move_26 rfl rfl rfl ?_
          refine A_aload_n hE 29 dX8_move_28 rfl rfl ?_
          refine A_get hE 32 dX8_move_29 rfl fkX8_42 rfl rfl ?_
          refine A_iload_n hE 33 dX8_move_32 rfl rfl ?_
          refine A_aald hE 34 1 dX8_move_33 rfl rfl rfl (by omega) rfl rfl ?_
          refine A_astore hE 36 dX8_move_34 rfl rfl rfl ?_
          refine A_aload hE 38 dX8_move_36 rfl rfl ?_
          refine A_callVi hE 41 (c_X4_isMissing (sb 0) (zs 0) (sn 0)) [51, 52, 53] dX8_move_38 rfl mkX8_222 rfl rfl rfl rfl rfl rfl rfl (Nat.le_of_ble_eq_true rfl) (Nat.le_of_ble_eq_true rfl) rfl (fun x38 h38 g38 hp38 hw38 => ?_)
          obtain ⟨rfl, rfl⟩ := hp38
          obtain rfl := Option.some.inj hw38
          refine A_h (Y63 er im s t0 g0 h0 t1 g1 h1 tl tp wl wt wh mu J pt vK vk vm tn tr v1 v2 pl ft rk rf K m0 f0 k0 m1 f1 k1 tl2 tp2 wl2 wt2 sb zs sn) rfl ?_
          refine A_if_ne hE 44 52 dX8_move_41 rfl rfl (fun c41 => ?_) (fun c41 => ?_)
          · have hb := bI_1 (show ¬ _ = 0 from c41)
            refine A_aload_n hE 53 dX8_move_52 rfl rfl ?_
            refine A_iconst hE 54 dX8_move_53 rfl (2) rfl ?_
            refine A_callVi hE 57 (c_X8_error er im 2 (by omega)) [0, 1] dX8_move_54 rfl mkX8_59 rfl rfl rfl rfl rfl rfl rfl (Nat.le_of_ble_eq_true rfl) (Nat.le_of_ble_eq_true rfl) rfl (fun x54 h54 g54 hp54 hw54 => ?_)
            obtain ⟨rfl, rfl⟩ := hp54
            obtain rfl := Option.some.inj hw54
            refine A_h (Y63 (upd er 2 (er 2 + 1)) im s t0 g0 h0 t1 g1 h1 tl tp wl wt wh mu J pt vK vk vm tn tr v1 v2 pl ft rk rf K m0 f0 k0 m1 f1 k1 tl2 tp2 wl2 wt2 sb zs sn) rfl ?_
            refine A_iret hE dX8_move_57 ?_
            rw [moveF, if_pos ⟨hh, hg⟩, ek, el, if_pos (Or.inl hb)]
            exact ⟨rfl, zs, sn, hR, rfl⟩
          · have hb := bI_0 c41
            refine A_aload hE 46 dX8_move_44 rfl rfl ?_
            refine A_callVi hE 49 (c_X4_isMissing (sb 1) (zs 1) (sn 1)) [54, 55, 56] dX8_move_46 rfl mkX8_222 rfl rfl rfl rfl rfl rfl rfl (Nat.le_of_ble_eq_true rfl) (Nat.le_of_ble_eq_true rfl) rfl (fun x46 h46 g46 hp46 hw46 => ?_)
            obtain ⟨rfl, rfl⟩ := hp46
            obtain rfl := Option.some.inj hw46
            refine A_h (Y63 er im s t0 g0 h0 t1 g1 h1 tl tp wl wt wh mu J pt vK vk vm tn tr v1 v2 pl ft rk rf K m0 f0 k0 m1 f1 k1 tl2 tp2 wl2 wt2 sb zs sn) rfl ?_
            refine A_if_eq hE 52 58 dX8_move_49 rfl rfl (fun c49 => ?_) (fun c49 => ?_)
            · have hc := bI_0 c49
              refine A_aload hE 60 dX8_move_58 rfl rfl ?_
              refine A_get hE 63 dX8_move_60 rfl fkX8_260 rfl rfl ?_
              refine A_aload hE 65 dX8_move_63 rfl rfl ?_
              refine A_get hE 68 dX8_move_65 rfl fkX8_260 rfl rfl ?_
              refine A_icmp_eq hE 71 77 dX8_move_68 rfl rfl (fun c68 => ?_) (fun c68 => ?_)
              · have hd : sb 0 = sb 1 := c68
                refine A_aload hE 79 dX8_move_77 rfl rfl ?_
                refine A_get hE 82 dX8_move_79 rfl fkX8_226 rfl rfl ?_
                refine A_iload_n hE 83 dX8_move_82 rfl rfl ?_
                refine A_iload hE 85 dX8_move_83 rfl rfl ?_
                refine A_callVi hE 88 (c_X3_hasRun 24 (sn 0) (nI (zs 0)) i n) [52, 53] dX8_move_85 rfl mkX8_263 rfl rfl rfl rfl rfl rfl rfl (Nat.le_of_ble_eq_true rfl) (Nat.le_of_ble_eq_true rfl) rfl (fun x85 h85 g85 hp85 hw85 => ?_)
                obtain ⟨rfl, rfl⟩ := hp85
                obtain rfl := Option.some.inj hw85
                refine A_h (Y63 er im s t0 g0 h0 t1 g1 h1 tl tp wl wt wh mu J pt vK vk vm tn tr v1 v2 pl ft rk rf K m0 f0 k0 m1 f1 k1 tl2 tp2 wl2 wt2 sb zs sn) rfl ?_
                refine A_if_eq hE 91 106 dX8_move_88 rfl rfl (fun c88 => ?_) (fun c88 => ?_)
                · have r1 := bI_0 c88
                  refine A_aload_n hE 107 dX8_move_106 rfl rfl ?_
                  refine A_iconst hE 108 dX8_move_107 rfl (1) rfl ?_
                  refine A_callVi hE 111 (c_X8_error er im 1 (by omega)) [0, 1] dX8_move_108 rfl mkX8_59 rfl rfl rfl rfl rfl rfl rfl (Nat.le_of_ble_eq_true rfl) (Nat.le_of_ble_eq_true rfl) rfl (fun x108 h108 g108 hp108 hw108 => ?_)
                  obtain ⟨rfl, rfl⟩ := hp108
                  obtain rfl := Option.some.inj hw108
                  refine A_h (Y63 (upd er 1 (er 1 + 1)) im s t0 g0 h0 t1 g1 h1 tl tp wl wt wh mu J pt vK vk vm tn tr v1 v2 pl ft rk rf K m0 f0 k0 m1 f1 k1 tl2 tp2 wl2 wt2 sb zs sn) rfl ?_
                  refine A_iret hE dX8_move_111 ?_
                  rw [moveF, if_pos ⟨hh, hg⟩, ek, el, if_neg (fun z => z.elim hb hc), if_neg (fun z => z hd), if_neg (fun z => r1 ⟨z.1, mv_n hz24 z.1 z.2.1 (by have y := z.2.2.2.1; rw [hz] at y; exact y), z.2.1, by have y := z.2.2.2.1; rw [hz] at y; exact y⟩)]
                  exact ⟨rfl, zs, sn, hR, rfl⟩
                · have r1 := bI_1 c88
                  refine A_aload hE 93 dX8_move_91 rfl rfl ?_
                  refine A_get hE 96 dX8_move_93 rfl fkX8_226 rfl rfl ?_
                  refine A_iload hE 98 dX8_move_96 rfl rfl ?_
                  refine A_iload hE 100 dX8_move_98 rfl rfl ?_
                  refine A_callVi hE 103 (c_X3_hasRun 24 (sn 1) (nI (zs 1)) j n) [55, 56] dX8_move_100 rfl mkX8_263 rfl rfl rfl rfl rfl rfl rfl (Nat.le_of_ble_eq_true rfl) (Nat.le_of_ble_eq_true rfl) rfl (fun x100 h100 g100 hp100 hw100 => ?_)
                  obtain ⟨rfl, rfl⟩ := hp100
                  obtain rfl := Option.some.inj hw100
                  refine A_h (Y63 er im s t0 g0 h0 t1 g1 h1 tl tp wl wt wh mu J pt vK vk vm tn tr v1 v2 pl ft rk rf K m0 f0 k0 m1 f1 k1 tl2 tp2 wl2 wt2 sb zs sn) rfl ?_
                  refine A_if_ne hE 106 112 dX8_move_103 rfl rfl (fun c103 => ?_) (fun c103 => ?_)
                  · have r2 := bI_1 c103
                    obtain ⟨p, hp, rfl⟩ := nI_of (iN r1.2.2.1)
                    obtain ⟨r, hr, rfl⟩ := nI_of (iN r2.2.2.1)
                    obtain ⟨a, ha, rfl⟩ := nI_of (iN r1.1)
                    have b1 := mv_le hp hz24 ha r1.2.2.2
                    have b2 := mv_le hr hy24 ha r2.2.2.2
                    have ep : (nI p).toNatClampNeg = p := nI_clamp hp
                    have er' : (nI r).toNatClampNeg = r := nI_clamp hr
                    have ea : (nI a).toNatClampNeg = a := nI_clamp ha
                    refine A_aload hE 114 dX8_move_112 rfl rfl ?_
                    refine A_get hE 117 dX8_move_114 rfl fkX8_226 rfl rfl ?_
                    refine A_get hE 120 dX8_move_117 rfl fkX8_249 rfl rfl ?_
                    refine A_iload_n hE 121 dX8_move_120 rfl rfl ?_
                    refine A_aload hE 123 dX8_move_121 rfl rfl ?_
                    refine A_get hE 126 dX8_move_123 rfl fkX8_226 rfl rfl ?_
                    refine A_get hE 129 dX8_move_126 rfl fkX8_249 rfl rfl ?_
                    refine A_iload hE 131 dX8_move_129 rfl rfl ?_
                    refine A_iload hE 133 dX8_move_131 rfl rfl ?_
                    refine A_copyi hE 136 dX8_move_133 rfl acRX8 acN acS acI rfl rfl (nI_pos hp) (nI_pos hr) (nI_pos ha) (by rw [ep, ea]; omega) (by rw [er', ea]; omega) rfl (by decide) rfl ?_
                    refine A_h (Y63 er im s t0 g0 h0 t1 g1 h1 tl tp wl wt wh mu J pt vK vk vm tn tr v1 v2 pl ft rk rf K m0 f0 k0 m1 f1 k1 tl2 tp2 wl2 wt2 sb zs (updS sn 1 (va_cpy (sn 0) (sn 1) p r a))) (by rw [ep, er', ea]; rfl) ?_
                    refine A_iload hE 138 dX8_move_136 rfl rfl ?_
                    refine A_iret hE dX8_move_138 ?_
                    rw [moveF, if_pos ⟨hh, hg⟩, ek, el, if_neg (fun z => z.elim hb hc), if_neg (fun z => z hd), if_pos ⟨r1.1, r1.2.2.1, r2.2.2.1, by rw [hz]; exact r1.2.2.2, by rw [hy]; exact r2.2.2.2⟩, ep, er', ea]
                    exact ⟨rfl, _, _, hR.mov (k := 0) (l := 1) (by omega) (by omega) b1 b2, rfl⟩
                  · have r2 := bI_0 c103
                    refine A_aload_n hE 107 dX8_move_106 rfl rfl ?_
                    refine A_iconst hE 108 dX8_move_107 rfl (1) rfl ?_
                    refine A_callVi hE 111 (c_X8_error er im 1 (by omega)) [0, 1] dX8_move_108 rfl mkX8_59 rfl rfl rfl rfl rfl rfl rfl (Nat.le_of_ble_eq_true rfl) (Nat.le_of_ble_eq_true rfl) rfl (fun x108 h108 g108 hp108 hw108 => ?_)
                    obtain ⟨rfl, rfl⟩ := hp108
                    obtain rfl := Option.some.inj hw108
                    refine A_h (Y63 (upd er 1 (er 1 + 1)) im s t0 g0 h0 t1 g1 h1 tl tp wl wt wh mu J pt vK vk vm tn tr v1 v2 pl ft rk rf K m0 f0 k0 m1 f1 k1 tl2 tp2 wl2 wt2 sb zs sn) rfl ?_
                    refine A_iret hE dX8_move_111 ?_
                    rw [moveF, if_pos ⟨hh, hg⟩, ek, el, if_neg (fun z => z.elim hb hc), if_neg (fun z => z hd), if_neg (fun z => r2 ⟨z.1, mv_n hy24 z.1 z.2.2.1 (by have y := z.2.2.2.2; rw [hy] at y; exact y), z.2.2.1, by have y := z.2.2.2.2; rw [hy] at y; exact y⟩)]
                    exact ⟨rfl, zs, sn, hR, rfl⟩
              · have hd : ¬ sb 0 = sb 1 := c68
                refine A_aload_n hE 72 dX8_move_71 rfl rfl ?_
                refine A_iconst hE 73 dX8_move_72 rfl (5) rfl ?_
                refine A_callVi hE 76 (c_X8_error er im 5 (by omega)) [0, 1] dX8_move_73 rfl mkX8_59 rfl rfl rfl rfl rfl rfl rfl (Nat.le_of_ble_eq_true rfl) (Nat.le_of_ble_eq_true rfl) rfl (fun x73 h73 g73 hp73 hw73 => ?_)
                obtain ⟨rfl, rfl⟩ := hp73
                obtain rfl := Option.some.inj hw73
                refine A_h (Y63 (upd er 5 (er 5 + 1)) im s t0 g0 h0 t1 g1 h1 tl tp wl wt wh mu J pt vK vk vm tn tr v1 v2 pl ft rk rf K m0 f0 k0 m1 f1 k1 tl2 tp2 wl2 wt2 sb zs sn) rfl ?_
                refine A_iret hE dX8_move_76 ?_
                rw [moveF, if_pos ⟨hh, hg⟩, ek, el, if_neg (fun z => z.elim hb hc), if_pos hd]
                exact ⟨rfl, zs, sn, hR, rfl⟩
            · have hc := bI_1 c49
              refine A_aload_n hE 53 dX8_move_52 rfl rfl ?_
              refine A_iconst hE 54 dX8_move_53 rfl (2) rfl ?_
              refine A_callVi hE 57 (c_X8_error er im 2 (by omega)) [0, 1] dX8_move_54 rfl mkX8_59 rfl rfl rfl rfl rfl rfl rfl (Nat.le_of_ble_eq_true rfl) (Nat.le_of_ble_eq_true rfl) rfl (fun x54 h54 g54 hp54 hw54 => ?_)
              obtain ⟨rfl, rfl⟩ := hp54
              obtain rfl := Option.some.inj hw54
              refine A_h (Y63 (upd er 2 (er 2 + 1)) im s t0 g0 h0 t1 g1 h1 tl tp wl wt wh mu J pt vK vk vm tn tr v1 v2 pl ft rk rf K m0 f0 k0 m1 f1 k1 tl2 tp2 wl2 wt2 sb zs sn) rfl ?_
              refine A_iret hE dX8_move_57 ?_
              rw [moveF, if_pos ⟨hh, hg⟩, ek, el, if_pos (Or.inr hc)]
              exact ⟨rfl, zs, sn, hR, rfl⟩
        · obtain ⟨hy24, hy, hwn⟩ := hR 2 (by omega)
          refine A_aload_n hE 21 dX8_move_20 rfl rfl ?_
          refine A_get hE 24 dX8_move_21 rfl fkX8_42 rfl rfl ?_
          refine A_iload_n hE 25 dX8_move_24 rfl rfl ?_
          refine A_aald hE 26 0 dX8_move_25 rfl rfl rfl (by omega) rfl rfl ?_
          refine A_astore hE 28 dX8_move_26 rfl rfl rfl ?_
          refine A_aload_n hE 29 dX8_move_28 rfl rfl ?_
          refine A_get hE 32 dX8_move_29 rfl fkX8_42 rfl rfl ?_
          refine A_iload_n hE 33 dX8_move_32 rfl rfl ?_
          refine A_aald hE 34 2 dX8_move_33 rfl rfl rfl (by omega) rfl rfl ?_
          refine A_astore hE 36 dX8_move_34 rfl rfl rfl ?_
          refine A_aload hE 38 dX8_move_36 rfl rfl ?_
          refine A_callVi hE 41 (c_X4_isMissing (sb 0) (zs 0) (sn 0)) [51, 52, 53] dX8_move_38 rfl mkX8_222 rfl rfl rfl rfl rfl rfl rfl (Nat.le_of_ble_eq_true rfl) (Nat.le_of_ble_eq_true rfl) rfl (fun x38 h38 g38 hp38 hw38 => ?_)
          obtain ⟨rfl, rfl⟩ := hp38
          obtain rfl := Option.some.inj hw38
          refine A_h (Y63 er im s t0 g0 h0 t1 g1 h1 tl tp wl wt wh mu J pt vK vk vm tn tr v1 v2 pl ft rk rf K m0 f0 k0 m1 f1 k1 tl2 tp2 wl2 wt2 sb zs sn) rfl ?_
          refine A_if_ne hE 44 52 dX8_move_41 rfl rfl (fun c41 => ?_) (fun c41 => ?_)
          · have hb := bI_1 (show ¬ _ = 0 from c41)
            refine A_aload_n hE 53 dX8_move_52 rfl rfl ?_
            refine A_iconst hE 54 dX8_move_53 rfl (2) rfl ?_
            refine A_callVi hE 57 (c_X8_error er im 2 (by omega)) [0, 1] dX8_move_54 rfl mkX8_59 rfl rfl rfl rfl rfl rfl rfl (Nat.le_of_ble_eq_true rfl) (Nat.le_of_ble_eq_true rfl) rfl (fun x54 h54 g54 hp54 hw54 => ?_)
            obtain ⟨rfl, rfl⟩ := hp54
            obtain rfl := Option.some.inj hw54
            refine A_h (Y63 (upd er 2 (er 2 + 1)) im s t0 g0 h0 t1 g1 h1 tl tp wl wt wh mu J pt vK vk vm tn tr v1 v2 pl ft rk rf K m0 f0 k0 m1 f1 k1 tl2 tp2 wl2 wt2 sb zs sn) rfl ?_
            refine A_iret hE dX8_move_57 ?_
            rw [moveF, if_pos ⟨hh, hg⟩, ek, el, if_pos (Or.inl hb)]
            exact ⟨rfl, zs, sn, hR, rfl⟩
          · have hb := bI_0 c41
            refine A_aload hE 46 dX8_move_44 rfl rfl ?_
            refine A_callVi hE 49 (c_X4_isMissing (sb 2) (zs 2) (sn 2)) [57, 58, 59] dX8_move_46 rfl mkX8_222 rfl rfl rfl rfl rfl rfl rfl (Nat.le_of_ble_eq_true rfl) (Nat.le_of_ble_eq_true rfl) rfl (fun x46 h46 g46 hp46 hw46 => ?_)
            obtain ⟨rfl, rfl⟩ := hp46
            obtain rfl := Option.some.inj hw46
            refine A_h (Y63 er im s t0 g0 h0 t1 g1 h1 tl tp wl wt wh mu J pt vK vk vm tn tr v1 v2 pl ft rk rf K m0 f0 k0 m1 f1 k1 tl2 tp2 wl2 wt2 sb zs sn) rfl ?_
            refine A_if_eq hE 52 58 dX8_move_49 rfl rfl (fun c49 => ?_) (fun c49 => ?_)
            · have hc := bI_0 c49
              refine A_aload hE 60 dX8_move_58 rfl rfl ?_
              refine A_get hE 63 dX8_move_60 rfl fkX8_260 rfl rfl ?_
              refine A_aload hE 65 dX8_move_63 rfl rfl ?_
              refine A_get hE 68 dX8_move_65 rfl fkX8_260 rfl rfl ?_
              refine A_icmp_eq hE 71 77 dX8_move_68 rfl rfl (fun c68 => ?_) (fun c68 => ?_)
              · have hd : sb 0 = sb 2 := c68
                refine A_aload hE 79 dX8_move_77 rfl rfl ?_
                refine A_get hE 82 dX8_move_79 rfl fkX8_226 rfl rfl ?_
                refine A_iload_n hE 83 dX8_move_82 rfl rfl ?_
                refine A_iload hE 85 dX8_move_83 rfl rfl ?_
                refine A_callVi hE 88 (c_X3_hasRun 24 (sn 0) (nI (zs 0)) i n) [52, 53] dX8_move_85 rfl mkX8_263 rfl rfl rfl rfl rfl rfl rfl (Nat.le_of_ble_eq_true rfl) (Nat.le_of_ble_eq_true rfl) rfl (fun x85 h85 g85 hp85 hw85 => ?_)
                obtain ⟨rfl, rfl⟩ := hp85
                obtain rfl := Option.some.inj hw85
                refine A_h (Y63 er im s t0 g0 h0 t1 g1 h1 tl tp wl wt wh mu J pt vK vk vm tn tr v1 v2 pl ft rk rf K m0 f0 k0 m1 f1 k1 tl2 tp2 wl2 wt2 sb zs sn) rfl ?_
                refine A_if_eq hE 91 106 dX8_move_88 rfl rfl (fun c88 => ?_) (fun c88 => ?_)
                · have r1 := bI_0 c88
                  refine A_aload_n hE 107 dX8_move_106 rfl rfl ?_
                  refine A_iconst hE 108 dX8_move_107 rfl (1) rfl ?_
                  refine A_callVi hE 111 (c_X8_error er im 1 (by omega)) [0, 1] dX8_move_108 rfl mkX8_59 rfl rfl rfl rfl rfl rfl rfl (Nat.le_of_ble_eq_true rfl) (Nat.le_of_ble_eq_true rfl) rfl (fun x108 h108 g108 hp108 hw108 => ?_)
                  obtain ⟨rfl, rfl⟩ := hp108
                  obtain rfl := Option.some.inj hw108
                  refine A_h (Y63 (upd er 1 (er 1 + 1)) im s t0 g0 h0 t1 g1 h1 tl tp wl wt wh mu J pt vK vk vm tn tr v1 v2 pl ft rk rf K m0 f0 k0 m1 f1 k1 tl2 tp2 wl2 wt2 sb zs sn) rfl ?_
                  refine A_iret hE dX8_move_111 ?_
                  rw [moveF, if_pos ⟨hh, hg⟩, ek, el, if_neg (fun z => z.elim hb hc), if_neg (fun z => z hd), if_neg (fun z => r1 ⟨z.1, mv_n hz24 z.1 z.2.1 (by have y := z.2.2.2.1; rw [hz] at y; exact y), z.2.1, by have y := z.2.2.2.1; rw [hz] at y; exact y⟩)]
                  exact ⟨rfl, zs, sn, hR, rfl⟩
                · have r1 := bI_1 c88
                  refine A_aload hE 93 dX8_move_91 rfl rfl ?_
                  refine A_get hE 96 dX8_move_93 rfl fkX8_226 rfl rfl ?_
                  refine A_iload hE 98 dX8_move_96 rfl rfl ?_
                  refine A_iload hE 100 dX8_move_98 rfl rfl ?_
                  refine A_callVi hE 103 (c_X3_hasRun 24 (sn 2) (nI (zs 2)) j n) [58, 59] dX8_move_100 rfl mkX8_263 rfl rfl rfl rfl rfl rfl rfl (Nat.le_of_ble_eq_true rfl) (Nat.le_of_ble_eq_true rfl) rfl (fun x100 h100 g100 hp100 hw100 => ?_)
                  obtain ⟨rfl, rfl⟩ := hp100
                  obtain rfl := Option.some.inj hw100
                  refine A_h (Y63 er im s t0 g0 h0 t1 g1 h1 tl tp wl wt wh mu J pt vK vk vm tn tr v1 v2 pl ft rk rf K m0 f0 k0 m1 f1 k1 tl2 tp2 wl2 wt2 sb zs sn) rfl ?_
                  refine A_if_ne hE 106 112 dX8_move_103 rfl rfl (fun c103 => ?_) (fun c103 => ?_)
                  · have r2 := bI_1 c103
                    obtain ⟨p, hp, rfl⟩ := nI_of (iN r1.2.2.1)
                    obtain ⟨r, hr, rfl⟩ := nI_of (iN r2.2.2.1)
                    obtain ⟨a, ha, rfl⟩ := nI_of (iN r1.1)
                    have b1 := mv_le hp hz24 ha r1.2.2.2
                    have b2 := mv_le hr hy24 ha r2.2.2.2
                    have ep : (nI p).toNatClampNeg = p := nI_clamp hp
                    have er' : (nI r).toNatClampNeg = r := nI_clamp hr
                    have ea : (nI a).toNatClampNeg = a := nI_clamp ha
                    refine A_aload hE 114 dX8_move_112 rfl rfl ?_
                    refine A_get hE 117 dX8_move_114 rfl fkX8_226 rfl rfl ?_
                    refine A_get hE 120 dX8_move_117 rfl fkX8_249 rfl rfl ?_
                    refine A_iload_n hE 121 dX8_move_120 rfl rfl ?_
                    refine A_aload hE 123 dX8_move_121 rfl rfl ?_
                    refine A_get hE 126 dX8_move_123 rfl fkX8_226 rfl rfl ?_
                    refine A_get hE 129 dX8_move_126 rfl fkX8_249 rfl rfl ?_
                    refine A_iload hE 131 dX8_move_129 rfl rfl ?_
                    refine A_iload hE 133 dX8_move_131 rfl rfl ?_
                    refine A_copyi hE 136 dX8_move_133 rfl acRX8 acN acS acI rfl rfl (nI_pos hp) (nI_pos hr) (nI_pos ha) (by rw [ep, ea]; omega) (by rw [er', ea]; omega) rfl (by decide) rfl ?_
                    refine A_h (Y63 er im s t0 g0 h0 t1 g1 h1 tl tp wl wt wh mu J pt vK vk vm tn tr v1 v2 pl ft rk rf K m0 f0 k0 m1 f1 k1 tl2 tp2 wl2 wt2 sb zs (updS sn 2 (va_cpy (sn 0) (sn 2) p r a))) (by rw [ep, er', ea]; rfl) ?_
                    refine A_iload hE 138 dX8_move_136 rfl rfl ?_
                    refine A_iret hE dX8_move_138 ?_
                    rw [moveF, if_pos ⟨hh, hg⟩, ek, el, if_neg (fun z => z.elim hb hc), if_neg (fun z => z hd), if_pos ⟨r1.1, r1.2.2.1, r2.2.2.1, by rw [hz]; exact r1.2.2.2, by rw [hy]; exact r2.2.2.2⟩, ep, er', ea]
                    exact ⟨rfl, _, _, hR.mov (k := 0) (l := 2) (by omega) (by omega) b1 b2, rfl⟩
                  · have r2 := bI_0 c103
                    refine A_aload_n hE 107 dX8_move_106 rfl rfl ?_
                    refine A_iconst hE 108 dX8_move_107 rfl (1) rfl ?_
                    refine A_callVi hE 111 (c_X8_error er im 1 (by omega)) [0, 1] dX8_move_108 rfl mkX8_59 rfl rfl rfl rfl rfl rfl rfl (Nat.le_of_ble_eq_true rfl) (Nat.le_of_ble_eq_true rfl) rfl (fun x108 h108 g108 hp108 hw108 => ?_)
                    obtain ⟨rfl, rfl⟩ := hp108
                    obtain rfl := Option.some.inj hw108
                    refine A_h (Y63 (upd er 1 (er 1 + 1)) im s t0 g0 h0 t1 g1 h1 tl tp wl wt wh mu J pt vK vk vm tn tr v1 v2 pl ft rk rf K m0 f0 k0 m1 f1 k1 tl2 tp2 wl2 wt2 sb zs sn) rfl ?_
                    refine A_iret hE dX8_move_111 ?_
                    rw [moveF, if_pos ⟨hh, hg⟩, ek, el, if_neg (fun z => z.elim hb hc), if_neg (fun z => z hd), if_neg (fun z => r2 ⟨z.1, mv_n hy24 z.1 z.2.2.1 (by have y := z.2.2.2.2; rw [hy] at y; exact y), z.2.2.1, by have y := z.2.2.2.2; rw [hy] at y; exact y⟩)]
                    exact ⟨rfl, zs, sn, hR, rfl⟩
              · have hd : ¬ sb 0 = sb 2 := c68
                refine A_aload_n hE 72 dX8_move_71 rfl rfl ?_
                refine A_iconst hE 73 dX8_move_72 rfl (5) rfl ?_
                refine A_callVi hE 76 (c_X8_error er im 5 (by omega)) [0, 1] dX8_move_73 rfl mkX8_59 rfl rfl rfl rfl rfl rfl rfl (Nat.le_of_ble_eq_true rfl) (Nat.le_of_ble_eq_true rfl) rfl (fun x73 h73 g73 hp73 hw73 => ?_)
                obtain ⟨rfl, rfl⟩ := hp73
                obtain rfl := Option.some.inj hw73
                refine A_h (Y63 (upd er 5 (er 5 + 1)) im s t0 g0 h0 t1 g1 h1 tl tp wl wt wh mu J pt vK vk vm tn tr v1 v2 pl ft rk rf K m0 f0 k0 m1 f1 k1 tl2 tp2 wl2 wt2 sb zs sn) rfl ?_
                refine A_iret hE dX8_move_76 ?_
                rw [moveF, if_pos ⟨hh, hg⟩, ek, el, if_neg (fun z => z.elim hb hc), if_pos hd]
                exact ⟨rfl, zs, sn, hR, rfl⟩
            · have hc := bI_1 c49
              refine A_aload_n hE 53 dX8_move_52 rfl rfl ?_
              refine A_iconst hE 54 dX8_move_53 rfl (2) rfl ?_
              refine A_callVi hE 57 (c_X8_error er im 2 (by omega)) [0, 1] dX8_move_54 rfl mkX8_59 rfl rfl rfl rfl rfl rfl rfl (Nat.le_of_ble_eq_true rfl) (Nat.le_of_ble_eq_true rfl) rfl (fun x54 h54 g54 hp54 hw54 => ?_)
              obtain ⟨rfl, rfl⟩ := hp54
              obtain rfl := Option.some.inj hw54
              refine A_h (Y63 (upd er 2 (er 2 + 1)) im s t0 g0 h0 t1 g1 h1 tl tp wl wt wh mu J pt vK vk vm tn tr v1 v2 pl ft rk rf K m0 f0 k0 m1 f1 k1 tl2 tp2 wl2 wt2 sb zs sn) rfl ?_
              refine A_iret hE dX8_move_57 ?_
              rw [moveF, if_pos ⟨hh, hg⟩, ek, el, if_pos (Or.inr hc)]
              exact ⟨rfl, zs, sn, hR, rfl⟩
        · obtain ⟨hy24, hy, hwn⟩ := hR 3 (by omega)
          refine A_aload_n hE 21 dX8_move_20 rfl rfl ?_
          refine A_get hE 24 dX8_move_21 rfl fkX8_42 rfl rfl ?_
          refine A_iload_n hE 25 dX8_move_24 rfl rfl ?_
          refine A_aald hE 26 0 dX8_move_25 rfl rfl rfl (by omega) rfl rfl ?_
          refine A_astore hE 28 dX8_move_26 rfl rfl rfl ?_
          refine A_aload_n hE 29 dX8_move_28 rfl rfl ?_
          refine A_get hE 32 dX8_move_29 rfl fkX8_42 rfl rfl ?_
          refine A_iload_n hE 33 dX8_move_32 rfl rfl ?_
          refine A_aald hE 34 3 dX8_move_33 rfl rfl rfl (by omega) rfl rfl ?_
          refine A_astore hE 36 dX8_move_34 rfl rfl rfl ?_
          refine A_aload hE 38 dX8_move_36 rfl rfl ?_
          refine A_callVi hE 41 (c_X4_isMissing (sb 0) (zs 0) (sn 0)) [51, 52, 53] dX8_move_38 rfl mkX8_222 rfl rfl rfl rfl rfl rfl rfl (Nat.le_of_ble_eq_true rfl) (Nat.le_of_ble_eq_true rfl) rfl (fun x38 h38 g38 hp38 hw38 => ?_)
          obtain ⟨rfl, rfl⟩ := hp38
          obtain rfl := Option.some.inj hw38
          refine A_h (Y63 er im s t0 g0 h0 t1 g1 h1 tl tp wl wt wh mu J pt vK vk vm tn tr v1 v2 pl ft rk rf K m0 f0 k0 m1 f1 k1 tl2 tp2 wl2 wt2 sb zs sn) rfl ?_
          refine A_if_ne hE 44 52 dX8_move_41 rfl rfl (fun c41 => ?_) (fun c41 => ?_)
          · have hb := bI_1 (show ¬ _ = 0 from c41)
            refine A_aload_n hE 53 dX8_move_52 rfl rfl ?_
            refine A_iconst hE 54 dX8_move_53 rfl (2) rfl ?_
            refine A_callVi hE 57 (c_X8_error er im 2 (by omega)) [0, 1] dX8_move_54 rfl mkX8_59 rfl rfl rfl rfl rfl rfl rfl (Nat.le_of_ble_eq_true rfl) (Nat.le_of_ble_eq_true rfl) rfl (fun x54 h54 g54 hp54 hw54 => ?_)
            obtain ⟨rfl, rfl⟩ := hp54
            obtain rfl := Option.some.inj hw54
            refine A_h (Y63 (upd er 2 (er 2 + 1)) im s t0 g0 h0 t1 g1 h1 tl tp wl wt wh mu J pt vK vk vm tn tr v1 v2 pl ft rk rf K m0 f0 k0 m1 f1 k1 tl2 tp2 wl2 wt2 sb zs sn) rfl ?_
            refine A_iret hE dX8_move_57 ?_
            rw [moveF, if_pos ⟨hh, hg⟩, ek, el, if_pos (Or.inl hb)]
            exact ⟨rfl, zs, sn, hR, rfl⟩
          · have hb := bI_0 c41
            refine A_aload hE 46 dX8_move_44 rfl rfl ?_
            refine A_callVi hE 49 (c_X4_isMissing (sb 3) (zs 3) (sn 3)) [60, 61, 62] dX8_move_46 rfl mkX8_222 rfl rfl rfl rfl rfl rfl rfl (Nat.le_of_ble_eq_true rfl) (Nat.le_of_ble_eq_true rfl) rfl (fun x46 h46 g46 hp46 hw46 => ?_)
            obtain ⟨rfl, rfl⟩ := hp46
            obtain rfl := Option.some.inj hw46
            refine A_h (Y63 er im s t0 g0 h0 t1 g1 h1 tl tp wl wt wh mu J pt vK vk vm tn tr v1 v2 pl ft rk rf K m0 f0 k0 m1 f1 k1 tl2 tp2 wl2 wt2 sb zs sn) rfl ?_
            refine A_if_eq hE 52 58 dX8_move_49 rfl rfl (fun c49 => ?_) (fun c49 => ?_)
            · have hc := bI_0 c49
              refine A_aload hE 60 dX8_move_58 rfl rfl ?_
              refine A_get hE 63 dX8_move_60 rfl fkX8_260 rfl rfl ?_
              refine A_aload hE 65 dX8_move_63 rfl rfl ?_
              refine A_get hE 68 dX8_move_65 rfl fkX8_260 rfl rfl ?_
              refine A_icmp_eq hE 71 77 dX8_move_68 rfl rfl (fun c68 => ?_) (fun c68 => ?_)
              · have hd : sb 0 = sb 3 := c68
                refine A_aload hE 79 dX8_move_77 rfl rfl ?_
                refine A_get hE 82 dX8_move_79 rfl fkX8_226 rfl rfl ?_
                refine A_iload_n hE 83 dX8_move_82 rfl rfl ?_
                refine A_iload hE 85 dX8_move_83 rfl rfl ?_
                refine A_callVi hE 88 (c_X3_hasRun 24 (sn 0) (nI (zs 0)) i n) [52, 53] dX8_move_85 rfl mkX8_263 rfl rfl rfl rfl rfl rfl rfl (Nat.le_of_ble_eq_true rfl) (Nat.le_of_ble_eq_true rfl) rfl (fun x85 h85 g85 hp85 hw85 => ?_)
                obtain ⟨rfl, rfl⟩ := hp85
                obtain rfl := Option.some.inj hw85
                refine A_h (Y63 er im s t0 g0 h0 t1 g1 h1 tl tp wl wt wh mu J pt vK vk vm tn tr v1 v2 pl ft rk rf K m0 f0 k0 m1 f1 k1 tl2 tp2 wl2 wt2 sb zs sn) rfl ?_
                refine A_if_eq hE 91 106 dX8_move_88 rfl rfl (fun c88 => ?_) (fun c88 => ?_)
                · have r1 := bI_0 c88
                  refine A_aload_n hE 107 dX8_move_106 rfl rfl ?_
                  refine A_iconst hE 108 dX8_move_107 rfl (1) rfl ?_
                  refine A_callVi hE 111 (c_X8_error er im 1 (by omega)) [0, 1] dX8_move_108 rfl mkX8_59 rfl rfl rfl rfl rfl rfl rfl (Nat.le_of_ble_eq_true rfl) (Nat.le_of_ble_eq_true rfl) rfl (fun x108 h108 g108 hp108 hw108 => ?_)
                  obtain ⟨rfl, rfl⟩ := hp108
                  obtain rfl := Option.some.inj hw108
                  refine A_h (Y63 (upd er 1 (er 1 + 1)) im s t0 g0 h0 t1 g1 h1 tl tp wl wt wh mu J pt vK vk vm tn tr v1 v2 pl ft rk rf K m0 f0 k0 m1 f1 k1 tl2 tp2 wl2 wt2 sb zs sn) rfl ?_
                  refine A_iret hE dX8_move_111 ?_
                  rw [moveF, if_pos ⟨hh, hg⟩, ek, el, if_neg (fun z => z.elim hb hc), if_neg (fun z => z hd), if_neg (fun z => r1 ⟨z.1, mv_n hz24 z.1 z.2.1 (by have y := z.2.2.2.1; rw [hz] at y; exact y), z.2.1, by have y := z.2.2.2.1; rw [hz] at y; exact y⟩)]
                  exact ⟨rfl, zs, sn, hR, rfl⟩
                · have r1 := bI_1 c88
                  refine A_aload hE 93 dX8_move_91 rfl rfl ?_
                  refine A_get hE 96 dX8_move_93 rfl fkX8_226 rfl rfl ?_
                  refine A_iload hE 98 dX8_move_96 rfl rfl ?_
                  refine A_iload hE 100 dX8_move_98 rfl rfl ?_
                  refine A_callVi hE 103 (c_X3_hasRun 24 (sn 3) (nI (zs 3)) j n) [61, 62] dX8_move_100 rfl mkX8_263 rfl rfl rfl rfl rfl rfl rfl (Nat.le_of_ble_eq_true rfl) (Nat.le_of_ble_eq_true rfl) rfl (fun x100 h100 g100 hp100 hw100 => ?_)
                  obtain ⟨rfl, rfl⟩ := hp100
                  obtain rfl := Option.some.inj hw100
                  refine A_h (Y63 er im s t0 g0 h0 t1 g1 h1 tl tp wl wt wh mu J pt vK vk vm tn tr v1 v2 pl ft rk rf K m0 f0 k0 m1 f1 k1 tl2 tp2 wl2 wt2 sb zs sn) rfl ?_
                  refine A_if_ne hE 106 112 dX8_move_103 rfl rfl (fun c103 => ?_) (fun c103 => ?_)
                  · have r2 := bI_1 c103
                    obtain ⟨p, hp, rfl⟩ := nI_of (iN r1.2.2.1)
                    obtain ⟨r, hr, rfl⟩ := nI_of (iN r2.2.2.1)
                    obtain ⟨a, ha, rfl⟩ := nI_of (iN r1.1)
                    have b1 := mv_le hp hz24 ha r1.2.2.2
                    have b2 := mv_le hr hy24 ha r2.2.2.2
                    have ep : (nI p).toNatClampNeg = p := nI_clamp hp
                    have er' : (nI r).toNatClampNeg = r := nI_clamp hr
                    have ea : (nI a).toNatClampNeg = a := nI_clamp ha
                    refine A_aload hE 114 dX8_move_112 rfl rfl ?_
                    refine A_get hE 117 dX8_move_114 rfl fkX8_226 rfl rfl ?_
                    refine A_get hE 120 dX8_move_117 rfl fkX8_249 rfl rfl ?_
                    refine A_iload_n hE 121 dX8_move_120 rfl rfl ?_
                    refine A_aload hE 123 dX8_move_121 rfl rfl ?_
                    refine A_get hE 126 dX8_move_123 rfl fkX8_226 rfl rfl ?_
                    refine A_get hE 129 dX8_move_126 rfl fkX8_249 rfl rfl ?_
                    refine A_iload hE 131 dX8_move_129 rfl rfl ?_
                    refine A_iload hE 133 dX8_move_131 rfl rfl ?_
                    refine A_copyi hE 136 dX8_move_133 rfl acRX8 acN acS acI rfl rfl (nI_pos hp) (nI_pos hr) (nI_pos ha) (by rw [ep, ea]; omega) (by rw [er', ea]; omega) rfl (by decide) rfl ?_
                    refine A_h (Y63 er im s t0 g0 h0 t1 g1 h1 tl tp wl wt wh mu J pt vK vk vm tn tr v1 v2 pl ft rk rf K m0 f0 k0 m1 f1 k1 tl2 tp2 wl2 wt2 sb zs (updS sn 3 (va_cpy (sn 0) (sn 3) p r a))) (by rw [ep, er', ea]; rfl) ?_
                    refine A_iload hE 138 dX8_move_136 rfl rfl ?_
                    refine A_iret hE dX8_move_138 ?_
                    rw [moveF, if_pos ⟨hh, hg⟩, ek, el, if_neg (fun z => z.elim hb hc), if_neg (fun z => z hd), if_pos ⟨r1.1, r1.2.2.1, r2.2.2.1, by rw [hz]; exact r1.2.2.2, by rw [hy]; exact r2.2.2.2⟩, ep, er', ea]
                    exact ⟨rfl, _, _, hR.mov (k := 0) (l := 3) (by omega) (by omega) b1 b2, rfl⟩
                  · have r2 := bI_0 c103
                    refine A_aload_n hE 107 dX8_move_106 rfl rfl ?_
                    refine A_iconst hE 108 dX8_move_107 rfl (1) rfl ?_
                    refine A_callVi hE 111 (c_X8_error er im 1 (by omega)) [0, 1] dX8_move_108 rfl mkX8_59 rfl rfl rfl rfl rfl rfl rfl (Nat.le_of_ble_eq_true rfl) (Nat.le_of_ble_eq_true rfl) rfl (fun x108 h108 g108 hp108 hw108 => ?_)
                    obtain ⟨rfl, rfl⟩ := hp108
                    obtain rfl := Option.some.inj hw108
                    refine A_h (Y63 (upd er 1 (er 1 + 1)) im s t0 g0 h0 t1 g1 h1 tl tp wl wt wh mu J pt vK vk vm tn tr v1 v2 pl ft rk rf K m0 f0 k0 m1 f1 k1 tl2 tp2 wl2 wt2 sb zs sn) rfl ?_
                    refine A_iret hE dX8_move_111 ?_
                    rw [moveF, if_pos ⟨hh, hg⟩, ek, el, if_neg (fun z => z.elim hb hc), if_neg (fun z => z hd), if_neg (fun z => r2 ⟨z.1, mv_n hy24 z.1 z.2.2.1 (by have y := z.2.2.2.2; rw [hy] at y; exact y), z.2.2.1, by have y := z.2.2.2.2; rw [hy] at y; exact y⟩)]
                    exact ⟨rfl, zs, sn, hR, rfl⟩
              · have hd : ¬ sb 0 = sb 3 := c68
                refine A_aload_n hE 72 dX8_move_71 rfl rfl ?_
                refine A_iconst hE 73 dX8_move_72 rfl (5) rfl ?_
                refine A_callVi hE 76 (c_X8_error er im 5 (by omega)) [0, 1] dX8_move_73 rfl mkX8_59 rfl rfl rfl rfl rfl rfl rfl (Nat.le_of_ble_eq_true rfl) (Nat.le_of_ble_eq_true rfl) rfl (fun x73 h73 g73 hp73 hw73 => ?_)
                obtain ⟨rfl, rfl⟩ := hp73
                obtain rfl := Option.some.inj hw73
                refine A_h (Y63 (upd er 5 (er 5 + 1)) im s t0 g0 h0 t1 g1 h1 tl tp wl wt wh mu J pt vK vk vm tn tr v1 v2 pl ft rk rf K m0 f0 k0 m1 f1 k1 tl2 tp2 wl2 wt2 sb zs sn) rfl ?_
                refine A_iret hE dX8_move_76 ?_
                rw [moveF, if_pos ⟨hh, hg⟩, ek, el, if_neg (fun z => z.elim hb hc), if_pos hd]
                exact ⟨rfl, zs, sn, hR, rfl⟩
            · have hc := bI_1 c49
              refine A_aload_n hE 53 dX8_move_52 rfl rfl ?_
              refine A_iconst hE 54 dX8_move_53 rfl (2) rfl ?_
              refine A_callVi hE 57 (c_X8_error er im 2 (by omega)) [0, 1] dX8_move_54 rfl mkX8_59 rfl rfl rfl rfl rfl rfl rfl (Nat.le_of_ble_eq_true rfl) (Nat.le_of_ble_eq_true rfl) rfl (fun x54 h54 g54 hp54 hw54 => ?_)
              obtain ⟨rfl, rfl⟩ := hp54
              obtain rfl := Option.some.inj hw54
              refine A_h (Y63 (upd er 2 (er 2 + 1)) im s t0 g0 h0 t1 g1 h1 tl tp wl wt wh mu J pt vK vk vm tn tr v1 v2 pl ft rk rf K m0 f0 k0 m1 f1 k1 tl2 tp2 wl2 wt2 sb zs sn) rfl ?_
              refine A_iret hE dX8_move_57 ?_
              rw [moveF, if_pos ⟨hh, hg⟩, ek, el, if_pos (Or.inr hc)]
              exact ⟨rfl, zs, sn, hR, rfl⟩
      · obtain ⟨hz24, hz, hvn⟩ := hR 1 (by omega)
        rcases (show l = 0 ∨ l = 1 ∨ l = 2 ∨ l = 3 by omega) with rfl | rfl | rfl | rfl
        · obtain ⟨hy24, hy, hwn⟩ := hR 0 (by omega)
          refine A_aload_n hE 21 dX8_move_20 rfl rfl ?_
          refine A_get hE 24 dX8_move_21 rfl fkX8_42 rfl rfl ?_
          refine A_iload_n hE 25 dX8_move_24 rfl rfl ?_
          refine A_aald hE 26 1 dX8_move_25 rfl rfl rfl (by omega) rfl rfl ?_
          refine A_astore hE 28 dX8_move_26 rfl rfl rfl ?_
          refine A_aload_n hE 29 dX8_move_28 rfl rfl ?_
          refine A_get hE 32 dX8_move_29 rfl fkX8_42 rfl rfl ?_
          refine A_iload_n hE 33 dX8_move_32 rfl rfl ?_
          refine A_aald hE 34 0 dX8_move_33 rfl rfl rfl (by omega) rfl rfl ?_
          refine A_astore hE 36 dX8_move_34 rfl rfl rfl ?_
          refine A_aload hE 38 dX8_move_36 rfl rfl ?_
          refine A_callVi hE 41 (c_X4_isMissing (sb 1) (zs 1) (sn 1)) [54, 55, 56] dX8_move_38 rfl mkX8_222 rfl rfl rfl rfl rfl rfl rfl (Nat.le_of_ble_eq_true rfl) (Nat.le_of_ble_eq_true rfl) rfl (fun x38 h38 g38 hp38 hw38 => ?_)
          obtain ⟨rfl, rfl⟩ := hp38
          obtain rfl := Option.some.inj hw38
          refine A_h (Y63 er im s t0 g0 h0 t1 g1 h1 tl tp wl wt wh mu J pt vK vk vm tn tr v1 v2 pl ft rk rf K m0 f0 k0 m1 f1 k1 tl2 tp2 wl2 wt2 sb zs sn) rfl ?_
          refine A_if_ne hE 44 52 dX8_move_41 rfl rfl (fun c41 => ?_) (fun c41 => ?_)
          · have hb := bI_1 (show ¬ _ = 0 from c41)
            refine A_aload_n hE 53 dX8_move_52 rfl rfl ?_
            refine A_iconst hE 54 dX8_move_53 rfl (2) rfl ?_
            refine A_callVi hE 57 (c_X8_error er im 2 (by omega)) [0, 1] dX8_move_54 rfl mkX8_59 rfl rfl rfl rfl rfl rfl rfl (Nat.le_of_ble_eq_true rfl) (Nat.le_of_ble_eq_true rfl) rfl (fun x54 h54 g54 hp54 hw54 => ?_)
            obtain ⟨rfl, rfl⟩ := hp54
            obtain rfl := Option.some.inj hw54
            refine A_h (Y63 (upd er 2 (er 2 + 1)) im s t0 g0 h0 t1 g1 h1 tl tp wl wt wh mu J pt vK vk vm tn tr v1 v2 pl ft rk rf K m0 f0 k0 m1 f1 k1 tl2 tp2 wl2 wt2 sb zs sn) rfl ?_
            refine A_iret hE dX8_move_57 ?_
            rw [moveF, if_pos ⟨hh, hg⟩, ek, el, if_pos (Or.inl hb)]
            exact ⟨rfl, zs, sn, hR, rfl⟩
          · have hb := bI_0 c41
            refine A_aload hE 46 dX8_move_44 rfl rfl ?_
            refine A_callVi hE 49 (c_X4_isMissing (sb 0) (zs 0) (sn 0)) [51, 52, 53] dX8_move_46 rfl mkX8_222 rfl rfl rfl rfl rfl rfl rfl (Nat.le_of_ble_eq_true rfl) (Nat.le_of_ble_eq_true rfl) rfl (fun x46 h46 g46 hp46 hw46 => ?_)
            obtain ⟨rfl, rfl⟩ := hp46
            obtain rfl := Option.some.inj hw46
            refine A_h (Y63 er im s t0 g0 h0 t1 g1 h1 tl tp wl wt wh mu J pt vK vk vm tn tr v1 v2 pl ft rk rf K m0 f0 k0 m1 f1 k1 tl2 tp2 wl2 wt2 sb zs sn) rfl ?_
            refine A_if_eq hE 52 58 dX8_move_49 rfl rfl (fun c49 => ?_) (fun c49 => ?_)
            · have hc := bI_0 c49
              refine A_aload hE 60 dX8_move_58 rfl rfl ?_
              refine A_get hE 63 dX8_move_60 rfl fkX8_260 rfl rfl ?_
              refine A_aload hE 65 dX8_move_63 rfl rfl ?_
              refine A_get hE 68 dX8_move_65 rfl fkX8_260 rfl rfl ?_
              refine A_icmp_eq hE 71 77 dX8_move_68 rfl rfl (fun c68 => ?_) (fun c68 => ?_)
              · have hd : sb 1 = sb 0 := c68
                refine A_aload hE 79 dX8_move_77 rfl rfl ?_
                refine A_get hE 82 dX8_move_79 rfl fkX8_226 rfl rfl ?_
                refine A_iload_n hE 83 dX8_move_82 rfl rfl ?_
                refine A_iload hE 85 dX8_move_83 rfl rfl ?_
                refine A_callVi hE 88 (c_X3_hasRun 24 (sn 1) (nI (zs 1)) i n) [55, 56] dX8_move_85 rfl mkX8_263 rfl rfl rfl rfl rfl rfl rfl (Nat.le_of_ble_eq_true rfl) (Nat.le_of_ble_eq_true rfl) rfl (fun x85 h85 g85 hp85 hw85 => ?_)
                obtain ⟨rfl, rfl⟩ := hp85
                obtain rfl := Option.some.inj hw85
                refine A_h (Y63 er im s t0 g0 h0 t1 g1 h1 tl tp wl wt wh mu J pt vK vk vm tn tr v1 v2 pl ft rk rf K m0 f0 k0 m1 f1 k1 tl2 tp2 wl2 wt2 sb zs sn) rfl ?_
                refine A_if_eq hE 91 106 dX8_move_88 rfl rfl (fun c88 => ?_) (fun c88 => ?_)
                · have r1 := bI_0 c88
                  refine A_aload_n hE 107 dX8_move_106 rfl rfl ?_
                  refine A_iconst hE 108 dX8_move_107 rfl (1) rfl ?_
                  refine A_callVi hE 111 (c_X8_error er im 1 (by omega)) [0, 1] dX8_move_108 rfl mkX8_59 rfl rfl rfl rfl rfl rfl rfl (Nat.le_of_ble_eq_true rfl) (Nat.le_of_ble_eq_true rfl) rfl (fun x108 h108 g108 hp108 hw108 => ?_)
                  obtain ⟨rfl, rfl⟩ := hp108
                  obtain rfl := Option.some.inj hw108
                  refine A_h (Y63 (upd er 1 (er 1 + 1)) im s t0 g0 h0 t1 g1 h1 tl tp wl wt wh mu J pt vK vk vm tn tr v1 v2 pl ft rk rf K m0 f0 k0 m1 f1 k1 tl2 tp2 wl2 wt2 sb zs sn) rfl ?_
                  refine A_iret hE dX8_move_111 ?_
                  rw [moveF, if_pos ⟨hh, hg⟩, ek, el, if_neg (fun z => z.elim hb hc), if_neg (fun z => z hd), if_neg (fun z => r1 ⟨z.1, mv_n hz24 z.1 z.2.1 (by have y := z.2.2.2.1; rw [hz] at y; exact y), z.2.1, by have y := z.2.2.2.1; rw [hz] at y; exact y⟩)]
                  exact ⟨rfl, zs, sn, hR, rfl⟩
                · have r1 := bI_1 c88
                  refine A_aload hE 93 dX8_move_91 rfl rfl ?_
                  refine A_get hE 96 dX8_move_93 rfl fkX8_226 rfl rfl ?_
                  refine A_iload hE 98 dX8_move_96 rfl rfl ?_
                  refine A_iload hE 100 dX8_move_98 rfl rfl ?_
                  refine A_callVi hE 103 (c_X3_hasRun 24 (sn 0) (nI (zs 0)) j n) [52, 53] dX8_move_100 rfl mkX8_263 rfl rfl rfl rfl rfl rfl rfl (Nat.le_of_ble_eq_true rfl) (Nat.le_of_ble_eq_true rfl) rfl (fun x100 h100 g100 hp100 hw100 => ?_)
                  obtain ⟨rfl, rfl⟩ := hp100
                  obtain rfl := Option.some.inj hw100
                  refine A_h (Y63 er im s t0 g0 h0 t1 g1 h1 tl tp wl wt wh mu J pt vK vk vm tn tr v1 v2 pl ft rk rf K m0 f0 k0 m1 f1 k1 tl2 tp2 wl2 wt2 sb zs sn) rfl ?_
                  refine A_if_ne hE 106 112 dX8_move_103 rfl rfl (fun c103 => ?_) (fun c103 => ?_)
                  · have r2 := bI_1 c103
                    obtain ⟨p, hp, rfl⟩ := nI_of (iN r1.2.2.1)
                    obtain ⟨r, hr, rfl⟩ := nI_of (iN r2.2.2.1)
                    obtain ⟨a, ha, rfl⟩ := nI_of (iN r1.1)
                    have b1 := mv_le hp hz24 ha r1.2.2.2
                    have b2 := mv_le hr hy24 ha r2.2.2.2
                    have ep : (nI p).toNatClampNeg = p := nI_clamp hp
                    have er' : (nI r).toNatClampNeg = r := nI_clamp hr
                    have ea : (nI a).toNatClampNeg = a := nI_clamp ha
                    refine A_aload hE 114 dX8_move_112 rfl rfl ?_
                    refine A_get hE 117 dX8_move_114 rfl fkX8_226 rfl rfl ?_
                    refine A_get hE 120 dX8_move_117 rfl fkX8_249 rfl rfl ?_
                    refine A_iload_n hE 121 dX8_move_120 rfl rfl ?_
                    refine A_aload hE 123 dX8_move_121 rfl rfl ?_
                    refine A_get hE 126 dX8_move_123 rfl fkX8_226 rfl rfl ?_
                    refine A_get hE 129 dX8_move_126 rfl fkX8_249 rfl rfl ?_
                    refine A_iload hE 131 dX8_move_129 rfl rfl ?_
                    refine A_iload hE 133 dX8_move_131 rfl rfl ?_
                    refine A_copyi hE 136 dX8_move_133 rfl acRX8 acN acS acI rfl rfl (nI_pos hp) (nI_pos hr) (nI_pos ha) (by rw [ep, ea]; omega) (by rw [er', ea]; omega) rfl (by decide) rfl ?_
                    refine A_h (Y63 er im s t0 g0 h0 t1 g1 h1 tl tp wl wt wh mu J pt vK vk vm tn tr v1 v2 pl ft rk rf K m0 f0 k0 m1 f1 k1 tl2 tp2 wl2 wt2 sb zs (updS sn 0 (va_cpy (sn 1) (sn 0) p r a))) (by rw [ep, er', ea]; rfl) ?_
                    refine A_iload hE 138 dX8_move_136 rfl rfl ?_
                    refine A_iret hE dX8_move_138 ?_
                    rw [moveF, if_pos ⟨hh, hg⟩, ek, el, if_neg (fun z => z.elim hb hc), if_neg (fun z => z hd), if_pos ⟨r1.1, r1.2.2.1, r2.2.2.1, by rw [hz]; exact r1.2.2.2, by rw [hy]; exact r2.2.2.2⟩, ep, er', ea]
                    exact ⟨rfl, _, _, hR.mov (k := 1) (l := 0) (by omega) (by omega) b1 b2, rfl⟩
                  · have r2 := bI_0 c103
                    refine A_aload_n hE 107 dX8_move_106 rfl rfl ?_
                    refine A_iconst hE 108 dX8_move_107 rfl (1) rfl ?_
                    refine A_callVi hE 111 (c_X8_error er im 1 (by omega)) [0, 1] dX8_move_108 rfl mkX8_59 rfl rfl rfl rfl rfl rfl rfl (Nat.le_of_ble_eq_true rfl) (Nat.le_of_ble_eq_true rfl) rfl (fun x108 h108 g108 hp108 hw108 => ?_)
                    obtain ⟨rfl, rfl⟩ := hp108
                    obtain rfl := Option.some.inj hw108
                    refine A_h (Y63 (upd er 1 (er 1 + 1)) im s t0 g0 h0 t1 g1 h1 tl tp wl wt wh mu J pt vK vk vm tn tr v1 v2 pl ft rk rf K m0 f0 k0 m1 f1 k1 tl2 tp2 wl2 wt2 sb zs sn) rfl ?_
                    refine A_iret hE dX8_move_111 ?_
                    rw [moveF, if_pos ⟨hh, hg⟩, ek, el, if_neg (fun z => z.elim hb hc), if_neg (fun z => z hd), if_neg (fun z => r2 ⟨z.1, mv_n hy24 z.1 z.2.2.1 (by have y := z.2.2.2.2; rw [hy] at y; exact y), z.2.2.1, by have y := z.2.2.2.2; rw [hy] at y; exact y⟩)]
                    exact ⟨rfl, zs, sn, hR, rfl⟩
              · have hd : ¬ sb 1 = sb 0 := c68
                refine A_aload_n hE 72 dX8_move_71 rfl rfl ?_
                refine A_iconst hE 73 dX8_move_72 rfl (5) rfl ?_
                refine A_callVi hE 76 (c_X8_error er im 5 (by omega)) [0, 1] dX8_move_73 rfl mkX8_59 rfl rfl rfl rfl rfl rfl rfl (Nat.le_of_ble_eq_true rfl) (Nat.le_of_ble_eq_true rfl) rfl (fun x73 h73 g73 hp73 hw73 => ?_)
                obtain ⟨rfl, rfl⟩ := hp73
                obtain rfl := Option.some.inj hw73
                refine A_h (Y63 (upd er 5 (er 5 + 1)) im s t0 g0 h0 t1 g1 h1 tl tp wl wt wh mu J pt vK vk vm tn tr v1 v2 pl ft rk rf K m0 f0 k0 m1 f1 k1 tl2 tp2 wl2 wt2 sb zs sn) rfl ?_
                refine A_iret hE dX8_move_76 ?_
                rw [moveF, if_pos ⟨hh, hg⟩, ek, el, if_neg (fun z => z.elim hb hc), if_pos hd]
                exact ⟨rfl, zs, sn, hR, rfl⟩
            · have hc := bI_1 c49
              refine A_aload_n hE 53 dX8_move_52 rfl rfl ?_
              refine A_iconst hE 54 dX8_move_53 rfl (2) rfl ?_
              refine A_callVi hE 57 (c_X8_error er im 2 (by omega)) [0, 1] dX8_move_54 rfl mkX8_59 rfl rfl rfl rfl rfl rfl rfl (Nat.le_of_ble_eq_true rfl) (Nat.le_of_ble_eq_true rfl) rfl (fun x54 h54 g54 hp54 hw54 => ?_)
              obtain ⟨rfl, rfl⟩ := hp54
              obtain rfl := Option.some.inj hw54
              refine A_h (Y63 (upd er 2 (er 2 + 1)) im s t0 g0 h0 t1 g1 h1 tl tp wl wt wh mu J pt vK vk vm tn tr v1 v2 pl ft rk rf K m0 f0 k0 m1 f1 k1 tl2 tp2 wl2 wt2 sb zs sn) rfl ?_
              refine A_iret hE dX8_move_57 ?_
              rw [moveF, if_pos ⟨hh, hg⟩, ek, el, if_pos (Or.inr hc)]
              exact ⟨rfl, zs, sn, hR, rfl⟩
        · obtain ⟨hy24, hy, hwn⟩ := hR 1 (by omega)
          refine A_aload_n hE 21 dX8_move_20 rfl rfl ?_
          refine A_get hE 24 dX8_move_21 rfl fkX8_42 rfl rfl ?_
          refine A_iload_n hE 25 dX8_move_24 rfl rfl ?_
          refine A_aald hE 26 1 dX8_move_25 rfl rfl rfl (by omega) rfl rfl ?_
          refine A_astore hE 28 dX8_move_26 rfl rfl rfl ?_
          refine A_aload_n hE 29 dX8_move_28 rfl rfl ?_
          refine A_get hE 32 dX8_move_29 rfl fkX8_42 rfl rfl ?_
          refine A_iload_n hE 33 dX8_move_32 rfl rfl ?_
          refine A_aald hE 34 1 dX8_move_33 rfl rfl rfl (by omega) rfl rfl ?_
          refine A_astore hE 36 dX8_move_34 rfl rfl rfl ?_
          refine A_aload hE 38 dX8_move_36 rfl rfl ?_
          refine A_callVi hE 41 (c_X4_isMissing (sb 1) (zs 1) (sn 1)) [54, 55, 56] dX8_move_38 rfl mkX8_222 rfl rfl rfl rfl rfl rfl rfl (Nat.le_of_ble_eq_true rfl) (Nat.le_of_ble_eq_true rfl) rfl (fun x38 h38 g38 hp38 hw38 => ?_)
          obtain ⟨rfl, rfl⟩ := hp38
          obtain rfl := Option.some.inj hw38
          refine A_h (Y63 er im s t0 g0 h0 t1 g1 h1 tl tp wl wt wh mu J pt vK vk vm tn tr v1 v2 pl ft rk rf K m0 f0 k0 m1 f1 k1 tl2 tp2 wl2 wt2 sb zs sn) rfl ?_
          refine A_if_ne hE 44 52 dX8_move_41 rfl rfl (fun c41 => ?_) (fun c41 => ?_)
          · have hb := bI_1 (show ¬ _ = 0 from c41)
            refine A_aload_n hE 53 dX8_move_52 rfl rfl ?_
            refine A_iconst hE 54 dX8_move_53 rfl (2) rfl ?_
            refine A_callVi hE 57 (c_X8_error er im 2 (by omega)) [0, 1] dX8_move_54 rfl mkX8_59 rfl rfl rfl rfl rfl rfl rfl (Nat.le_of_ble_eq_true rfl) (Nat.le_of_ble_eq_true rfl) rfl (fun x54 h54 g54 hp54 hw54 => ?_)
            obtain ⟨rfl, rfl⟩ := hp54
            obtain rfl := Option.some.inj hw54
            refine A_h (Y63 (upd er 2 (er 2 + 1)) im s t0 g0 h0 t1 g1 h1 tl tp wl wt wh mu J pt vK vk vm tn tr v1 v2 pl ft rk rf K m0 f0 k0 m1 f1 k1 tl2 tp2 wl2 wt2 sb zs sn) rfl ?_
            refine A_iret hE dX8_move_57 ?_
            rw [moveF, if_pos ⟨hh, hg⟩, ek, if_pos (Or.inl hb)]
            exact ⟨rfl, zs, sn, hR, rfl⟩
          · have hb := bI_0 c41
            refine A_aload hE 46 dX8_move_44 rfl rfl ?_
            refine A_callVi hE 49 (c_X4_isMissing (sb 1) (zs 1) (sn 1)) [54, 55, 56] dX8_move_46 rfl mkX8_222 rfl rfl rfl rfl rfl rfl rfl (Nat.le_of_ble_eq_true rfl) (Nat.le_of_ble_eq_true rfl) rfl (fun x46 h46 g46 hp46 hw46 => ?_)
            obtain ⟨rfl, rfl⟩ := hp46
            obtain rfl := Option.some.inj hw46
            refine A_h (Y63 er im s t0 g0 h0 t1 g1 h1 tl tp wl wt wh mu J pt vK vk vm tn tr v1 v2 pl ft rk rf K m0 f0 k0 m1 f1 k1 tl2 tp2 wl2 wt2 sb zs sn) rfl ?_
            refine A_if_eq hE 52 58 dX8_move_49 rfl rfl (fun c49 => ?_) (fun c49 => ?_)
            · have hc := bI_0 c49
              refine A_aload hE 60 dX8_move_58 rfl rfl ?_
              refine A_get hE 63 dX8_move_60 rfl fkX8_260 rfl rfl ?_
              refine A_aload hE 65 dX8_move_63 rfl rfl ?_
              refine A_get hE 68 dX8_move_65 rfl fkX8_260 rfl rfl ?_
              refine A_icmp_eq hE 71 77 dX8_move_68 rfl rfl (fun c68 => ?_) (fun c68 => ?_)
              · have hd : sb 1 = sb 1 := c68
                refine A_aload hE 79 dX8_move_77 rfl rfl ?_
                refine A_get hE 82 dX8_move_79 rfl fkX8_226 rfl rfl ?_
                refine A_iload_n hE 83 dX8_move_82 rfl rfl ?_
                refine A_iload hE 85 dX8_move_83 rfl rfl ?_
                refine A_callVi hE 88 (c_X3_hasRun 24 (sn 1) (nI (zs 1)) i n) [55, 56] dX8_move_85 rfl mkX8_263 rfl rfl rfl rfl rfl rfl rfl (Nat.le_of_ble_eq_true rfl) (Nat.le_of_ble_eq_true rfl) rfl (fun x85 h85 g85 hp85 hw85 => ?_)
                obtain ⟨rfl, rfl⟩ := hp85
                obtain rfl := Option.some.inj hw85
                refine A_h (Y63 er im s t0 g0 h0 t1 g1 h1 tl tp wl wt wh mu J pt vK vk vm tn tr v1 v2 pl ft rk rf K m0 f0 k0 m1 f1 k1 tl2 tp2 wl2 wt2 sb zs sn) rfl ?_
                refine A_if_eq hE 91 106 dX8_move_88 rfl rfl (fun c88 => ?_) (fun c88 => ?_)
                · have r1 := bI_0 c88
                  refine A_aload_n hE 107 dX8_move_106 rfl rfl ?_
                  refine A_iconst hE 108 dX8_move_107 rfl (1) rfl ?_
                  refine A_callVi hE 111 (c_X8_error er im 1 (by omega)) [0, 1] dX8_move_108 rfl mkX8_59 rfl rfl rfl rfl rfl rfl rfl (Nat.le_of_ble_eq_true rfl) (Nat.le_of_ble_eq_true rfl) rfl (fun x108 h108 g108 hp108 hw108 => ?_)
                  obtain ⟨rfl, rfl⟩ := hp108
                  obtain rfl := Option.some.inj hw108
                  refine A_h (Y63 (upd er 1 (er 1 + 1)) im s t0 g0 h0 t1 g1 h1 tl tp wl wt wh mu J pt vK vk vm tn tr v1 v2 pl ft rk rf K m0 f0 k0 m1 f1 k1 tl2 tp2 wl2 wt2 sb zs sn) rfl ?_
                  refine A_iret hE dX8_move_111 ?_
                  rw [moveF, if_pos ⟨hh, hg⟩, ek, if_neg (fun z => z.elim hb hc), if_neg (fun z => z hd), if_neg (fun z => r1 ⟨z.1, mv_n hz24 z.1 z.2.1 (by have y := z.2.2.2.1; rw [hz] at y; exact y), z.2.1, by have y := z.2.2.2.1; rw [hz] at y; exact y⟩)]
                  exact ⟨rfl, zs, sn, hR, rfl⟩
                · have r1 := bI_1 c88
                  refine A_aload hE 93 dX8_move_91 rfl rfl ?_
                  refine A_get hE 96 dX8_move_93 rfl fkX8_226 rfl rfl ?_
                  refine A_iload hE 98 dX8_move_96 rfl rfl ?_
                  refine A_iload hE 100 dX8_move_98 rfl rfl ?_
                  refine A_callVi hE 103 (c_X3_hasRun 24 (sn 1) (nI (zs 1)) j n) [55, 56] dX8_move_100 rfl mkX8_263 rfl rfl rfl rfl rfl rfl rfl (Nat.le_of_ble_eq_true rfl) (Nat.le_of_ble_eq_true rfl) rfl (fun x100 h100 g100 hp100 hw100 => ?_)
                  obtain ⟨rfl, rfl⟩ := hp100
                  obtain rfl := Option.some.inj hw100
                  refine A_h (Y63 er im s t0 g0 h0 t1 g1 h1 tl tp wl wt wh mu J pt vK vk vm tn tr v1 v2 pl ft rk rf K m0 f0 k0 m1 f1 k1 tl2 tp2 wl2 wt2 sb zs sn) rfl ?_
                  refine A_if_ne hE 106 112 dX8_move_103 rfl rfl (fun c103 => ?_) (fun c103 => ?_)
                  · have r2 := bI_1 c103
                    obtain ⟨p, hp, rfl⟩ := nI_of (iN r1.2.2.1)
                    obtain ⟨r, hr, rfl⟩ := nI_of (iN r2.2.2.1)
                    obtain ⟨a, ha, rfl⟩ := nI_of (iN r1.1)
                    have b1 := mv_le hp hz24 ha r1.2.2.2
                    have b2 := mv_le hr hy24 ha r2.2.2.2
                    have ep : (nI p).toNatClampNeg = p := nI_clamp hp
                    have er' : (nI r).toNatClampNeg = r := nI_clamp hr
                    have ea : (nI a).toNatClampNeg = a := nI_clamp ha
                    refine A_aload hE 114 dX8_move_112 rfl rfl ?_
                    refine A_get hE 117 dX8_move_114 rfl fkX8_226 rfl rfl ?_
                    refine A_get hE 120 dX8_move_117 rfl fkX8_249 rfl rfl ?_
                    refine A_iload_n hE 121 dX8_move_120 rfl rfl ?_
                    refine A_aload hE 123 dX8_move_121 rfl rfl ?_
                    refine A_get hE 126 dX8_move_123 rfl fkX8_226 rfl rfl ?_
                    refine A_get hE 129 dX8_move_126 rfl fkX8_249 rfl rfl ?_
                    refine A_iload hE 131 dX8_move_129 rfl rfl ?_
                    refine A_iload hE 133 dX8_move_131 rfl rfl ?_
                    refine A_copyi hE 136 dX8_move_133 rfl acRX8 acN acS acI rfl rfl (nI_pos hp) (nI_pos hr) (nI_pos ha) (by rw [ep, ea]; omega) (by rw [er', ea]; omega) rfl (by decide) rfl ?_
                    refine A_h (Y63 er im s t0 g0 h0 t1 g1 h1 tl tp wl wt wh mu J pt vK vk vm tn tr v1 v2 pl ft rk rf K m0 f0 k0 m1 f1 k1 tl2 tp2 wl2 wt2 sb zs (updS sn 1 (va_cpy (sn 1) (sn 1) p r a))) (by rw [ep, er', ea]; rfl) ?_
                    refine A_iload hE 138 dX8_move_136 rfl rfl ?_
                    refine A_iret hE dX8_move_138 ?_
                    rw [moveF, if_pos ⟨hh, hg⟩, ek, if_neg (fun z => z.elim hb hc), if_neg (fun z => z hd), if_pos ⟨r1.1, r1.2.2.1, r2.2.2.1, by rw [hz]; exact r1.2.2.2, by rw [hy]; exact r2.2.2.2⟩, ep, er', ea]
                    exact ⟨rfl, _, _, hR.mov (k := 1) (l := 1) (by omega) (by omega) b1 b2, rfl⟩
                  · have r2 := bI_0 c103
                    refine A_aload_n hE 107 dX8_move_106 rfl rfl ?_
                    refine A_iconst hE 108 dX8_move_107 rfl (1) rfl ?_
                    refine A_callVi hE 111 (c_X8_error er im 1 (by omega)) [0, 1] dX8_move_108 rfl mkX8_59 rfl rfl rfl rfl rfl rfl rfl (Nat.le_of_ble_eq_true rfl) (Nat.le_of_ble_eq_true rfl) rfl (fun x108 h108 g108 hp108 hw108 => ?_)
                    obtain ⟨rfl, rfl⟩ := hp108
                    obtain rfl := Option.some.inj hw108
                    refine A_h (Y63 (upd er 1 (er 1 + 1)) im s t0 g0 h0 t1 g1 h1 tl tp wl wt wh mu J pt vK vk vm tn tr v1 v2 pl ft rk rf K m0 f0 k0 m1 f1 k1 tl2 tp2 wl2 wt2 sb zs sn) rfl ?_
                    refine A_iret hE dX8_move_111 ?_
                    rw [moveF, if_pos ⟨hh, hg⟩, ek, if_neg (fun z => z.elim hb hc), if_neg (fun z => z hd), if_neg (fun z => r2 ⟨z.1, mv_n hy24 z.1 z.2.2.1 (by have y := z.2.2.2.2; rw [hy] at y; exact y), z.2.2.1, by have y := z.2.2.2.2; rw [hy] at y; exact y⟩)]
                    exact ⟨rfl, zs, sn, hR, rfl⟩
              · have hd : ¬ sb 1 = sb 1 := c68
                refine A_aload_n hE 72 dX8_move_71 rfl rfl ?_
                refine A_iconst hE 73 dX8_move_72 rfl (5) rfl ?_
                refine A_callVi hE 76 (c_X8_error er im 5 (by omega)) [0, 1] dX8_move_73 rfl mkX8_59 rfl rfl rfl rfl rfl rfl rfl (Nat.le_of_ble_eq_true rfl) (Nat.le_of_ble_eq_true rfl) rfl (fun x73 h73 g73 hp73 hw73 => ?_)
                obtain ⟨rfl, rfl⟩ := hp73
                obtain rfl := Option.some.inj hw73
                refine A_h (Y63 (upd er 5 (er 5 + 1)) im s t0 g0 h0 t1 g1 h1 tl tp wl wt wh mu J pt vK vk vm tn tr v1 v2 pl ft rk rf K m0 f0 k0 m1 f1 k1 tl2 tp2 wl2 wt2 sb zs sn) rfl ?_
                refine A_iret hE dX8_move_76 ?_
                rw [moveF, if_pos ⟨hh, hg⟩, ek, if_neg (fun z => z.elim hb hc), if_pos hd]
                exact ⟨rfl, zs, sn, hR, rfl⟩
            · have hc := bI_1 c49
              refine A_aload_n hE 53 dX8_move_52 rfl rfl ?_
              refine A_iconst hE 54 dX8_move_53 rfl (2) rfl ?_
              refine A_callVi hE 57 (c_X8_error er im 2 (by omega)) [0, 1] dX8_move_54 rfl mkX8_59 rfl rfl rfl rfl rfl rfl rfl (Nat.le_of_ble_eq_true rfl) (Nat.le_of_ble_eq_true rfl) rfl (fun x54 h54 g54 hp54 hw54 => ?_)
              obtain ⟨rfl, rfl⟩ := hp54
              obtain rfl := Option.some.inj hw54
              refine A_h (Y63 (upd er 2 (er 2 + 1)) im s t0 g0 h0 t1 g1 h1 tl tp wl wt wh mu J pt vK vk vm tn tr v1 v2 pl ft rk rf K m0 f0 k0 m1 f1 k1 tl2 tp2 wl2 wt2 sb zs sn) rfl ?_
              refine A_iret hE dX8_move_57 ?_
              rw [moveF, if_pos ⟨hh, hg⟩, ek, if_pos (Or.inr hc)]
              exact ⟨rfl, zs, sn, hR, rfl⟩
        · obtain ⟨hy24, hy, hwn⟩ := hR 2 (by omega)
          refine A_aload_n hE 21 dX8_move_20 rfl rfl ?_
          refine A_get hE 24 dX8_move_21 rfl fkX8_42 rfl rfl ?_
          refine A_iload_n hE 25 dX8_move_24 rfl rfl ?_
          refine A_aald hE 26 1 dX8_move_25 rfl rfl rfl (by omega) rfl rfl ?_
          refine A_astore hE 28 dX8_move_26 rfl rfl rfl ?_
          refine A_aload_n hE 29 dX8_move_28 rfl rfl ?_
          refine A_get hE 32 dX8_move_29 rfl fkX8_42 rfl rfl ?_
          refine A_iload_n hE 33 dX8_move_32 rfl rfl ?_
          refine A_aald hE 34 2 dX8_move_33 rfl rfl rfl (by omega) rfl rfl ?_
          refine A_astore hE 36 dX8_move_34 rfl rfl rfl ?_
          refine A_aload hE 38 dX8_move_36 rfl rfl ?_
          refine A_callVi hE 41 (c_X4_isMissing (sb 1) (zs 1) (sn 1)) [54, 55, 56] dX8_move_38 rfl mkX8_222 rfl rfl rfl rfl rfl rfl rfl (Nat.le_of_ble_eq_true rfl) (Nat.le_of_ble_eq_true rfl) rfl (fun x38 h38 g38 hp38 hw38 => ?_)
          obtain ⟨rfl, rfl⟩ := hp38
          obtain rfl := Option.some.inj hw38
          refine A_h (Y63 er im s t0 g0 h0 t1 g1 h1 tl tp wl wt wh mu J pt vK vk vm tn tr v1 v2 pl ft rk rf K m0 f0 k0 m1 f1 k1 tl2 tp2 wl2 wt2 sb zs sn) rfl ?_
          refine A_if_ne hE 44 52 dX8_move_41 rfl rfl (fun c41 => ?_) (fun c41 => ?_)
          · have hb := bI_1 (show ¬ _ = 0 from c41)
            refine A_aload_n hE 53 dX8_move_52 rfl rfl ?_
            refine A_iconst hE 54 dX8_move_53 rfl (2) rfl ?_
            refine A_callVi hE 57 (c_X8_error er im 2 (by omega)) [0, 1] dX8_move_54 rfl mkX8_59 rfl rfl rfl rfl rfl rfl rfl (Nat.le_of_ble_eq_true rfl) (Nat.le_of_ble_eq_true rfl) rfl (fun x54 h54 g54 hp54 hw54 => ?_)
            obtain ⟨rfl, rfl⟩ := hp54
            obtain rfl := Option.some.inj hw54
            refine A_h (Y63 (upd er 2 (er 2 + 1)) im s t0 g0 h0 t1 g1 h1 tl tp wl wt wh mu J pt vK vk vm tn tr v1 v2 pl ft rk rf K m0 f0 k0 m1 f1 k1 tl2 tp2 wl2 wt2 sb zs sn) rfl ?_
            refine A_iret hE dX8_move_57 ?_
            rw [moveF, if_pos ⟨hh, hg⟩, ek, el, if_pos (Or.inl hb)]
            exact ⟨rfl, zs, sn, hR, rfl⟩
          · have hb := bI_0 c41
            refine A_aload hE 46 dX8_move_44 rfl rfl ?_
            refine A_callVi hE 49 (c_X4_isMissing (sb 2) (zs 2) (sn 2)) [57, 58, 59] dX8_move_46 rfl mkX8_222 rfl rfl rfl rfl rfl rfl rfl (Nat.le_of_ble_eq_true rfl) (Nat.le_of_ble_eq_true rfl) rfl (fun x46 h46 g46 hp46 hw46 => ?_)
            obtain ⟨rfl, rfl⟩ := hp46
            obtain rfl := Option.some.inj hw46
            refine A_h (Y63 er im s t0 g0 h0 t1 g1 h1 tl tp wl wt wh mu J pt vK vk vm tn tr v1 v2 pl ft rk rf K m0 f0 k0 m1 f1 k1 tl2 tp2 wl2 wt2 sb zs sn) rfl ?_
            refine A_if_eq hE 52 58 dX8_move_49 rfl rfl (fun c49 => ?_) (fun c49 => ?_)
            · have hc := bI_0 c49
              refine A_aload hE 60 dX8_move_58 rfl rfl ?_
              refine A_get hE 63 dX8_move_60 rfl fkX8_260 rfl rfl ?_
              refine A_aload hE 65 dX8_move_63 rfl rfl ?_
              refine A_get hE 68 dX8_move_65 rfl fkX8_260 rfl rfl ?_
              refine A_icmp_eq hE 71 77 dX8_move_68 rfl rfl (fun c68 => ?_) (fun c68 => ?_)
              · have hd : sb 1 = sb 2 := c68
                refine A_aload hE 79 dX8_move_77 rfl rfl ?_
                refine A_get hE 82 dX8_move_79 rfl fkX8_226 rfl rfl ?_
                refine A_iload_n hE 83 dX8_move_82 rfl rfl ?_
                refine A_iload hE 85 dX8_move_83 rfl rfl ?_
                refine A_callVi hE 88 (c_X3_hasRun 24 (sn 1) (nI (zs 1)) i n) [55, 56] dX8_move_85 rfl mkX8_263 rfl rfl rfl rfl rfl rfl rfl (Nat.le_of_ble_eq_true rfl) (Nat.le_of_ble_eq_true rfl) rfl (fun x85 h85 g85 hp85 hw85 => ?_)
                obtain ⟨rfl, rfl⟩ := hp85
                obtain rfl := Option.some.inj hw85
                refine A_h (Y63 er im s t0 g0 h0 t1 g1 h1 tl tp wl wt wh mu J pt vK vk vm tn tr v1 v2 pl ft rk rf K m0 f0 k0 m1 f1 k1 tl2 tp2 wl2 wt2 sb zs sn) rfl ?_
                refine A_if_eq hE 91 106 dX8_move_88 rfl rfl (fun c88 => ?_) (fun c88 => ?_)
                · have r1 := bI_0 c88
                  refine A_aload_n hE 107 dX8_move_106 rfl rfl ?_
                  refine A_iconst hE 108 dX8_move_107 rfl (1) rfl ?_
                  refine A_callVi hE 111 (c_X8_error er im 1 (by omega)) [0, 1] dX8_move_108 rfl mkX8_59 rfl rfl rfl rfl rfl rfl rfl (Nat.le_of_ble_eq_true rfl) (Nat.le_of_ble_eq_true rfl) rfl (fun x108 h108 g108 hp108 hw108 => ?_)
                  obtain ⟨rfl, rfl⟩ := hp108
                  obtain rfl := Option.some.inj hw108
                  refine A_h (Y63 (upd er 1 (er 1 + 1)) im s t0 g0 h0 t1 g1 h1 tl tp wl wt wh mu J pt vK vk vm tn tr v1 v2 pl ft rk rf K m0 f0 k0 m1 f1 k1 tl2 tp2 wl2 wt2 sb zs sn) rfl ?_
                  refine A_iret hE dX8_move_111 ?_
                  rw [moveF, if_pos ⟨hh, hg⟩, ek, el, if_neg (fun z => z.elim hb hc), if_neg (fun z => z hd), if_neg (fun z => r1 ⟨z.1, mv_n hz24 z.1 z.2.1 (by have y := z.2.2.2.1; rw [hz] at y; exact y), z.2.1, by have y := z.2.2.2.1; rw [hz] at y; exact y⟩)]
                  exact ⟨rfl, zs, sn, hR, rfl⟩
                · have r1 := bI_1 c88
                  refine A_aload hE 93 dX8_move_91 rfl rfl ?_
                  refine A_get hE 96 dX8_move_93 rfl fkX8_226 rfl rfl ?_
                  refine A_iload hE 98 dX8_move_96 rfl rfl ?_
                  refine A_iload hE 100 dX8_move_98 rfl rfl ?_
                  refine A_callVi hE 103 (c_X3_hasRun 24 (sn 2) (nI (zs 2)) j n) [58, 59] dX8_move_100 rfl mkX8_263 rfl rfl rfl rfl rfl rfl rfl (Nat.le_of_ble_eq_true rfl) (Nat.le_of_ble_eq_true rfl) rfl (fun x100 h100 g100 hp100 hw100 => ?_)
                  obtain ⟨rfl, rfl⟩ := hp100
                  obtain rfl := Option.some.inj hw100
                  refine A_h (Y63 er im s t0 g0 h0 t1 g1 h1 tl tp wl wt wh mu J pt vK vk vm tn tr v1 v2 pl ft rk rf K m0 f0 k0 m1 f1 k1 tl2 tp2 wl2 wt2 sb zs sn) rfl ?_
                  refine A_if_ne hE 106 112 dX8_move_103 rfl rfl (fun c103 => ?_) (fun c103 => ?_)
                  · have r2 := bI_1 c103
                    obtain ⟨p, hp, rfl⟩ := nI_of (iN r1.2.2.1)
                    obtain ⟨r, hr, rfl⟩ := nI_of (iN r2.2.2.1)
                    obtain ⟨a, ha, rfl⟩ := nI_of (iN r1.1)
                    have b1 := mv_le hp hz24 ha r1.2.2.2
                    have b2 := mv_le hr hy24 ha r2.2.2.2
                    have ep : (nI p).toNatClampNeg = p := nI_clamp hp
                    have er' : (nI r).toNatClampNeg = r := nI_clamp hr
                    have ea : (nI a).toNatClampNeg = a := nI_clamp ha
                    refine A_aload hE 114 dX8_move_112 rfl rfl ?_
                    refine A_get hE 117 dX8_move_114 rfl fkX8_226 rfl rfl ?_
                    refine A_get hE 120 dX8_move_117 rfl fkX8_249 rfl rfl ?_
                    refine A_iload_n hE 121 dX8_move_120 rfl rfl ?_
                    refine A_aload hE 123 dX8_move_121 rfl rfl ?_
                    refine A_get hE 126 dX8_move_123 rfl fkX8_226 rfl rfl ?_
                    refine A_get hE 129 dX8_move_126 rfl fkX8_249 rfl rfl ?_
                    refine A_iload hE 131 dX8_move_129 rfl rfl ?_
                    refine A_iload hE 133 dX8_move_131 rfl rfl ?_
                    refine A_copyi hE 136 dX8_move_133 rfl acRX8 acN acS acI rfl rfl (nI_pos hp) (nI_pos hr) (nI_pos ha) (by rw [ep, ea]; omega) (by rw [er', ea]; omega) rfl (by decide) rfl ?_
                    refine A_h (Y63 er im s t0 g0 h0 t1 g1 h1 tl tp wl wt wh mu J pt vK vk vm tn tr v1 v2 pl ft rk rf K m0 f0 k0 m1 f1 k1 tl2 tp2 wl2 wt2 sb zs (updS sn 2 (va_cpy (sn 1) (sn 2) p r a))) (by rw [ep, er', ea]; rfl) ?_
                    refine A_iload hE 138 dX8_move_136 rfl rfl ?_
                    refine A_iret hE dX8_move_138 ?_
                    rw [moveF, if_pos ⟨hh, hg⟩, ek, el, if_neg (fun z => z.elim hb hc), if_neg (fun z => z hd), if_pos ⟨r1.1, r1.2.2.1, r2.2.2.1, by rw [hz]; exact r1.2.2.2, by rw [hy]; exact r2.2.2.2⟩, ep, er', ea]
                    exact ⟨rfl, _, _, hR.mov (k := 1) (l := 2) (by omega) (by omega) b1 b2, rfl⟩
                  · have r2 := bI_0 c103
                    refine A_aload_n hE 107 dX8_move_106 rfl rfl ?_
                    refine A_iconst hE 108 dX8_move_107 rfl (1) rfl ?_
                    refine A_callVi hE 111 (c_X8_error er im 1 (by omega)) [0, 1] dX8_move_108 rfl mkX8_59 rfl rfl rfl rfl rfl rfl rfl (Nat.le_of_ble_eq_true rfl) (Nat.le_of_ble_eq_true rfl) rfl (fun x108 h108 g108 hp108 hw108 => ?_)
                    obtain ⟨rfl, rfl⟩ := hp108
                    obtain rfl := Option.some.inj hw108
                    refine A_h (Y63 (upd er 1 (er 1 + 1)) im s t0 g0 h0 t1 g1 h1 tl tp wl wt wh mu J pt vK vk vm tn tr v1 v2 pl ft rk rf K m0 f0 k0 m1 f1 k1 tl2 tp2 wl2 wt2 sb zs sn) rfl ?_
                    refine A_iret hE dX8_move_111 ?_
                    rw [moveF, if_pos ⟨hh, hg⟩, ek, el, if_neg (fun z => z.elim hb hc), if_neg (fun z => z hd), if_neg (fun z => r2 ⟨z.1, mv_n hy24 z.1 z.2.2.1 (by have y := z.2.2.2.2; rw [hy] at y; exact y), z.2.2.1, by have y := z.2.2.2.2; rw [hy] at y; exact y⟩)]
                    exact ⟨rfl, zs, sn, hR, rfl⟩
              · have hd : ¬ sb 1 = sb 2 := c68
                refine A_aload_n hE 72 dX8_move_71 rfl rfl ?_
                refine A_iconst hE 73 dX8_move_72 rfl (5) rfl ?_
                refine A_callVi hE 76 (c_X8_error er im 5 (by omega)) [0, 1] dX8_move_73 rfl mkX8_59 rfl rfl rfl rfl rfl rfl rfl (Nat.le_of_ble_eq_true rfl) (Nat.le_of_ble_eq_true rfl) rfl (fun x73 h73 g73 hp73 hw73 => ?_)
                obtain ⟨rfl, rfl⟩ := hp73
                obtain rfl := Option.some.inj hw73
                refine A_h (Y63 (upd er 5 (er 5 + 1)) im s t0 g0 h0 t1 g1 h1 tl tp wl wt wh mu J pt vK vk vm tn tr v1 v2 pl ft rk rf K m0 f0 k0 m1 f1 k1 tl2 tp2 wl2 wt2 sb zs sn) rfl ?_
                refine A_iret hE dX8_move_76 ?_
                rw [moveF, if_pos ⟨hh, hg⟩, ek, el, if_neg (fun z => z.elim hb hc), if_pos hd]
                exact ⟨rfl, zs, sn, hR, rfl⟩
            · have hc := bI_1 c49
              refine A_aload_n hE 53 dX8_move_52 rfl rfl ?_
              refine A_iconst hE 54 dX8_move_53 rfl (2) rfl ?_
              refine A_callVi hE 57 (c_X8_error er im 2 (by omega)) [0, 1] dX8_move_54 rfl mkX8_59 rfl rfl rfl rfl rfl rfl rfl (Nat.le_of_ble_eq_true rfl) (Nat.le_of_ble_eq_true rfl) rfl (fun x54 h54 g54 hp54 hw54 => ?_)
              obtain ⟨rfl, rfl⟩ := hp54
              obtain rfl := Option.some.inj hw54
              refine A_h (Y63 (upd er 2 (er 2 + 1)) im s t0 g0 h0 t1 g1 h1 tl tp wl wt wh mu J pt vK vk vm tn tr v1 v2 pl ft rk rf K m0 f0 k0 m1 f1 k1 tl2 tp2 wl2 wt2 sb zs sn) rfl ?_
              refine A_iret hE dX8_move_57 ?_
              rw [moveF, if_pos ⟨hh, hg⟩, ek, el, if_pos (Or.inr hc)]
              exact ⟨rfl, zs, sn, hR, rfl⟩
        · obtain ⟨hy24, hy, hwn⟩ := hR 3 (by omega)
          refine A_aload_n hE 21 dX8_move_20 rfl rfl ?_
          refine A_get hE 24 dX8_move_21 rfl fkX8_42 rfl rfl ?_
          refine A_iload_n hE 25 dX8_move_24 rfl rfl ?_
          refine A_aald hE 26 1 dX8_move_25 rfl rfl rfl (by omega) rfl rfl ?_
          refine A_astore hE 28 dX8_move_26 rfl rfl rfl ?_
          refine A_aload_n hE 29 dX8_move_28 rfl rfl ?_
          refine A_get hE 32 dX8_move_29 rfl fkX8_42 rfl rfl ?_
          refine A_iload_n hE 33 dX8_move_32 rfl rfl ?_
          refine A_aald hE 34 3 dX8_move_33 rfl rfl rfl (by omega) rfl rfl ?_
          refine A_astore hE 36 dX8_move_34 rfl rfl rfl ?_
          refine A_aload hE 38 dX8_move_36 rfl rfl ?_
          refine A_callVi hE 41 (c_X4_isMissing (sb 1) (zs 1) (sn 1)) [54, 55, 56] dX8_move_38 rfl mkX8_222 rfl rfl rfl rfl rfl rfl rfl (Nat.le_of_ble_eq_true rfl) (Nat.le_of_ble_eq_true rfl) rfl (fun x38 h38 g38 hp38 hw38 => ?_)
          obtain ⟨rfl, rfl⟩ := hp38
          obtain rfl := Option.some.inj hw38
          refine A_h (Y63 er im s t0 g0 h0 t1 g1 h1 tl tp wl wt wh mu J pt vK vk vm tn tr v1 v2 pl ft rk rf K m0 f0 k0 m1 f1 k1 tl2 tp2 wl2 wt2 sb zs sn) rfl ?_
          refine A_if_ne hE 44 52 dX8_move_41 rfl rfl (fun c41 => ?_) (fun c41 => ?_)
          · have hb := bI_1 (show ¬ _ = 0 from c41)
            refine A_aload_n hE 53 dX8_move_52 rfl rfl ?_
            refine A_iconst hE 54 dX8_move_53 rfl (2) rfl ?_
            refine A_callVi hE 57 (c_X8_error er im 2 (by omega)) [0, 1] dX8_move_54 rfl mkX8_59 rfl rfl rfl rfl rfl rfl rfl (Nat.le_of_ble_eq_true rfl) (Nat.le_of_ble_eq_true rfl) rfl (fun x54 h54 g54 hp54 hw54 => ?_)
            obtain ⟨rfl, rfl⟩ := hp54
            obtain rfl := Option.some.inj hw54
            refine A_h (Y63 (upd er 2 (er 2 + 1)) im s t0 g0 h0 t1 g1 h1 tl tp wl wt wh mu J pt vK vk vm tn tr v1 v2 pl ft rk rf K m0 f0 k0 m1 f1 k1 tl2 tp2 wl2 wt2 sb zs sn) rfl ?_
            refine A_iret hE dX8_move_57 ?_
            rw [moveF, if_pos ⟨hh, hg⟩, ek, el, if_pos (Or.inl hb)]
            exact ⟨rfl, zs, sn, hR, rfl⟩
          · have hb := bI_0 c41
            refine A_aload hE 46 dX8_move_44 rfl rfl ?_
            refine A_callVi hE 49 (c_X4_isMissing (sb 3) (zs 3) (sn 3)) [60, 61, 62] dX8_move_46 rfl mkX8_222 rfl rfl rfl rfl rfl rfl rfl (Nat.le_of_ble_eq_true rfl) (Nat.le_of_ble_eq_true rfl) rfl (fun x46 h46 g46 hp46 hw46 => ?_)
            obtain ⟨rfl, rfl⟩ := hp46
            obtain rfl := Option.some.inj hw46
            refine A_h (Y63 er im s t0 g0 h0 t1 g1 h1 tl tp wl wt wh mu J pt vK vk vm tn tr v1 v2 pl ft rk rf K m0 f0 k0 m1 f1 k1 tl2 tp2 wl2 wt2 sb zs sn) rfl ?_
            refine A_if_eq hE 52 58 dX8_move_49 rfl rfl (fun c49 => ?_) (fun c49 => ?_)
            · have hc := bI_0 c49
              refine A_aload hE 60 dX8_move_58 rfl rfl ?_
              refine A_get hE 63 dX8_move_60 rfl fkX8_260 rfl rfl ?_
              refine A_aload hE 65 dX8_move_63 rfl rfl ?_
              refine A_get hE 68 dX8_move_65 rfl fkX8_260 rfl rfl ?_
              refine A_icmp_eq hE 71 77 dX8_move_68 rfl rfl (fun c68 => ?_) (fun c68 => ?_)
              · have hd : sb 1 = sb 3 := c68
                refine A_aload hE 79 dX8_move_77 rfl rfl ?_
                refine A_get hE 82 dX8_move_79 rfl fkX8_226 rfl rfl ?_
                refine A_iload_n hE 83 dX8_move_82 rfl rfl ?_
                refine A_iload hE 85 dX8_move_83 rfl rfl ?_
                refine A_callVi hE 88 (c_X3_hasRun 24 (sn 1) (nI (zs 1)) i n) [55, 56] dX8_move_85 rfl mkX8_263 rfl rfl rfl rfl rfl rfl rfl (Nat.le_of_ble_eq_true rfl) (Nat.le_of_ble_eq_true rfl) rfl (fun x85 h85 g85 hp85 hw85 => ?_)
                obtain ⟨rfl, rfl⟩ := hp85
                obtain rfl := Option.some.inj hw85
                refine A_h (Y63 er im s t0 g0 h0 t1 g1 h1 tl tp wl wt wh mu J pt vK vk vm tn tr v1 v2 pl ft rk rf K m0 f0 k0 m1 f1 k1 tl2 tp2 wl2 wt2 sb zs sn) rfl ?_
                refine A_if_eq hE 91 106 dX8_move_88 rfl rfl (fun c88 => ?_) (fun c88 => ?_)
                · have r1 := bI_0 c88
                  refine A_aload_n hE 107 dX8_move_106 rfl rfl ?_
                  refine A_iconst hE 108 dX8_move_107 rfl (1) rfl ?_
                  refine A_callVi hE 111 (c_X8_error er im 1 (by omega)) [0, 1] dX8_move_108 rfl mkX8_59 rfl rfl rfl rfl rfl rfl rfl (Nat.le_of_ble_eq_true rfl) (Nat.le_of_ble_eq_true rfl) rfl (fun x108 h108 g108 hp108 hw108 => ?_)
                  obtain ⟨rfl, rfl⟩ := hp108
                  obtain rfl := Option.some.inj hw108
                  refine A_h (Y63 (upd er 1 (er 1 + 1)) im s t0 g0 h0 t1 g1 h1 tl tp wl wt wh mu J pt vK vk vm tn tr v1 v2 pl ft rk rf K m0 f0 k0 m1 f1 k1 tl2 tp2 wl2 wt2 sb zs sn) rfl ?_
                  refine A_iret hE dX8_move_111 ?_
                  rw [moveF, if_pos ⟨hh, hg⟩, ek, el, if_neg (fun z => z.elim hb hc), if_neg (fun z => z hd), if_neg (fun z => r1 ⟨z.1, mv_n hz24 z.1 z.2.1 (by have y := z.2.2.2.1; rw [hz] at y; exact y), z.2.1, by have y := z.2.2.2.1; rw [hz] at y; exact y⟩)]
                  exact ⟨rfl, zs, sn, hR, rfl⟩
                · have r1 := bI_1 c88
                  refine A_aload hE 93 dX8_move_91 rfl rfl ?_
                  refine A_get hE 96 dX8_move_93 rfl fkX8_226 rfl rfl ?_
                  refine A_iload hE 98 dX8_move_96 rfl rfl ?_
                  refine A_iload hE 100 dX8_move_98 rfl rfl ?_
                  refine A_callVi hE 103 (c_X3_hasRun 24 (sn 3) (nI (zs 3)) j n) [61, 62] dX8_move_100 rfl mkX8_263 rfl rfl rfl rfl rfl rfl rfl (Nat.le_of_ble_eq_true rfl) (Nat.le_of_ble_eq_true rfl) rfl (fun x100 h100 g100 hp100 hw100 => ?_)
                  obtain ⟨rfl, rfl⟩ := hp100
                  obtain rfl := Option.some.inj hw100
                  refine A_h (Y63 er im s t0 g0 h0 t1 g1 h1 tl tp wl wt wh mu J pt vK vk vm tn tr v1 v2 pl ft rk rf K m0 f0 k0 m1 f1 k1 tl2 tp2 wl2 wt2 sb zs sn) rfl ?_
                  refine A_if_ne hE 106 112 dX8_move_103 rfl rfl (fun c103 => ?_) (fun c103 => ?_)
                  · have r2 := bI_1 c103
                    obtain ⟨p, hp, rfl⟩ := nI_of (iN r1.2.2.1)
                    obtain ⟨r, hr, rfl⟩ := nI_of (iN r2.2.2.1)
                    obtain ⟨a, ha, rfl⟩ := nI_of (iN r1.1)
                    have b1 := mv_le hp hz24 ha r1.2.2.2
                    have b2 := mv_le hr hy24 ha r2.2.2.2
                    have ep : (nI p).toNatClampNeg = p := nI_clamp hp
                    have er' : (nI r).toNatClampNeg = r := nI_clamp hr
                    have ea : (nI a).toNatClampNeg = a := nI_clamp ha
                    refine A_aload hE 114 dX8_move_112 rfl rfl ?_
                    refine A_get hE 117 dX8_move_114 rfl fkX8_226 rfl rfl ?_
                    refine A_get hE 120 dX8_move_117 rfl fkX8_249 rfl rfl ?_
                    refine A_iload_n hE 121 dX8_move_120 rfl rfl ?_
                    refine A_aload hE 123 dX8_move_121 rfl rfl ?_
                    refine A_get hE 126 dX8_move_123 rfl fkX8_226 rfl rfl ?_
                    refine A_get hE 129 dX8_move_126 rfl fkX8_249 rfl rfl ?_
                    refine A_iload hE 131 dX8_move_129 rfl rfl ?_
                    refine A_iload hE 133 dX8_move_131 rfl rfl ?_
                    refine A_copyi hE 136 dX8_move_133 rfl acRX8 acN acS acI rfl rfl (nI_pos hp) (nI_pos hr) (nI_pos ha) (by rw [ep, ea]; omega) (by rw [er', ea]; omega) rfl (by decide) rfl ?_
                    refine A_h (Y63 er im s t0 g0 h0 t1 g1 h1 tl tp wl wt wh mu J pt vK vk vm tn tr v1 v2 pl ft rk rf K m0 f0 k0 m1 f1 k1 tl2 tp2 wl2 wt2 sb zs (updS sn 3 (va_cpy (sn 1) (sn 3) p r a))) (by rw [ep, er', ea]; rfl) ?_
                    refine A_iload hE 138 dX8_move_136 rfl rfl ?_
                    refine A_iret hE dX8_move_138 ?_
                    rw [moveF, if_pos ⟨hh, hg⟩, ek, el, if_neg (fun z => z.elim hb hc), if_neg (fun z => z hd), if_pos ⟨r1.1, r1.2.2.1, r2.2.2.1, by rw [hz]; exact r1.2.2.2, by rw [hy]; exact r2.2.2.2⟩, ep, er', ea]
                    exact ⟨rfl, _, _, hR.mov (k := 1) (l := 3) (by omega) (by omega) b1 b2, rfl⟩
                  · have r2 := bI_0 c103
                    refine A_aload_n hE 107 dX8_move_106 rfl rfl ?_
                    refine A_iconst hE 108 dX8_move_107 rfl (1) rfl ?_
                    refine A_callVi hE 111 (c_X8_error er im 1 (by omega)) [0, 1] dX8_move_108 rfl mkX8_59 rfl rfl rfl rfl rfl rfl rfl (Nat.le_of_ble_eq_true rfl) (Nat.le_of_ble_eq_true rfl) rfl (fun x108 h108 g108 hp108 hw108 => ?_)
                    obtain ⟨rfl, rfl⟩ := hp108
                    obtain rfl := Option.some.inj hw108
                    refine A_h (Y63 (upd er 1 (er 1 + 1)) im s t0 g0 h0 t1 g1 h1 tl tp wl wt wh mu J pt vK vk vm tn tr v1 v2 pl ft rk rf K m0 f0 k0 m1 f1 k1 tl2 tp2 wl2 wt2 sb zs sn) rfl ?_
                    refine A_iret hE dX8_move_111 ?_
                    rw [moveF, if_pos ⟨hh, hg⟩, ek, el, if_neg (fun z => z.elim hb hc), if_neg (fun z => z hd), if_neg (fun z => r2 ⟨z.1, mv_n hy24 z.1 z.2.2.1 (by have y := z.2.2.2.2; rw [hy] at y; exact y), z.2.2.1, by have y := z.2.2.2.2; rw [hy] at y; exact y⟩)]
                    exact ⟨rfl, zs, sn, hR, rfl⟩
              · have hd : ¬ sb 1 = sb 3 := c68
                refine A_aload_n hE 72 dX8_move_71 rfl rfl ?_
                refine A_iconst hE 73 dX8_move_72 rfl (5) rfl ?_
                refine A_callVi hE 76 (c_X8_error er im 5 (by omega)) [0, 1] dX8_move_73 rfl mkX8_59 rfl rfl rfl rfl rfl rfl rfl (Nat.le_of_ble_eq_true rfl) (Nat.le_of_ble_eq_true rfl) rfl (fun x73 h73 g73 hp73 hw73 => ?_)
                obtain ⟨rfl, rfl⟩ := hp73
                obtain rfl := Option.some.inj hw73
                refine A_h (Y63 (upd er 5 (er 5 + 1)) im s t0 g0 h0 t1 g1 h1 tl tp wl wt wh mu J pt vK vk vm tn tr v1 v2 pl ft rk rf K m0 f0 k0 m1 f1 k1 tl2 tp2 wl2 wt2 sb zs sn) rfl ?_
                refine A_iret hE dX8_move_76 ?_
                rw [moveF, if_pos ⟨hh, hg⟩, ek, el, if_neg (fun z => z.elim hb hc), if_pos hd]
                exact ⟨rfl, zs, sn, hR, rfl⟩
            · have hc := bI_1 c49
              refine A_aload_n hE 53 dX8_move_52 rfl rfl ?_
              refine A_iconst hE 54 dX8_move_53 rfl (2) rfl ?_
              refine A_callVi hE 57 (c_X8_error er im 2 (by omega)) [0, 1] dX8_move_54 rfl mkX8_59 rfl rfl rfl rfl rfl rfl rfl (Nat.le_of_ble_eq_true rfl) (Nat.le_of_ble_eq_true rfl) rfl (fun x54 h54 g54 hp54 hw54 => ?_)
              obtain ⟨rfl, rfl⟩ := hp54
              obtain rfl := Option.some.inj hw54
              refine A_h (Y63 (upd er 2 (er 2 + 1)) im s t0 g0 h0 t1 g1 h1 tl tp wl wt wh mu J pt vK vk vm tn tr v1 v2 pl ft rk rf K m0 f0 k0 m1 f1 k1 tl2 tp2 wl2 wt2 sb zs sn) rfl ?_
              refine A_iret hE dX8_move_57 ?_
              rw [moveF, if_pos ⟨hh, hg⟩, ek, el, if_pos (Or.inr hc)]
              exact ⟨rfl, zs, sn, hR, rfl⟩
      · obtain ⟨hz24, hz, hvn⟩ := hR 2 (by omega)
        rcases (show l = 0 ∨ l = 1 ∨ l = 2 ∨ l = 3 by omega) with rfl | rfl | rfl | rfl
        · obtain ⟨hy24, hy, hwn⟩ := hR 0 (by omega)
          refine A_aload_n hE 21 dX8_move_20 rfl rfl ?_
          refine A_get hE 24 dX8_move_21 rfl fkX8_42 rfl rfl ?_
          refine A_iload_n hE 25 dX8_move_24 rfl rfl ?_
          refine A_aald hE 26 2 dX8_move_25 rfl rfl rfl (by omega) rfl rfl ?_
          refine A_astore hE 28 dX8_move_26 rfl rfl rfl ?_
          refine A_aload_n hE 29 dX8_move_28 rfl rfl ?_
          refine A_get hE 32 dX8_move_29 rfl fkX8_42 rfl rfl ?_
          refine A_iload_n hE 33 dX8_move_32 rfl rfl ?_
          refine A_aald hE 34 0 dX8_move_33 rfl rfl rfl (by omega) rfl rfl ?_
          refine A_astore hE 36 dX8_move_34 rfl rfl rfl ?_
          refine A_aload hE 38 dX8_move_36 rfl rfl ?_
          refine A_callVi hE 41 (c_X4_isMissing (sb 2) (zs 2) (sn 2)) [57, 58, 59] dX8_move_38 rfl mkX8_222 rfl rfl rfl rfl rfl rfl rfl (Nat.le_of_ble_eq_true rfl) (Nat.le_of_ble_eq_true rfl) rfl (fun x38 h38 g38 hp38 hw38 => ?_)
          obtain ⟨rfl, rfl⟩ := hp38
          obtain rfl := Option.some.inj hw38
          refine A_h (Y63 er im s t0 g0 h0 t1 g1 h1 tl tp wl wt wh mu J pt vK vk vm tn tr v1 v2 pl ft rk rf K m0 f0 k0 m1 f1 k1 tl2 tp2 wl2 wt2 sb zs sn) rfl ?_
          refine A_if_ne hE 44 52 dX8_move_41 rfl rfl (fun c41 => ?_) (fun c41 => ?_)
          · have hb := bI_1 (show ¬ _ = 0 from c41)
            refine A_aload_n hE 53 dX8_move_52 rfl rfl ?_
            refine A_iconst hE 54 dX8_move_53 rfl (2) rfl ?_
            refine A_callVi hE 57 (c_X8_error er im 2 (by omega)) [0, 1] dX8_move_54 rfl mkX8_59 rfl rfl rfl rfl rfl rfl rfl (Nat.le_of_ble_eq_true rfl) (Nat.le_of_ble_eq_true rfl) rfl (fun x54 h54 g54 hp54 hw54 => ?_)
            obtain ⟨rfl, rfl⟩ := hp54
            obtain rfl := Option.some.inj hw54
            refine A_h (Y63 (upd er 2 (er 2 + 1)) im s t0 g0 h0 t1 g1 h1 tl tp wl wt wh mu J pt vK vk vm tn tr v1 v2 pl ft rk rf K m0 f0 k0 m1 f1 k1 tl2 tp2 wl2 wt2 sb zs sn) rfl ?_
            refine A_iret hE dX8_move_57 ?_
            rw [moveF, if_pos ⟨hh, hg⟩, ek, el, if_pos (Or.inl hb)]
            exact ⟨rfl, zs, sn, hR, rfl⟩
          · have hb := bI_0 c41
            refine A_aload hE 46 dX8_move_44 rfl rfl ?_
            refine A_callVi hE 49 (c_X4_isMissing (sb 0) (zs 0) (sn 0)) [51, 52, 53] dX8_move_46 rfl mkX8_222 rfl rfl rfl rfl rfl rfl rfl (Nat.le_of_ble_eq_true rfl) (Nat.le_of_ble_eq_true rfl) rfl (fun x46 h46 g46 hp46 hw46 => ?_)
            obtain ⟨rfl, rfl⟩ := hp46
            obtain rfl := Option.some.inj hw46
            refine A_h (Y63 er im s t0 g0 h0 t1 g1 h1 tl tp wl wt wh mu J pt vK vk vm tn tr v1 v2 pl ft rk rf K m0 f0 k0 m1 f1 k1 tl2 tp2 wl2 wt2 sb zs sn) rfl ?_
            refine A_if_eq hE 52 58 dX8_move_49 rfl rfl (fun c49 => ?_) (fun c49 => ?_)
            · have hc := bI_0 c49
              refine A_aload hE 60 dX8_move_58 rfl rfl ?_
              refine A_get hE 63 dX8_move_60 rfl fkX8_260 rfl rfl ?_
              refine A_aload hE 65 dX8_move_63 rfl rfl ?_
              refine A_get hE 68 dX8_move_65 rfl fkX8_260 rfl rfl ?_
              refine A_icmp_eq hE 71 77 dX8_move_68 rfl rfl (fun c68 => ?_) (fun c68 => ?_)
              · have hd : sb 2 = sb 0 := c68
                refine A_aload hE 79 dX8_move_77 rfl rfl ?_
                refine A_get hE 82 dX8_move_79 rfl fkX8_226 rfl rfl ?_
                refine A_iload_n hE 83 dX8_move_82 rfl rfl ?_
                refine A_iload hE 85 dX8_move_83 rfl rfl ?_
                refine A_callVi hE 88 (c_X3_hasRun 24 (sn 2) (nI (zs 2)) i n) [58, 59] dX8_move_85 rfl mkX8_263 rfl rfl rfl rfl rfl rfl rfl (Nat.le_of_ble_eq_true rfl) (Nat.le_of_ble_eq_true rfl) rfl (fun x85 h85 g85 hp85 hw85 => ?_)
                obtain ⟨rfl, rfl⟩ := hp85
                obtain rfl := Option.some.inj hw85
                refine A_h (Y63 er im s t0 g0 h0 t1 g1 h1 tl tp wl wt wh mu J pt vK vk vm tn tr v1 v2 pl ft rk rf K m0 f0 k0 m1 f1 k1 tl2 tp2 wl2 wt2 sb zs sn) rfl ?_
                refine A_if_eq hE 91 106 dX8_move_88 rfl rfl (fun c88 => ?_) (fun c88 => ?_)
                · have r1 := bI_0 c88
                  refine A_aload_n hE 107 dX8_move_106 rfl rfl ?_
                  refine A_iconst hE 108 dX8_move_107 rfl (1) rfl ?_
                  refine A_callVi hE 111 (c_X8_error er im 1 (by omega)) [0, 1] dX8_move_108 rfl mkX8_59 rfl rfl rfl rfl rfl rfl rfl (Nat.le_of_ble_eq_true rfl) (Nat.le_of_ble_eq_true rfl) rfl (fun x108 h108 g108 hp108 hw108 => ?_)
                  obtain ⟨rfl, rfl⟩ := hp108
                  obtain rfl := Option.some.inj hw108
                  refine A_h (Y63 (upd er 1 (er 1 + 1)) im s t0 g0 h0 t1 g1 h1 tl tp wl wt wh mu J pt vK vk vm tn tr v1 v2 pl ft rk rf K m0 f0 k0 m1 f1 k1 tl2 tp2 wl2 wt2 sb zs sn) rfl ?_
                  refine A_iret hE dX8_move_111 ?_
                  rw [moveF, if_pos ⟨hh, hg⟩, ek, el, if_neg (fun z => z.elim hb hc), if_neg (fun z => z hd), if_neg (fun z => r1 ⟨z.1, mv_n hz24 z.1 z.2.1 (by have y := z.2.2.2.1; rw [hz] at y; exact y), z.2.1, by have y := z.2.2.2.1; rw [hz] at y; exact y⟩)]
                  exact ⟨rfl, zs, sn, hR, rfl⟩
                · have r1 := bI_1 c88
                  refine A_aload hE 93 dX8_move_91 rfl rfl ?_
                  refine A_get hE 96 dX8_move_93 rfl fkX8_226 rfl rfl ?_
                  refine A_iload hE 98 dX8_move_96 rfl rfl ?_
                  refine A_iload hE 100 dX8_move_98 rfl rfl ?_
                  refine A_callVi hE 103 (c_X3_hasRun 24 (sn 0) (nI (zs 0)) j n) [52, 53] dX8_move_100 rfl mkX8_263 rfl rfl rfl rfl rfl rfl rfl (Nat.le_of_ble_eq_true rfl) (Nat.le_of_ble_eq_true rfl) rfl (fun x100 h100 g100 hp100 hw100 => ?_)
                  obtain ⟨rfl, rfl⟩ := hp100
                  obtain rfl := Option.some.inj hw100
                  refine A_h (Y63 er im s t0 g0 h0 t1 g1 h1 tl tp wl wt wh mu J pt vK vk vm tn tr v1 v2 pl ft rk rf K m0 f0 k0 m1 f1 k1 tl2 tp2 wl2 wt2 sb zs sn) rfl ?_
                  refine A_if_ne hE 106 112 dX8_move_103 rfl rfl (fun c103 => ?_) (fun c103 => ?_)
                  · have r2 := bI_1 c103
                    obtain ⟨p, hp, rfl⟩ := nI_of (iN r1.2.2.1)
                    obtain ⟨r, hr, rfl⟩ := nI_of (iN r2.2.2.1)
                    obtain ⟨a, ha, rfl⟩ := nI_of (iN r1.1)
                    have b1 := mv_le hp hz24 ha r1.2.2.2
                    have b2 := mv_le hr hy24 ha r2.2.2.2
                    have ep : (nI p).toNatClampNeg = p := nI_clamp hp
                    have er' : (nI r).toNatClampNeg = r := nI_clamp hr
                    have ea : (nI a).toNatClampNeg = a := nI_clamp ha
                    refine A_aload hE 114 dX8_move_112 rfl rfl ?_
                    refine A_get hE 117 dX8_move_114 rfl fkX8_226 rfl rfl ?_
                    refine A_get hE 120 dX8_move_117 rfl fkX8_249 rfl rfl ?_
                    refine A_iload_n hE 121 dX8_move_120 rfl rfl ?_
                    refine A_aload hE 123 dX8_move_121 rfl rfl ?_
                    refine A_get hE 126 dX8_move_123 rfl fkX8_226 rfl rfl ?_
                    refine A_get hE 129 dX8_move_126 rfl fkX8_249 rfl rfl ?_
                    refine A_iload hE 131 dX8_move_129 rfl rfl ?_
                    refine A_iload hE 133 dX8_move_131 rfl rfl ?_
                    refine A_copyi hE 136 dX8_move_133 rfl acRX8 acN acS acI rfl rfl (nI_pos hp) (nI_pos hr) (nI_pos ha) (by rw [ep, ea]; omega) (by rw [er', ea]; omega) rfl (by decide) rfl ?_
                    refine A_h (Y63 er im s t0 g0 h0 t1 g1 h1 tl tp wl wt wh mu J pt vK vk vm tn tr v1 v2 pl ft rk rf K m0 f0 k0 m1 f1 k1 tl2 tp2 wl2 wt2 sb zs (updS sn 0 (va_cpy (sn 2) (sn 0) p r a))) (by rw [ep, er', ea]; rfl) ?_
                    refine A_iload hE 138 dX8_move_136 rfl rfl ?_
                    refine A_iret hE dX8_move_138 ?_
                    rw [moveF, if_pos ⟨hh, hg⟩, ek, el, if_neg (fun z => z.elim hb hc), if_neg (fun z => z hd), if_pos ⟨r1.1, r1.2.2.1, r2.2.2.1, by rw [hz]; exact r1.2.2.2, by rw [hy]; exact r2.2.2.2⟩, ep, er', ea]
                    exact ⟨rfl, _, _, hR.mov (k := 2) (l := 0) (by omega) (by omega) b1 b2, rfl⟩
                  · have r2 := bI_0 c103
                    refine A_aload_n hE 107 dX8_move_106 rfl rfl ?_
                    refine A_iconst hE 108 dX8_move_107 rfl (1) rfl ?_
                    refine A_callVi hE 111 (c_X8_error er im 1 (by omega)) [0, 1] dX8_move_108 rfl mkX8_59 rfl rfl rfl rfl rfl rfl rfl (Nat.le_of_ble_eq_true rfl) (Nat.le_of_ble_eq_true rfl) rfl (fun x108 h108 g108 hp108 hw108 => ?_)
                    obtain ⟨rfl, rfl⟩ := hp108
                    obtain rfl := Option.some.inj hw108
                    refine A_h (Y63 (upd er 1 (er 1 + 1)) im s t0 g0 h0 t1 g1 h1 tl tp wl wt wh mu J pt vK vk vm tn tr v1 v2 pl ft rk rf K m0 f0 k0 m1 f1 k1 tl2 tp2 wl2 wt2 sb zs sn) rfl ?_
                    refine A_iret hE dX8_move_111 ?_
                    rw [moveF, if_pos ⟨hh, hg⟩, ek, el, if_neg (fun z => z.elim hb hc), if_neg (fun z => z hd), if_neg (fun z => r2 ⟨z.1, mv_n hy24 z.1 z.2.2.1 (by have y := z.2.2.2.2; rw [hy] at y; exact y), z.2.2.1, by have y := z.2.2.2.2; rw [hy] at y; exact y⟩)]
                    exact ⟨rfl, zs, sn, hR, rfl⟩
              · have hd : ¬ sb 2 = sb 0 := c68
                refine A_aload_n hE 72 dX8_move_71 rfl rfl ?_
                refine A_iconst hE 73 dX8_move_72 rfl (5) rfl ?_
                refine A_callVi hE 76 (c_X8_error er im 5 (by omega)) [0, 1] dX8_move_73 rfl mkX8_59 rfl rfl rfl rfl rfl rfl rfl (Nat.le_of_ble_eq_true rfl) (Nat.le_of_ble_eq_true rfl) rfl (fun x73 h73 g73 hp73 hw73 => ?_)
                obtain ⟨rfl, rfl⟩ := hp73
                obtain rfl := Option.some.inj hw73
                refine A_h (Y63 (upd er 5 (er 5 + 1)) im s t0 g0 h0 t1 g1 h1 tl tp wl wt wh mu J pt vK vk vm tn tr v1 v2 pl ft rk rf K m0 f0 k0 m1 f1 k1 tl2 tp2 wl2 wt2 sb zs sn) rfl ?_
                refine A_iret hE dX8_move_76 ?_
                rw [moveF, if_pos ⟨hh, hg⟩, ek, el, if_neg (fun z => z.elim hb hc), if_pos hd]
                exact ⟨rfl, zs, sn, hR, rfl⟩
            · have hc := bI_1 c49
              refine A_aload_n hE 53 dX8_move_52 rfl rfl ?_
              refine A_iconst hE 54 dX8_move_53 rfl (2) rfl ?_
              refine A_callVi hE 57 (c_X8_error er im 2 (by omega)) [0, 1] dX8_move_54 rfl mkX8_59 rfl rfl rfl rfl rfl rfl rfl (Nat.le_of_ble_eq_true rfl) (Nat.le_of_ble_eq_true rfl) rfl (fun x54 h54 g54 hp54 hw54 => ?_)
              obtain ⟨rfl, rfl⟩ := hp54
              obtain rfl := Option.some.inj hw54
              refine A_h (Y63 (upd er 2 (er 2 + 1)) im s t0 g0 h0 t1 g1 h1 tl tp wl wt wh mu J pt vK vk vm tn tr v1 v2 pl ft rk rf K m0 f0 k0 m1 f1 k1 tl2 tp2 wl2 wt2 sb zs sn) rfl ?_
              refine A_iret hE dX8_move_57 ?_
              rw [moveF, if_pos ⟨hh, hg⟩, ek, el, if_pos (Or.inr hc)]
              exact ⟨rfl, zs, sn, hR, rfl⟩
        · obtain ⟨hy24, hy, hwn⟩ := hR 1 (by omega)
          refine A_aload_n hE 21 dX8_move_20 rfl rfl ?_
          refine A_get hE 24 dX8_move_21 rfl fkX8_42 rfl rfl ?_
          refine A_iload_n hE 25 dX8_move_24 rfl rfl ?_
          refine A_aald hE 26 2 dX8_move_25 rfl rfl rfl (by omega) rfl rfl ?_
          refine A_astore hE 28 dX8_move_26 rfl rfl rfl ?_
          refine A_aload_n hE 29 dX8_move_28 rfl rfl ?_
          refine A_get hE 32 dX8_move_29 rfl fkX8_42 rfl rfl ?_
          refine A_iload_n hE 33 dX8_move_32 rfl rfl ?_
          refine A_aald hE 34 1 dX8_move_33 rfl rfl rfl (by omega) rfl rfl ?_
          refine A_astore hE 36 dX8_move_34 rfl rfl rfl ?_
          refine A_aload hE 38 dX8_move_36 rfl rfl ?_
          refine A_callVi hE 41 (c_X4_isMissing (sb 2) (zs 2) (sn 2)) [57, 58, 59] dX8_move_38 rfl mkX8_222 rfl rfl rfl rfl rfl rfl rfl (Nat.le_of_ble_eq_true rfl) (Nat.le_of_ble_eq_true rfl) rfl (fun x38 h38 g38 hp38 hw38 => ?_)
          obtain ⟨rfl, rfl⟩ := hp38
          obtain rfl := Option.some.inj hw38
          refine A_h (Y63 er im s t0 g0 h0 t1 g1 h1 tl tp wl wt wh mu J pt vK vk vm tn tr v1 v2 pl ft rk rf K m0 f0 k0 m1 f1 k1 tl2 tp2 wl2 wt2 sb zs sn) rfl ?_
          refine A_if_ne hE 44 52 dX8_move_41 rfl rfl (fun c41 => ?_) (fun c41 => ?_)
          · have hb := bI_1 (show ¬ _ = 0 from c41)
            refine A_aload_n hE 53 dX8_move_52 rfl rfl ?_
            refine A_iconst hE 54 dX8_move_53 rfl (2) rfl ?_
            refine A_callVi hE 57 (c_X8_error er im 2 (by omega)) [0, 1] dX8_move_54 rfl mkX8_59 rfl rfl rfl rfl rfl rfl rfl (Nat.le_of_ble_eq_true rfl) (Nat.le_of_ble_eq_true rfl) rfl (fun x54 h54 g54 hp54 hw54 => ?_)
            obtain ⟨rfl, rfl⟩ := hp54
            obtain rfl := Option.some.inj hw54
            refine A_h (Y63 (upd er 2 (er 2 + 1)) im s t0 g0 h0 t1 g1 h1 tl tp wl wt wh mu J pt vK vk vm tn tr v1 v2 pl ft rk rf K m0 f0 k0 m1 f1 k1 tl2 tp2 wl2 wt2 sb zs sn) rfl ?_
            refine A_iret hE dX8_move_57 ?_
            rw [moveF, if_pos ⟨hh, hg⟩, ek, el, if_pos (Or.inl hb)]
            exact ⟨rfl, zs, sn, hR, rfl⟩
          · have hb := bI_0 c41
            refine A_aload hE 46 dX8_move_44 rfl rfl ?_
            refine A_callVi hE 49 (c_X4_isMissing (sb 1) (zs 1) (sn 1)) [54, 55, 56] dX8_move_46 rfl mkX8_222 rfl rfl rfl rfl rfl rfl rfl (Nat.le_of_ble_eq_true rfl) (Nat.le_of_ble_eq_true rfl) rfl (fun x46 h46 g46 hp46 hw46 => ?_)
            obtain ⟨rfl, rfl⟩ := hp46
            obtain rfl := Option.some.inj hw46
            refine A_h (Y63 er im s t0 g0 h0 t1 g1 h1 tl tp wl wt wh mu J pt vK vk vm tn tr v1 v2 pl ft rk rf K m0 f0 k0 m1 f1 k1 tl2 tp2 wl2 wt2 sb zs sn) rfl ?_
            refine A_if_eq hE 52 58 dX8_move_49 rfl rfl (fun c49 => ?_) (fun c49 => ?_)
            · have hc := bI_0 c49
              refine A_aload hE 60 dX8_move_58 rfl rfl ?_
              refine A_get hE 63 dX8_move_60 rfl fkX8_260 rfl rfl ?_
              refine A_aload hE 65 dX8_move_63 rfl rfl ?_
              refine A_get hE 68 dX8_move_65 rfl fkX8_260 rfl rfl ?_
              refine A_icmp_eq hE 71 77 dX8_move_68 rfl rfl (fun c68 => ?_) (fun c68 => ?_)
              · have hd : sb 2 = sb 1 := c68
                refine A_aload hE 79 dX8_move_77 rfl rfl ?_
                refine A_get hE 82 dX8_move_79 rfl fkX8_226 rfl rfl ?_
                refine A_iload_n hE 83 dX8_move_82 rfl rfl ?_
                refine A_iload hE 85 dX8_move_83 rfl rfl ?_
                refine A_callVi hE 88 (c_X3_hasRun 24 (sn 2) (nI (zs 2)) i n) [58, 59] dX8_move_85 rfl mkX8_263 rfl rfl rfl rfl rfl rfl rfl (Nat.le_of_ble_eq_true rfl) (Nat.le_of_ble_eq_true rfl) rfl (fun x85 h85 g85 hp85 hw85 => ?_)
                obtain ⟨rfl, rfl⟩ := hp85
                obtain rfl := Option.some.inj hw85
                refine A_h (Y63 er im s t0 g0 h0 t1 g1 h1 tl tp wl wt wh mu J pt vK vk vm tn tr v1 v2 pl ft rk rf K m0 f0 k0 m1 f1 k1 tl2 tp2 wl2 wt2 sb zs sn) rfl ?_
                refine A_if_eq hE 91 106 dX8_move_88 rfl rfl (fun c88 => ?_) (fun c88 => ?_)
                · have r1 := bI_0 c88
                  refine A_aload_n hE 107 dX8_move_106 rfl rfl ?_
                  refine A_iconst hE 108 dX8_move_107 rfl (1) rfl ?_
                  refine A_callVi hE 111 (c_X8_error er im 1 (by omega)) [0, 1] dX8_move_108 rfl mkX8_59 rfl rfl rfl rfl rfl rfl rfl (Nat.le_of_ble_eq_true rfl) (Nat.le_of_ble_eq_true rfl) rfl (fun x108 h108 g108 hp108 hw108 => ?_)
                  obtain ⟨rfl, rfl⟩ := hp108
                  obtain rfl := Option.some.inj hw108
                  refine A_h (Y63 (upd er 1 (er 1 + 1)) im s t0 g0 h0 t1 g1 h1 tl tp wl wt wh mu J pt vK vk vm tn tr v1 v2 pl ft rk rf K m0 f0 k0 m1 f1 k1 tl2 tp2 wl2 wt2 sb zs sn) rfl ?_
                  refine A_iret hE dX8_move_111 ?_
                  rw [moveF, if_pos ⟨hh, hg⟩, ek, el, if_neg (fun z => z.elim hb hc), if_neg (fun z => z hd), if_neg (fun z => r1 ⟨z.1, mv_n hz24 z.1 z.2.1 (by have y := z.2.2.2.1; rw [hz] at y; exact y), z.2.1, by have y := z.2.2.2.1; rw [hz] at y; exact y⟩)]
                  exact ⟨rfl, zs, sn, hR, rfl⟩
                · have r1 := bI_1 c88
                  refine A_aload hE 93 dX8_move_91 rfl rfl ?_
                  refine A_get hE 96 dX8_move_93 rfl fkX8_226 rfl rfl ?_
                  refine A_iload hE 98 dX8_move_96 rfl rfl ?_
                  refine A_iload hE 100 dX8_move_98 rfl rfl ?_
                  refine A_callVi hE 103 (c_X3_hasRun 24 (sn 1) (nI (zs 1)) j n) [55, 56] dX8_move_100 rfl mkX8_263 rfl rfl rfl rfl rfl rfl rfl (Nat.le_of_ble_eq_true rfl) (Nat.le_of_ble_eq_true rfl) rfl (fun x100 h100 g100 hp100 hw100 => ?_)
                  obtain ⟨rfl, rfl⟩ := hp100
                  obtain rfl := Option.some.inj hw100
                  refine A_h (Y63 er im s t0 g0 h0 t1 g1 h1 tl tp wl wt wh mu J pt vK vk vm tn tr v1 v2 pl ft rk rf K m0 f0 k0 m1 f1 k1 tl2 tp2 wl2 wt2 sb zs sn) rfl ?_
                  refine A_if_ne hE 106 112 dX8_move_103 rfl rfl (fun c103 => ?_) (fun c103 => ?_)
                  · have r2 := bI_1 c103
                    obtain ⟨p, hp, rfl⟩ := nI_of (iN r1.2.2.1)
                    obtain ⟨r, hr, rfl⟩ := nI_of (iN r2.2.2.1)
                    obtain ⟨a, ha, rfl⟩ := nI_of (iN r1.1)
                    have b1 := mv_le hp hz24 ha r1.2.2.2
                    have b2 := mv_le hr hy24 ha r2.2.2.2
                    have ep : (nI p).toNatClampNeg = p := nI_clamp hp
                    have er' : (nI r).toNatClampNeg = r := nI_clamp hr
                    have ea : (nI a).toNatClampNeg = a := nI_clamp ha
                    refine A_aload hE 114 dX8_move_112 rfl rfl ?_
                    refine A_get hE 117 dX8_move_114 rfl fkX8_226 rfl rfl ?_
                    refine A_get hE 120 dX8_move_117 rfl fkX8_249 rfl rfl ?_
                    refine A_iload_n hE 121 dX8_move_120 rfl rfl ?_
                    refine A_aload hE 123 dX8_move_121 rfl rfl ?_
                    refine A_get hE 126 dX8_move_123 rfl fkX8_226 rfl rfl ?_
                    refine A_get hE 129 dX8_move_126 rfl fkX8_249 rfl rfl ?_
                    refine A_iload hE 131 dX8_move_129 rfl rfl ?_
                    refine A_iload hE 133 dX8_move_131 rfl rfl ?_
                    refine A_copyi hE 136 dX8_move_133 rfl acRX8 acN acS acI rfl rfl (nI_pos hp) (nI_pos hr) (nI_pos ha) (by rw [ep, ea]; omega) (by rw [er', ea]; omega) rfl (by decide) rfl ?_
                    refine A_h (Y63 er im s t0 g0 h0 t1 g1 h1 tl tp wl wt wh mu J pt vK vk vm tn tr v1 v2 pl ft rk rf K m0 f0 k0 m1 f1 k1 tl2 tp2 wl2 wt2 sb zs (updS sn 1 (va_cpy (sn 2) (sn 1) p r a))) (by rw [ep, er', ea]; rfl) ?_
                    refine A_iload hE 138 dX8_move_136 rfl rfl ?_
                    refine A_iret hE dX8_move_138 ?_
                    rw [moveF, if_pos ⟨hh, hg⟩, ek, el, if_neg (fun z => z.elim hb hc), if_neg (fun z => z hd), if_pos ⟨r1.1, r1.2.2.1, r2.2.2.1, by rw [hz]; exact r1.2.2.2, by rw [hy]; exact r2.2.2.2⟩, ep, er', ea]
                    exact ⟨rfl, _, _, hR.mov (k := 2) (l := 1) (by omega) (by omega) b1 b2, rfl⟩
                  · have r2 := bI_0 c103
                    refine A_aload_n hE 107 dX8_move_106 rfl rfl ?_
                    refine A_iconst hE 108 dX8_move_107 rfl (1) rfl ?_
                    refine A_callVi hE 111 (c_X8_error er im 1 (by omega)) [0, 1] dX8_move_108 rfl mkX8_59 rfl rfl rfl rfl rfl rfl rfl (Nat.le_of_ble_eq_true rfl) (Nat.le_of_ble_eq_true rfl) rfl (fun x108 h108 g108 hp108 hw108 => ?_)
                    obtain ⟨rfl, rfl⟩ := hp108
                    obtain rfl := Option.some.inj hw108
                    refine A_h (Y63 (upd er 1 (er 1 + 1)) im s t0 g0 h0 t1 g1 h1 tl tp wl wt wh mu J pt vK vk vm tn tr v1 v2 pl ft rk rf K m0 f0 k0 m1 f1 k1 tl2 tp2 wl2 wt2 sb zs sn) rfl ?_
                    refine A_iret hE dX8_move_111 ?_
                    rw [moveF, if_pos ⟨hh, hg⟩, ek, el, if_neg (fun z => z.elim hb hc), if_neg (fun z => z hd), if_neg (fun z => r2 ⟨z.1, mv_n hy24 z.1 z.2.2.1 (by have y := z.2.2.2.2; rw [hy] at y; exact y), z.2.2.1, by have y := z.2.2.2.2; rw [hy] at y; exact y⟩)]
                    exact ⟨rfl, zs, sn, hR, rfl⟩
              · have hd : ¬ sb 2 = sb 1 := c68
                refine A_aload_n hE 72 dX8_move_71 rfl rfl ?_
                refine A_iconst hE 73 dX8_move_72 rfl (5) rfl ?_
                refine A_callVi hE 76 (c_X8_error er im 5 (by omega)) [0, 1] dX8_move_73 rfl mkX8_59 rfl rfl rfl rfl rfl rfl rfl (Nat.le_of_ble_eq_true rfl) (Nat.le_of_ble_eq_true rfl) rfl (fun x73 h73 g73 hp73 hw73 => ?_)
                obtain ⟨rfl, rfl⟩ := hp73
                obtain rfl := Option.some.inj hw73
                refine A_h (Y63 (upd er 5 (er 5 + 1)) im s t0 g0 h0 t1 g1 h1 tl tp wl wt wh mu J pt vK vk vm tn tr v1 v2 pl ft rk rf K m0 f0 k0 m1 f1 k1 tl2 tp2 wl2 wt2 sb zs sn) rfl ?_
                refine A_iret hE dX8_move_76 ?_
                rw [moveF, if_pos ⟨hh, hg⟩, ek, el, if_neg (fun z => z.elim hb hc), if_pos hd]
                exact ⟨rfl, zs, sn, hR, rfl⟩
            · have hc := bI_1 c49
              refine A_aload_n hE 53 dX8_move_52 rfl rfl ?_
              refine A_iconst hE 54 dX8_move_53 rfl (2) rfl ?_
              refine A_callVi hE 57 (c_X8_error er im 2 (by omega)) [0, 1] dX8_move_54 rfl mkX8_59 rfl rfl rfl rfl rfl rfl rfl (Nat.le_of_ble_eq_true rfl) (Nat.le_of_ble_eq_true rfl) rfl (fun x54 h54 g54 hp54 hw54 => ?_)
              obtain ⟨rfl, rfl⟩ := hp54
              obtain rfl := Option.some.inj hw54
              refine A_h (Y63 (upd er 2 (er 2 + 1)) im s t0 g0 h0 t1 g1 h1 tl tp wl wt wh mu J pt vK vk vm tn tr v1 v2 pl ft rk rf K m0 f0 k0 m1 f1 k1 tl2 tp2 wl2 wt2 sb zs sn) rfl ?_
              refine A_iret hE dX8_move_57 ?_
              rw [moveF, if_pos ⟨hh, hg⟩, ek, el, if_pos (Or.inr hc)]
              exact ⟨rfl, zs, sn, hR, rfl⟩
        · obtain ⟨hy24, hy, hwn⟩ := hR 2 (by omega)
          refine A_aload_n hE 21 dX8_move_20 rfl rfl ?_
          refine A_get hE 24 dX8_move_21 rfl fkX8_42 rfl rfl ?_
          refine A_iload_n hE 25 dX8_move_24 rfl rfl ?_
          refine A_aald hE 26 2 dX8_move_25 rfl rfl rfl (by omega) rfl rfl ?_
          refine A_astore hE 28 dX8_move_26 rfl rfl rfl ?_
          refine A_aload_n hE 29 dX8_move_28 rfl rfl ?_
          refine A_get hE 32 dX8_move_29 rfl fkX8_42 rfl rfl ?_
          refine A_iload_n hE 33 dX8_move_32 rfl rfl ?_
          refine A_aald hE 34 2 dX8_move_33 rfl rfl rfl (by omega) rfl rfl ?_
          refine A_astore hE 36 dX8_move_34 rfl rfl rfl ?_
          refine A_aload hE 38 dX8_move_36 rfl rfl ?_
          refine A_callVi hE 41 (c_X4_isMissing (sb 2) (zs 2) (sn 2)) [57, 58, 59] dX8_move_38 rfl mkX8_222 rfl rfl rfl rfl rfl rfl rfl (Nat.le_of_ble_eq_true rfl) (Nat.le_of_ble_eq_true rfl) rfl (fun x38 h38 g38 hp38 hw38 => ?_)
          obtain ⟨rfl, rfl⟩ := hp38
          obtain rfl := Option.some.inj hw38
          refine A_h (Y63 er im s t0 g0 h0 t1 g1 h1 tl tp wl wt wh mu J pt vK vk vm tn tr v1 v2 pl ft rk rf K m0 f0 k0 m1 f1 k1 tl2 tp2 wl2 wt2 sb zs sn) rfl ?_
          refine A_if_ne hE 44 52 dX8_move_41 rfl rfl (fun c41 => ?_) (fun c41 => ?_)
          · have hb := bI_1 (show ¬ _ = 0 from c41)
            refine A_aload_n hE 53 dX8_move_52 rfl rfl ?_
            refine A_iconst hE 54 dX8_move_53 rfl (2) rfl ?_
            refine A_callVi hE 57 (c_X8_error er im 2 (by omega)) [0, 1] dX8_move_54 rfl mkX8_59 rfl rfl rfl rfl rfl rfl rfl (Nat.le_of_ble_eq_true rfl) (Nat.le_of_ble_eq_true rfl) rfl (fun x54 h54 g54 hp54 hw54 => ?_)
            obtain ⟨rfl, rfl⟩ := hp54
            obtain rfl := Option.some.inj hw54
            refine A_h (Y63 (upd er 2 (er 2 + 1)) im s t0 g0 h0 t1 g1 h1 tl tp wl wt wh mu J pt vK vk vm tn tr v1 v2 pl ft rk rf K m0 f0 k0 m1 f1 k1 tl2 tp2 wl2 wt2 sb zs sn) rfl ?_
            refine A_iret hE dX8_move_57 ?_
            rw [moveF, if_pos ⟨hh, hg⟩, ek, if_pos (Or.inl hb)]
            exact ⟨rfl, zs, sn, hR, rfl⟩
          · have hb := bI_0 c41
            refine A_aload hE 46 dX8_move_44 rfl rfl ?_
            refine A_callVi hE 49 (c_X4_isMissing (sb 2) (zs 2) (sn 2)) [57, 58, 59] dX8_move_46 rfl mkX8_222 rfl rfl rfl rfl rfl rfl rfl (Nat.le_of_ble_eq_true rfl) (Nat.le_of_ble_eq_true rfl) rfl (fun x46 h46 g46 hp46 hw46 => ?_)
            obtain ⟨rfl, rfl⟩ := hp46
            obtain rfl := Option.some.inj hw46
            refine A_h (Y63 er im s t0 g0 h0 t1 g1 h1 tl tp wl wt wh mu J pt vK vk vm tn tr v1 v2 pl ft rk rf K m0 f0 k0 m1 f1 k1 tl2 tp2 wl2 wt2 sb zs sn) rfl ?_
            refine A_if_eq hE 52 58 dX8_move_49 rfl rfl (fun c49 => ?_) (fun c49 => ?_)
            · have hc := bI_0 c49
              refine A_aload hE 60 dX8_move_58 rfl rfl ?_
              refine A_get hE 63 dX8_move_60 rfl fkX8_260 rfl rfl ?_
              refine A_aload hE 65 dX8_move_63 rfl rfl ?_
              refine A_get hE 68 dX8_move_65 rfl fkX8_260 rfl rfl ?_
              refine A_icmp_eq hE 71 77 dX8_move_68 rfl rfl (fun c68 => ?_) (fun c68 => ?_)
              · have hd : sb 2 = sb 2 := c68
                refine A_aload hE 79 dX8_move_77 rfl rfl ?_
                refine A_get hE 82 dX8_move_79 rfl fkX8_226 rfl rfl ?_
                refine A_iload_n hE 83 dX8_move_82 rfl rfl ?_
                refine A_iload hE 85 dX8_move_83 rfl rfl ?_
                refine A_callVi hE 88 (c_X3_hasRun 24 (sn 2) (nI (zs 2)) i n) [58, 59] dX8_move_85 rfl mkX8_263 rfl rfl rfl rfl rfl rfl rfl (Nat.le_of_ble_eq_true rfl) (Nat.le_of_ble_eq_true rfl) rfl (fun x85 h85 g85 hp85 hw85 => ?_)
                obtain ⟨rfl, rfl⟩ := hp85
                obtain rfl := Option.some.inj hw85
                refine A_h (Y63 er im s t0 g0 h0 t1 g1 h1 tl tp wl wt wh mu J pt vK vk vm tn tr v1 v2 pl ft rk rf K m0 f0 k0 m1 f1 k1 tl2 tp2 wl2 wt2 sb zs sn) rfl ?_
                refine A_if_eq hE 91 106 dX8_move_88 rfl rfl (fun c88 => ?_) (fun c88 => ?_)
                · have r1 := bI_0 c88
                  refine A_aload_n hE 107 dX8_move_106 rfl rfl ?_
                  refine A_iconst hE 108 dX8_move_107 rfl (1) rfl ?_
                  refine A_callVi hE 111 (c_X8_error er im 1 (by omega)) [0, 1] dX8_move_108 rfl mkX8_59 rfl rfl rfl rfl rfl rfl rfl (Nat.le_of_ble_eq_true rfl) (Nat.le_of_ble_eq_true rfl) rfl (fun x108 h108 g108 hp108 hw108 => ?_)
                  obtain ⟨rfl, rfl⟩ := hp108
                  obtain rfl := Option.some.inj hw108
                  refine A_h (Y63 (upd er 1 (er 1 + 1)) im s t0 g0 h0 t1 g1 h1 tl tp wl wt wh mu J pt vK vk vm tn tr v1 v2 pl ft rk rf K m0 f0 k0 m1 f1 k1 tl2 tp2 wl2 wt2 sb zs sn) rfl ?_
                  refine A_iret hE dX8_move_111 ?_
                  rw [moveF, if_pos ⟨hh, hg⟩, ek, if_neg (fun z => z.elim hb hc), if_neg (fun z => z hd), if_neg (fun z => r1 ⟨z.1, mv_n hz24 z.1 z.2.1 (by have y := z.2.2.2.1; rw [hz] at y; exact y), z.2.1, by have y := z.2.2.2.1; rw [hz] at y; exact y⟩)]
                  exact ⟨rfl, zs, sn, hR, rfl⟩
                · have r1 := bI_1 c88
                  refine A_aload hE 93 dX8_move_91 rfl rfl ?_
                  refine A_get hE 96 dX8_move_93 rfl fkX8_226 rfl rfl ?_
                  refine A_iload hE 98 dX8_move_96 rfl rfl ?_
                  refine A_iload hE 100 dX8_move_98 rfl rfl ?_
                  refine A_callVi hE 103 (c_X3_hasRun 24 (sn 2) (nI (zs 2)) j n) [58, 59] dX8_move_100 rfl mkX8_263 rfl rfl rfl rfl rfl rfl rfl (Nat.le_of_ble_eq_true rfl) (Nat.le_of_ble_eq_true rfl) rfl (fun x100 h100 g100 hp100 hw100 => ?_)
                  obtain ⟨rfl, rfl⟩ := hp100
                  obtain rfl := Option.some.inj hw100
                  refine A_h (Y63 er im s t0 g0 h0 t1 g1 h1 tl tp wl wt wh mu J pt vK vk vm tn tr v1 v2 pl ft rk rf K m0 f0 k0 m1 f1 k1 tl2 tp2 wl2 wt2 sb zs sn) rfl ?_
                  refine A_if_ne hE 106 112 dX8_move_103 rfl rfl (fun c103 => ?_) (fun c103 => ?_)
                  · have r2 := bI_1 c103
                    obtain ⟨p, hp, rfl⟩ := nI_of (iN r1.2.2.1)
                    obtain ⟨r, hr, rfl⟩ := nI_of (iN r2.2.2.1)
                    obtain ⟨a, ha, rfl⟩ := nI_of (iN r1.1)
                    have b1 := mv_le hp hz24 ha r1.2.2.2
                    have b2 := mv_le hr hy24 ha r2.2.2.2
                    have ep : (nI p).toNatClampNeg = p := nI_clamp hp
                    have er' : (nI r).toNatClampNeg = r := nI_clamp hr
                    have ea : (nI a).toNatClampNeg = a := nI_clamp ha
                    refine A_aload hE 114 dX8_move_112 rfl rfl ?_
                    refine A_get hE 117 dX8_move_114 rfl fkX8_226 rfl rfl ?_
                    refine A_get hE 120 dX8_move_117 rfl fkX8_249 rfl rfl ?_
                    refine A_iload_n hE 121 dX8_move_120 rfl rfl ?_
                    refine A_aload hE 123 dX8_move_121 rfl rfl ?_
                    refine A_get hE 126 dX8_move_123 rfl fkX8_226 rfl rfl ?_
                    refine A_get hE 129 dX8_move_126 rfl fkX8_249 rfl rfl ?_
                    refine A_iload hE 131 dX8_move_129 rfl rfl ?_
                    refine A_iload hE 133 dX8_move_131 rfl rfl ?_
                    refine A_copyi hE 136 dX8_move_133 rfl acRX8 acN acS acI rfl rfl (nI_pos hp) (nI_pos hr) (nI_pos ha) (by rw [ep, ea]; omega) (by rw [er', ea]; omega) rfl (by decide) rfl ?_
                    refine A_h (Y63 er im s t0 g0 h0 t1 g1 h1 tl tp wl wt wh mu J pt vK vk vm tn tr v1 v2 pl ft rk rf K m0 f0 k0 m1 f1 k1 tl2 tp2 wl2 wt2 sb zs (updS sn 2 (va_cpy (sn 2) (sn 2) p r a))) (by rw [ep, er', ea]; rfl) ?_
                    refine A_iload hE 138 dX8_move_136 rfl rfl ?_
                    refine A_iret hE dX8_move_138 ?_
                    rw [moveF, if_pos ⟨hh, hg⟩, ek, if_neg (fun z => z.elim hb hc), if_neg (fun z => z hd), if_pos ⟨r1.1, r1.2.2.1, r2.2.2.1, by rw [hz]; exact r1.2.2.2, by rw [hy]; exact r2.2.2.2⟩, ep, er', ea]
                    exact ⟨rfl, _, _, hR.mov (k := 2) (l := 2) (by omega) (by omega) b1 b2, rfl⟩
                  · have r2 := bI_0 c103
                    refine A_aload_n hE 107 dX8_move_106 rfl rfl ?_
                    refine A_iconst hE 108 dX8_move_107 rfl (1) rfl ?_
                    refine A_callVi hE 111 (c_X8_error er im 1 (by omega)) [0, 1] dX8_move_108 rfl mkX8_59 rfl rfl rfl rfl rfl rfl rfl (Nat.le_of_ble_eq_true rfl) (Nat.le_of_ble_eq_true rfl) rfl (fun x108 h108 g108 hp108 hw108 => ?_)
                    obtain ⟨rfl, rfl⟩ := hp108
                    obtain rfl := Option.some.inj hw108
                    refine A_h (Y63 (upd er 1 (er 1 + 1)) im s t0 g0 h0 t1 g1 h1 tl tp wl wt wh mu J pt vK vk vm tn tr v1 v2 pl ft rk rf K m0 f0 k0 m1 f1 k1 tl2 tp2 wl2 wt2 sb zs sn) rfl ?_
                    refine A_iret hE dX8_move_111 ?_
                    rw [moveF, if_pos ⟨hh, hg⟩, ek, if_neg (fun z => z.elim hb hc), if_neg (fun z => z hd), if_neg (fun z => r2 ⟨z.1, mv_n hy24 z.1 z.2.2.1 (by have y := z.2.2.2.2; rw [hy] at y; exact y), z.2.2.1, by have y := z.2.2.2.2; rw [hy] at y; exact y⟩)]
                    exact ⟨rfl, zs, sn, hR, rfl⟩
              · have hd : ¬ sb 2 = sb 2 := c68
                refine A_aload_n hE 72 dX8_move_71 rfl rfl ?_
                refine A_iconst hE 73 dX8_move_72 rfl (5) rfl ?_
                refine A_callVi hE 76 (c_X8_error er im 5 (by omega)) [0, 1] dX8_move_73 rfl mkX8_59 rfl rfl rfl rfl rfl rfl rfl (Nat.le_of_ble_eq_true rfl) (Nat.le_of_ble_eq_true rfl) rfl (fun x73 h73 g73 hp73 hw73 => ?_)
                obtain ⟨rfl, rfl⟩ := hp73
                obtain rfl := Option.some.inj hw73
                refine A_h (Y63 (upd er 5 (er 5 + 1)) im s t0 g0 h0 t1 g1 h1 tl tp wl wt wh mu J pt vK vk vm tn tr v1 v2 pl ft rk rf K m0 f0 k0 m1 f1 k1 tl2 tp2 wl2 wt2 sb zs sn) rfl ?_
                refine A_iret hE dX8_move_76 ?_
                rw [moveF, if_pos ⟨hh, hg⟩, ek, if_neg (fun z => z.elim hb hc), if_pos hd]
                exact ⟨rfl, zs, sn, hR, rfl⟩
            · have hc := bI_1 c49
              refine A_aload_n hE 53 dX8_move_52 rfl rfl ?_
              refine A_iconst hE 54 dX8_move_53 rfl (2) rfl ?_
              refine A_callVi hE 57 (c_X8_error er im 2 (by omega)) [0, 1] dX8_move_54 rfl mkX8_59 rfl rfl rfl rfl rfl rfl rfl (Nat.le_of_ble_eq_true rfl) (Nat.le_of_ble_eq_true rfl) rfl (fun x54 h54 g54 hp54 hw54 => ?_)
              obtain ⟨rfl, rfl⟩ := hp54
              obtain rfl := Option.some.inj hw54
              refine A_h (Y63 (upd er 2 (er 2 + 1)) im s t0 g0 h0 t1 g1 h1 tl tp wl wt wh mu J pt vK vk vm tn tr v1 v2 pl ft rk rf K m0 f0 k0 m1 f1 k1 tl2 tp2 wl2 wt2 sb zs sn) rfl ?_
              refine A_iret hE dX8_move_57 ?_
              rw [moveF, if_pos ⟨hh, hg⟩, ek, if_pos (Or.inr hc)]
              exact ⟨rfl, zs, sn, hR, rfl⟩
        · obtain ⟨hy24, hy, hwn⟩ := hR 3 (by omega)
          refine A_aload_n hE 21 dX8_move_20 rfl rfl ?_
          refine A_get hE 24 dX8_move_21 rfl fkX8_42 rfl rfl ?_
          refine A_iload_n hE 25 dX8_move_24 rfl rfl ?_
          refine A_aald hE 26 2 dX8_move_25 rfl rfl rfl (by omega) rfl rfl ?_
          refine A_astore hE 28 dX8_move_26 rfl rfl rfl ?_
          refine A_aload_n hE 29 dX8_move_28 rfl rfl ?_
          refine A_get hE 32 dX8_move_29 rfl fkX8_42 rfl rfl ?_
          refine A_iload_n hE 33 dX8_move_32 rfl rfl ?_
          refine A_aald hE 34 3 dX8_move_33 rfl rfl rfl (by omega) rfl rfl ?_
          refine A_astore hE 36 dX8_move_34 rfl rfl rfl ?_
          refine A_aload hE 38 dX8_move_36 rfl rfl ?_
          refine A_callVi hE 41 (c_X4_isMissing (sb 2) (zs 2) (sn 2)) [57, 58, 59] dX8_move_38 rfl mkX8_222 rfl rfl rfl rfl rfl rfl rfl (Nat.le_of_ble_eq_true rfl) (Nat.le_of_ble_eq_true rfl) rfl (fun x38 h38 g38 hp38 hw38 => ?_)
          obtain ⟨rfl, rfl⟩ := hp38
          obtain rfl := Option.some.inj hw38
          refine A_h (Y63 er im s t0 g0 h0 t1 g1 h1 tl tp wl wt wh mu J pt vK vk vm tn tr v1 v2 pl ft rk rf K m0 f0 k0 m1 f1 k1 tl2 tp2 wl2 wt2 sb zs sn) rfl ?_
          refine A_if_ne hE 44 52 dX8_move_41 rfl rfl (fun c41 => ?_) (fun c41 => ?_)
          · have hb := bI_1 (show ¬ _ = 0 from c41)
            refine A_aload_n hE 53 dX8_move_52 rfl rfl ?_
            refine A_iconst hE 54 dX8_move_53 rfl (2) rfl ?_
            refine A_callVi hE 57 (c_X8_error er im 2 (by omega)) [0, 1] dX8_move_54 rfl mkX8_59 rfl rfl rfl rfl rfl rfl rfl (Nat.le_of_ble_eq_true rfl) (Nat.le_of_ble_eq_true rfl) rfl (fun x54 h54 g54 hp54 hw54 => ?_)
            obtain ⟨rfl, rfl⟩ := hp54
            obtain rfl := Option.some.inj hw54
            refine A_h (Y63 (upd er 2 (er 2 + 1)) im s t0 g0 h0 t1 g1 h1 tl tp wl wt wh mu J pt vK vk vm tn tr v1 v2 pl ft rk rf K m0 f0 k0 m1 f1 k1 tl2 tp2 wl2 wt2 sb zs sn) rfl ?_
            refine A_iret hE dX8_move_57 ?_
            rw [moveF, if_pos ⟨hh, hg⟩, ek, el, if_pos (Or.inl hb)]
            exact ⟨rfl, zs, sn, hR, rfl⟩
          · have hb := bI_0 c41
            refine A_aload hE 46 dX8_move_44 rfl rfl ?_
            refine A_callVi hE 49 (c_X4_isMissing (sb 3) (zs 3) (sn 3)) [60, 61, 62] dX8_move_46 rfl mkX8_222 rfl rfl rfl rfl rfl rfl rfl (Nat.le_of_ble_eq_true rfl) (Nat.le_of_ble_eq_true rfl) rfl (fun x46 h46 g46 hp46 hw46 => ?_)
            obtain ⟨rfl, rfl⟩ := hp46
            obtain rfl := Option.some.inj hw46
            refine A_h (Y63 er im s t0 g0 h0 t1 g1 h1 tl tp wl wt wh mu J pt vK vk vm tn tr v1 v2 pl ft rk rf K m0 f0 k0 m1 f1 k1 tl2 tp2 wl2 wt2 sb zs sn) rfl ?_
            refine A_if_eq hE 52 58 dX8_move_49 rfl rfl (fun c49 => ?_) (fun c49 => ?_)
            · have hc := bI_0 c49
              refine A_aload hE 60 dX8_move_58 rfl rfl ?_
              refine A_get hE 63 dX8_move_60 rfl fkX8_260 rfl rfl ?_
              refine A_aload hE 65 dX8_move_63 rfl rfl ?_
              refine A_get hE 68 dX8_move_65 rfl fkX8_260 rfl rfl ?_
              refine A_icmp_eq hE 71 77 dX8_move_68 rfl rfl (fun c68 => ?_) (fun c68 => ?_)
              · have hd : sb 2 = sb 3 := c68
                refine A_aload hE 79 dX8_move_77 rfl rfl ?_
                refine A_get hE 82 dX8_move_79 rfl fkX8_226 rfl rfl ?_
                refine A_iload_n hE 83 dX8_move_82 rfl rfl ?_
                refine A_iload hE 85 dX8_move_83 rfl rfl ?_
                refine A_callVi hE 88 (c_X3_hasRun 24 (sn 2) (nI (zs 2)) i n) [58, 59] dX8_move_85 rfl mkX8_263 rfl rfl rfl rfl rfl rfl rfl (Nat.le_of_ble_eq_true rfl) (Nat.le_of_ble_eq_true rfl) rfl (fun x85 h85 g85 hp85 hw85 => ?_)
                obtain ⟨rfl, rfl⟩ := hp85
                obtain rfl := Option.some.inj hw85
                refine A_h (Y63 er im s t0 g0 h0 t1 g1 h1 tl tp wl wt wh mu J pt vK vk vm tn tr v1 v2 pl ft rk rf K m0 f0 k0 m1 f1 k1 tl2 tp2 wl2 wt2 sb zs sn) rfl ?_
                refine A_if_eq hE 91 106 dX8_move_88 rfl rfl (fun c88 => ?_) (fun c88 => ?_)
                · have r1 := bI_0 c88
                  refine A_aload_n hE 107 dX8_move_106 rfl rfl ?_
                  refine A_iconst hE 108 dX8_move_107 rfl (1) rfl ?_
                  refine A_callVi hE 111 (c_X8_error er im 1 (by omega)) [0, 1] dX8_move_108 rfl mkX8_59 rfl rfl rfl rfl rfl rfl rfl (Nat.le_of_ble_eq_true rfl) (Nat.le_of_ble_eq_true rfl) rfl (fun x108 h108 g108 hp108 hw108 => ?_)
                  obtain ⟨rfl, rfl⟩ := hp108
                  obtain rfl := Option.some.inj hw108
                  refine A_h (Y63 (upd er 1 (er 1 + 1)) im s t0 g0 h0 t1 g1 h1 tl tp wl wt wh mu J pt vK vk vm tn tr v1 v2 pl ft rk rf K m0 f0 k0 m1 f1 k1 tl2 tp2 wl2 wt2 sb zs sn) rfl ?_
                  refine A_iret hE dX8_move_111 ?_
                  rw [moveF, if_pos ⟨hh, hg⟩, ek, el, if_neg (fun z => z.elim hb hc), if_neg (fun z => z hd), if_neg (fun z => r1 ⟨z.1, mv_n hz24 z.1 z.2.1 (by have y := z.2.2.2.1; rw [hz] at y; exact y), z.2.1, by have y := z.2.2.2.1; rw [hz] at y; exact y⟩)]
                  exact ⟨rfl, zs, sn, hR, rfl⟩
                · have r1 := bI_1 c88
                  refine A_aload hE 93 dX8_move_91 rfl rfl ?_
                  refine A_get hE 96 dX8_move_93 rfl fkX8_226 rfl rfl ?_
                  refine A_iload hE 98 dX8_move_96 rfl rfl ?_
                  refine A_iload hE 100 dX8_move_98 rfl rfl ?_
                  refine A_callVi hE 103 (c_X3_hasRun 24 (sn 3) (nI (zs 3)) j n) [61, 62] dX8_move_100 rfl mkX8_263 rfl rfl rfl rfl rfl rfl rfl (Nat.le_of_ble_eq_true rfl) (Nat.le_of_ble_eq_true rfl) rfl (fun x100 h100 g100 hp100 hw100 => ?_)
                  obtain ⟨rfl, rfl⟩ := hp100
                  obtain rfl := Option.some.inj hw100
                  refine A_h (Y63 er im s t0 g0 h0 t1 g1 h1 tl tp wl wt wh mu J pt vK vk vm tn tr v1 v2 pl ft rk rf K m0 f0 k0 m1 f1 k1 tl2 tp2 wl2 wt2 sb zs sn) rfl ?_
                  refine A_if_ne hE 106 112 dX8_move_103 rfl rfl (fun c103 => ?_) (fun c103 => ?_)
                  · have r2 := bI_1 c103
                    obtain ⟨p, hp, rfl⟩ := nI_of (iN r1.2.2.1)
                    obtain ⟨r, hr, rfl⟩ := nI_of (iN r2.2.2.1)
                    obtain ⟨a, ha, rfl⟩ := nI_of (iN r1.1)
                    have b1 := mv_le hp hz24 ha r1.2.2.2
                    have b2 := mv_le hr hy24 ha r2.2.2.2
                    have ep : (nI p).toNatClampNeg = p := nI_clamp hp
                    have er' : (nI r).toNatClampNeg = r := nI_clamp hr
                    have ea : (nI a).toNatClampNeg = a := nI_clamp ha
                    refine A_aload hE 114 dX8_move_112 rfl rfl ?_
                    refine A_get hE 117 dX8_move_114 rfl fkX8_226 rfl rfl ?_
                    refine A_get hE 120 dX8_move_117 rfl fkX8_249 rfl rfl ?_
                    refine A_iload_n hE 121 dX8_move_120 rfl rfl ?_
                    refine A_aload hE 123 dX8_move_121 rfl rfl ?_
                    refine A_get hE 126 dX8_move_123 rfl fkX8_226 rfl rfl ?_
                    refine A_get hE 129 dX8_move_126 rfl fkX8_249 rfl rfl ?_
                    refine A_iload hE 131 dX8_move_129 rfl rfl ?_
                    refine A_iload hE 133 dX8_move_131 rfl rfl ?_
                    refine A_copyi hE 136 dX8_move_133 rfl acRX8 acN acS acI rfl rfl (nI_pos hp) (nI_pos hr) (nI_pos ha) (by rw [ep, ea]; omega) (by rw [er', ea]; omega) rfl (by decide) rfl ?_
                    refine A_h (Y63 er im s t0 g0 h0 t1 g1 h1 tl tp wl wt wh mu J pt vK vk vm tn tr v1 v2 pl ft rk rf K m0 f0 k0 m1 f1 k1 tl2 tp2 wl2 wt2 sb zs (updS sn 3 (va_cpy (sn 2) (sn 3) p r a))) (by rw [ep, er', ea]; rfl) ?_
                    refine A_iload hE 138 dX8_move_136 rfl rfl ?_
                    refine A_iret hE dX8_move_138 ?_
                    rw [moveF, if_pos ⟨hh, hg⟩, ek, el, if_neg (fun z => z.elim hb hc), if_neg (fun z => z hd), if_pos ⟨r1.1, r1.2.2.1, r2.2.2.1, by rw [hz]; exact r1.2.2.2, by rw [hy]; exact r2.2.2.2⟩, ep, er', ea]
                    exact ⟨rfl, _, _, hR.mov (k := 2) (l := 3) (by omega) (by omega) b1 b2, rfl⟩
                  · have r2 := bI_0 c103
                    refine A_aload_n hE 107 dX8_move_106 rfl rfl ?_
                    refine A_iconst hE 108 dX8_move_107 rfl (1) rfl ?_
                    refine A_callVi hE 111 (c_X8_error er im 1 (by omega)) [0, 1] dX8_move_108 rfl mkX8_59 rfl rfl rfl rfl rfl rfl rfl (Nat.le_of_ble_eq_true rfl) (Nat.le_of_ble_eq_true rfl) rfl (fun x108 h108 g108 hp108 hw108 => ?_)
                    obtain ⟨rfl, rfl⟩ := hp108
                    obtain rfl := Option.some.inj hw108
                    refine A_h (Y63 (upd er 1 (er 1 + 1)) im s t0 g0 h0 t1 g1 h1 tl tp wl wt wh mu J pt vK vk vm tn tr v1 v2 pl ft rk rf K m0 f0 k0 m1 f1 k1 tl2 tp2 wl2 wt2 sb zs sn) rfl ?_
                    refine A_iret hE dX8_move_111 ?_
                    rw [moveF, if_pos ⟨hh, hg⟩, ek, el, if_neg (fun z => z.elim hb hc), if_neg (fun z => z hd), if_neg (fun z => r2 ⟨z.1, mv_n hy24 z.1 z.2.2.1 (by have y := z.2.2.2.2; rw [hy] at y; exact y), z.2.2.1, by have y := z.2.2.2.2; rw [hy] at y; exact y⟩)]
                    exact ⟨rfl, zs, sn, hR, rfl⟩
              · have hd : ¬ sb 2 = sb 3 := c68
                refine A_aload_n hE 72 dX8_move_71 rfl rfl ?_
                refine A_iconst hE 73 dX8_move_72 rfl (5) rfl ?_
                refine A_callVi hE 76 (c_X8_error er im 5 (by omega)) [0, 1] dX8_move_73 rfl mkX8_59 rfl rfl rfl rfl rfl rfl rfl (Nat.le_of_ble_eq_true rfl) (Nat.le_of_ble_eq_true rfl) rfl (fun x73 h73 g73 hp73 hw73 => ?_)
                obtain ⟨rfl, rfl⟩ := hp73
                obtain rfl := Option.some.inj hw73
                refine A_h (Y63 (upd er 5 (er 5 + 1)) im s t0 g0 h0 t1 g1 h1 tl tp wl wt wh mu J pt vK vk vm tn tr v1 v2 pl ft rk rf K m0 f0 k0 m1 f1 k1 tl2 tp2 wl2 wt2 sb zs sn) rfl ?_
                refine A_iret hE dX8_move_76 ?_
                rw [moveF, if_pos ⟨hh, hg⟩, ek, el, if_neg (fun z => z.elim hb hc), if_pos hd]
                exact ⟨rfl, zs, sn, hR, rfl⟩
            · have hc := bI_1 c49
              refine A_aload_n hE 53 dX8_move_52 rfl rfl ?_
              refine A_iconst hE 54 dX8_move_53 rfl (2) rfl ?_
              refine A_callVi hE 57 (c_X8_error er im 2 (by omega)) [0, 1] dX8_move_54 rfl mkX8_59 rfl rfl rfl rfl rfl rfl rfl (Nat.le_of_ble_eq_true rfl) (Nat.le_of_ble_eq_true rfl) rfl (fun x54 h54 g54 hp54 hw54 => ?_)
              obtain ⟨rfl, rfl⟩ := hp54
              obtain rfl := Option.some.inj hw54
              refine A_h (Y63 (upd er 2 (er 2 + 1)) im s t0 g0 h0 t1 g1 h1 tl tp wl wt wh mu J pt vK vk vm tn tr v1 v2 pl ft rk rf K m0 f0 k0 m1 f1 k1 tl2 tp2 wl2 wt2 sb zs sn) rfl ?_
              refine A_iret hE dX8_move_57 ?_
              rw [moveF, if_pos ⟨hh, hg⟩, ek, el, if_pos (Or.inr hc)]
              exact ⟨rfl, zs, sn, hR, rfl⟩
      · obtain ⟨hz24, hz, hvn⟩ := hR 3 (by omega)
        rcases (show l = 0 ∨ l = 1 ∨ l = 2 ∨ l = 3 by omega) with rfl | rfl | rfl | rfl
        · obtain ⟨hy24, hy, hwn⟩ := hR 0 (by omega)
          refine A_aload_n hE 21 dX8_move_20 rfl rfl ?_
          refine A_get hE 24 dX8_move_21 rfl fkX8_42 rfl rfl ?_
          refine A_iload_n hE 25 dX8_move_24 rfl rfl ?_
          refine A_aald hE 26 3 dX8_move_25 rfl rfl rfl (by omega) rfl rfl ?_
          refine A_astore hE 28 dX8_move_26 rfl rfl rfl ?_
          refine A_aload_n hE 29 dX8_move_28 rfl rfl ?_
          refine A_get hE 32 dX8_move_29 rfl fkX8_42 rfl rfl ?_
          refine A_iload_n hE 33 dX8_move_32 rfl rfl ?_
          refine A_aald hE 34 0 dX8_move_33 rfl rfl rfl (by omega) rfl rfl ?_
          refine A_astore hE 36 dX8_move_34 rfl rfl rfl ?_
          refine A_aload hE 38 dX8_move_36 rfl rfl ?_
          refine A_callVi hE 41 (c_X4_isMissing (sb 3) (zs 3) (sn 3)) [60, 61, 62] dX8_move_38 rfl mkX8_222 rfl rfl rfl rfl rfl rfl rfl (Nat.le_of_ble_eq_true rfl) (Nat.le_of_ble_eq_true rfl) rfl (fun x38 h38 g38 hp38 hw38 => ?_)
          obtain ⟨rfl, rfl⟩ := hp38
          obtain rfl := Option.some.inj hw38
          refine A_h (Y63 er im s t0 g0 h0 t1 g1 h1 tl tp wl wt wh mu J pt vK vk vm tn tr v1 v2 pl ft rk rf K m0 f0 k0 m1 f1 k1 tl2 tp2 wl2 wt2 sb zs sn) rfl ?_
          refine A_if_ne hE 44 52 dX8_move_41 rfl rfl (fun c41 => ?_) (fun c41 => ?_)
          · have hb := bI_1 (show ¬ _ = 0 from c41)
            refine A_aload_n hE 53 dX8_move_52 rfl rfl ?_
            refine A_iconst hE 54 dX8_move_53 rfl (2) rfl ?_
            refine A_callVi hE 57 (c_X8_error er im 2 (by omega)) [0, 1] dX8_move_54 rfl mkX8_59 rfl rfl rfl rfl rfl rfl rfl (Nat.le_of_ble_eq_true rfl) (Nat.le_of_ble_eq_true rfl) rfl (fun x54 h54 g54 hp54 hw54 => ?_)
            obtain ⟨rfl, rfl⟩ := hp54
            obtain rfl := Option.some.inj hw54
            refine A_h (Y63 (upd er 2 (er 2 + 1)) im s t0 g0 h0 t1 g1 h1 tl tp wl wt wh mu J pt vK vk vm tn tr v1 v2 pl ft rk rf K m0 f0 k0 m1 f1 k1 tl2 tp2 wl2 wt2 sb zs sn) rfl ?_
            refine A_iret hE dX8_move_57 ?_
            rw [moveF, if_pos ⟨hh, hg⟩, ek, el, if_pos (Or.inl hb)]
            exact ⟨rfl, zs, sn, hR, rfl⟩
          · have hb := bI_0 c41
            refine A_aload hE 46 dX8_move_44 rfl rfl ?_
            refine A_callVi hE 49 (c_X4_isMissing (sb 0) (zs 0) (sn 0)) [51, 52, 53] dX8_move_46 rfl mkX8_222 rfl rfl rfl rfl rfl rfl rfl (Nat.le_of_ble_eq_true rfl) (Nat.le_of_ble_eq_true rfl) rfl (fun x46 h46 g46 hp46 hw46 => ?_)
            obtain ⟨rfl, rfl⟩ := hp46
            obtain rfl := Option.some.inj hw46
            refine A_h (Y63 er im s t0 g0 h0 t1 g1 h1 tl tp wl wt wh mu J pt vK vk vm tn tr v1 v2 pl ft rk rf K m0 f0 k0 m1 f1 k1 tl2 tp2 wl2 wt2 sb zs sn) rfl ?_
            refine A_if_eq hE 52 58 dX8_move_49 rfl rfl (fun c49 => ?_) (fun c49 => ?_)
            · have hc := bI_0 c49
              refine A_aload hE 60 dX8_move_58 rfl rfl ?_
              refine A_get hE 63 dX8_move_60 rfl fkX8_260 rfl rfl ?_
              refine A_aload hE 65 dX8_move_63 rfl rfl ?_
              refine A_get hE 68 dX8_move_65 rfl fkX8_260 rfl rfl ?_
              refine A_icmp_eq hE 71 77 dX8_move_68 rfl rfl (fun c68 => ?_) (fun c68 => ?_)
              · have hd : sb 3 = sb 0 := c68
                refine A_aload hE 79 dX8_move_77 rfl rfl ?_
                refine A_get hE 82 dX8_move_79 rfl fkX8_226 rfl rfl ?_
                refine A_iload_n hE 83 dX8_move_82 rfl rfl ?_
                refine A_iload hE 85 dX8_move_83 rfl rfl ?_
                refine A_callVi hE 88 (c_X3_hasRun 24 (sn 3) (nI (zs 3)) i n) [61, 62] dX8_move_85 rfl mkX8_263 rfl rfl rfl rfl rfl rfl rfl (Nat.le_of_ble_eq_true rfl) (Nat.le_of_ble_eq_true rfl) rfl (fun x85 h85 g85 hp85 hw85 => ?_)
                obtain ⟨rfl, rfl⟩ := hp85
                obtain rfl := Option.some.inj hw85
                refine A_h (Y63 er im s t0 g0 h0 t1 g1 h1 tl tp wl wt wh mu J pt vK vk vm tn tr v1 v2 pl ft rk rf K m0 f0 k0 m1 f1 k1 tl2 tp2 wl2 wt2 sb zs sn) rfl ?_
                refine A_if_eq hE 91 106 dX8_move_88 rfl rfl (fun c88 => ?_) (fun c88 => ?_)
                · have r1 := bI_0 c88
                  refine A_aload_n hE 107 dX8_move_106 rfl rfl ?_
                  refine A_iconst hE 108 dX8_move_107 rfl (1) rfl ?_
                  refine A_callVi hE 111 (c_X8_error er im 1 (by omega)) [0, 1] dX8_move_108 rfl mkX8_59 rfl rfl rfl rfl rfl rfl rfl (Nat.le_of_ble_eq_true rfl) (Nat.le_of_ble_eq_true rfl) rfl (fun x108 h108 g108 hp108 hw108 => ?_)
                  obtain ⟨rfl, rfl⟩ := hp108
                  obtain rfl := Option.some.inj hw108
                  refine A_h (Y63 (upd er 1 (er 1 + 1)) im s t0 g0 h0 t1 g1 h1 tl tp wl wt wh mu J pt vK vk vm tn tr v1 v2 pl ft rk rf K m0 f0 k0 m1 f1 k1 tl2 tp2 wl2 wt2 sb zs sn) rfl ?_
                  refine A_iret hE dX8_move_111 ?_
                  rw [moveF, if_pos ⟨hh, hg⟩, ek, el, if_neg (fun z => z.elim hb hc), if_neg (fun z => z hd), if_neg (fun z => r1 ⟨z.1, mv_n hz24 z.1 z.2.1 (by have y := z.2.2.2.1; rw [hz] at y; exact y), z.2.1, by have y := z.2.2.2.1; rw [hz] at y; exact y⟩)]
                  exact ⟨rfl, zs, sn, hR, rfl⟩
                · have r1 := bI_1 c88
                  refine A_aload hE 93 dX8_move_91 rfl rfl ?_
                  refine A_get hE 96 dX8_move_93 rfl fkX8_226 rfl rfl ?_
                  refine A_iload hE 98 dX8_move_96 rfl rfl ?_
                  refine A_iload hE 100 dX8_move_98 rfl rfl ?_
                  refine A_callVi hE 103 (c_X3_hasRun 24 (sn 0) (nI (zs 0)) j n) [52, 53] dX8_move_100 rfl mkX8_263 rfl rfl rfl rfl rfl rfl rfl (Nat.le_of_ble_eq_true rfl) (Nat.le_of_ble_eq_true rfl) rfl (fun x100 h100 g100 hp100 hw100 => ?_)
                  obtain ⟨rfl, rfl⟩ := hp100
                  obtain rfl := Option.some.inj hw100
                  refine A_h (Y63 er im s t0 g0 h0 t1 g1 h1 tl tp wl wt wh mu J pt vK vk vm tn tr v1 v2 pl ft rk rf K m0 f0 k0 m1 f1 k1 tl2 tp2 wl2 wt2 sb zs sn) rfl ?_
                  refine A_if_ne hE 106 112 dX8_move_103 rfl rfl (fun c103 => ?_) (fun c103 => ?_)
                  · have r2 := bI_1 c103
                    obtain ⟨p, hp, rfl⟩ := nI_of (iN r1.2.2.1)
                    obtain ⟨r, hr, rfl⟩ := nI_of (iN r2.2.2.1)
                    obtain ⟨a, ha, rfl⟩ := nI_of (iN r1.1)
                    have b1 := mv_le hp hz24 ha r1.2.2.2
                    have b2 := mv_le hr hy24 ha r2.2.2.2
                    have ep : (nI p).toNatClampNeg = p := nI_clamp hp
                    have er' : (nI r).toNatClampNeg = r := nI_clamp hr
                    have ea : (nI a).toNatClampNeg = a := nI_clamp ha
                    refine A_aload hE 114 dX8_move_112 rfl rfl ?_
                    refine A_get hE 117 dX8_move_114 rfl fkX8_226 rfl rfl ?_
                    refine A_get hE 120 dX8_move_117 rfl fkX8_249 rfl rfl ?_
                    refine A_iload_n hE 121 dX8_move_120 rfl rfl ?_
                    refine A_aload hE 123 dX8_move_121 rfl rfl ?_
                    refine A_get hE 126 dX8_move_123 rfl fkX8_226 rfl rfl ?_
                    refine A_get hE 129 dX8_move_126 rfl fkX8_249 rfl rfl ?_
                    refine A_iload hE 131 dX8_move_129 rfl rfl ?_
                    refine A_iload hE 133 dX8_move_131 rfl rfl ?_
                    refine A_copyi hE 136 dX8_move_133 rfl acRX8 acN acS acI rfl rfl (nI_pos hp) (nI_pos hr) (nI_pos ha) (by rw [ep, ea]; omega) (by rw [er', ea]; omega) rfl (by decide) rfl ?_
                    refine A_h (Y63 er im s t0 g0 h0 t1 g1 h1 tl tp wl wt wh mu J pt vK vk vm tn tr v1 v2 pl ft rk rf K m0 f0 k0 m1 f1 k1 tl2 tp2 wl2 wt2 sb zs (updS sn 0 (va_cpy (sn 3) (sn 0) p r a))) (by rw [ep, er', ea]; rfl) ?_
                    refine A_iload hE 138 dX8_move_136 rfl rfl ?_
                    refine A_iret hE dX8_move_138 ?_
                    rw [moveF, if_pos ⟨hh, hg⟩, ek, el, if_neg (fun z => z.elim hb hc), if_neg (fun z => z hd), if_pos ⟨r1.1, r1.2.2.1, r2.2.2.1, by rw [hz]; exact r1.2.2.2, by rw [hy]; exact r2.2.2.2⟩, ep, er', ea]
                    exact ⟨rfl, _, _, hR.mov (k := 3) (l := 0) (by omega) (by omega) b1 b2, rfl⟩
                  · have r2 := bI_0 c103
                    refine A_aload_n hE 107 dX8_move_106 rfl rfl ?_
                    refine A_iconst hE 108 dX8_move_107 rfl (1) rfl ?_
                    refine A_callVi hE 111 (c_X8_error er im 1 (by omega)) [0, 1] dX8_move_108 rfl mkX8_59 rfl rfl rfl rfl rfl rfl rfl (Nat.le_of_ble_eq_true rfl) (Nat.le_of_ble_eq_true rfl) rfl (fun x108 h108 g108 hp108 hw108 => ?_)
                    obtain ⟨rfl, rfl⟩ := hp108
                    obtain rfl := Option.some.inj hw108
                    refine A_h (Y63 (upd er 1 (er 1 + 1)) im s t0 g0 h0 t1 g1 h1 tl tp wl wt wh mu J pt vK vk vm tn tr v1 v2 pl ft rk rf K m0 f0 k0 m1 f1 k1 tl2 tp2 wl2 wt2 sb zs sn) rfl ?_
                    refine A_iret hE dX8_move_111 ?_
                    rw [moveF, if_pos ⟨hh, hg⟩, ek, el, if_neg (fun z => z.elim hb hc), if_neg (fun z => z hd), if_neg (fun z => r2 ⟨z.1, mv_n hy24 z.1 z.2.2.1 (by have y := z.2.2.2.2; rw [hy] at y; exact y), z.2.2.1, by have y := z.2.2.2.2; rw [hy] at y; exact y⟩)]
                    exact ⟨rfl, zs, sn, hR, rfl⟩
              · have hd : ¬ sb 3 = sb 0 := c68
                refine A_aload_n hE 72 dX8_move_71 rfl rfl ?_
                refine A_iconst hE 73 dX8_move_72 rfl (5) rfl ?_
                refine A_callVi hE 76 (c_X8_error er im 5 (by omega)) [0, 1] dX8_move_73 rfl mkX8_59 rfl rfl rfl rfl rfl rfl rfl (Nat.le_of_ble_eq_true rfl) (Nat.le_of_ble_eq_true rfl) rfl (fun x73 h73 g73 hp73 hw73 => ?_)
                obtain ⟨rfl, rfl⟩ := hp73
                obtain rfl := Option.some.inj hw73
                refine A_h (Y63 (upd er 5 (er 5 + 1)) im s t0 g0 h0 t1 g1 h1 tl tp wl wt wh mu J pt vK vk vm tn tr v1 v2 pl ft rk rf K m0 f0 k0 m1 f1 k1 tl2 tp2 wl2 wt2 sb zs sn) rfl ?_
                refine A_iret hE dX8_move_76 ?_
                rw [moveF, if_pos ⟨hh, hg⟩, ek, el, if_neg (fun z => z.elim hb hc), if_pos hd]
                exact ⟨rfl, zs, sn, hR, rfl⟩
            · have hc := bI_1 c49
              refine A_aload_n hE 53 dX8_move_52 rfl rfl ?_
              refine A_iconst hE 54 dX8_move_53 rfl (2) rfl ?_
              refine A_callVi hE 57 (c_X8_error er im 2 (by omega)) [0, 1] dX8_move_54 rfl mkX8_59 rfl rfl rfl rfl rfl rfl rfl (Nat.le_of_ble_eq_true rfl) (Nat.le_of_ble_eq_true rfl) rfl (fun x54 h54 g54 hp54 hw54 => ?_)
              obtain ⟨rfl, rfl⟩ := hp54
              obtain rfl := Option.some.inj hw54
              refine A_h (Y63 (upd er 2 (er 2 + 1)) im s t0 g0 h0 t1 g1 h1 tl tp wl wt wh mu J pt vK vk vm tn tr v1 v2 pl ft rk rf K m0 f0 k0 m1 f1 k1 tl2 tp2 wl2 wt2 sb zs sn) rfl ?_
              refine A_iret hE dX8_move_57 ?_
              rw [moveF, if_pos ⟨hh, hg⟩, ek, el, if_pos (Or.inr hc)]
              exact ⟨rfl, zs, sn, hR, rfl⟩
        · obtain ⟨hy24, hy, hwn⟩ := hR 1 (by omega)
          refine A_aload_n hE 21 dX8_move_20 rfl rfl ?_
          refine A_get hE 24 dX8_move_21 rfl fkX8_42 rfl rfl ?_
          refine A_iload_n hE 25 dX8_move_24 rfl rfl ?_
          refine A_aald hE 26 3 dX8_move_25 rfl rfl rfl (by omega) rfl rfl ?_
          refine A_astore hE 28 dX8_move_26 rfl rfl rfl ?_
          refine A_aload_n hE 29 dX8_move_28 rfl rfl ?_
          refine A_get hE 32 dX8_move_29 rfl fkX8_42 rfl rfl ?_
          refine A_iload_n hE 33 dX8_move_32 rfl rfl ?_
          refine A_aald hE 34 1 dX8_move_33 rfl rfl rfl (by omega) rfl rfl ?_
          refine A_astore hE 36 dX8_move_34 rfl rfl rfl ?_
          refine A_aload hE 38 dX8_move_36 rfl rfl ?_
          refine A_callVi hE 41 (c_X4_isMissing (sb 3) (zs 3) (sn 3)) [60, 61, 62] dX8_move_38 rfl mkX8_222 rfl rfl rfl rfl rfl rfl rfl (Nat.le_of_ble_eq_true rfl) (Nat.le_of_ble_eq_true rfl) rfl (fun x38 h38 g38 hp38 hw38 => ?_)
          obtain ⟨rfl, rfl⟩ := hp38
          obtain rfl := Option.some.inj hw38
          refine A_h (Y63 er im s t0 g0 h0 t1 g1 h1 tl tp wl wt wh mu J pt vK vk vm tn tr v1 v2 pl ft rk rf K m0 f0 k0 m1 f1 k1 tl2 tp2 wl2 wt2 sb zs sn) rfl ?_
          refine A_if_ne hE 44 52 dX8_move_41 rfl rfl (fun c41 => ?_) (fun c41 => ?_)
          · have hb := bI_1 (show ¬ _ = 0 from c41)
            refine A_aload_n hE 53 dX8_move_52 rfl rfl ?_
            refine A_iconst hE 54 dX8_move_53 rfl (2) rfl ?_
            refine A_callVi hE 57 (c_X8_error er im 2 (by omega)) [0, 1] dX8_move_54 rfl mkX8_59 rfl rfl rfl rfl rfl rfl rfl (Nat.le_of_ble_eq_true rfl) (Nat.le_of_ble_eq_true rfl) rfl (fun x54 h54 g54 hp54 hw54 => ?_)
            obtain ⟨rfl, rfl⟩ := hp54
            obtain rfl := Option.some.inj hw54
            refine A_h (Y63 (upd er 2 (er 2 + 1)) im s t0 g0 h0 t1 g1 h1 tl tp wl wt wh mu J pt vK vk vm tn tr v1 v2 pl ft rk rf K m0 f0 k0 m1 f1 k1 tl2 tp2 wl2 wt2 sb zs sn) rfl ?_
            refine A_iret hE dX8_move_57 ?_
            rw [moveF, if_pos ⟨hh, hg⟩, ek, el, if_pos (Or.inl hb)]
            exact ⟨rfl, zs, sn, hR, rfl⟩
          · have hb := bI_0 c41
            refine A_aload hE 46 dX8_move_44 rfl rfl ?_
            refine A_callVi hE 49 (c_X4_isMissing (sb 1) (zs 1) (sn 1)) [54, 55, 56] dX8_move_46 rfl mkX8_222 rfl rfl rfl rfl rfl rfl rfl (Nat.le_of_ble_eq_true rfl) (Nat.le_of_ble_eq_true rfl) rfl (fun x46 h46 g46 hp46 hw46 => ?_)
            obtain ⟨rfl, rfl⟩ := hp46
            obtain rfl := Option.some.inj hw46
            refine A_h (Y63 er im s t0 g0 h0 t1 g1 h1 tl tp wl wt wh mu J pt vK vk vm tn tr v1 v2 pl ft rk rf K m0 f0 k0 m1 f1 k1 tl2 tp2 wl2 wt2 sb zs sn) rfl ?_
            refine A_if_eq hE 52 58 dX8_move_49 rfl rfl (fun c49 => ?_) (fun c49 => ?_)
            · have hc := bI_0 c49
              refine A_aload hE 60 dX8_move_58 rfl rfl ?_
              refine A_get hE 63 dX8_move_60 rfl fkX8_260 rfl rfl ?_
              refine A_aload hE 65 dX8_move_63 rfl rfl ?_
              refine A_get hE 68 dX8_move_65 rfl fkX8_260 rfl rfl ?_
              refine A_icmp_eq hE 71 77 dX8_move_68 rfl rfl (fun c68 => ?_) (fun c68 => ?_)
              · have hd : sb 3 = sb 1 := c68
                refine A_aload hE 79 dX8_move_77 rfl rfl ?_
                refine A_get hE 82 dX8_move_79 rfl fkX8_226 rfl rfl ?_
                refine A_iload_n hE 83 dX8_move_82 rfl rfl ?_
                refine A_iload hE 85 dX8_move_83 rfl rfl ?_
                refine A_callVi hE 88 (c_X3_hasRun 24 (sn 3) (nI (zs 3)) i n) [61, 62] dX8_move_85 rfl mkX8_263 rfl rfl rfl rfl rfl rfl rfl (Nat.le_of_ble_eq_true rfl) (Nat.le_of_ble_eq_true rfl) rfl (fun x85 h85 g85 hp85 hw85 => ?_)
                obtain ⟨rfl, rfl⟩ := hp85
                obtain rfl := Option.some.inj hw85
                refine A_h (Y63 er im s t0 g0 h0 t1 g1 h1 tl tp wl wt wh mu J pt vK vk vm tn tr v1 v2 pl ft rk rf K m0 f0 k0 m1 f1 k1 tl2 tp2 wl2 wt2 sb zs sn) rfl ?_
                refine A_if_eq hE 91 106 dX8_move_88 rfl rfl (fun c88 => ?_) (fun c88 => ?_)
                · have r1 := bI_0 c88
                  refine A_aload_n hE 107 dX8_move_106 rfl rfl ?_
                  refine A_iconst hE 108 dX8_move_107 rfl (1) rfl ?_
                  refine A_callVi hE 111 (c_X8_error er im 1 (by omega)) [0, 1] dX8_move_108 rfl mkX8_59 rfl rfl rfl rfl rfl rfl rfl (Nat.le_of_ble_eq_true rfl) (Nat.le_of_ble_eq_true rfl) rfl (fun x108 h108 g108 hp108 hw108 => ?_)
                  obtain ⟨rfl, rfl⟩ := hp108
                  obtain rfl := Option.some.inj hw108
                  refine A_h (Y63 (upd er 1 (er 1 + 1)) im s t0 g0 h0 t1 g1 h1 tl tp wl wt wh mu J pt vK vk vm tn tr v1 v2 pl ft rk rf K m0 f0 k0 m1 f1 k1 tl2 tp2 wl2 wt2 sb zs sn) rfl ?_
                  refine A_iret hE dX8_move_111 ?_
                  rw [moveF, if_pos ⟨hh, hg⟩, ek, el, if_neg (fun z => z.elim hb hc), if_neg (fun z => z hd), if_neg (fun z => r1 ⟨z.1, mv_n hz24 z.1 z.2.1 (by have y := z.2.2.2.1; rw [hz] at y; exact y), z.2.1, by have y := z.2.2.2.1; rw [hz] at y; exact y⟩)]
                  exact ⟨rfl, zs, sn, hR, rfl⟩
                · have r1 := bI_1 c88
                  refine A_aload hE 93 dX8_move_91 rfl rfl ?_
                  refine A_get hE 96 dX8_move_93 rfl fkX8_226 rfl rfl ?_
                  refine A_iload hE 98 dX8_move_96 rfl rfl ?_
                  refine A_iload hE 100 dX8_move_98 rfl rfl ?_
                  refine A_callVi hE 103 (c_X3_hasRun 24 (sn 1) (nI (zs 1)) j n) [55, 56] dX8_move_100 rfl mkX8_263 rfl rfl rfl rfl rfl rfl rfl (Nat.le_of_ble_eq_true rfl) (Nat.le_of_ble_eq_true rfl) rfl (fun x100 h100 g100 hp100 hw100 => ?_)
                  obtain ⟨rfl, rfl⟩ := hp100
                  obtain rfl := Option.some.inj hw100
                  refine A_h (Y63 er im s t0 g0 h0 t1 g1 h1 tl tp wl wt wh mu J pt vK vk vm tn tr v1 v2 pl ft rk rf K m0 f0 k0 m1 f1 k1 tl2 tp2 wl2 wt2 sb zs sn) rfl ?_
                  refine A_if_ne hE 106 112 dX8_move_103 rfl rfl (fun c103 => ?_) (fun c103 => ?_)
                  · have r2 := bI_1 c103
                    obtain ⟨p, hp, rfl⟩ := nI_of (iN r1.2.2.1)
                    obtain ⟨r, hr, rfl⟩ := nI_of (iN r2.2.2.1)
                    obtain ⟨a, ha, rfl⟩ := nI_of (iN r1.1)
                    have b1 := mv_le hp hz24 ha r1.2.2.2
                    have b2 := mv_le hr hy24 ha r2.2.2.2
                    have ep : (nI p).toNatClampNeg = p := nI_clamp hp
                    have er' : (nI r).toNatClampNeg = r := nI_clamp hr
                    have ea : (nI a).toNatClampNeg = a := nI_clamp ha
                    refine A_aload hE 114 dX8_move_112 rfl rfl ?_
                    refine A_get hE 117 dX8_move_114 rfl fkX8_226 rfl rfl ?_
                    refine A_get hE 120 dX8_move_117 rfl fkX8_249 rfl rfl ?_
                    refine A_iload_n hE 121 dX8_move_120 rfl rfl ?_
                    refine A_aload hE 123 dX8_move_121 rfl rfl ?_
                    refine A_get hE 126 dX8_move_123 rfl fkX8_226 rfl rfl ?_
                    refine A_get hE 129 dX8_move_126 rfl fkX8_249 rfl rfl ?_
                    refine A_iload hE 131 dX8_move_129 rfl rfl ?_
                    refine A_iload hE 133 dX8_move_131 rfl rfl ?_
                    refine A_copyi hE 136 dX8_move_133 rfl acRX8 acN acS acI rfl rfl (nI_pos hp) (nI_pos hr) (nI_pos ha) (by rw [ep, ea]; omega) (by rw [er', ea]; omega) rfl (by decide) rfl ?_
                    refine A_h (Y63 er im s t0 g0 h0 t1 g1 h1 tl tp wl wt wh mu J pt vK vk vm tn tr v1 v2 pl ft rk rf K m0 f0 k0 m1 f1 k1 tl2 tp2 wl2 wt2 sb zs (updS sn 1 (va_cpy (sn 3) (sn 1) p r a))) (by rw [ep, er', ea]; rfl) ?_
                    refine A_iload hE 138 dX8_move_136 rfl rfl ?_
                    refine A_iret hE dX8_move_138 ?_
                    rw [moveF, if_pos ⟨hh, hg⟩, ek, el, if_neg (fun z => z.elim hb hc), if_neg (fun z => z hd), if_pos ⟨r1.1, r1.2.2.1, r2.2.2.1, by rw [hz]; exact r1.2.2.2, by rw [hy]; exact r2.2.2.2⟩, ep, er', ea]
                    exact ⟨rfl, _, _, hR.mov (k := 3) (l := 1) (by omega) (by omega) b1 b2, rfl⟩
                  · have r2 := bI_0 c103
                    refine A_aload_n hE 107 dX8_move_106 rfl rfl ?_
                    refine A_iconst hE 108 dX8_move_107 rfl (1) rfl ?_
                    refine A_callVi hE 111 (c_X8_error er im 1 (by omega)) [0, 1] dX8_move_108 rfl mkX8_59 rfl rfl rfl rfl rfl rfl rfl (Nat.le_of_ble_eq_true rfl) (Nat.le_of_ble_eq_true rfl) rfl (fun x108 h108 g108 hp108 hw108 => ?_)
                    obtain ⟨rfl, rfl⟩ := hp108
                    obtain rfl := Option.some.inj hw108
                    refine A_h (Y63 (upd er 1 (er 1 + 1)) im s t0 g0 h0 t1 g1 h1 tl tp wl wt wh mu J pt vK vk vm tn tr v1 v2 pl ft rk rf K m0 f0 k0 m1 f1 k1 tl2 tp2 wl2 wt2 sb zs sn) rfl ?_
                    refine A_iret hE dX8_move_111 ?_
                    rw [moveF, if_pos ⟨hh, hg⟩, ek, el, if_neg (fun z => z.elim hb hc), if_neg (fun z => z hd), if_neg (fun z => r2 ⟨z.1, mv_n hy24 z.1 z.2.2.1 (by have y := z.2.2.2.2; rw [hy] at y; exact y), z.2.2.1, by have y := z.2.2.2.2; rw [hy] at y; exact y⟩)]
                    exact ⟨rfl, zs, sn, hR, rfl⟩
              · have hd : ¬ sb 3 = sb 1 := c68
                refine A_aload_n hE 72 dX8_move_71 rfl rfl ?_
                refine A_iconst hE 73 dX8_move_72 rfl (5) rfl ?_
                refine A_callVi hE 76 (c_X8_error er im 5 (by omega)) [0, 1] dX8_move_73 rfl mkX8_59 rfl rfl rfl rfl rfl rfl rfl (Nat.le_of_ble_eq_true rfl) (Nat.le_of_ble_eq_true rfl) rfl (fun x73 h73 g73 hp73 hw73 => ?_)
                obtain ⟨rfl, rfl⟩ := hp73
                obtain rfl := Option.some.inj hw73
                refine A_h (Y63 (upd er 5 (er 5 + 1)) im s t0 g0 h0 t1 g1 h1 tl tp wl wt wh mu J pt vK vk vm tn tr v1 v2 pl ft rk rf K m0 f0 k0 m1 f1 k1 tl2 tp2 wl2 wt2 sb zs sn) rfl ?_
                refine A_iret hE dX8_move_76 ?_
                rw [moveF, if_pos ⟨hh, hg⟩, ek, el, if_neg (fun z => z.elim hb hc), if_pos hd]
                exact ⟨rfl, zs, sn, hR, rfl⟩
            · have hc := bI_1 c49
              refine A_aload_n hE 53 dX8_move_52 rfl rfl ?_
              refine A_iconst hE 54 dX8_move_53 rfl (2) rfl ?_
              refine A_callVi hE 57 (c_X8_error er im 2 (by omega)) [0, 1] dX8_move_54 rfl mkX8_59 rfl rfl rfl rfl rfl rfl rfl (Nat.le_of_ble_eq_true rfl) (Nat.le_of_ble_eq_true rfl) rfl (fun x54 h54 g54 hp54 hw54 => ?_)
              obtain ⟨rfl, rfl⟩ := hp54
              obtain rfl := Option.some.inj hw54
              refine A_h (Y63 (upd er 2 (er 2 + 1)) im s t0 g0 h0 t1 g1 h1 tl tp wl wt wh mu J pt vK vk vm tn tr v1 v2 pl ft rk rf K m0 f0 k0 m1 f1 k1 tl2 tp2 wl2 wt2 sb zs sn) rfl ?_
              refine A_iret hE dX8_move_57 ?_
              rw [moveF, if_pos ⟨hh, hg⟩, ek, el, if_pos (Or.inr hc)]
              exact ⟨rfl, zs, sn, hR, rfl⟩
        · obtain ⟨hy24, hy, hwn⟩ := hR 2 (by omega)
          refine A_aload_n hE 21 dX8_move_20 rfl rfl ?_
          refine A_get hE 24 dX8_move_21 rfl fkX8_42 rfl rfl ?_
          refine A_iload_n hE 25 dX8_move_24 rfl rfl ?_
          refine A_aald hE 26 3 dX8_move_25 rfl rfl rfl (by omega) rfl rfl ?_
          refine A_astore hE 28 dX8_move_26 rfl rfl rfl ?_
          refine A_aload_n hE 29 dX8_move_28 rfl rfl ?_
          refine A_get hE 32 dX8_move_29 rfl fkX8_42 rfl rfl ?_
          refine A_iload_n hE 33 dX8_move_32 rfl rfl ?_
          refine A_aald hE 34 2 dX8_move_33 rfl rfl rfl (by omega) rfl rfl ?_
          refine A_astore hE 36 dX8_move_34 rfl rfl rfl ?_
          refine A_aload hE 38 dX8_move_36 rfl rfl ?_
          refine A_callVi hE 41 (c_X4_isMissing (sb 3) (zs 3) (sn 3)) [60, 61, 62] dX8_move_38 rfl mkX8_222 rfl rfl rfl rfl rfl rfl rfl (Nat.le_of_ble_eq_true rfl) (Nat.le_of_ble_eq_true rfl) rfl (fun x38 h38 g38 hp38 hw38 => ?_)
          obtain ⟨rfl, rfl⟩ := hp38
          obtain rfl := Option.some.inj hw38
          refine A_h (Y63 er im s t0 g0 h0 t1 g1 h1 tl tp wl wt wh mu J pt vK vk vm tn tr v1 v2 pl ft rk rf K m0 f0 k0 m1 f1 k1 tl2 tp2 wl2 wt2 sb zs sn) rfl ?_
          refine A_if_ne hE 44 52 dX8_move_41 rfl rfl (fun c41 => ?_) (fun c41 => ?_)
          · have hb := bI_1 (show ¬ _ = 0 from c41)
            refine A_aload_n hE 53 dX8_move_52 rfl rfl ?_
            refine A_iconst hE 54 dX8_move_53 rfl (2) rfl ?_
            refine A_callVi hE 57 (c_X8_error er im 2 (by omega)) [0, 1] dX8_move_54 rfl mkX8_59 rfl rfl rfl rfl rfl rfl rfl (Nat.le_of_ble_eq_true rfl) (Nat.le_of_ble_eq_true rfl) rfl (fun x54 h54 g54 hp54 hw54 => ?_)
            obtain ⟨rfl, rfl⟩ := hp54
            obtain rfl := Option.some.inj hw54
            refine A_h (Y63 (upd er 2 (er 2 + 1)) im s t0 g0 h0 t1 g1 h1 tl tp wl wt wh mu J pt vK vk vm tn tr v1 v2 pl ft rk rf K m0 f0 k0 m1 f1 k1 tl2 tp2 wl2 wt2 sb zs sn) rfl ?_
            refine A_iret hE dX8_move_57 ?_
            rw [moveF, if_pos ⟨hh, hg⟩, ek, el, if_pos (Or.inl hb)]
            exact ⟨rfl, zs, sn, hR, rfl⟩
          · have hb := bI_0 c41
            refine A_aload hE 46 dX8_move_44 rfl rfl ?_
            refine A_callVi hE 49 (c_X4_isMissing (sb 2) (zs 2) (sn 2)) [57, 58, 59] dX8_move_46 rfl mkX8_222 rfl rfl rfl rfl rfl rfl rfl (Nat.le_of_ble_eq_true rfl) (Nat.le_of_ble_eq_true rfl) rfl (fun x46 h46 g46 hp46 hw46 => ?_)
            obtain ⟨rfl, rfl⟩ := hp46
            obtain rfl := Option.some.inj hw46
            refine A_h (Y63 er im s t0 g0 h0 t1 g1 h1 tl tp wl wt wh mu J pt vK vk vm tn tr v1 v2 pl ft rk rf K m0 f0 k0 m1 f1 k1 tl2 tp2 wl2 wt2 sb zs sn) rfl ?_
            refine A_if_eq hE 52 58 dX8_move_49 rfl rfl (fun c49 => ?_) (fun c49 => ?_)
            · have hc := bI_0 c49
              refine A_aload hE 60 dX8_move_58 rfl rfl ?_
              refine A_get hE 63 dX8_move_60 rfl fkX8_260 rfl rfl ?_
              refine A_aload hE 65 dX8_move_63 rfl rfl ?_
              refine A_get hE 68 dX8_move_65 rfl fkX8_260 rfl rfl ?_
              refine A_icmp_eq hE 71 77 dX8_move_68 rfl rfl (fun c68 => ?_) (fun c68 => ?_)
              · have hd : sb 3 = sb 2 := c68
                refine A_aload hE 79 dX8_move_77 rfl rfl ?_
                refine A_get hE 82 dX8_move_79 rfl fkX8_226 rfl rfl ?_
                refine A_iload_n hE 83 dX8_move_82 rfl rfl ?_
                refine A_iload hE 85 dX8_move_83 rfl rfl ?_
                refine A_callVi hE 88 (c_X3_hasRun 24 (sn 3) (nI (zs 3)) i n) [61, 62] dX8_move_85 rfl mkX8_263 rfl rfl rfl rfl rfl rfl rfl (Nat.le_of_ble_eq_true rfl) (Nat.le_of_ble_eq_true rfl) rfl (fun x85 h85 g85 hp85 hw85 => ?_)
                obtain ⟨rfl, rfl⟩ := hp85
                obtain rfl := Option.some.inj hw85
                refine A_h (Y63 er im s t0 g0 h0 t1 g1 h1 tl tp wl wt wh mu J pt vK vk vm tn tr v1 v2 pl ft rk rf K m0 f0 k0 m1 f1 k1 tl2 tp2 wl2 wt2 sb zs sn) rfl ?_
                refine A_if_eq hE 91 106 dX8_move_88 rfl rfl (fun c88 => ?_) (fun c88 => ?_)
                · have r1 := bI_0 c88
                  refine A_aload_n hE 107 dX8_move_106 rfl rfl ?_
                  refine A_iconst hE 108 dX8_move_107 rfl (1) rfl ?_
                  refine A_callVi hE 111 (c_X8_error er im 1 (by omega)) [0, 1] dX8_move_108 rfl mkX8_59 rfl rfl rfl rfl rfl rfl rfl (Nat.le_of_ble_eq_true rfl) (Nat.le_of_ble_eq_true rfl) rfl (fun x108 h108 g108 hp108 hw108 => ?_)
                  obtain ⟨rfl, rfl⟩ := hp108
                  obtain rfl := Option.some.inj hw108
                  refine A_h (Y63 (upd er 1 (er 1 + 1)) im s t0 g0 h0 t1 g1 h1 tl tp wl wt wh mu J pt vK vk vm tn tr v1 v2 pl ft rk rf K m0 f0 k0 m1 f1 k1 tl2 tp2 wl2 wt2 sb zs sn) rfl ?_
                  refine A_iret hE dX8_move_111 ?_
                  rw [moveF, if_pos ⟨hh, hg⟩, ek, el, if_neg (fun z => z.elim hb hc), if_neg (fun z => z hd), if_neg (fun z => r1 ⟨z.1, mv_n hz24 z.1 z.2.1 (by have y := z.2.2.2.1; rw [hz] at y; exact y), z.2.1, by have y := z.2.2.2.1; rw [hz] at y; exact y⟩)]
                  exact ⟨rfl, zs, sn, hR, rfl⟩
                · have r1 := bI_1 c88
                  refine A_aload hE 93 dX8_move_91 rfl rfl ?_
                  refine A_get hE 96 dX8_move_93 rfl fkX8_226 rfl rfl ?_
                  refine A_iload hE 98 dX8_move_96 rfl rfl ?_
                  refine A_iload hE 100 dX8_move_98 rfl rfl ?_
                  refine A_callVi hE 103 (c_X3_hasRun 24 (sn 2) (nI (zs 2)) j n) [58, 59] dX8_move_100 rfl mkX8_263 rfl rfl rfl rfl rfl rfl rfl (Nat.le_of_ble_eq_true rfl) (Nat.le_of_ble_eq_true rfl) rfl (fun x100 h100 g100 hp100 hw100 => ?_)
                  obtain ⟨rfl, rfl⟩ := hp100
                  obtain rfl := Option.some.inj hw100
                  refine A_h (Y63 er im s t0 g0 h0 t1 g1 h1 tl tp wl wt wh mu J pt vK vk vm tn tr v1 v2 pl ft rk rf K m0 f0 k0 m1 f1 k1 tl2 tp2 wl2 wt2 sb zs sn) rfl ?_
                  refine A_if_ne hE 106 112 dX8_move_103 rfl rfl (fun c103 => ?_) (fun c103 => ?_)
                  · have r2 := bI_1 c103
                    obtain ⟨p, hp, rfl⟩ := nI_of (iN r1.2.2.1)
                    obtain ⟨r, hr, rfl⟩ := nI_of (iN r2.2.2.1)
                    obtain ⟨a, ha, rfl⟩ := nI_of (iN r1.1)
                    have b1 := mv_le hp hz24 ha r1.2.2.2
                    have b2 := mv_le hr hy24 ha r2.2.2.2
                    have ep : (nI p).toNatClampNeg = p := nI_clamp hp
                    have er' : (nI r).toNatClampNeg = r := nI_clamp hr
                    have ea : (nI a).toNatClampNeg = a := nI_clamp ha
                    refine A_aload hE 114 dX8_move_112 rfl rfl ?_
                    refine A_get hE 117 dX8_move_114 rfl fkX8_226 rfl rfl ?_
                    refine A_get hE 120 dX8_move_117 rfl fkX8_249 rfl rfl ?_
                    refine A_iload_n hE 121 dX8_move_120 rfl rfl ?_
                    refine A_aload hE 123 dX8_move_121 rfl rfl ?_
                    refine A_get hE 126 dX8_move_123 rfl fkX8_226 rfl rfl ?_
                    refine A_get hE 129 dX8_move_126 rfl fkX8_249 rfl rfl ?_
                    refine A_iload hE 131 dX8_move_129 rfl rfl ?_
                    refine A_iload hE 133 dX8_move_131 rfl rfl ?_
                    refine A_copyi hE 136 dX8_move_133 rfl acRX8 acN acS acI rfl rfl (nI_pos hp) (nI_pos hr) (nI_pos ha) (by rw [ep, ea]; omega) (by rw [er', ea]; omega) rfl (by decide) rfl ?_
                    refine A_h (Y63 er im s t0 g0 h0 t1 g1 h1 tl tp wl wt wh mu J pt vK vk vm tn tr v1 v2 pl ft rk rf K m0 f0 k0 m1 f1 k1 tl2 tp2 wl2 wt2 sb zs (updS sn 2 (va_cpy (sn 3) (sn 2) p r a))) (by rw [ep, er', ea]; rfl) ?_
                    refine A_iload hE 138 dX8_move_136 rfl rfl ?_
                    refine A_iret hE dX8_move_138 ?_
                    rw [moveF, if_pos ⟨hh, hg⟩, ek, el, if_neg (fun z => z.elim hb hc), if_neg (fun z => z hd), if_pos ⟨r1.1, r1.2.2.1, r2.2.2.1, by rw [hz]; exact r1.2.2.2, by rw [hy]; exact r2.2.2.2⟩, ep, er', ea]
                    exact ⟨rfl, _, _, hR.mov (k := 3) (l := 2) (by omega) (by omega) b1 b2, rfl⟩
                  · have r2 := bI_0 c103
                    refine A_aload_n hE 107 dX8_move_106 rfl rfl ?_
                    refine A_iconst hE 108 dX8_move_107 rfl (1) rfl ?_
                    refine A_callVi hE 111 (c_X8_error er im 1 (by omega)) [0, 1] dX8_move_108 rfl mkX8_59 rfl rfl rfl rfl rfl rfl rfl (Nat.le_of_ble_eq_true rfl) (Nat.le_of_ble_eq_true rfl) rfl (fun x108 h108 g108 hp108 hw108 => ?_)
                    obtain ⟨rfl, rfl⟩ := hp108
                    obtain rfl := Option.some.inj hw108
                    refine A_h (Y63 (upd er 1 (er 1 + 1)) im s t0 g0 h0 t1 g1 h1 tl tp wl wt wh mu J pt vK vk vm tn tr v1 v2 pl ft rk rf K m0 f0 k0 m1 f1 k1 tl2 tp2 wl2 wt2 sb zs sn) rfl ?_
                    refine A_iret hE dX8_move_111 ?_
                    rw [moveF, if_pos ⟨hh, hg⟩, ek, el, if_neg (fun z => z.elim hb hc), if_neg (fun z => z hd), if_neg (fun z => r2 ⟨z.1, mv_n hy24 z.1 z.2.2.1 (by have y := z.2.2.2.2; rw [hy] at y; exact y), z.2.2.1, by have y := z.2.2.2.2; rw [hy] at y; exact y⟩)]
                    exact ⟨rfl, zs, sn, hR, rfl⟩
              · have hd : ¬ sb 3 = sb 2 := c68
                refine A_aload_n hE 72 dX8_move_71 rfl rfl ?_
                refine A_iconst hE 73 dX8_move_72 rfl (5) rfl ?_
                refine A_callVi hE 76 (c_X8_error er im 5 (by omega)) [0, 1] dX8_move_73 rfl mkX8_59 rfl rfl rfl rfl rfl rfl rfl (Nat.le_of_ble_eq_true rfl) (Nat.le_of_ble_eq_true rfl) rfl (fun x73 h73 g73 hp73 hw73 => ?_)
                obtain ⟨rfl, rfl⟩ := hp73
                obtain rfl := Option.some.inj hw73
                refine A_h (Y63 (upd er 5 (er 5 + 1)) im s t0 g0 h0 t1 g1 h1 tl tp wl wt wh mu J pt vK vk vm tn tr v1 v2 pl ft rk rf K m0 f0 k0 m1 f1 k1 tl2 tp2 wl2 wt2 sb zs sn) rfl ?_
                refine A_iret hE dX8_move_76 ?_
                rw [moveF, if_pos ⟨hh, hg⟩, ek, el, if_neg (fun z => z.elim hb hc), if_pos hd]
                exact ⟨rfl, zs, sn, hR, rfl⟩
            · have hc := bI_1 c49
              refine A_aload_n hE 53 dX8_move_52 rfl rfl ?_
              refine A_iconst hE 54 dX8_move_53 rfl (2) rfl ?_
              refine A_callVi hE 57 (c_X8_error er im 2 (by omega)) [0, 1] dX8_move_54 rfl mkX8_59 rfl rfl rfl rfl rfl rfl rfl (Nat.le_of_ble_eq_true rfl) (Nat.le_of_ble_eq_true rfl) rfl (fun x54 h54 g54 hp54 hw54 => ?_)
              obtain ⟨rfl, rfl⟩ := hp54
              obtain rfl := Option.some.inj hw54
              refine A_h (Y63 (upd er 2 (er 2 + 1)) im s t0 g0 h0 t1 g1 h1 tl tp wl wt wh mu J pt vK vk vm tn tr v1 v2 pl ft rk rf K m0 f0 k0 m1 f1 k1 tl2 tp2 wl2 wt2 sb zs sn) rfl ?_
              refine A_iret hE dX8_move_57 ?_
              rw [moveF, if_pos ⟨hh, hg⟩, ek, el, if_pos (Or.inr hc)]
              exact ⟨rfl, zs, sn, hR, rfl⟩
        · obtain ⟨hy24, hy, hwn⟩ := hR 3 (by omega)
          refine A_aload_n hE 21 dX8_move_20 rfl rfl ?_
          refine A_get hE 24 dX8_move_21 rfl fkX8_42 rfl rfl ?_
          refine A_iload_n hE 25 dX8_move_24 rfl rfl ?_
          refine A_aald hE 26 3 dX8_move_25 rfl rfl rfl (by omega) rfl rfl ?_
          refine A_astore hE 28 dX8_move_26 rfl rfl rfl ?_
          refine A_aload_n hE 29 dX8_move_28 rfl rfl ?_
          refine A_get hE 32 dX8_move_29 rfl fkX8_42 rfl rfl ?_
          refine A_iload_n hE 33 dX8_move_32 rfl rfl ?_
          refine A_aald hE 34 3 dX8_move_33 rfl rfl rfl (by omega) rfl rfl ?_
          refine A_astore hE 36 dX8_move_34 rfl rfl rfl ?_
          refine A_aload hE 38 dX8_move_36 rfl rfl ?_
          refine A_callVi hE 41 (c_X4_isMissing (sb 3) (zs 3) (sn 3)) [60, 61, 62] dX8_move_38 rfl mkX8_222 rfl rfl rfl rfl rfl rfl rfl (Nat.le_of_ble_eq_true rfl) (Nat.le_of_ble_eq_true rfl) rfl (fun x38 h38 g38 hp38 hw38 => ?_)
          obtain ⟨rfl, rfl⟩ := hp38
          obtain rfl := Option.some.inj hw38
          refine A_h (Y63 er im s t0 g0 h0 t1 g1 h1 tl tp wl wt wh mu J pt vK vk vm tn tr v1 v2 pl ft rk rf K m0 f0 k0 m1 f1 k1 tl2 tp2 wl2 wt2 sb zs sn) rfl ?_
          refine A_if_ne hE 44 52 dX8_move_41 rfl rfl (fun c41 => ?_) (fun c41 => ?_)
          · have hb := bI_1 (show ¬ _ = 0 from c41)
            refine A_aload_n hE 53 dX8_move_52 rfl rfl ?_
            refine A_iconst hE 54 dX8_move_53 rfl (2) rfl ?_
            refine A_callVi hE 57 (c_X8_error er im 2 (by omega)) [0, 1] dX8_move_54 rfl mkX8_59 rfl rfl rfl rfl rfl rfl rfl (Nat.le_of_ble_eq_true rfl) (Nat.le_of_ble_eq_true rfl) rfl (fun x54 h54 g54 hp54 hw54 => ?_)
            obtain ⟨rfl, rfl⟩ := hp54
            obtain rfl := Option.some.inj hw54
            refine A_h (Y63 (upd er 2 (er 2 + 1)) im s t0 g0 h0 t1 g1 h1 tl tp wl wt wh mu J pt vK vk vm tn tr v1 v2 pl ft rk rf K m0 f0 k0 m1 f1 k1 tl2 tp2 wl2 wt2 sb zs sn) rfl ?_
            refine A_iret hE dX8_move_57 ?_
            rw [moveF, if_pos ⟨hh, hg⟩, ek, if_pos (Or.inl hb)]
            exact ⟨rfl, zs, sn, hR, rfl⟩
          · have hb := bI_0 c41
            refine A_aload hE 46 dX8_move_44 rfl rfl ?_
            refine A_callVi hE 49 (c_X4_isMissing (sb 3) (zs 3) (sn 3)) [60, 61, 62] dX8_move_46 rfl mkX8_222 rfl rfl rfl rfl rfl rfl rfl (Nat.le_of_ble_eq_true rfl) (Nat.le_of_ble_eq_true rfl) rfl (fun x46 h46 g46 hp46 hw46 => ?_)
            obtain ⟨rfl, rfl⟩ := hp46
            obtain rfl := Option.some.inj hw46
            refine A_h (Y63 er im s t0 g0 h0 t1 g1 h1 tl tp wl wt wh mu J pt vK vk vm tn tr v1 v2 pl ft rk rf K m0 f0 k0 m1 f1 k1 tl2 tp2 wl2 wt2 sb zs sn) rfl ?_
            refine A_if_eq hE 52 58 dX8_move_49 rfl rfl (fun c49 => ?_) (fun c49 => ?_)
            · have hc := bI_0 c49
              refine A_aload hE 60 dX8_move_58 rfl rfl ?_
              refine A_get hE 63 dX8_move_60 rfl fkX8_260 rfl rfl ?_
              refine A_aload hE 65 dX8_move_63 rfl rfl ?_
              refine A_get hE 68 dX8_move_65 rfl fkX8_260 rfl rfl ?_
              refine A_icmp_eq hE 71 77 dX8_move_68 rfl rfl (fun c68 => ?_) (fun c68 => ?_)
              · have hd : sb 3 = sb 3 := c68
                refine A_aload hE 79 dX8_move_77 rfl rfl ?_
                refine A_get hE 82 dX8_move_79 rfl fkX8_226 rfl rfl ?_
                refine A_iload_n hE 83 dX8_move_82 rfl rfl ?_
                refine A_iload hE 85 dX8_move_83 rfl rfl ?_
                refine A_callVi hE 88 (c_X3_hasRun 24 (sn 3) (nI (zs 3)) i n) [61, 62] dX8_move_85 rfl mkX8_263 rfl rfl rfl rfl rfl rfl rfl (Nat.le_of_ble_eq_true rfl) (Nat.le_of_ble_eq_true rfl) rfl (fun x85 h85 g85 hp85 hw85 => ?_)
                obtain ⟨rfl, rfl⟩ := hp85
                obtain rfl := Option.some.inj hw85
                refine A_h (Y63 er im s t0 g0 h0 t1 g1 h1 tl tp wl wt wh mu J pt vK vk vm tn tr v1 v2 pl ft rk rf K m0 f0 k0 m1 f1 k1 tl2 tp2 wl2 wt2 sb zs sn) rfl ?_
                refine A_if_eq hE 91 106 dX8_move_88 rfl rfl (fun c88 => ?_) (fun c88 => ?_)
                · have r1 := bI_0 c88
                  refine A_aload_n hE 107 dX8_move_106 rfl rfl ?_
                  refine A_iconst hE 108 dX8_move_107 rfl (1) rfl ?_
                  refine A_callVi hE 111 (c_X8_error er im 1 (by omega)) [0, 1] dX8_move_108 rfl mkX8_59 rfl rfl rfl rfl rfl rfl rfl (Nat.le_of_ble_eq_true rfl) (Nat.le_of_ble_eq_true rfl) rfl (fun x108 h108 g108 hp108 hw108 => ?_)
                  obtain ⟨rfl, rfl⟩ := hp108
                  obtain rfl := Option.some.inj hw108
                  refine A_h (Y63 (upd er 1 (er 1 + 1)) im s t0 g0 h0 t1 g1 h1 tl tp wl wt wh mu J pt vK vk vm tn tr v1 v2 pl ft rk rf K m0 f0 k0 m1 f1 k1 tl2 tp2 wl2 wt2 sb zs sn) rfl ?_
                  refine A_iret hE dX8_move_111 ?_
                  rw [moveF, if_pos ⟨hh, hg⟩, ek, if_neg (fun z => z.elim hb hc), if_neg (fun z => z hd), if_neg (fun z => r1 ⟨z.1, mv_n hz24 z.1 z.2.1 (by have y := z.2.2.2.1; rw [hz] at y; exact y), z.2.1, by have y := z.2.2.2.1; rw [hz] at y; exact y⟩)]
                  exact ⟨rfl, zs, sn, hR, rfl⟩
                · have r1 := bI_1 c88
                  refine A_aload hE 93 dX8_move_91 rfl rfl ?_
                  refine A_get hE 96 dX8_move_93 rfl fkX8_226 rfl rfl ?_
                  refine A_iload hE 98 dX8_move_96 rfl rfl ?_
                  refine A_iload hE 100 dX8_move_98 rfl rfl ?_
                  refine A_callVi hE 103 (c_X3_hasRun 24 (sn 3) (nI (zs 3)) j n) [61, 62] dX8_move_100 rfl mkX8_263 rfl rfl rfl rfl rfl rfl rfl (Nat.le_of_ble_eq_true rfl) (Nat.le_of_ble_eq_true rfl) rfl (fun x100 h100 g100 hp100 hw100 => ?_)
                  obtain ⟨rfl, rfl⟩ := hp100
                  obtain rfl := Option.some.inj hw100
                  refine A_h (Y63 er im s t0 g0 h0 t1 g1 h1 tl tp wl wt wh mu J pt vK vk vm tn tr v1 v2 pl ft rk rf K m0 f0 k0 m1 f1 k1 tl2 tp2 wl2 wt2 sb zs sn) rfl ?_
                  refine A_if_ne hE 106 112 dX8_move_103 rfl rfl (fun c103 => ?_) (fun c103 => ?_)
                  · have r2 := bI_1 c103
                    obtain ⟨p, hp, rfl⟩ := nI_of (iN r1.2.2.1)
                    obtain ⟨r, hr, rfl⟩ := nI_of (iN r2.2.2.1)
                    obtain ⟨a, ha, rfl⟩ := nI_of (iN r1.1)
                    have b1 := mv_le hp hz24 ha r1.2.2.2
                    have b2 := mv_le hr hy24 ha r2.2.2.2
                    have ep : (nI p).toNatClampNeg = p := nI_clamp hp
                    have er' : (nI r).toNatClampNeg = r := nI_clamp hr
                    have ea : (nI a).toNatClampNeg = a := nI_clamp ha
                    refine A_aload hE 114 dX8_move_112 rfl rfl ?_
                    refine A_get hE 117 dX8_move_114 rfl fkX8_226 rfl rfl ?_
                    refine A_get hE 120 dX8_move_117 rfl fkX8_249 rfl rfl ?_
                    refine A_iload_n hE 121 dX8_move_120 rfl rfl ?_
                    refine A_aload hE 123 dX8_move_121 rfl rfl ?_
                    refine A_get hE 126 dX8_move_123 rfl fkX8_226 rfl rfl ?_
                    refine A_get hE 129 dX8_move_126 rfl fkX8_249 rfl rfl ?_
                    refine A_iload hE 131 dX8_move_129 rfl rfl ?_
                    refine A_iload hE 133 dX8_move_131 rfl rfl ?_
                    refine A_copyi hE 136 dX8_move_133 rfl acRX8 acN acS acI rfl rfl (nI_pos hp) (nI_pos hr) (nI_pos ha) (by rw [ep, ea]; omega) (by rw [er', ea]; omega) rfl (by decide) rfl ?_
                    refine A_h (Y63 er im s t0 g0 h0 t1 g1 h1 tl tp wl wt wh mu J pt vK vk vm tn tr v1 v2 pl ft rk rf K m0 f0 k0 m1 f1 k1 tl2 tp2 wl2 wt2 sb zs (updS sn 3 (va_cpy (sn 3) (sn 3) p r a))) (by rw [ep, er', ea]; rfl) ?_
                    refine A_iload hE 138 dX8_move_136 rfl rfl ?_
                    refine A_iret hE dX8_move_138 ?_
                    rw [moveF, if_pos ⟨hh, hg⟩, ek, if_neg (fun z => z.elim hb hc), if_neg (fun z => z hd), if_pos ⟨r1.1, r1.2.2.1, r2.2.2.1, by rw [hz]; exact r1.2.2.2, by rw [hy]; exact r2.2.2.2⟩, ep, er', ea]
                    exact ⟨rfl, _, _, hR.mov (k := 3) (l := 3) (by omega) (by omega) b1 b2, rfl⟩
                  · have r2 := bI_0 c103
                    refine A_aload_n hE 107 dX8_move_106 rfl rfl ?_
                    refine A_iconst hE 108 dX8_move_107 rfl (1) rfl ?_
                    refine A_callVi hE 111 (c_X8_error er im 1 (by omega)) [0, 1] dX8_move_108 rfl mkX8_59 rfl rfl rfl rfl rfl rfl rfl (Nat.le_of_ble_eq_true rfl) (Nat.le_of_ble_eq_true rfl) rfl (fun x108 h108 g108 hp108 hw108 => ?_)
                    obtain ⟨rfl, rfl⟩ := hp108
                    obtain rfl := Option.some.inj hw108
                    refine A_h (Y63 (upd er 1 (er 1 + 1)) im s t0 g0 h0 t1 g1 h1 tl tp wl wt wh mu J pt vK vk vm tn tr v1 v2 pl ft rk rf K m0 f0 k0 m1 f1 k1 tl2 tp2 wl2 wt2 sb zs sn) rfl ?_
                    refine A_iret hE dX8_move_111 ?_
                    rw [moveF, if_pos ⟨hh, hg⟩, ek, if_neg (fun z => z.elim hb hc), if_neg (fun z => z hd), if_neg (fun z => r2 ⟨z.1, mv_n hy24 z.1 z.2.2.1 (by have y := z.2.2.2.2; rw [hy] at y; exact y), z.2.2.1, by have y := z.2.2.2.2; rw [hy] at y; exact y⟩)]
                    exact ⟨rfl, zs, sn, hR, rfl⟩
              · have hd : ¬ sb 3 = sb 3 := c68
                refine A_aload_n hE 72 dX8_move_71 rfl rfl ?_
                refine A_iconst hE 73 dX8_move_72 rfl (5) rfl ?_
                refine A_callVi hE 76 (c_X8_error er im 5 (by omega)) [0, 1] dX8_move_73 rfl mkX8_59 rfl rfl rfl rfl rfl rfl rfl (Nat.le_of_ble_eq_true rfl) (Nat.le_of_ble_eq_true rfl) rfl (fun x73 h73 g73 hp73 hw73 => ?_)
                obtain ⟨rfl, rfl⟩ := hp73
                obtain rfl := Option.some.inj hw73
                refine A_h (Y63 (upd er 5 (er 5 + 1)) im s t0 g0 h0 t1 g1 h1 tl tp wl wt wh mu J pt vK vk vm tn tr v1 v2 pl ft rk rf K m0 f0 k0 m1 f1 k1 tl2 tp2 wl2 wt2 sb zs sn) rfl ?_
                refine A_iret hE dX8_move_76 ?_
                rw [moveF, if_pos ⟨hh, hg⟩, ek, if_neg (fun z => z.elim hb hc), if_pos hd]
                exact ⟨rfl, zs, sn, hR, rfl⟩
            · have hc := bI_1 c49
              refine A_aload_n hE 53 dX8_move_52 rfl rfl ?_
              refine A_iconst hE 54 dX8_move_53 rfl (2) rfl ?_
              refine A_callVi hE 57 (c_X8_error er im 2 (by omega)) [0, 1] dX8_move_54 rfl mkX8_59 rfl rfl rfl rfl rfl rfl rfl (Nat.le_of_ble_eq_true rfl) (Nat.le_of_ble_eq_true rfl) rfl (fun x54 h54 g54 hp54 hw54 => ?_)
              obtain ⟨rfl, rfl⟩ := hp54
              obtain rfl := Option.some.inj hw54
              refine A_h (Y63 (upd er 2 (er 2 + 1)) im s t0 g0 h0 t1 g1 h1 tl tp wl wt wh mu J pt vK vk vm tn tr v1 v2 pl ft rk rf K m0 f0 k0 m1 f1 k1 tl2 tp2 wl2 wt2 sb zs sn) rfl ?_
              refine A_iret hE dX8_move_57 ?_
              rw [moveF, if_pos ⟨hh, hg⟩, ek, if_pos (Or.inr hc)]
              exact ⟨rfl, zs, sn, hR, rfl⟩
    · have hg := bI_0 c11
      refine A_aload_n hE 15 dX8_move_14 rfl rfl ?_
      refine A_iconst hE 16 dX8_move_15 rfl (1) rfl ?_
      refine A_callVi hE 19 (c_X8_error er im 1 (by omega)) [0, 1] dX8_move_16 rfl mkX8_59 rfl rfl rfl rfl rfl rfl rfl (Nat.le_of_ble_eq_true rfl) (Nat.le_of_ble_eq_true rfl) rfl (fun x16 h16 g16 hp16 hw16 => ?_)
      obtain ⟨rfl, rfl⟩ := hp16
      obtain rfl := Option.some.inj hw16
      refine A_h (Y63 (upd er 1 (er 1 + 1)) im s t0 g0 h0 t1 g1 h1 tl tp wl wt wh mu J pt vK vk vm tn tr v1 v2 pl ft rk rf K m0 f0 k0 m1 f1 k1 tl2 tp2 wl2 wt2 sb zs sn) rfl ?_
      refine A_iret hE dX8_move_19 ?_
      rw [moveF, if_neg (fun z => hg z.2)]
      exact ⟨rfl, zs, sn, hR, rfl⟩
