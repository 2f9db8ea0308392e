set_option maxRecDepth 100000 in
theorem c_X9_fits (s K be er st na pi tr bi sz nu as' : Nat → Int32) (im at' op sp us tn sk ip : Int32) (h what : Int32) (t0 t1 : Sp) (hS : wfSh bi sz) (w : wf s) (l0 : MText s 0 t0) (l1 : MText s 1 t1) : AMet yX9_fits cX9_fits 7 (some (.int)) 6 0 0 [.ref 0, .int h, .int what] (MW s K be er st na pi tr bi sz nu as' im at' op sp us tn sk ip) (pI fun x0 hz0 => x0 = (fitsF t0 t1 s er bi sz nu h what).1 ∧ ∃ be' na' pi' : Nat → Int32, hz0 = MW (fitsF t0 t1 s er bi sz nu h what).2.1 K be' (fitsF t0 t1 s er bi sz nu h what).2.2 st na' pi' tr bi sz nu as' im at' op sp us tn sk ip) := by
  refine AMet.of (by decide +kernel) rfl (fun E ad0 hE => ?_)
  obtain ⟨w1, w2, w3, w4, w5, w6, w7⟩ := id w
  refine A_iload_n hE 1 dX9_fits_0 rfl rfl ?_
  refine A_callSi hE 4 (c_X9_isSheet h) [] dX9_fits_1 rfl mkX9_195 rfl rfl rfl rfl rfl rfl (Nat.le_of_ble_eq_true rfl) (Nat.le_of_ble_eq_true rfl) rfl (fun x1 h1 g1 hp1 hw1 => ?_)
  obtain ⟨rfl, rfl⟩ := hp1
  obtain rfl := Option.some.inj hw1
  refine A_if_eq hE 7 16 dX9_fits_4 rfl rfl (fun c4 => ?_) (fun c4 => ?_)
  · have hh := bI_0 c4
    refine A_aload_n hE 17 dX9_fits_16 rfl rfl ?_
    refine A_iconst hE 18 dX9_fits_17 rfl (1) rfl ?_
    refine A_callVi hE 21 (c_X9_error s K be er st na pi tr bi sz nu as' im at' op sp us tn sk ip 1 (by omega)) [0, 1, 2, 3, 4, 5, 6, 7, 8, 9, 10, 11, 12] dX9_fits_18 rfl mkX9_51 rfl rfl rfl rfl rfl rfl rfl (Nat.le_of_ble_eq_true rfl) (Nat.le_of_ble_eq_true rfl) rfl (fun x18 h18 g18 hp18 hw18 => ?_)
    obtain ⟨rfl, rfl⟩ := hp18
    obtain rfl := Option.some.inj hw18
    refine A_h (MW s K be (upd er 1 (er 1 + 1)) st na pi tr bi sz nu as' im at' op sp us tn sk ip) rfl ?_
    refine A_iret hE dX9_fits_21 ?_
    rw [fitsF, if_neg (fun z => hh z.1)]
    exact ⟨rfl, be, na, pi, rfl⟩
  · have hh := bI_1 c4
    obtain ⟨k, hkk, rfl⟩ := iK2 (n := 3) hh.1 hh.2 (by omega)
    have ek : (nI k).toNatClampNeg = k := nI_clamp (by omega)
    obtain ⟨-, z0, hz24, hz⟩ := hS k (by omega)
    refine A_iload_n hE 8 dX9_fits_7 rfl rfl ?_
    refine A_iconst hE 9 dX9_fits_8 rfl (0) rfl ?_
    refine A_iconst hE 10 dX9_fits_9 rfl (1) rfl ?_
    refine A_callSi hE 13 (c_X9_in what 0 1) [] dX9_fits_10 rfl mkX9_47 rfl rfl rfl rfl rfl rfl (Nat.le_of_ble_eq_true rfl) (Nat.le_of_ble_eq_true rfl) rfl (fun x10 h10 g10 hp10 hw10 => ?_)
    obtain ⟨rfl, rfl⟩ := hp10
    obtain rfl := Option.some.inj hw10
    refine A_if_ne hE 16 22 dX9_fits_13 rfl rfl (fun c13 => ?_) (fun c13 => ?_)
    · have hv := bI_1 c13
      refine A_aload_n hE 23 dX9_fits_22 rfl rfl ?_
      refine A_get hE 26 dX9_fits_23 rfl fkX9_34 rfl rfl ?_
      refine A_iload_n hE 27 dX9_fits_26 rfl rfl ?_
      refine A_iald hE 28 k dX9_fits_27 rfl rfl rfl (by omega) rfl ?_
      refine A_if_ne hE 31 37 dX9_fits_28 rfl rfl (fun c28 => ?_) (fun c28 => ?_)
      · have hb : ¬ bi k = 0 := c28
        refine A_iconst hE 38 dX9_fits_37 rfl (0) rfl ?_
        refine A_istore_n hE 39 dX9_fits_38 rfl rfl rfl ?_
        refine A_aload_n hE 40 dX9_fits_39 rfl rfl ?_
        refine A_callVv hE 43 (c_X9_saves s K be er st na pi tr bi sz nu as' im at' op sp us tn sk ip) [0, 1, 2, 3, 4, 5, 6, 7, 8, 9, 10, 11, 12] dX9_fits_40 rfl mkX9_170 rfl rfl rfl rfl rfl rfl rfl (Nat.le_of_ble_eq_true rfl) (Nat.le_of_ble_eq_true rfl) rfl (fun h40 g40 hp40 hw40 => ?_)
        obtain rfl := hp40
        obtain rfl := Option.some.inj hw40
        refine A_h (MW s K (ovr 49 s be) er st na pi tr bi sz nu as' im at' op sp us tn sk ip) rfl ?_
        refine A_iconst hE 44 dX9_fits_43 rfl (0) rfl ?_
        refine A_istore hE 46 dX9_fits_44 rfl rfl rfl ?_
        have outer : ∀ (m a c : Nat) (na pi : Nat → Int32), a + m = hn s → c < 2 ^ a → ptM t0 t1 s (vn k nu) z0 (hn s) 0 0 = ptM t0 t1 s (vn k nu) z0 m a c → AW E (rmD 6 0 0) 7 (QM E ad0 13 0 0 (pI fun x0 hz0 => x0 = (fitsF t0 t1 s er bi sz nu (nI k) what).1 ∧ ∃ be' na' pi' : Nat → Int32, hz0 = MW (fitsF t0 t1 s er bi sz nu (nI k) what).2.1 K be' (fitsF t0 t1 s er bi sz nu (nI k) what).2.2 st na' pi' tr bi sz nu as' im at' op sp us tn sk ip)) ad0 13 0 0 46 [(0, .ref 0), (1, .int (nI k)), (2, .int what), (3, .int (nI c)), (4, .int (nI a))] [] (MW s K (ovr 49 s be) er st na pi tr bi sz nu as' im at' op sp us tn sk ip) := by
          intro m
          induction m with
          | zero =>
            intro a c na pi ha hc hx
            obtain rfl : a = hn s := by omega
            have hc8 : c < 256 := Nat.lt_of_lt_of_le hc (pow_le w1)
            refine A_iload hE 48 dX9_fits_46 rfl rfl ?_
            refine A_aload_n hE 49 dX9_fits_48 rfl rfl ?_
            refine A_get hE 52 dX9_fits_49 rfl fkX9_7 rfl rfl ?_
            refine A_bipush hE 54 dX9_fits_52 rfl (8) (by decide) ?_
            refine A_iald hE 55 8 dX9_fits_54 rfl rfl rfl (by omega) rfl ?_
            refine A_icmp_ge hE 58 152 dX9_fits_55 rfl rfl (fun c55 => ?_) (fun c55 => absurd (by rw [w2]; exact nI_le (Nat.le_refl _) (by omega)) c55)
            refine A_iload_n hE 153 dX9_fits_152 rfl rfl ?_
            refine A_if_ne hE 156 160 dX9_fits_153 rfl rfl (fun c153 => ?_) (fun c153 => ?_)
            · refine A_iload_n hE 161 dX9_fits_160 rfl rfl ?_
              refine A_callSi hE 164 (c_X9_ones c hc8) [] dX9_fits_161 rfl mkX9_186 rfl rfl rfl rfl rfl rfl (Nat.le_of_ble_eq_true rfl) (Nat.le_of_ble_eq_true rfl) rfl (fun x161 h161 g161 hp161 hw161 => ?_)
              obtain ⟨rfl, rfl⟩ := hp161
              obtain rfl := Option.some.inj hw161
              refine A_iret hE dX9_fits_164 ?_
              rw [fitsF, if_pos ⟨hh, hv⟩, ek, if_neg hb, hz, nI_clamp (by omega), hx, ptM, if_neg c153]
              exact ⟨rfl, _, na, pi, rfl⟩
            · refine A_iload_n hE 157 dX9_fits_156 rfl rfl ?_
              refine A_goto hE 164 dX9_fits_157 rfl ?_
              refine A_iret hE dX9_fits_164 ?_
              rw [fitsF, if_pos ⟨hh, hv⟩, ek, if_neg hb, hz, nI_clamp (by omega), hx, ptM, if_pos c153]
              exact ⟨rfl, _, na, pi, rfl⟩
          | succ m ih =>
            intro a c na pi ha hc hx
            have hlt : a < hn s := by omega
            have last : ∀ (x : Int32) (i : Nat) (s' na pi : Nat → Int32), (x = 1 ∧ ftM t0 t1 (vn k nu) z0 0 (upd s 4 (nI a)) = true ∨ x = 0 ∧ ftM t0 t1 (vn k nu) z0 0 (upd s 4 (nI a)) = false) → (∀ z, 49 ≤ z → s' z = s z) → AW E (rmD 6 0 0) 7 (QM E ad0 13 0 0 (pI fun x0 hz0 => x0 = (fitsF t0 t1 s er bi sz nu (nI k) what).1 ∧ ∃ be' na' pi' : Nat → Int32, hz0 = MW (fitsF t0 t1 s er bi sz nu (nI k) what).2.1 K be' (fitsF t0 t1 s er bi sz nu (nI k) what).2.2 st na' pi' tr bi sz nu as' im at' op sp us tn sk ip)) ad0 13 0 0 126 [(0, .ref 0), (1, .int (nI k)), (2, .int what), (3, .int (nI c)), (4, .int (nI a)), (5, .int x), (6, .int (nI i))] [] (MW s' K (ovr 49 s be) er st na pi tr bi sz nu as' im at' op sp us tn sk ip) := by
              intro x i s' na pi hxx hs
              rcases hxx with ⟨rfl, hf⟩ | ⟨rfl, hf⟩
              · refine A_aload_n hE 127 dX9_fits_126 rfl rfl ?_
                refine A_callVv hE 130 (c_X9_putsBack s' K (ovr 49 s be) er st na pi tr bi sz nu as' im at' op sp us tn sk ip) [0, 1, 2, 3, 4, 5, 6, 7, 8, 9, 10, 11, 12] dX9_fits_127 rfl mkX9_176 rfl rfl rfl rfl rfl rfl rfl (Nat.le_of_ble_eq_true rfl) (Nat.le_of_ble_eq_true rfl) rfl (fun h127 g127 hp127 hw127 => ?_)
                obtain rfl := hp127
                obtain rfl := Option.some.inj hw127
                refine A_h (MW s K (ovr 49 s be) er st na pi tr bi sz nu as' im at' op sp us tn sk ip) (by rw [back_eq hs]; rfl) ?_
                refine A_iload_n hE 131 dX9_fits_130 rfl rfl ?_
                refine A_iload hE 133 dX9_fits_131 rfl rfl ?_
                refine A_if_eq hE 136 143 dX9_fits_133 rfl rfl (fun c133 => absurd c133 (by decide)) (fun c133 => ?_)
                refine A_iconst hE 137 dX9_fits_136 rfl (1) rfl ?_
                refine A_iload hE 139 dX9_fits_137 rfl rfl ?_
                refine A_ishl hE 140 dX9_fits_139 rfl ?_
                refine A_goto hE 144 dX9_fits_140 rfl ?_
                refine A_ior hE 145 dX9_fits_144 rfl ?_
                rw [or_1 (by omega) hc]
                refine A_istore_n hE 146 dX9_fits_145 rfl rfl rfl ?_
                refine A_iinc hE 149 dX9_fits_146 rfl rfl (1) rfl rfl rfl ?_
                rw [nI_1]
                refine A_lv [0, 1, 2, 3, 4] rfl ?_
                refine A_goto hE 46 dX9_fits_149 rfl ?_
                exact ih (a + 1) (c + 2 ^ a) na pi (by omega) (by rw [Nat.pow_succ]; omega) (hx.trans (by rw [ptM, if_pos hf]))
              · refine A_aload_n hE 127 dX9_fits_126 rfl rfl ?_
                refine A_callVv hE 130 (c_X9_putsBack s' K (ovr 49 s be) er st na pi tr bi sz nu as' im at' op sp us tn sk ip) [0, 1, 2, 3, 4, 5, 6, 7, 8, 9, 10, 11, 12] dX9_fits_127 rfl mkX9_176 rfl rfl rfl rfl rfl rfl rfl (Nat.le_of_ble_eq_true rfl) (Nat.le_of_ble_eq_true rfl) rfl (fun h127 g127 hp127 hw127 => ?_)
                obtain rfl := hp127
                obtain rfl := Option.some.inj hw127
                refine A_h (MW s K (ovr 49 s be) er st na pi tr bi sz nu as' im at' op sp us tn sk ip) (by rw [back_eq hs]; rfl) ?_
                refine A_iload_n hE 131 dX9_fits_130 rfl rfl ?_
                refine A_iload hE 133 dX9_fits_131 rfl rfl ?_
                refine A_if_eq hE 136 143 dX9_fits_133 rfl rfl (fun c133 => ?_) (fun c133 => absurd rfl c133)
                refine A_iconst hE 144 dX9_fits_143 rfl (0) rfl ?_
                refine A_ior hE 145 dX9_fits_144 rfl ?_
                rw [Int32.or_zero]
                refine A_istore_n hE 146 dX9_fits_145 rfl rfl rfl ?_
                refine A_iinc hE 149 dX9_fits_146 rfl rfl (1) rfl rfl rfl ?_
                rw [nI_1]
                refine A_lv [0, 1, 2, 3, 4] rfl ?_
                refine A_goto hE 46 dX9_fits_149 rfl ?_
                exact ih (a + 1) c na pi (by omega) (by rw [Nat.pow_succ]; omega) (hx.trans (by rw [ptM, if_neg (by rw [hf]; decide)]))
            have inner : ∀ (f i : Nat) (s' na pi : Nat → Int32), i + f = z0 → wf s' → MText s' 0 t0 → MText s' 1 t1 → (∀ z, 49 ≤ z → s' z = s z) → ftM t0 t1 (vn k nu) z0 0 (upd s 4 (nI a)) = ftM t0 t1 (vn k nu) f i s' → AW E (rmD 6 0 0) 7 (QM E ad0 13 0 0 (pI fun x0 hz0 => x0 = (fitsF t0 t1 s er bi sz nu (nI k) what).1 ∧ ∃ be' na' pi' : Nat → Int32, hz0 = MW (fitsF t0 t1 s er bi sz nu (nI k) what).2.1 K be' (fitsF t0 t1 s er bi sz nu (nI k) what).2.2 st na' pi' tr bi sz nu as' im at' op sp us tn sk ip)) ad0 13 0 0 72 [(0, .ref 0), (1, .int (nI k)), (2, .int what), (3, .int (nI c)), (4, .int (nI a)), (5, .int 1), (6, .int (nI i))] [] (MW s' K (ovr 49 s be) er st na pi tr bi sz nu as' im at' op sp us tn sk ip) := by
              intro f
              induction f with
              | zero =>
                intro i s' na pi hi w' m0 m1 hs hy
                obtain rfl : i = z0 := by omega
                refine A_iload hE 74 dX9_fits_72 rfl rfl ?_
                refine A_aload_n hE 75 dX9_fits_74 rfl rfl ?_
                refine A_get hE 78 dX9_fits_75 rfl fkX9_37 rfl rfl ?_
                refine A_iload_n hE 79 dX9_fits_78 rfl rfl ?_
                refine A_iald hE 80 k dX9_fits_79 rfl rfl rfl (by omega) rfl ?_
                rw [hz]
                refine A_icmp_ge hE 83 126 dX9_fits_80 rfl rfl (fun c80 => ?_) (fun c80 => absurd (nI_le (Nat.le_refl _) (by omega)) c80)
                refine A_lv [0, 1, 2, 3, 4, 5, 6] rfl ?_
                exact last 1 i s' na pi (Or.inl ⟨rfl, hy⟩) hs
              | succ f ihf =>
                intro i s' na pi hi w' m0 m1 hs hy
                refine A_iload hE 74 dX9_fits_72 rfl rfl ?_
                refine A_aload_n hE 75 dX9_fits_74 rfl rfl ?_
                refine A_get hE 78 dX9_fits_75 rfl fkX9_37 rfl rfl ?_
                refine A_iload_n hE 79 dX9_fits_78 rfl rfl ?_
                refine A_iald hE 80 k dX9_fits_79 rfl rfl rfl (by omega) rfl ?_
                rw [hz]
                refine A_icmp_ge hE 83 126 dX9_fits_80 rfl rfl (fun c80 => absurd c80 (nI_ge (a := i) (b := z0) (by omega) (by omega))) (fun c80 => ?_)
                refine A_iload hE 85 dX9_fits_83 rfl rfl ?_
                refine A_if_eq hE 88 126 dX9_fits_85 rfl rfl (fun c85 => absurd c85 (by decide)) (fun c85 => ?_)
                refine A_aload_n hE 89 dX9_fits_88 rfl rfl ?_
                refine A_get hE 92 dX9_fits_89 rfl fkX9_40 rfl rfl ?_
                refine A_bipush hE 94 dX9_fits_92 rfl (24) (by decide) ?_
                refine A_iload_n hE 95 dX9_fits_94 rfl rfl ?_
                refine A_imul hE 96 dX9_fits_95 rfl ?_
                refine A_iload hE 98 dX9_fits_96 rfl rfl ?_
                refine A_iadd hE 99 dX9_fits_98 rfl ?_
                refine A_iald hE 100 (24 * k + i) dX9_fits_99 rfl rfl (ix24 k i) (by omega) rfl ?_
                refine A_aload_n hE 101 dX9_fits_100 rfl rfl ?_
                refine A_get hE 104 dX9_fits_101 rfl fkX9_7 rfl rfl ?_
                refine A_iconst hE 105 dX9_fits_104 rfl (1) rfl ?_
                refine A_iald hE 106 1 dX9_fits_105 rfl rfl rfl (by omega) rfl ?_
                refine A_icmp_ne hE 109 113 dX9_fits_106 rfl rfl (fun c106 => ?_) (fun c106 => ?_)
                · have c106 : ¬ vn k nu i = s' 1 := c106
                  refine A_iconst hE 114 dX9_fits_113 rfl (0) rfl ?_
                  refine A_istore hE 116 dX9_fits_114 rfl rfl rfl ?_
                  refine A_aload_n hE 117 dX9_fits_116 rfl rfl ?_
                  refine A_callVv hE 120 (c_X9_day1 s' K (ovr 49 s be) er st na pi tr bi sz nu as' im at' op sp us tn sk ip t0 t1 w' m0 m1) [0, 1, 2, 3, 4, 5, 6, 7, 8, 9, 10, 11, 12] dX9_fits_117 rfl mkX9_150 rfl rfl rfl rfl rfl rfl rfl (Nat.le_of_ble_eq_true rfl) (Nat.le_of_ble_eq_true rfl) rfl (fun h117 g117 hp117 hw117 => ?_)
                  obtain ⟨na1, pi1, rfl⟩ := hp117
                  obtain rfl := Option.some.inj hw117
                  refine A_h (MW (day1 t0 t1 s') K (ovr 49 s be) er st na1 pi1 tr bi sz nu as' im at' op sp us tn sk ip) rfl ?_
                  refine A_iinc hE 123 dX9_fits_120 rfl rfl (1) rfl rfl rfl ?_
                  rw [nI_1]
                  refine A_lv [0, 1, 2, 3, 4, 5, 6] rfl ?_
                  refine A_goto hE 72 dX9_fits_123 rfl ?_
                  refine A_iload hE 74 dX9_fits_72 rfl rfl ?_
                  refine A_aload_n hE 75 dX9_fits_74 rfl rfl ?_
                  refine A_get hE 78 dX9_fits_75 rfl fkX9_37 rfl rfl ?_
                  refine A_iload_n hE 79 dX9_fits_78 rfl rfl ?_
                  refine A_iald hE 80 k dX9_fits_79 rfl rfl rfl (by omega) rfl ?_
                  rw [hz]
                  refine A_icmp_ge hE 83 126 dX9_fits_80 rfl rfl (fun c80 => ?_) (fun c80 => ?_)
                  · refine A_lv [0, 1, 2, 3, 4, 5, 6] rfl ?_
                    exact last 0 (i + 1) _ na1 pi1 (Or.inr ⟨rfl, hy.trans (by rw [ftM, if_neg c106])⟩) (fun z q => by rw [day_hi w' q, hs z q])
                  · refine A_iload hE 85 dX9_fits_83 rfl rfl ?_
                    refine A_if_eq hE 88 126 dX9_fits_85 rfl rfl (fun c85 => ?_) (fun c85 => absurd rfl c85)
                    refine A_lv [0, 1, 2, 3, 4, 5, 6] rfl ?_
                    exact last 0 (i + 1) _ na1 pi1 (Or.inr ⟨rfl, hy.trans (by rw [ftM, if_neg c106])⟩) (fun z q => by rw [day_hi w' q, hs z q])
                · have c106 : vn k nu i = s' 1 := c106
                  refine A_iconst hE 110 dX9_fits_109 rfl (1) rfl ?_
                  refine A_goto hE 114 dX9_fits_110 rfl ?_
                  refine A_istore hE 116 dX9_fits_114 rfl rfl rfl ?_
                  refine A_aload_n hE 117 dX9_fits_116 rfl rfl ?_
                  refine A_callVv hE 120 (c_X9_day1 s' K (ovr 49 s be) er st na pi tr bi sz nu as' im at' op sp us tn sk ip t0 t1 w' m0 m1) [0, 1, 2, 3, 4, 5, 6, 7, 8, 9, 10, 11, 12] dX9_fits_117 rfl mkX9_150 rfl rfl rfl rfl rfl rfl rfl (Nat.le_of_ble_eq_true rfl) (Nat.le_of_ble_eq_true rfl) rfl (fun h117 g117 hp117 hw117 => ?_)
                  obtain ⟨na1, pi1, rfl⟩ := hp117
                  obtain rfl := Option.some.inj hw117
                  refine A_h (MW (day1 t0 t1 s') K (ovr 49 s be) er st na1 pi1 tr bi sz nu as' im at' op sp us tn sk ip) rfl ?_
                  refine A_iinc hE 123 dX9_fits_120 rfl rfl (1) rfl rfl rfl ?_
                  rw [nI_1]
                  refine A_lv [0, 1, 2, 3, 4, 5, 6] rfl ?_
                  refine A_goto hE 72 dX9_fits_123 rfl ?_
                  exact ihf (i + 1) _ na1 pi1 (by omega) (wf_day w') (MT_day w' m0) (MT_day w' m1) (fun z q => by rw [day_hi w' q, hs z q]) (hy.trans (by rw [ftM, if_pos c106]))
            refine A_iload hE 48 dX9_fits_46 rfl rfl ?_
            refine A_aload_n hE 49 dX9_fits_48 rfl rfl ?_
            refine A_get hE 52 dX9_fits_49 rfl fkX9_7 rfl rfl ?_
            refine A_bipush hE 54 dX9_fits_52 rfl (8) (by decide) ?_
            refine A_iald hE 55 8 dX9_fits_54 rfl rfl rfl (by omega) rfl ?_
            refine A_icmp_ge hE 58 152 dX9_fits_55 rfl rfl (fun c55 => absurd c55 (by rw [w2]; exact nI_ge hlt (by omega))) (fun c55 => ?_)
            refine A_aload_n hE 59 dX9_fits_58 rfl rfl ?_
            refine A_get hE 62 dX9_fits_59 rfl fkX9_7 rfl rfl ?_
            refine A_iconst hE 63 dX9_fits_62 rfl (4) rfl ?_
            refine A_iload hE 65 dX9_fits_63 rfl rfl ?_
            refine A_iast hE 66 4 dX9_fits_65 rfl rfl rfl (by omega) rfl rfl ?_
            refine A_iconst hE 67 dX9_fits_66 rfl (1) rfl ?_
            refine A_istore hE 69 dX9_fits_67 rfl rfl rfl ?_
            refine A_iconst hE 70 dX9_fits_69 rfl (0) rfl ?_
            refine A_istore hE 72 dX9_fits_70 rfl rfl rfl ?_
            refine A_lv [0, 1, 2, 3, 4, 5, 6] rfl ?_
            exact inner z0 0 _ na pi (Nat.zero_add _) (wf_4 w hlt) (l0.lo (by omega)) (l1.lo (by omega)) (fun z q => upd_hi (by omega) q) rfl
        refine A_lv [0, 1, 2, 3, 4] rfl ?_
        exact outer (hn s) 0 0 na pi (Nat.zero_add _) Nat.zero_lt_one rfl
      · refine A_aload_n hE 32 dX9_fits_31 rfl rfl ?_
        refine A_iconst hE 33 dX9_fits_32 rfl (2) rfl ?_
        refine A_callVi hE 36 (c_X9_error s K be er st na pi tr bi sz nu as' im at' op sp us tn sk ip 2 (by omega)) [0, 1, 2, 3, 4, 5, 6, 7, 8, 9, 10, 11, 12] dX9_fits_33 rfl mkX9_51 rfl rfl rfl rfl rfl rfl rfl (Nat.le_of_ble_eq_true rfl) (Nat.le_of_ble_eq_true rfl) rfl (fun x33 h33 g33 hp33 hw33 => ?_)
        obtain ⟨rfl, rfl⟩ := hp33
        obtain rfl := Option.some.inj hw33
        refine A_h (MW s K be (upd er 2 (er 2 + 1)) st na pi tr bi sz nu as' im at' op sp us tn sk ip) rfl ?_
        refine A_iret hE dX9_fits_36 ?_
        rw [fitsF, if_pos ⟨hh, hv⟩, ek, if_pos c28]
        exact ⟨rfl, be, na, pi, rfl⟩
    · have hv := bI_0 c13
      refine A_aload_n hE 17 dX9_fits_16 rfl rfl ?_
      refine A_iconst hE 18 dX9_fits_17 rfl (1) rfl ?_
      refine A_callVi hE 21 (c_X9_error s K be er st na pi tr bi sz nu as' im at' op sp us tn sk ip 1 (by omega)) [0, 1, 2, 3, 4, 5, 6, 7, 8, 9, 10, 11, 12] dX9_fits_18 rfl mkX9_51 rfl rfl rfl rfl rfl rfl rfl (Nat.le_of_ble_eq_true rfl) (Nat.le_of_ble_eq_true rfl) rfl (fun x18 h18 g18 hp18 hw18 => ?_)
      obtain ⟨rfl, rfl⟩ := hp18
      obtain rfl := Option.some.inj hw18
      refine A_h (MW s K be (upd er 1 (er 1 + 1)) st na pi tr bi sz nu as' im at' op sp us tn sk ip) rfl ?_
      refine A_iret hE dX9_fits_21 ?_
      rw [fitsF, if_neg (fun z => hv z.2)]
      exact ⟨rfl, be, na, pi, rfl⟩
