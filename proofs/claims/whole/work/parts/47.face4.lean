set_option maxRecDepth 100000 in
theorem c_X8_image (er : Nat → Int32) (im : Int32) (s : St) (t0 : Sp) (g0 h0 : Nat → Int32) (t1 : Sp) (g1 h1 : Nat → Int32) (tl : Nat) (tp : Nat → Int32) (wl : Nat) (wt : Nat → Int32) (wh mu : Int32) (J : St) (pt : Int32) (vK : Nat) (vk vm : Int32) (tn : Nat) (tr : Nat → Int32) (v1 v2 : Value) (pl ft : Int32) (rk : Nat) (rf : Nat → Int32) (K : St) (m0 : Nat) (f0 k0 : Nat → Int32) (m1 : Nat) (f1 k1 : Nat → Int32) (tl2 : Nat) (tp2 : Nat → Int32) (wl2 : Nat) (wt2 : Nat → Int32) (hn0 : m0 ≤ 60) (hn1 : m1 ≤ 60) (ht0 : t0.length ≤ 60) (ht1 : t1.length ≤ 60) (htl : tl ≤ 60) (hwl : wl ≤ 24) : AMet yX8_image cX8_image 1 (some (.int)) 5 0 0 [.ref 0] (Y50 er im s t0 g0 h0 t1 g1 h1 tl tp wl wt wh mu J pt vK vk vm tn tr v1 v2 pl ft rk rf K m0 f0 k0 m1 f1 k1 tl2 tp2 wl2 wt2) (pI fun x h => x = im + 1 ∧ h = Y50 er (im + 1) s t0 g0 h0 t1 g1 h1 tl tp wl wt wh mu J pt vK vk vm tn tr v1 v2 pl ft rk rf s t0.length (ovr t0.length g0 f0) k0 t1.length (ovr t1.length g1 f1) k1 tl (ovr tl tp tp2) wl (ovr wl wt wt2)) := by
  refine AMet.of (by decide +kernel) rfl (fun E ad0 hE => ?_)
  refine A_aload_n hE 1 dX8_image_0 rfl rfl ?_
  refine A_get hE 4 dX8_image_1 rfl fkX8_16 rfl rfl ?_
  refine A_aload_n hE 5 dX8_image_4 rfl rfl ?_
  refine A_get hE 8 dX8_image_5 rfl fkX8_10 rfl rfl ?_
  refine A_callVv hE 11 (c_X5_takeOver K m0 f0 k0 m1 f1 k1 tl2 tp2 wl2 wt2 s t0 g0 h0 t1 g1 h1 tl tp wl wt ht0 ht1 htl hwl) [32, 41, 42, 43, 44, 45, 2, 11, 12, 13, 14, 15, 33, 34, 35, 36, 37, 38, 39, 40, 46, 47, 48, 49, 3, 4, 5, 6, 7, 8, 9, 10, 16, 17, 18, 19] dX8_image_8 rfl mkX8_279 rfl rfl rfl rfl rfl rfl rfl (Nat.le_of_ble_eq_true rfl) (Nat.le_of_ble_eq_true rfl) rfl (fun h8 g8 hp8 hw8 => ?_)
  obtain rfl := hp8
  obtain rfl := Option.some.inj hw8
  refine A_h (Y50 er im s t0 g0 h0 t1 g1 h1 tl tp wl wt wh mu J pt vK vk vm tn tr v1 v2 pl ft rk rf s t0.length (ovr t0.length g0 f0) k0 t1.length (ovr t1.length g1 f1) k1 tl (ovr tl tp tp2) wl (ovr wl wt wt2)) rfl ?_
  refine A_aload_n hE 12 dX8_image_11 rfl rfl ?_
  refine A_dup hE 13 dX8_image_12 rfl rfl ?_
  refine A_get hE 16 dX8_image_13 rfl fkX8_50 rfl rfl ?_
  refine A_iconst hE 17 dX8_image_16 rfl (1) rfl ?_
  refine A_iadd hE 18 dX8_image_17 rfl ?_
  refine A_put hE 21 dX8_image_18 rfl fkX8_50 rfl rfl rfl rfl ?_
  refine A_aload_n hE 22 dX8_image_21 rfl rfl ?_
  refine A_get hE 25 dX8_image_22 rfl fkX8_50 rfl rfl ?_
  refine A_iret hE dX8_image_25 ⟨rfl, rfl⟩
set_option maxRecDepth 100000 in
theorem c_X8_restore_ok (er : Nat → Int32) (im : Int32) (s : St) (t0 : Sp) (g0 h0 : Nat → Int32) (t1 : Sp) (g1 h1 : Nat → Int32) (tl : Nat) (tp : Nat → Int32) (wl : Nat) (wt : Nat → Int32) (wh mu : Int32) (J : St) (pt : Int32) (vK : Nat) (vk vm : Int32) (tn : Nat) (tr : Nat → Int32) (v1 v2 : Value) (pl ft : Int32) (rk : Nat) (rf : Nat → Int32) (K : St) (u0 : Sp) (f0 k0 : Nat → Int32) (u1 : Sp) (f1 k1 : Nat → Int32) (tl2 : Nat) (tp2 : Nat → Int32) (wl2 : Nat) (wt2 : Nat → Int32) (hn0 : t0.length ≤ 60) (hn1 : t1.length ≤ 60) (ht0 : u0.length ≤ 60) (ht1 : u1.length ≤ 60) (htl : tl2 ≤ 60) (hwl : wl2 ≤ 24) (him : ¬ im = 0) : AMet yX8_restore cX8_restore 1 (some (.int)) 5 0 0 [.ref 0] (Y50 er im s t0 g0 h0 t1 g1 h1 tl tp wl wt wh mu J pt vK vk vm tn tr v1 v2 pl ft rk rf K u0.length f0 k0 u1.length f1 k1 tl2 tp2 wl2 wt2) (pI fun x h => x = K 0 ∧ h = Y50 er im K u0 (ovr u0.length f0 g0) h0 u1 (ovr u1.length f1 g1) h1 tl2 (ovr tl2 tp2 tp) wl2 (ovr wl2 wt2 wt) wh mu J pt vK vk vm tn tr v1 v2 pl ft rk rf K u0.length f0 k0 u1.length f1 k1 tl2 tp2 wl2 wt2) := by
  refine AMet.of (by decide +kernel) rfl (fun E ad0 hE => ?_)
  refine A_aload_n hE 1 dX8_restore_0 rfl rfl ?_
  refine A_get hE 4 dX8_restore_1 rfl fkX8_50 rfl rfl ?_
  refine A_if_ne hE 7 13 dX8_restore_4 rfl rfl (fun c4 => ?_) (fun c4 => absurd c4 him)
  refine A_aload_n hE 14 dX8_restore_13 rfl rfl ?_
  refine A_get hE 17 dX8_restore_14 rfl fkX8_10 rfl rfl ?_
  refine A_aload_n hE 18 dX8_restore_17 rfl rfl ?_
  refine A_get hE 21 dX8_restore_18 rfl fkX8_16 rfl rfl ?_
  refine A_callVv hE 24 (c_X5_takeOver s t0.length g0 h0 t1.length g1 h1 tl tp wl wt K u0 f0 k0 u1 f1 k1 tl2 tp2 wl2 wt2 ht0 ht1 htl hwl) [2, 11, 12, 13, 14, 15, 32, 41, 42, 43, 44, 45, 3, 4, 5, 6, 7, 8, 9, 10, 16, 17, 18, 19, 33, 34, 35, 36, 37, 38, 39, 40, 46, 47, 48, 49] dX8_restore_21 rfl mkX8_279 rfl rfl rfl rfl rfl rfl rfl (Nat.le_of_ble_eq_true rfl) (Nat.le_of_ble_eq_true rfl) rfl (fun h21 g21 hp21 hw21 => ?_)
  obtain rfl := hp21
  obtain rfl := Option.some.inj hw21
  refine A_h (Y50 er im K u0 (ovr u0.length f0 g0) h0 u1 (ovr u1.length f1 g1) h1 tl2 (ovr tl2 tp2 tp) wl2 (ovr wl2 wt2 wt) wh mu J pt vK vk vm tn tr v1 v2 pl ft rk rf K u0.length f0 k0 u1.length f1 k1 tl2 tp2 wl2 wt2) rfl ?_
  refine A_aload_n hE 25 dX8_restore_24 rfl rfl ?_
  refine A_get hE 28 dX8_restore_25 rfl fkX8_10 rfl rfl ?_
  refine A_get hE 31 dX8_restore_28 rfl fkX8_63 rfl rfl ?_
  refine A_get hE 34 dX8_restore_31 rfl fkX8_164 rfl rfl ?_
  refine A_iret hE dX8_restore_34 ⟨rfl, rfl⟩
set_option maxRecDepth 100000 in
theorem c_X8_restore_no (er : Nat → Int32) (im : Int32) (him : im = 0) : AMet yX8_restore cX8_restore 1 (some (.int)) 1 0 0 [.ref 0] (Y2 er im) (pI fun x h => x = -1000000000 - nI 2 ∧ h = Y2 (upd er 2 (er 2 + 1)) im) := by
  refine AMet.of (by decide +kernel) rfl (fun E ad0 hE => ?_)
  refine A_aload_n hE 1 dX8_restore_0 rfl rfl ?_
  refine A_get hE 4 dX8_restore_1 rfl fkX8_50 rfl rfl ?_
  refine A_if_ne hE 7 13 dX8_restore_4 rfl rfl (fun c4 => absurd him c4) (fun c4 => ?_)
  refine A_aload_n hE 8 dX8_restore_7 rfl rfl ?_
  refine A_iconst hE 9 dX8_restore_8 rfl (2) rfl ?_
  refine A_callVi hE 12 (c_X8_error er im 2 (by omega)) [0, 1] dX8_restore_9 rfl mkX8_59 rfl rfl rfl rfl rfl rfl rfl (Nat.le_of_ble_eq_true rfl) (Nat.le_of_ble_eq_true rfl) rfl (fun x9 h9 g9 hp9 hw9 => ?_)
  obtain ⟨rfl, rfl⟩ := hp9
  obtain rfl := Option.some.inj hw9
  refine A_h (Y2 (upd er 2 (er 2 + 1)) im) rfl ?_
  refine A_iret hE dX8_restore_12 ⟨rfl, rfl⟩
set_option maxRecDepth 100000 in
theorem c_X8_text_no (er : Nat → Int32) (im : Int32) (u : Int32) (hu : ¬ (0 ≤ u ∧ u ≤ 1)) : AMet yX8_text cX8_text 3 (some (.int)) 2 0 0 [.ref 0, .int u] (Y2 er im) (pI fun x h => x = -1000000000 - nI 1 ∧ h = Y2 (upd er 1 (er 1 + 1)) im) := by
  refine AMet.of (by decide +kernel) rfl (fun E ad0 hE => ?_)
  refine A_iload_n hE 1 dX8_text_0 rfl rfl ?_
  refine A_callSi hE 4 (c_X8_isUse u) [] dX8_text_1 rfl mkX8_136 rfl rfl rfl rfl rfl rfl (Nat.le_of_ble_eq_true rfl) (Nat.le_of_ble_eq_true rfl) rfl (fun x1 h1 g1 hp1 hw1 => ?_)
  obtain ⟨rfl, rfl⟩ := hp1
  obtain rfl := Option.some.inj hw1
  refine A_if_ne hE 7 13 dX8_text_4 rfl rfl (fun c4 => absurd (bI_1 c4) hu) (fun c4 => ?_)
  refine A_aload_n hE 8 dX8_text_7 rfl rfl ?_
  refine A_iconst hE 9 dX8_text_8 rfl (1) rfl ?_
  refine A_callVi hE 12 (c_X8_error er im 1 (by omega)) [0, 1] dX8_text_9 rfl mkX8_59 rfl rfl rfl rfl rfl rfl rfl (Nat.le_of_ble_eq_true rfl) (Nat.le_of_ble_eq_true rfl) rfl (fun x9 h9 g9 hp9 hw9 => ?_)
  obtain ⟨rfl, rfl⟩ := hp9
  obtain rfl := Option.some.inj hw9
  refine A_h (Y2 (upd er 1 (er 1 + 1)) im) rfl ?_
  refine A_iret hE dX8_text_12 ⟨rfl, rfl⟩
set_option maxRecDepth 100000 in
theorem c_X8_text_0 (er : Nat → Int32) (im : Int32) (s : St) (t0 : Sp) (g0 h0 : Nat → Int32) (t1 : Sp) (g1 h1 : Nat → Int32) (tl : Nat) (tp : Nat → Int32) (wl : Nat) (wt : Nat → Int32) (wh mu : Int32) (J : St) (pt : Int32) (vK : Nat) (vk vm : Int32) (tn : Nat) (tr : Nat → Int32) (v1 : Value) (pl ft : Int32) (rk : Nat) (rf : Nat → Int32) (q : Nat → Int32) (vk2 : Nat) (ht : t0.length ≤ 60) (h60 : tl ≤ 60) (hq : ∀ i, i < tl → tp i = q i) (hby : ∀ i, i < tl → ∃ b : Nat, b < 256 ∧ q i = nI b) (hv1 : v1 = .ref 30 ∨ v1 = .ref 16) : AMet yX8_text cX8_text 3 (some (.int)) 47 0 0 [.ref 0, .int (nI 0)] (Y32 er im s t0 g0 h0 t1 g1 h1 tl tp wl wt wh mu J pt vK vk vm tn tr v1 (.retAddr vk2) pl ft rk rf) (pI fun x h => (∃ (s2 : Sp) (f2 : Nat → Int32) (pl' ft' : Int32) (rk' : Nat) (rf' : Nat → Int32), txP q tl 0 = (tl, some s2) ∧ x = 1 ∧ StepC 0 f2 s2 ∧ h = Y32 er im s s2 (fun z => if z < s2.length then f2 z else g0 z) h0 t1 g1 h1 0 tp wl wt wh mu J pt vK vk vm tn tr (.ref 16) (.retAddr 3) pl' ft' rk' rf') ∨ (∃ (b : Nat) (pl' ft' : Int32) (rk' : Nat) (rf' : Nat → Int32), (txP q tl 0 = (b, none) ∨ (¬ b = tl ∧ ∃ s2, txP q tl 0 = (b, some s2))) ∧ x = -10 - nI b ∧ h = Y32 er im s t0 g0 h0 t1 g1 h1 0 tp wl wt wh mu J pt vK vk vm tn tr (.ref 16) (.retAddr 3) pl' ft' rk' rf')) := by
  refine AMet.of (by decide +kernel) rfl (fun E ad0 hE => ?_)
  refine A_iload_n hE 1 dX8_text_0 rfl rfl ?_
  refine A_callSi hE 4 (c_X8_isUse (nI 0)) [] dX8_text_1 rfl mkX8_136 rfl rfl rfl rfl rfl rfl (Nat.le_of_ble_eq_true rfl) (Nat.le_of_ble_eq_true rfl) rfl (fun x1 h1 g1 hp1 hw1 => ?_)
  obtain ⟨rfl, rfl⟩ := hp1
  obtain rfl := Option.some.inj hw1
  refine A_if_ne hE 7 13 dX8_text_4 rfl rfl (fun c4 => ?_) (fun c4 => absurd (by decide) (bI_0 c4))
  rcases hv1 with rfl | rfl
  · refine A_aload_n hE 14 dX8_text_13 rfl rfl ?_
    refine A_get hE 17 dX8_text_14 rfl fkX8_22 rfl rfl ?_
    refine A_aload_n hE 18 dX8_text_17 rfl rfl ?_
    refine A_get hE 21 dX8_text_18 rfl fkX8_10 rfl rfl ?_
    refine A_get hE 24 dX8_text_21 rfl fkX8_123 rfl rfl ?_
    refine A_iload_n hE 25 dX8_text_24 rfl rfl ?_
    refine A_callVi hE 28 (c_X1_read q tl 0 tp h60 (by omega) hq hby (.ref 1) (.retAddr vk2) pl ft (nI rk) rf) [29, 30, 31, 16, 17] dX8_text_25 rfl mkX8_139 rfl rfl rfl rfl rfl rfl rfl (Nat.le_of_ble_eq_true rfl) (Nat.le_of_ble_eq_true rfl) rfl (fun x25 h25 g25 hp25 hw25 => ?_)
    rcases hp25 with ⟨s2, f2, e1, rfl, hf2, rfl⟩ | ⟨b, pl2, k2, f2, e1, hb, rfl, hk2, rfl⟩
    · obtain rfl := Option.some.inj hw25
      have hok := tx_ok h60 e1
      have h60b := hok.1.1
      refine A_h (Y32 er im s t0 g0 h0 t1 g1 h1 tl tp wl wt wh mu J pt vK vk vm tn tr (.ref 16) (.retAddr 3) (nI tl) (-1) s2.length f2) rfl ?_
      refine A_istore_n hE 29 dX8_text_28 rfl rfl rfl ?_
      refine A_aload_n hE 30 dX8_text_29 rfl rfl ?_
      refine A_get hE 33 dX8_text_30 rfl fkX8_10 rfl rfl ?_
      refine A_get hE 36 dX8_text_33 rfl fkX8_123 rfl rfl ?_
      refine A_callVv hE 39 (c_X3_empty 60 tp (nI tl)) [16, 17] dX8_text_36 rfl mkX8_143 rfl rfl rfl rfl rfl rfl rfl (Nat.le_of_ble_eq_true rfl) (Nat.le_of_ble_eq_true rfl) rfl (fun h36 g36 hp36 hw36 => ?_)
      obtain rfl := hp36
      obtain rfl := Option.some.inj hw36
      refine A_h (Y32 er im s t0 g0 h0 t1 g1 h1 0 tp wl wt wh mu J pt vK vk vm tn tr (.ref 16) (.retAddr 3) (nI tl) (-1) s2.length f2) rfl ?_
      refine A_iload_n hE 40 dX8_text_39 rfl rfl ?_
      refine A_if_lt hE 43 48 dX8_text_40 rfl rfl (fun c40 => ?_) (fun c40 => absurd (by decide) c40)
      refine A_aload_n hE 49 dX8_text_48 rfl rfl ?_
      refine A_get hE 52 dX8_text_49 rfl fkX8_10 rfl rfl ?_
      refine A_get hE 55 dX8_text_52 rfl fkX8_63 rfl rfl ?_
      refine A_iload_n hE 56 dX8_text_55 rfl rfl ?_
      refine A_callVr hE 59 (c_X2_lawOf s 3 7 12 13 14 15 (nI 0)) [11] dX8_text_56 rfl mkX8_146 rfl rfl rfl rfl rfl rfl rfl (Nat.le_of_ble_eq_true rfl) (Nat.le_of_ble_eq_true rfl) rfl (fun x56 h56 g56 hp56 hw56 => ?_)
      obtain ⟨ei, rfl⟩ := hp56
      obtain rfl := Option.some.inj hw56
      refine A_h (Y32 er im s t0 g0 h0 t1 g1 h1 0 tp wl wt wh mu J pt vK vk vm tn tr (.ref 16) (.retAddr 3) (nI tl) (-1) s2.length f2) rfl ?_
      rw [if_pos (show nI 0 = 0 from rfl)] at ei
      subst ei
      refine A_aload_n hE 60 dX8_text_59 rfl rfl ?_
      refine A_get hE 63 dX8_text_60 rfl fkX8_22 rfl rfl ?_
      refine A_get hE 66 dX8_text_63 rfl fkX8_150 rfl rfl ?_
      refine A_callVv hE 69 (c_X0_takeSteps 0 [] s2 g0 h0 f2 t0.length h60b) [3, 4, 5, 6, 30, 31] dX8_text_66 rfl mkX8_153 rfl rfl rfl rfl rfl rfl rfl (Nat.le_of_ble_eq_true rfl) (Nat.le_of_ble_eq_true rfl) rfl (fun h66 g66 hp66 hw66 => ?_)
      obtain rfl := hp66
      obtain rfl := Option.some.inj hw66
      refine A_h (Y32 er im s s2 (fun z => if z < s2.length then f2 z else g0 z) h0 t1 g1 h1 0 tp wl wt wh mu J pt vK vk vm tn tr (.ref 16) (.retAddr 3) (nI tl) (-1) s2.length f2) rfl ?_
      refine A_iconst hE 70 dX8_text_69 rfl (1) rfl ?_
      refine A_iret hE dX8_text_70 ?_
      exact Or.inl ⟨s2, f2, _, _, _, _, e1, rfl, hf2, rfl⟩
    · obtain rfl := Option.some.inj hw25
      refine A_h (Y32 er im s t0 g0 h0 t1 g1 h1 tl tp wl wt wh mu J pt vK vk vm tn tr (.ref 16) (.retAddr 3) pl2 (nI b) k2 f2) rfl ?_
      refine A_istore_n hE 29 dX8_text_28 rfl rfl rfl ?_
      refine A_aload_n hE 30 dX8_text_29 rfl rfl ?_
      refine A_get hE 33 dX8_text_30 rfl fkX8_10 rfl rfl ?_
      refine A_get hE 36 dX8_text_33 rfl fkX8_123 rfl rfl ?_
      refine A_callVv hE 39 (c_X3_empty 60 tp (nI tl)) [16, 17] dX8_text_36 rfl mkX8_143 rfl rfl rfl rfl rfl rfl rfl (Nat.le_of_ble_eq_true rfl) (Nat.le_of_ble_eq_true rfl) rfl (fun h36 g36 hp36 hw36 => ?_)
      obtain rfl := hp36
      obtain rfl := Option.some.inj hw36
      refine A_h (Y32 er im s t0 g0 h0 t1 g1 h1 0 tp wl wt wh mu J pt vK vk vm tn tr (.ref 16) (.retAddr 3) pl2 (nI b) k2 f2) rfl ?_
      refine A_iload_n hE 40 dX8_text_39 rfl rfl ?_
      refine A_if_lt hE 43 48 dX8_text_40 rfl rfl (fun c40 => absurd c40 (nI_pos (by omega))) (fun c40 => ?_)
      refine A_bipush hE 45 dX8_text_43 rfl (-10) (by decide) ?_
      refine A_iload_n hE 46 dX8_text_45 rfl rfl ?_
      refine A_isub hE 47 dX8_text_46 rfl ?_
      refine A_iret hE dX8_text_47 ?_
      exact Or.inr ⟨b, _, _, _, _, e1, rfl, rfl⟩
  · refine A_aload_n hE 14 dX8_text_13 rfl rfl ?_
    refine A_get hE 17 dX8_text_14 rfl fkX8_22 rfl rfl ?_
    refine A_aload_n hE 18 dX8_text_17 rfl rfl ?_
    refine A_get hE 21 dX8_text_18 rfl fkX8_10 rfl rfl ?_
    refine A_get hE 24 dX8_text_21 rfl fkX8_123 rfl rfl ?_
    refine A_iload_n hE 25 dX8_text_24 rfl rfl ?_
    refine A_callVi hE 28 (c_X1_read q tl 0 tp h60 (by omega) hq hby (.ref 3) (.retAddr vk2) pl ft (nI rk) rf) [29, 30, 31, 16, 17] dX8_text_25 rfl mkX8_139 rfl rfl rfl rfl rfl rfl rfl (Nat.le_of_ble_eq_true rfl) (Nat.le_of_ble_eq_true rfl) rfl (fun x25 h25 g25 hp25 hw25 => ?_)
    rcases hp25 with ⟨s2, f2, e1, rfl, hf2, rfl⟩ | ⟨b, pl2, k2, f2, e1, hb, rfl, hk2, rfl⟩
    · obtain rfl := Option.some.inj hw25
      have hok := tx_ok h60 e1
      have h60b := hok.1.1
      refine A_h (Y32 er im s t0 g0 h0 t1 g1 h1 tl tp wl wt wh mu J pt vK vk vm tn tr (.ref 16) (.retAddr 3) (nI tl) (-1) s2.length f2) rfl ?_
      refine A_istore_n hE 29 dX8_text_28 rfl rfl rfl ?_
      refine A_aload_n hE 30 dX8_text_29 rfl rfl ?_
      refine A_get hE 33 dX8_text_30 rfl fkX8_10 rfl rfl ?_
      refine A_get hE 36 dX8_text_33 rfl fkX8_123 rfl rfl ?_
      refine A_callVv hE 39 (c_X3_empty 60 tp (nI tl)) [16, 17] dX8_text_36 rfl mkX8_143 rfl rfl rfl rfl rfl rfl rfl (Nat.le_of_ble_eq_true rfl) (Nat.le_of_ble_eq_true rfl) rfl (fun h36 g36 hp36 hw36 => ?_)
      obtain rfl := hp36
      obtain rfl := Option.some.inj hw36
      refine A_h (Y32 er im s t0 g0 h0 t1 g1 h1 0 tp wl wt wh mu J pt vK vk vm tn tr (.ref 16) (.retAddr 3) (nI tl) (-1) s2.length f2) rfl ?_
      refine A_iload_n hE 40 dX8_text_39 rfl rfl ?_
      refine A_if_lt hE 43 48 dX8_text_40 rfl rfl (fun c40 => ?_) (fun c40 => absurd (by decide) c40)
      refine A_aload_n hE 49 dX8_text_48 rfl rfl ?_
      refine A_get hE 52 dX8_text_49 rfl fkX8_10 rfl rfl ?_
      refine A_get hE 55 dX8_text_52 rfl fkX8_63 rfl rfl ?_
      refine A_iload_n hE 56 dX8_text_55 rfl rfl ?_
      refine A_callVr hE 59 (c_X2_lawOf s 3 7 12 13 14 15 (nI 0)) [11] dX8_text_56 rfl mkX8_146 rfl rfl rfl rfl rfl rfl rfl (Nat.le_of_ble_eq_true rfl) (Nat.le_of_ble_eq_true rfl) rfl (fun x56 h56 g56 hp56 hw56 => ?_)
      obtain ⟨ei, rfl⟩ := hp56
      obtain rfl := Option.some.inj hw56
      refine A_h (Y32 er im s t0 g0 h0 t1 g1 h1 0 tp wl wt wh mu J pt vK vk vm tn tr (.ref 16) (.retAddr 3) (nI tl) (-1) s2.length f2) rfl ?_
      rw [if_pos (show nI 0 = 0 from rfl)] at ei
      subst ei
      refine A_aload_n hE 60 dX8_text_59 rfl rfl ?_
      refine A_get hE 63 dX8_text_60 rfl fkX8_22 rfl rfl ?_
      refine A_get hE 66 dX8_text_63 rfl fkX8_150 rfl rfl ?_
      refine A_callVv hE 69 (c_X0_takeSteps 0 [] s2 g0 h0 f2 t0.length h60b) [3, 4, 5, 6, 30, 31] dX8_text_66 rfl mkX8_153 rfl rfl rfl rfl rfl rfl rfl (Nat.le_of_ble_eq_true rfl) (Nat.le_of_ble_eq_true rfl) rfl (fun h66 g66 hp66 hw66 => ?_)
      obtain rfl := hp66
      obtain rfl := Option.some.inj hw66
      refine A_h (Y32 er im s s2 (fun z => if z < s2.length then f2 z else g0 z) h0 t1 g1 h1 0 tp wl wt wh mu J pt vK vk vm tn tr (.ref 16) (.retAddr 3) (nI tl) (-1) s2.length f2) rfl ?_
      refine A_iconst hE 70 dX8_text_69 rfl (1) rfl ?_
      refine A_iret hE dX8_text_70 ?_
      exact Or.inl ⟨s2, f2, _, _, _, _, e1, rfl, hf2, rfl⟩
    · obtain rfl := Option.some.inj hw25
      refine A_h (Y32 er im s t0 g0 h0 t1 g1 h1 tl tp wl wt wh mu J pt vK vk vm tn tr (.ref 16) (.retAddr 3) pl2 (nI b) k2 f2) rfl ?_
      refine A_istore_n hE 29 dX8_text_28 rfl rfl rfl ?_
      refine A_aload_n hE 30 dX8_text_29 rfl rfl ?_
      refine A_get hE 33 dX8_text_30 rfl fkX8_10 rfl rfl ?_
      refine A_get hE 36 dX8_text_33 rfl fkX8_123 rfl rfl ?_
      refine A_callVv hE 39 (c_X3_empty 60 tp (nI tl)) [16, 17] dX8_text_36 rfl mkX8_143 rfl rfl rfl rfl rfl rfl rfl (Nat.le_of_ble_eq_true rfl) (Nat.le_of_ble_eq_true rfl) rfl (fun h36 g36 hp36 hw36 => ?_)
      obtain rfl := hp36
      obtain rfl := Option.some.inj hw36
      refine A_h (Y32 er im s t0 g0 h0 t1 g1 h1 0 tp wl wt wh mu J pt vK vk vm tn tr (.ref 16) (.retAddr 3) pl2 (nI b) k2 f2) rfl ?_
      refine A_iload_n hE 40 dX8_text_39 rfl rfl ?_
      refine A_if_lt hE 43 48 dX8_text_40 rfl rfl (fun c40 => absurd c40 (nI_pos (by omega))) (fun c40 => ?_)
      refine A_bipush hE 45 dX8_text_43 rfl (-10) (by decide) ?_
      refine A_iload_n hE 46 dX8_text_45 rfl rfl ?_
      refine A_isub hE 47 dX8_text_46 rfl ?_
      refine A_iret hE dX8_text_47 ?_
      exact Or.inr ⟨b, _, _, _, _, e1, rfl, rfl⟩
set_option maxRecDepth 100000 in
theorem c_X8_text_1 (er : Nat → Int32) (im : Int32) (s : St) (t0 : Sp) (g0 h0 : Nat → Int32) (t1 : Sp) (g1 h1 : Nat → Int32) (tl : Nat) (tp : Nat → Int32) (wl : Nat) (wt : Nat → Int32) (wh mu : Int32) (J : St) (pt : Int32) (vK : Nat) (vk vm : Int32) (tn : Nat) (tr : Nat → Int32) (v1 : Value) (pl ft : Int32) (rk : Nat) (rf : Nat → Int32) (q : Nat → Int32) (vk2 : Nat) (ht : t1.length ≤ 60) (h60 : tl ≤ 60) (hq : ∀ i, i < tl → tp i = q i) (hby : ∀ i, i < tl → ∃ b : Nat, b < 256 ∧ q i = nI b) (hv1 : v1 = .ref 30 ∨ v1 = .ref 16) : AMet yX8_text cX8_text 3 (some (.int)) 47 0 0 [.ref 0, .int (nI 1)] (Y32 er im s t0 g0 h0 t1 g1 h1 tl tp wl wt wh mu J pt vK vk vm tn tr v1 (.retAddr vk2) pl ft rk rf) (pI fun x h => (∃ (s2 : Sp) (f2 : Nat → Int32) (pl' ft' : Int32) (rk' : Nat) (rf' : Nat → Int32), txP q tl 1 = (tl, some s2) ∧ x = 1 ∧ StepC 1 f2 s2 ∧ h = Y32 er im s t0 g0 h0 s2 (fun z => if z < s2.length then f2 z else g1 z) h1 0 tp wl wt wh mu J pt vK vk vm tn tr (.ref 16) (.retAddr 4) pl' ft' rk' rf') ∨ (∃ (b : Nat) (pl' ft' : Int32) (rk' : Nat) (rf' : Nat → Int32), (txP q tl 1 = (b, none) ∨ (¬ b = tl ∧ ∃ s2, txP q tl 1 = (b, some s2))) ∧ x = -10 - nI b ∧ h = Y32 er im s t0 g0 h0 t1 g1 h1 0 tp wl wt wh mu J pt vK vk vm tn tr (.ref 16) (.retAddr 4) pl' ft' rk' rf')) := by
  refine AMet.of (by decide +kernel) rfl (fun E ad0 hE => ?_)
  refine A_iload_n hE 1 dX8_text_0 rfl rfl ?_
  refine A_callSi hE 4 (c_X8_isUse (nI 1)) [] dX8_text_1 rfl mkX8_136 rfl rfl rfl rfl rfl rfl (Nat.le_of_ble_eq_true rfl) (Nat.le_of_ble_eq_true rfl) rfl (fun x1 h1 g1 hp1 hw1 => ?_)
  obtain ⟨rfl, rfl⟩ := hp1
  obtain rfl := Option.some.inj hw1
  refine A_if_ne hE 7 13 dX8_text_4 rfl rfl (fun c4 => ?_) (fun c4 => absurd (by decide) (bI_0 c4))
  rcases hv1 with rfl | rfl
  · refine A_aload_n hE 14 dX8_text_13 rfl rfl ?_
    refine A_get hE 17 dX8_text_14 rfl fkX8_22 rfl rfl ?_
    refine A_aload_n hE 18 dX8_text_17 rfl rfl ?_
    refine A_get hE 21 dX8_text_18 rfl fkX8_10 rfl rfl ?_
    refine A_get hE 24 dX8_text_21 rfl fkX8_123 rfl rfl ?_
    refine A_iload_n hE 25 dX8_text_24 rfl rfl ?_
    refine A_callVi hE 28 (c_X1_read q tl 1 tp h60 (by omega) hq hby (.ref 1) (.retAddr vk2) pl ft (nI rk) rf) [29, 30, 31, 16, 17] dX8_text_25 rfl mkX8_139 rfl rfl rfl rfl rfl rfl rfl (Nat.le_of_ble_eq_true rfl) (Nat.le_of_ble_eq_true rfl) rfl (fun x25 h25 g25 hp25 hw25 => ?_)
    rcases hp25 with ⟨s2, f2, e1, rfl, hf2, rfl⟩ | ⟨b, pl2, k2, f2, e1, hb, rfl, hk2, rfl⟩
    · obtain rfl := Option.some.inj hw25
      have hok := tx_ok h60 e1
      have h60b := hok.1.1
      refine A_h (Y32 er im s t0 g0 h0 t1 g1 h1 tl tp wl wt wh mu J pt vK vk vm tn tr (.ref 16) (.retAddr 4) (nI tl) (-1) s2.length f2) rfl ?_
      refine A_istore_n hE 29 dX8_text_28 rfl rfl rfl ?_
      refine A_aload_n hE 30 dX8_text_29 rfl rfl ?_
      refine A_get hE 33 dX8_text_30 rfl fkX8_10 rfl rfl ?_
      refine A_get hE 36 dX8_text_33 rfl fkX8_123 rfl rfl ?_
      refine A_callVv hE 39 (c_X3_empty 60 tp (nI tl)) [16, 17] dX8_text_36 rfl mkX8_143 rfl rfl rfl rfl rfl rfl rfl (Nat.le_of_ble_eq_true rfl) (Nat.le_of_ble_eq_true rfl) rfl (fun h36 g36 hp36 hw36 => ?_)
      obtain rfl := hp36
      obtain rfl := Option.some.inj hw36
      refine A_h (Y32 er im s t0 g0 h0 t1 g1 h1 0 tp wl wt wh mu J pt vK vk vm tn tr (.ref 16) (.retAddr 4) (nI tl) (-1) s2.length f2) rfl ?_
      refine A_iload_n hE 40 dX8_text_39 rfl rfl ?_
      refine A_if_lt hE 43 48 dX8_text_40 rfl rfl (fun c40 => ?_) (fun c40 => absurd (by decide) c40)
      refine A_aload_n hE 49 dX8_text_48 rfl rfl ?_
      refine A_get hE 52 dX8_text_49 rfl fkX8_10 rfl rfl ?_
      refine A_get hE 55 dX8_text_52 rfl fkX8_63 rfl rfl ?_
      refine A_iload_n hE 56 dX8_text_55 rfl rfl ?_
      refine A_callVr hE 59 (c_X2_lawOf s 3 7 12 13 14 15 (nI 1)) [11] dX8_text_56 rfl mkX8_146 rfl rfl rfl rfl rfl rfl rfl (Nat.le_of_ble_eq_true rfl) (Nat.le_of_ble_eq_true rfl) rfl (fun x56 h56 g56 hp56 hw56 => ?_)
      obtain ⟨ei, rfl⟩ := hp56
      obtain rfl := Option.some.inj hw56
      refine A_h (Y32 er im s t0 g0 h0 t1 g1 h1 0 tp wl wt wh mu J pt vK vk vm tn tr (.ref 16) (.retAddr 4) (nI tl) (-1) s2.length f2) rfl ?_
      rw [if_neg (show ¬ nI 1 = 0 by decide)] at ei
      subst ei
      refine A_aload_n hE 60 dX8_text_59 rfl rfl ?_
      refine A_get hE 63 dX8_text_60 rfl fkX8_22 rfl rfl ?_
      refine A_get hE 66 dX8_text_63 rfl fkX8_150 rfl rfl ?_
      refine A_callVv hE 69 (c_X0_takeSteps 1 [] s2 g1 h1 f2 t1.length h60b) [7, 8, 9, 10, 30, 31] dX8_text_66 rfl mkX8_153 rfl rfl rfl rfl rfl rfl rfl (Nat.le_of_ble_eq_true rfl) (Nat.le_of_ble_eq_true rfl) rfl (fun h66 g66 hp66 hw66 => ?_)
      obtain rfl := hp66
      obtain rfl := Option.some.inj hw66
      refine A_h (Y32 er im s t0 g0 h0 s2 (fun z => if z < s2.length then f2 z else g1 z) h1 0 tp wl wt wh mu J pt vK vk vm tn tr (.ref 16) (.retAddr 4) (nI tl) (-1) s2.length f2) rfl ?_
      refine A_iconst hE 70 dX8_text_69 rfl (1) rfl ?_
      refine A_iret hE dX8_text_70 ?_
      exact Or.inl ⟨s2, f2, _, _, _, _, e1, rfl, hf2, rfl⟩
    · obtain rfl := Option.some.inj hw25
      refine A_h (Y32 er im s t0 g0 h0 t1 g1 h1 tl tp wl wt wh mu J pt vK vk vm tn tr (.ref 16) (.retAddr 4) pl2 (nI b) k2 f2) rfl ?_
      refine A_istore_n hE 29 dX8_text_28 rfl rfl rfl ?_
      refine A_aload_n hE 30 dX8_text_29 rfl rfl ?_
      refine A_get hE 33 dX8_text_30 rfl fkX8_10 rfl rfl ?_
      refine A_get hE 36 dX8_text_33 rfl fkX8_123 rfl rfl ?_
      refine A_callVv hE 39 (c_X3_empty 60 tp (nI tl)) [16, 17] dX8_text_36 rfl mkX8_143 rfl rfl rfl rfl rfl rfl rfl (Nat.le_of_ble_eq_true rfl) (Nat.le_of_ble_eq_true rfl) rfl (fun h36 g36 hp36 hw36 => ?_)
      obtain rfl := hp36
      obtain rfl := Option.some.inj hw36
      refine A_h (Y32 er im s t0 g0 h0 t1 g1 h1 0 tp wl wt wh mu J pt vK vk vm tn tr (.ref 16) (.retAddr 4) pl2 (nI b) k2 f2) rfl ?_
      refine A_iload_n hE 40 dX8_text_39 rfl rfl ?_
      refine A_if_lt hE 43 48 dX8_text_40 rfl rfl (fun c40 => absurd c40 (nI_pos (by omega))) (fun c40 => ?_)
      refine A_bipush hE 45 dX8_text_43 rfl (-10) (by decide) ?_
      refine A_iload_n hE 46 dX8_text_45 rfl rfl ?_
      refine A_isub hE 47 dX8_text_46 rfl ?_
      refine A_iret hE dX8_text_47 ?_
      exact Or.inr ⟨b, _, _, _, _, e1, rfl, rfl⟩
  · refine A_aload_n hE 14 dX8_text_13 rfl rfl ?_
    refine A_get hE 17 dX8_text_14 rfl fkX8_22 rfl rfl ?_
    refine A_aload_n hE 18 dX8_text_17 rfl rfl ?_
    refine A_get hE 21 dX8_text_18 rfl fkX8_10 rfl rfl ?_
    refine A_get hE 24 dX8_text_21 rfl fkX8_123 rfl rfl ?_
    refine A_iload_n hE 25 dX8_text_24 rfl rfl ?_
    refine A_callVi hE 28 (c_X1_read q tl 1 tp h60 (by omega) hq hby (.ref 3) (.retAddr vk2) pl ft (nI rk) rf) [29, 30, 31, 16, 17] dX8_text_25 rfl mkX8_139 rfl rfl rfl rfl rfl rfl rfl (Nat.le_of_ble_eq_true rfl) (Nat.le_of_ble_eq_true rfl) rfl (fun x25 h25 g25 hp25 hw25 => ?_)
    rcases hp25 with ⟨s2, f2, e1, rfl, hf2, rfl⟩ | ⟨b, pl2, k2, f2, e1, hb, rfl, hk2, rfl⟩
    · obtain rfl := Option.some.inj hw25
      have hok := tx_ok h60 e1
      have h60b := hok.1.1
      refine A_h (Y32 er im s t0 g0 h0 t1 g1 h1 tl tp wl wt wh mu J pt vK vk vm tn tr (.ref 16) (.retAddr 4) (nI tl) (-1) s2.length f2) rfl ?_
      refine A_istore_n hE 29 dX8_text_28 rfl rfl rfl ?_
      refine A_aload_n hE 30 dX8_text_29 rfl rfl ?_
      refine A_get hE 33 dX8_text_30 rfl fkX8_10 rfl rfl ?_
      refine A_get hE 36 dX8_text_33 rfl fkX8_123 rfl rfl ?_
      refine A_callVv hE 39 (c_X3_empty 60 tp (nI tl)) [16, 17] dX8_text_36 rfl mkX8_143 rfl rfl rfl rfl rfl rfl rfl (Nat.le_of_ble_eq_true rfl) (Nat.le_of_ble_eq_true rfl) rfl (fun h36 g36 hp36 hw36 => ?_)
      obtain rfl := hp36
      obtain rfl := Option.some.inj hw36
      refine A_h (Y32 er im s t0 g0 h0 t1 g1 h1 0 tp wl wt wh mu J pt vK vk vm tn tr (.ref 16) (.retAddr 4) (nI tl) (-1) s2.length f2) rfl ?_
      refine A_iload_n hE 40 dX8_text_39 rfl rfl ?_
      refine A_if_lt hE 43 48 dX8_text_40 rfl rfl (fun c40 => ?_) (fun c40 => absurd (by decide) c40)
      refine A_aload_n hE 49 dX8_text_48 rfl rfl ?_
      refine A_get hE 52 dX8_text_49 rfl fkX8_10 rfl rfl ?_
      refine A_get hE 55 dX8_text_52 rfl fkX8_63 rfl rfl ?_
      refine A_iload_n hE 56 dX8_text_55 rfl rfl ?_
      refine A_callVr hE 59 (c_X2_lawOf s 3 7 12 13 14 15 (nI 1)) [11] dX8_text_56 rfl mkX8_146 rfl rfl rfl rfl rfl rfl rfl (Nat.le_of_ble_eq_true rfl) (Nat.le_of_ble_eq_true rfl) rfl (fun x56 h56 g56 hp56 hw56 => ?_)
      obtain ⟨ei, rfl⟩ := hp56
      obtain rfl := Option.some.inj hw56
      refine A_h (Y32 er im s t0 g0 h0 t1 g1 h1 0 tp wl wt wh mu J pt vK vk vm tn tr (.ref 16) (.retAddr 4) (nI tl) (-1) s2.length f2) rfl ?_
      rw [if_neg (show ¬ nI 1 = 0 by decide)] at ei
      subst ei
      refine A_aload_n hE 60 dX8_text_59 rfl rfl ?_
      refine A_get hE 63 dX8_text_60 rfl fkX8_22 rfl rfl ?_
      refine A_get hE 66 dX8_text_63 rfl fkX8_150 rfl rfl ?_
      refine A_callVv hE 69 (c_X0_takeSteps 1 [] s2 g1 h1 f2 t1.length h60b) [7, 8, 9, 10, 30, 31] dX8_text_66 rfl mkX8_153 rfl rfl rfl rfl rfl rfl rfl (Nat.le_of_ble_eq_true rfl) (Nat.le_of_ble_eq_true rfl) rfl (fun h66 g66 hp66 hw66 => ?_)
      obtain rfl := hp66
      obtain rfl := Option.some.inj hw66
      refine A_h (Y32 er im s t0 g0 h0 s2 (fun z => if z < s2.length then f2 z else g1 z) h1 0 tp wl wt wh mu J pt vK vk vm tn tr (.ref 16) (.retAddr 4) (nI tl) (-1) s2.length f2) rfl ?_
      refine A_iconst hE 70 dX8_text_69 rfl (1) rfl ?_
      refine A_iret hE dX8_text_70 ?_
      exact Or.inl ⟨s2, f2, _, _, _, _, e1, rfl, hf2, rfl⟩
    · obtain rfl := Option.some.inj hw25
      refine A_h (Y32 er im s t0 g0 h0 t1 g1 h1 tl tp wl wt wh mu J pt vK vk vm tn tr (.ref 16) (.retAddr 4) pl2 (nI b) k2 f2) rfl ?_
      refine A_istore_n hE 29 dX8_text_28 rfl rfl rfl ?_
      refine A_aload_n hE 30 dX8_text_29 rfl rfl ?_
      refine A_get hE 33 dX8_text_30 rfl fkX8_10 rfl rfl ?_
      refine A_get hE 36 dX8_text_33 rfl fkX8_123 rfl rfl ?_
      refine A_callVv hE 39 (c_X3_empty 60 tp (nI tl)) [16, 17] dX8_text_36 rfl mkX8_143 rfl rfl rfl rfl rfl rfl rfl (Nat.le_of_ble_eq_true rfl) (Nat.le_of_ble_eq_true rfl) rfl (fun h36 g36 hp36 hw36 => ?_)
      obtain rfl := hp36
      obtain rfl := Option.some.inj hw36
      refine A_h (Y32 er im s t0 g0 h0 t1 g1 h1 0 tp wl wt wh mu J pt vK vk vm tn tr (.ref 16) (.retAddr 4) pl2 (nI b) k2 f2) rfl ?_
      refine A_iload_n hE 40 dX8_text_39 rfl rfl ?_
      refine A_if_lt hE 43 48 dX8_text_40 rfl rfl (fun c40 => absurd c40 (nI_pos (by omega))) (fun c40 => ?_)
      refine A_bipush hE 45 dX8_text_43 rfl (-10) (by decide) ?_
      refine A_iload_n hE 46 dX8_text_45 rfl rfl ?_
      refine A_isub hE 47 dX8_text_46 rfl ?_
      refine A_iret hE dX8_text_47 ?_
      exact Or.inr ⟨b, _, _, _, _, e1, rfl, rfl⟩
