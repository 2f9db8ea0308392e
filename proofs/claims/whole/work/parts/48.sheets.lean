/-- the sheets of both sides -/
def ShR (zs : Nat → Nat) (sn : Nat → Nat → Int32) (sz nu : Nat → Int32) : Prop := ∀ k, k < 4 → zs k ≤ 24 ∧ sz k = nI (zs k) ∧ ∀ i, i < zs k → sn k i = nu (24 * k + i)
def updZ (zs : Nat → Nat) (k v : Nat) : Nat → Nat := fun j => if j = k then v else zs j
def updS (sn : Nat → Nat → Int32) (k : Nat) (f : Nat → Int32) : Nat → Nat → Int32 := fun j => if j = k then f else sn j
theorem ShR.lay {zs : Nat → Nat} {sn : Nat → Nat → Int32} {sz nu : Nat → Int32} (h : ShR zs sn sz nu) {k j : Nat} (hj : j ≤ 24) : ShR (updZ zs k j) (updS sn k (fun z => if z < j then 0 else sn k z)) (upd sz k (nI j)) (zroK 24 k nu) := by
  intro a ha
  obtain ⟨h1, h2, h3⟩ := h a ha
  by_cases e : a = k
  · subst e
    refine ⟨by rw [updZ, if_pos rfl]; exact hj, by rw [upd_s, updZ, if_pos rfl], fun i hi => ?_⟩
    rw [updZ, if_pos rfl] at hi
    rw [updS, if_pos rfl]
    show (if i < j then (0 : Int32) else sn a i) = _
    rw [if_pos hi, zroK, if_pos (by omega)]
  · refine ⟨by rw [updZ, if_neg e]; exact h1, by rw [upd_n e, updZ, if_neg e]; exact h2, fun i hi => ?_⟩
    rw [updZ, if_neg e] at hi
    rw [updS, if_neg e, zroK, if_neg (by omega)]
    exact h3 i hi
theorem ShR.put {zs : Nat → Nat} {sn : Nat → Nat → Int32} {sz nu : Nat → Int32} (h : ShR zs sn sz nu) {k j : Nat} {v : Int32} (hj : j < 24) : ShR zs (updS sn k (upd (sn k) j v)) sz (upd nu (24 * k + j) v) := by
  intro a ha
  obtain ⟨h1, h2, h3⟩ := h a ha
  refine ⟨h1, h2, fun i hi => ?_⟩
  by_cases e : a = k
  · subst e
    rw [updS, if_pos rfl]
    by_cases q : i = j
    · rw [q, upd_s, upd_s]
    · rw [upd_n q, upd_n (by omega)]; exact h3 i hi
  · rw [updS, if_neg e, upd_n (by omega)]
    exact h3 i hi
theorem ShR.mov {zs : Nat → Nat} {sn : Nat → Nat → Int32} {sz nu : Nat → Int32} (h : ShR zs sn sz nu) {k l p r a : Nat} (hk : k < 4) (hl : l < 4) (hp : p + a ≤ zs k) (hr : r + a ≤ zs l) : ShR zs (updS sn l (va_cpy (sn k) (sn l) p r a)) sz (mvN nu (24 * k + p) (24 * l + r) a) := by
  intro b hb
  obtain ⟨h1, h2, h3⟩ := h b hb
  obtain ⟨k1, k2, k3⟩ := h k hk
  obtain ⟨l1, l2, l3⟩ := h l hl
  refine ⟨h1, h2, fun i hi => ?_⟩
  by_cases e : b = l
  · subst e
    rw [updS, if_pos rfl, va_cpy, mvN]
    by_cases q : r ≤ i ∧ i < r + a
    · rw [if_pos q, if_pos (by omega), k3 _ (by omega)]
      congr 1
      omega
    · rw [if_neg q, if_neg (by omega)]; exact h3 i hi
  · rw [updS, if_neg e, mvN, if_neg (by omega)]
    exact h3 i hi
theorem tk_cg {v r : Nat → Int32} : ∀ (m j : Nat) (s : St), (∀ i, i < j + m → v i = r i) → tk v m j s = tk r m j s
  | 0, _, _, _ => rfl
  | m + 1, j, s, h => by
    rw [tk, tk, h j (by omega)]
    split
    · exact tk_cg m (j + 1) _ (fun i hi => h i (by omega))
    · rfl
theorem rt_cg {s : St} {v r : Nat → Int32} : ∀ (m j : Nat), (∀ i, i < j + m → v i = r i) → rtF s v m j = rtF s r m j
  | 0, _, _ => rfl
  | m + 1, j, h => by
    rw [rtF, rtF, h j (by omega)]
    split
    · exact rt_cg m (j + 1) (fun i hi => h i (by omega))
    · rfl
theorem ft_cg {t0 t1 : Sp} {v r : Nat → Int32} : ∀ (m j : Nat) (J : St), (∀ i, i < j + m → v i = r i) → ftM t0 t1 v m j J = ftM t0 t1 r m j J
  | 0, _, _, _ => rfl
  | m + 1, j, J, h => by
    rw [ftM, ftM, h j (by omega)]
    split
    · exact ft_cg m (j + 1) _ (fun i hi => h i (by omega))
    · rfl
theorem pt_cg {t0 t1 : Sp} {s : St} {v r : Nat → Int32} {z : Nat} (h : ∀ i, i < z → v i = r i) : ∀ (m a c : Nat), ptM t0 t1 s v z m a c = ptM t0 t1 s r z m a c
  | 0, _, _ => rfl
  | m + 1, a, c => by
    rw [ptM, ptM, ft_cg z 0 _ (fun i hi => h i (by omega))]
    exact pt_cg h m (a + 1) _
theorem mv_n {i n : Int32} {z : Nat} (hz : z ≤ 24) (h1 : 0 ≤ n) (h2 : 0 ≤ i) (h3 : i ≤ nI z - n) : n ≤ nI z := by
  obtain ⟨p, hp, rfl⟩ := nI_of (iN h2)
  obtain ⟨a, ha, rfl⟩ := nI_of (iN h1)
  have := mv_le hp hz ha h3
  exact nI_le (by omega) (by omega)

set_option maxRecDepth 100000 in
theorem c_X8_hearAll (er : Nat → Int32) (im : Int32) (s : St) (t0 : Sp) (g0 h0 : Nat → Int32) (t1 : Sp) (g1 h1 : Nat → Int32) (tl : Nat) (tp : Nat → Int32) (wl : Nat) (wt : Nat → Int32) (wh mu : Int32) (J : St) (pt : Int32) (vK : Nat) (vk vm : Int32) (tn : Nat) (tr : Nat → Int32) (v1 v2 : Value) (pl ft : Int32) (rk : Nat) (rf : Nat → Int32) (K : St) (m0 : Nat) (f0 k0 : Nat → Int32) (m1 : Nat) (f1 k1 : Nat → Int32) (tl2 : Nat) (tp2 : Nat → Int32) (wl2 : Nat) (wt2 sb : Nat → Int32) (zs : Nat → Nat) (sn : Nat → Nat → Int32) (h : Int32) (w : wf s) (sz nu : Nat → Int32) (hR : ShR zs sn sz nu) (hB : ∀ k, k < 4 → widB (sb k)) : AMet yX8_hearAll cX8_hearAll 2 (some (.int)) 3 0 0 [.ref 0, .int h] (Y63 er im s t0 g0 h0 t1 g1 h1 tl tp wl wt wh mu J pt vK vk vm tn tr v1 v2 pl ft rk rf K m0 f0 k0 m1 f1 k1 tl2 tp2 wl2 wt2 sb zs sn) (pI fun x0 hz0 => x0 = (hearAllF s er sb sz nu h).1 ∧ hz0 = Y63 (hearAllF s er sb sz nu h).2.2 im (hearAllF s er sb sz nu h).2.1 t0 g0 h0 t1 g1 h1 tl tp wl wt wh mu J pt vK vk vm tn tr v1 v2 pl ft rk rf K m0 f0 k0 m1 f1 k1 tl2 tp2 wl2 wt2 sb zs sn) := by
  refine AMet.of (by decide +kernel) rfl (fun E ad0 hE => ?_)
  refine A_iload_n hE 1 dX8_hearAll_0 rfl rfl ?_
  refine A_callSi hE 4 (c_X8_isSheet h) [] dX8_hearAll_1 rfl mkX8_219 rfl rfl rfl rfl rfl rfl (Nat.le_of_ble_eq_true rfl) (Nat.le_of_ble_eq_true rfl) rfl (fun x1 h1 g1 hp1 hw1 => ?_)
  obtain ⟨rfl, rfl⟩ := hp1
  obtain rfl := Option.some.inj hw1
  refine A_if_ne hE 7 13 dX8_hearAll_4 rfl rfl (fun c4 => ?_) (fun c4 => ?_)
  · have hh := bI_1 c4
    obtain ⟨k, hkk, rfl⟩ := iK2 (n := 3) hh.1 hh.2 (by omega)
    have ek : (nI k).toNatClampNeg = k := nI_clamp (by omega)
    rcases (show k = 0 ∨ k = 1 ∨ k = 2 ∨ k = 3 by omega) with rfl | rfl | rfl | rfl
    · obtain ⟨hz24, hz, hvn⟩ := hR 0 (by omega)
      refine A_aload_n hE 14 dX8_hearAll_13 rfl rfl ?_
      refine A_get hE 17 dX8_hearAll_14 rfl fkX8_42 rfl rfl ?_
      refine A_iload_n hE 18 dX8_hearAll_17 rfl rfl ?_
      refine A_aald hE 19 0 dX8_hearAll_18 rfl rfl rfl (by omega) rfl rfl ?_
      refine A_callVi hE 22 (c_X4_isMissing (sb 0) (zs 0) (sn 0)) [51, 52, 53] dX8_hearAll_19 rfl mkX8_222 rfl rfl rfl rfl rfl rfl rfl (Nat.le_of_ble_eq_true rfl) (Nat.le_of_ble_eq_true rfl) rfl (fun x19 h19 g19 hp19 hw19 => ?_)
      obtain ⟨rfl, rfl⟩ := hp19
      obtain rfl := Option.some.inj hw19
      refine A_h (Y63 er im s t0 g0 h0 t1 g1 h1 tl tp wl wt wh mu J pt vK vk vm tn tr v1 v2 pl ft rk rf K m0 f0 k0 m1 f1 k1 tl2 tp2 wl2 wt2 sb zs sn) rfl ?_
      refine A_if_eq hE 25 31 dX8_hearAll_22 rfl rfl (fun c22 => ?_) (fun c22 => ?_)
      · have hb := bI_0 c22
        refine A_aload_n hE 32 dX8_hearAll_31 rfl rfl ?_
        refine A_get hE 35 dX8_hearAll_32 rfl fkX8_10 rfl rfl ?_
        refine A_get hE 38 dX8_hearAll_35 rfl fkX8_63 rfl rfl ?_
        refine A_aload_n hE 39 dX8_hearAll_38 rfl rfl ?_
        refine A_get hE 42 dX8_hearAll_39 rfl fkX8_42 rfl rfl ?_
        refine A_iload_n hE 43 dX8_hearAll_42 rfl rfl ?_
        refine A_aald hE 44 0 dX8_hearAll_43 rfl rfl rfl (by omega) rfl rfl ?_
        refine A_get hE 47 dX8_hearAll_44 rfl fkX8_226 rfl rfl ?_
        refine A_callVi hE 50 (c_X2_takeHeard s t0 t1 g0 h0 g1 h1 (zs 0) (sn 0) hz24 w) [11, 3, 4, 5, 6, 7, 8, 9, 10, 12, 13, 14, 15, 52, 53] dX8_hearAll_47 rfl mkX8_272 rfl rfl rfl rfl rfl rfl rfl (Nat.le_of_ble_eq_true rfl) (Nat.le_of_ble_eq_true rfl) rfl (fun x47 h47 g47 hp47 hw47 => ?_)
        obtain ⟨rfl, rfl⟩ := hp47
        obtain rfl := Option.some.inj hw47
        refine A_h (Y63 er im (tk (sn 0) (zs 0) 0 s).1 t0 g0 h0 t1 g1 h1 tl tp wl wt wh mu J pt vK vk vm tn tr v1 v2 pl ft rk rf K m0 f0 k0 m1 f1 k1 tl2 tp2 wl2 wt2 sb zs sn) rfl ?_
        refine A_iret hE dX8_hearAll_50 ?_
        rw [hearAllF, if_pos hh, ek, if_neg hb, hz, nI_clamp (by omega), show tk (vn 0 nu) (zs 0) 0 s = tk (sn 0) (zs 0) 0 s from tk_cg (zs 0) 0 s (fun i hi => (hvn i (by omega)).symm)]
        exact ⟨rfl, rfl⟩
      · have hb := bI_1 c22
        refine A_aload_n hE 26 dX8_hearAll_25 rfl rfl ?_
        refine A_iconst hE 27 dX8_hearAll_26 rfl (2) rfl ?_
        refine A_callVi hE 30 (c_X8_error er im 2 (by omega)) [0, 1] dX8_hearAll_27 rfl mkX8_59 rfl rfl rfl rfl rfl rfl rfl (Nat.le_of_ble_eq_true rfl) (Nat.le_of_ble_eq_true rfl) rfl (fun x27 h27 g27 hp27 hw27 => ?_)
        obtain ⟨rfl, rfl⟩ := hp27
        obtain rfl := Option.some.inj hw27
        refine A_h (Y63 (upd er 2 (er 2 + 1)) im s t0 g0 h0 t1 g1 h1 tl tp wl wt wh mu J pt vK vk vm tn tr v1 v2 pl ft rk rf K m0 f0 k0 m1 f1 k1 tl2 tp2 wl2 wt2 sb zs sn) rfl ?_
        refine A_iret hE dX8_hearAll_30 ?_
        rw [hearAllF, if_pos hh, ek, if_pos hb]
        exact ⟨rfl, rfl⟩
    · obtain ⟨hz24, hz, hvn⟩ := hR 1 (by omega)
      refine A_aload_n hE 14 dX8_hearAll_13 rfl rfl ?_
      refine A_get hE 17 dX8_hearAll_14 rfl fkX8_42 rfl rfl ?_
      refine A_iload_n hE 18 dX8_hearAll_17 rfl rfl ?_
      refine A_aald hE 19 1 dX8_hearAll_18 rfl rfl rfl (by omega) rfl rfl ?_
      refine A_callVi hE 22 (c_X4_isMissing (sb 1) (zs 1) (sn 1)) [54, 55, 56] dX8_hearAll_19 rfl mkX8_222 rfl rfl rfl rfl rfl rfl rfl (Nat.le_of_ble_eq_true rfl) (Nat.le_of_ble_eq_true rfl) rfl (fun x19 h19 g19 hp19 hw19 => ?_)
      obtain ⟨rfl, rfl⟩ := hp19
      obtain rfl := Option.some.inj hw19
      refine A_h (Y63 er im s t0 g0 h0 t1 g1 h1 tl tp wl wt wh mu J pt vK vk vm tn tr v1 v2 pl ft rk rf K m0 f0 k0 m1 f1 k1 tl2 tp2 wl2 wt2 sb zs sn) rfl ?_
      refine A_if_eq hE 25 31 dX8_hearAll_22 rfl rfl (fun c22 => ?_) (fun c22 => ?_)
      · have hb := bI_0 c22
        refine A_aload_n hE 32 dX8_hearAll_31 rfl rfl ?_
        refine A_get hE 35 dX8_hearAll_32 rfl fkX8_10 rfl rfl ?_
        refine A_get hE 38 dX8_hearAll_35 rfl fkX8_63 rfl rfl ?_
        refine A_aload_n hE 39 dX8_hearAll_38 rfl rfl ?_
        refine A_get hE 42 dX8_hearAll_39 rfl fkX8_42 rfl rfl ?_
        refine A_iload_n hE 43 dX8_hearAll_42 rfl rfl ?_
        refine A_aald hE 44 1 dX8_hearAll_43 rfl rfl rfl (by omega) rfl rfl ?_
        refine A_get hE 47 dX8_hearAll_44 rfl fkX8_226 rfl rfl ?_
        refine A_callVi hE 50 (c_X2_takeHeard s t0 t1 g0 h0 g1 h1 (zs 1) (sn 1) hz24 w) [11, 3, 4, 5, 6, 7, 8, 9, 10, 12, 13, 14, 15, 55, 56] dX8_hearAll_47 rfl mkX8_272 rfl rfl rfl rfl rfl rfl rfl (Nat.le_of_ble_eq_true rfl) (Nat.le_of_ble_eq_true rfl) rfl (fun x47 h47 g47 hp47 hw47 => ?_)
        obtain ⟨rfl, rfl⟩ := hp47
        obtain rfl := Option.some.inj hw47
        refine A_h (Y63 er im (tk (sn 1) (zs 1) 0 s).1 t0 g0 h0 t1 g1 h1 tl tp wl wt wh mu J pt vK vk vm tn tr v1 v2 pl ft rk rf K m0 f0 k0 m1 f1 k1 tl2 tp2 wl2 wt2 sb zs sn) rfl ?_
        refine A_iret hE dX8_hearAll_50 ?_
        rw [hearAllF, if_pos hh, ek, if_neg hb, hz, nI_clamp (by omega), show tk (vn 1 nu) (zs 1) 0 s = tk (sn 1) (zs 1) 0 s from tk_cg (zs 1) 0 s (fun i hi => (hvn i (by omega)).symm)]
        exact ⟨rfl, rfl⟩
      · have hb := bI_1 c22
        refine A_aload_n hE 26 dX8_hearAll_25 rfl rfl ?_
        refine A_iconst hE 27 dX8_hearAll_26 rfl (2) rfl ?_
        refine A_callVi hE 30 (c_X8_error er im 2 (by omega)) [0, 1] dX8_hearAll_27 rfl mkX8_59 rfl rfl rfl rfl rfl rfl rfl (Nat.le_of_ble_eq_true rfl) (Nat.le_of_ble_eq_true rfl) rfl (fun x27 h27 g27 hp27 hw27 => ?_)
        obtain ⟨rfl, rfl⟩ := hp27
        obtain rfl := Option.some.inj hw27
        refine A_h (Y63 (upd er 2 (er 2 + 1)) im s t0 g0 h0 t1 g1 h1 tl tp wl wt wh mu J pt vK vk vm tn tr v1 v2 pl ft rk rf K m0 f0 k0 m1 f1 k1 tl2 tp2 wl2 wt2 sb zs sn) rfl ?_
        refine A_iret hE dX8_hearAll_30 ?_
        rw [hearAllF, if_pos hh, ek, if_pos hb]
        exact ⟨rfl, rfl⟩
    · obtain ⟨hz24, hz, hvn⟩ := hR 2 (by omega)
      refine A_aload_n hE 14 dX8_hearAll_13 rfl rfl ?_
      refine A_get hE 17 dX8_hearAll_14 rfl fkX8_42 rfl rfl ?_
      refine A_iload_n hE 18 dX8_hearAll_17 rfl rfl ?_
      refine A_aald hE 19 2 dX8_hearAll_18 rfl rfl rfl (by omega) rfl rfl ?_
      refine A_callVi hE 22 (c_X4_isMissing (sb 2) (zs 2) (sn 2)) [57, 58, 59] dX8_hearAll_19 rfl mkX8_222 rfl rfl rfl rfl rfl rfl rfl (Nat.le_of_ble_eq_true rfl) (Nat.le_of_ble_eq_true rfl) rfl (fun x19 h19 g19 hp19 hw19 => ?_)
      obtain ⟨rfl, rfl⟩ := hp19
      obtain rfl := Option.some.inj hw19
      refine A_h (Y63 er im s t0 g0 h0 t1 g1 h1 tl tp wl wt wh mu J pt vK vk vm tn tr v1 v2 pl ft rk rf K m0 f0 k0 m1 f1 k1 tl2 tp2 wl2 wt2 sb zs sn) rfl ?_
      refine A_if_eq hE 25 31 dX8_hearAll_22 rfl rfl (fun c22 => ?_) (fun c22 => ?_)
      · have hb := bI_0 c22
        refine A_aload_n hE 32 dX8_hearAll_31 rfl rfl ?_
        refine A_get hE 35 dX8_hearAll_32 rfl fkX8_10 rfl rfl ?_
        refine A_get hE 38 dX8_hearAll_35 rfl fkX8_63 rfl rfl ?_
        refine A_aload_n hE 39 dX8_hearAll_38 rfl rfl ?_
        refine A_get hE 42 dX8_hearAll_39 rfl fkX8_42 rfl rfl ?_
        refine A_iload_n hE 43 dX8_hearAll_42 rfl rfl ?_
        refine A_aald hE 44 2 dX8_hearAll_43 rfl rfl rfl (by omega) rfl rfl ?_
        refine A_get hE 47 dX8_hearAll_44 rfl fkX8_226 rfl rfl ?_
        refine A_callVi hE 50 (c_X2_takeHeard s t0 t1 g0 h0 g1 h1 (zs 2) (sn 2) hz24 w) [11, 3, 4, 5, 6, 7, 8, 9, 10, 12, 13, 14, 15, 58, 59] dX8_hearAll_47 rfl mkX8_272 rfl rfl rfl rfl rfl rfl rfl (Nat.le_of_ble_eq_true rfl) (Nat.le_of_ble_eq_true rfl) rfl (fun x47 h47 g47 hp47 hw47 => ?_)
        obtain ⟨rfl, rfl⟩ := hp47
        obtain rfl := Option.some.inj hw47
        refine A_h (Y63 er im (tk (sn 2) (zs 2) 0 s).1 t0 g0 h0 t1 g1 h1 tl tp wl wt wh mu J pt vK vk vm tn tr v1 v2 pl ft rk rf K m0 f0 k0 m1 f1 k1 tl2 tp2 wl2 wt2 sb zs sn) rfl ?_
        refine A_iret hE dX8_hearAll_50 ?_
        rw [hearAllF, if_pos hh, ek, if_neg hb, hz, nI_clamp (by omega), show tk (vn 2 nu) (zs 2) 0 s = tk (sn 2) (zs 2) 0 s from tk_cg (zs 2) 0 s (fun i hi => (hvn i (by omega)).symm)]
        exact ⟨rfl, rfl⟩
      · have hb := bI_1 c22
        refine A_aload_n hE 26 dX8_hearAll_25 rfl rfl ?_
        refine A_iconst hE 27 dX8_hearAll_26 rfl (2) rfl ?_
        refine A_callVi hE 30 (c_X8_error er im 2 (by omega)) [0, 1] dX8_hearAll_27 rfl mkX8_59 rfl rfl rfl rfl rfl rfl rfl (Nat.le_of_ble_eq_true rfl) (Nat.le_of_ble_eq_true rfl) rfl (fun x27 h27 g27 hp27 hw27 => ?_)
        obtain ⟨rfl, rfl⟩ := hp27
        obtain rfl := Option.some.inj hw27
        refine A_h (Y63 (upd er 2 (er 2 + 1)) im s t0 g0 h0 t1 g1 h1 tl tp wl wt wh mu J pt vK vk vm tn tr v1 v2 pl ft rk rf K m0 f0 k0 m1 f1 k1 tl2 tp2 wl2 wt2 sb zs sn) rfl ?_
        refine A_iret hE dX8_hearAll_30 ?_
        rw [hearAllF, if_pos hh, ek, if_pos hb]
        exact ⟨rfl, rfl⟩
    · obtain ⟨hz24, hz, hvn⟩ := hR 3 (by omega)
      refine A_aload_n hE 14 dX8_hearAll_13 rfl rfl ?_
      refine A_get hE 17 dX8_hearAll_14 rfl fkX8_42 rfl rfl ?_
      refine A_iload_n hE 18 dX8_hearAll_17 rfl rfl ?_
      refine A_aald hE 19 3 dX8_hearAll_18 rfl rfl rfl (by omega) rfl rfl ?_
      refine A_callVi hE 22 (c_X4_isMissing (sb 3) (zs 3) (sn 3)) [60, 61, 62] dX8_hearAll_19 rfl mkX8_222 rfl rfl rfl rfl rfl rfl rfl (Nat.le_of_ble_eq_true rfl) (Nat.le_of_ble_eq_true rfl) rfl (fun x19 h19 g19 hp19 hw19 => ?_)
      obtain ⟨rfl, rfl⟩ := hp19
      obtain rfl := Option.some.inj hw19
      refine A_h (Y63 er im s t0 g0 h0 t1 g1 h1 tl tp wl wt wh mu J pt vK vk vm tn tr v1 v2 pl ft rk rf K m0 f0 k0 m1 f1 k1 tl2 tp2 wl2 wt2 sb zs sn) rfl ?_
      refine A_if_eq hE 25 31 dX8_hearAll_22 rfl rfl (fun c22 => ?_) (fun c22 => ?_)
      · have hb := bI_0 c22
        refine A_aload_n hE 32 dX8_hearAll_31 rfl rfl ?_
        refine A_get hE 35 dX8_hearAll_32 rfl fkX8_10 rfl rfl ?_
        refine A_get hE 38 dX8_hearAll_35 rfl fkX8_63 rfl rfl ?_
        refine A_aload_n hE 39 dX8_hearAll_38 rfl rfl ?_
        refine A_get hE 42 dX8_hearAll_39 rfl fkX8_42 rfl rfl ?_
        refine A_iload_n hE 43 dX8_hearAll_42 rfl rfl ?_
        refine A_aald hE 44 3 dX8_hearAll_43 rfl rfl rfl (by omega) rfl rfl ?_
        refine A_get hE 47 dX8_hearAll_44 rfl fkX8_226 rfl rfl ?_
        refine A_callVi hE 50 (c_X2_takeHeard s t0 t1 g0 h0 g1 h1 (zs 3) (sn 3) hz24 w) [11, 3, 4, 5, 6, 7, 8, 9, 10, 12, 13, 14, 15, 61, 62] dX8_hearAll_47 rfl mkX8_272 rfl rfl rfl rfl rfl rfl rfl (Nat.le_of_ble_eq_true rfl) (Nat.le_of_ble_eq_true rfl) rfl (fun x47 h47 g47 hp47 hw47 => ?_)
        obtain ⟨rfl, rfl⟩ := hp47
        obtain rfl := Option.some.inj hw47
        refine A_h (Y63 er im (tk (sn 3) (zs 3) 0 s).1 t0 g0 h0 t1 g1 h1 tl tp wl wt wh mu J pt vK vk vm tn tr v1 v2 pl ft rk rf K m0 f0 k0 m1 f1 k1 tl2 tp2 wl2 wt2 sb zs sn) rfl ?_
        refine A_iret hE dX8_hearAll_50 ?_
        rw [hearAllF, if_pos hh, ek, if_neg hb, hz, nI_clamp (by omega), show tk (vn 3 nu) (zs 3) 0 s = tk (sn 3) (zs 3) 0 s from tk_cg (zs 3) 0 s (fun i hi => (hvn i (by omega)).symm)]
        exact ⟨rfl, rfl⟩
      · have hb := bI_1 c22
        refine A_aload_n hE 26 dX8_hearAll_25 rfl rfl ?_
        refine A_iconst hE 27 dX8_hearAll_26 rfl (2) rfl ?_
        refine A_callVi hE 30 (c_X8_error er im 2 (by omega)) [0, 1] dX8_hearAll_27 rfl mkX8_59 rfl rfl rfl rfl rfl rfl rfl (Nat.le_of_ble_eq_true rfl) (Nat.le_of_ble_eq_true rfl) rfl (fun x27 h27 g27 hp27 hw27 => ?_)
        obtain ⟨rfl, rfl⟩ := hp27
        obtain rfl := Option.some.inj hw27
        refine A_h (Y63 (upd er 2 (er 2 + 1)) im s t0 g0 h0 t1 g1 h1 tl tp wl wt wh mu J pt vK vk vm tn tr v1 v2 pl ft rk rf K m0 f0 k0 m1 f1 k1 tl2 tp2 wl2 wt2 sb zs sn) rfl ?_
        refine A_iret hE dX8_hearAll_30 ?_
        rw [hearAllF, if_pos hh, ek, if_pos hb]
        exact ⟨rfl, rfl⟩
  · have hh := bI_0 c4
    refine A_aload_n hE 8 dX8_hearAll_7 rfl rfl ?_
    refine A_iconst hE 9 dX8_hearAll_8 rfl (1) rfl ?_
    refine A_callVi hE 12 (c_X8_error er im 1 (by omega)) [0, 1] dX8_hearAll_9 rfl mkX8_59 rfl rfl rfl rfl rfl rfl rfl (Nat.le_of_ble_eq_true rfl) (Nat.le_of_ble_eq_true rfl) rfl (fun x9 h9 g9 hp9 hw9 => ?_)
    obtain ⟨rfl, rfl⟩ := hp9
    obtain rfl := Option.some.inj hw9
    refine A_h (Y63 (upd er 1 (er 1 + 1)) im s t0 g0 h0 t1 g1 h1 tl tp wl wt wh mu J pt vK vk vm tn tr v1 v2 pl ft rk rf K m0 f0 k0 m1 f1 k1 tl2 tp2 wl2 wt2 sb zs sn) rfl ?_
    refine A_iret hE dX8_hearAll_12 ?_
    rw [hearAllF, if_neg hh]
    exact ⟨rfl, rfl⟩
set_option maxRecDepth 100000 in
theorem c_X8_judge (er : Nat → Int32) (im : Int32) (s : St) (t0 : Sp) (g0 h0 : Nat → Int32) (t1 : Sp) (g1 h1 : Nat → Int32) (tl : Nat) (tp : Nat → Int32) (wl : Nat) (wt : Nat → Int32) (wh mu : Int32) (J : St) (pt : Int32) (vK : Nat) (vk vm : Int32) (tn : Nat) (tr : Nat → Int32) (v1 v2 : Value) (pl ft : Int32) (rk : Nat) (rf : Nat → Int32) (K : St) (m0 : Nat) (f0 k0 : Nat → Int32) (m1 : Nat) (f1 k1 : Nat → Int32) (tl2 : Nat) (tp2 : Nat → Int32) (wl2 : Nat) (wt2 sb : Nat → Int32) (zs : Nat → Nat) (sn : Nat → Nat → Int32) (h : Int32) (w : wf s) (sz nu : Nat → Int32) (hR : ShR zs sn sz nu) (hB : ∀ k, k < 4 → widB (sb k)) : AMet yX8_judge cX8_judge 2 (some (.int)) 3 0 0 [.ref 0, .int h] (Y63 er im s t0 g0 h0 t1 g1 h1 tl tp wl wt wh mu J pt vK vk vm tn tr v1 v2 pl ft rk rf K m0 f0 k0 m1 f1 k1 tl2 tp2 wl2 wt2 sb zs sn) (pI fun x0 hz0 => x0 = (judgeF s er sb sz nu h).1 ∧ hz0 = Y63 (judgeF s er sb sz nu h).2.2 im (judgeF s er sb sz nu h).2.1 t0 g0 h0 t1 g1 h1 tl tp wl wt wh mu J pt vK vk vm tn tr v1 v2 pl ft rk rf K m0 f0 k0 m1 f1 k1 tl2 tp2 wl2 wt2 sb zs sn) := by
  refine AMet.of (by decide +kernel) rfl (fun E ad0 hE => ?_)
  refine A_iload_n hE 1 dX8_judge_0 rfl rfl ?_
  refine A_callSi hE 4 (c_X8_isSheet h) [] dX8_judge_1 rfl mkX8_219 rfl rfl rfl rfl rfl rfl (Nat.le_of_ble_eq_true rfl) (Nat.le_of_ble_eq_true rfl) rfl (fun x1 h1 g1 hp1 hw1 => ?_)
  obtain ⟨rfl, rfl⟩ := hp1
  obtain rfl := Option.some.inj hw1
  refine A_if_ne hE 7 13 dX8_judge_4 rfl rfl (fun c4 => ?_) (fun c4 => ?_)
  · have hh := bI_1 c4
    obtain ⟨k, hkk, rfl⟩ := iK2 (n := 3) hh.1 hh.2 (by omega)
    have ek : (nI k).toNatClampNeg = k := nI_clamp (by omega)
    rcases (show k = 0 ∨ k = 1 ∨ k = 2 ∨ k = 3 by omega) with rfl | rfl | rfl | rfl
    · obtain ⟨hz24, hz, hvn⟩ := hR 0 (by omega)
      refine A_aload_n hE 14 dX8_judge_13 rfl rfl ?_
      refine A_get hE 17 dX8_judge_14 rfl fkX8_42 rfl rfl ?_
      refine A_iload_n hE 18 dX8_judge_17 rfl rfl ?_
      refine A_aald hE 19 0 dX8_judge_18 rfl rfl rfl (by omega) rfl rfl ?_
      refine A_callVi hE 22 (c_X4_isMissing (sb 0) (zs 0) (sn 0)) [51, 52, 53] dX8_judge_19 rfl mkX8_222 rfl rfl rfl rfl rfl rfl rfl (Nat.le_of_ble_eq_true rfl) (Nat.le_of_ble_eq_true rfl) rfl (fun x19 h19 g19 hp19 hw19 => ?_)
      obtain ⟨rfl, rfl⟩ := hp19
      obtain rfl := Option.some.inj hw19
      refine A_h (Y63 er im s t0 g0 h0 t1 g1 h1 tl tp wl wt wh mu J pt vK vk vm tn tr v1 v2 pl ft rk rf K m0 f0 k0 m1 f1 k1 tl2 tp2 wl2 wt2 sb zs sn) rfl ?_
      refine A_if_eq hE 25 31 dX8_judge_22 rfl rfl (fun c22 => ?_) (fun c22 => ?_)
      · have hb := bI_0 c22
        refine A_aload_n hE 32 dX8_judge_31 rfl rfl ?_
        refine A_get hE 35 dX8_judge_32 rfl fkX8_10 rfl rfl ?_
        refine A_get hE 38 dX8_judge_35 rfl fkX8_63 rfl rfl ?_
        refine A_aload_n hE 39 dX8_judge_38 rfl rfl ?_
        refine A_get hE 42 dX8_judge_39 rfl fkX8_42 rfl rfl ?_
        refine A_iload_n hE 43 dX8_judge_42 rfl rfl ?_
        refine A_aald hE 44 0 dX8_judge_43 rfl rfl rfl (by omega) rfl rfl ?_
        refine A_get hE 47 dX8_judge_44 rfl fkX8_226 rfl rfl ?_
        refine A_callVi hE 50 (c_X2_rightTurns s t0 t1 g0 h0 g1 h1 (zs 0) (sn 0) hz24 w) [11, 3, 4, 5, 6, 7, 8, 9, 10, 12, 13, 14, 15, 52, 53] dX8_judge_47 rfl mkX8_276 rfl rfl rfl rfl rfl rfl rfl (Nat.le_of_ble_eq_true rfl) (Nat.le_of_ble_eq_true rfl) rfl (fun x47 h47 g47 hp47 hw47 => ?_)
        obtain ⟨rfl, rfl⟩ := hp47
        obtain rfl := Option.some.inj hw47
        refine A_h (Y63 er im s t0 g0 h0 t1 g1 h1 tl tp wl wt wh mu J pt vK vk vm tn tr v1 v2 pl ft rk rf K m0 f0 k0 m1 f1 k1 tl2 tp2 wl2 wt2 sb zs sn) rfl ?_
        refine A_iret hE dX8_judge_50 ?_
        rw [judgeF, if_pos hh, ek, if_neg hb, hz, nI_clamp (by omega), show rtF s (vn 0 nu) (zs 0) 0 = rtF s (sn 0) (zs 0) 0 from rt_cg (s := s) (zs 0) 0 (fun i hi => (hvn i (by omega)).symm)]
        exact ⟨rfl, rfl⟩
      · have hb := bI_1 c22
        refine A_aload_n hE 26 dX8_judge_25 rfl rfl ?_
        refine A_iconst hE 27 dX8_judge_26 rfl (2) rfl ?_
        refine A_callVi hE 30 (c_X8_error er im 2 (by omega)) [0, 1] dX8_judge_27 rfl mkX8_59 rfl rfl rfl rfl rfl rfl rfl (Nat.le_of_ble_eq_true rfl) (Nat.le_of_ble_eq_true rfl) rfl (fun x27 h27 g27 hp27 hw27 => ?_)
        obtain ⟨rfl, rfl⟩ := hp27
        obtain rfl := Option.some.inj hw27
        refine A_h (Y63 (upd er 2 (er 2 + 1)) im s t0 g0 h0 t1 g1 h1 tl tp wl wt wh mu J pt vK vk vm tn tr v1 v2 pl ft rk rf K m0 f0 k0 m1 f1 k1 tl2 tp2 wl2 wt2 sb zs sn) rfl ?_
        refine A_iret hE dX8_judge_30 ?_
        rw [judgeF, if_pos hh, ek, if_pos hb]
        exact ⟨rfl, rfl⟩
    · obtain ⟨hz24, hz, hvn⟩ := hR 1 (by omega)
      refine A_aload_n hE 14 dX8_judge_13 rfl rfl ?_
      refine A_get hE 17 dX8_judge_14 rfl fkX8_42 rfl rfl ?_
      refine A_iload_n hE 18 dX8_judge_17 rfl rfl ?_
      refine A_aald hE 19 1 dX8_judge_18 rfl rfl rfl (by omega) rfl rfl ?_
      refine A_callVi hE 22 (c_X4_isMissing (sb 1) (zs 1) (sn 1)) [54, 55, 56] dX8_judge_19 rfl mkX8_222 rfl rfl rfl rfl rfl rfl rfl (Nat.le_of_ble_eq_true rfl) (Nat.le_of_ble_eq_true rfl) rfl (fun x19 h19 g19 hp19 hw19 => ?_)
      obtain ⟨rfl, rfl⟩ := hp19
      obtain rfl := Option.some.inj hw19
      refine A_h (Y63 er im s t0 g0 h0 t1 g1 h1 tl tp wl wt wh mu J pt vK vk vm tn tr v1 v2 pl ft rk rf K m0 f0 k0 m1 f1 k1 tl2 tp2 wl2 wt2 sb zs sn) rfl ?_
      refine A_if_eq hE 25 31 dX8_judge_22 rfl rfl (fun c22 => ?_) (fun c22 => ?_)
      · have hb := bI_0 c22
        refine A_aload_n hE 32 dX8_judge_31 rfl rfl ?_
        refine A_get hE 35 dX8_judge_32 rfl fkX8_10 rfl rfl ?_
        refine A_get hE 38 dX8_judge_35 rfl fkX8_63 rfl rfl ?_
        refine A_aload_n hE 39 dX8_judge_38 rfl rfl ?_
        refine A_get hE 42 dX8_judge_39 rfl fkX8_42 rfl rfl ?_
        refine A_iload_n hE 43 dX8_judge_42 rfl rfl ?_
        refine A_aald hE 44 1 dX8_judge_43 rfl rfl rfl (by omega) rfl rfl ?_
        refine A_get hE 47 dX8_judge_44 rfl fkX8_226 rfl rfl ?_
        refine A_callVi hE 50 (c_X2_rightTurns s t0 t1 g0 h0 g1 h1 (zs 1) (sn 1) hz24 w) [11, 3, 4, 5, 6, 7, 8, 9, 10, 12, 13, 14, 15, 55, 56] dX8_judge_47 rfl mkX8_276 rfl rfl rfl rfl rfl rfl rfl (Nat.le_of_ble_eq_true rfl) (Nat.le_of_ble_eq_true rfl) rfl (fun x47 h47 g47 hp47 hw47 => ?_)
        obtain ⟨rfl, rfl⟩ := hp47
        obtain rfl := Option.some.inj hw47
        refine A_h (Y63 er im s t0 g0 h0 t1 g1 h1 tl tp wl wt wh mu J pt vK vk vm tn tr v1 v2 pl ft rk rf K m0 f0 k0 m1 f1 k1 tl2 tp2 wl2 wt2 sb zs sn) rfl ?_
        refine A_iret hE dX8_judge_50 ?_
        rw [judgeF, if_pos hh, ek, if_neg hb, hz, nI_clamp (by omega), show rtF s (vn 1 nu) (zs 1) 0 = rtF s (sn 1) (zs 1) 0 from rt_cg (s := s) (zs 1) 0 (fun i hi => (hvn i (by omega)).symm)]
        exact ⟨rfl, rfl⟩
      · have hb := bI_1 c22
        refine A_aload_n hE 26 dX8_judge_25 rfl rfl ?_
        refine A_iconst hE 27 dX8_judge_26 rfl (2) rfl ?_
        refine A_callVi hE 30 (c_X8_error er im 2 (by omega)) [0, 1] dX8_judge_27 rfl mkX8_59 rfl rfl rfl rfl rfl rfl rfl (Nat.le_of_ble_eq_true rfl) (Nat.le_of_ble_eq_true rfl) rfl (fun x27 h27 g27 hp27 hw27 => ?_)
        obtain ⟨rfl, rfl⟩ := hp27
        obtain rfl := Option.some.inj hw27
        refine A_h (Y63 (upd er 2 (er 2 + 1)) im s t0 g0 h0 t1 g1 h1 tl tp wl wt wh mu J pt vK vk vm tn tr v1 v2 pl ft rk rf K m0 f0 k0 m1 f1 k1 tl2 tp2 wl2 wt2 sb zs sn) rfl ?_
        refine A_iret hE dX8_judge_30 ?_
        rw [judgeF, if_pos hh, ek, if_pos hb]
        exact ⟨rfl, rfl⟩
    · obtain ⟨hz24, hz, hvn⟩ := hR 2 (by omega)
      refine A_aload_n hE 14 dX8_judge_13 rfl rfl ?_
      refine A_get hE 17 dX8_judge_14 rfl fkX8_42 rfl rfl ?_
      refine A_iload_n hE 18 dX8_judge_17 rfl rfl ?_
      refine A_aald hE 19 2 dX8_judge_18 rfl rfl rfl (by omega) rfl rfl ?_
      refine A_callVi hE 22 (c_X4_isMissing (sb 2) (zs 2) (sn 2)) [57, 58, 59] dX8_judge_19 rfl mkX8_222 rfl rfl rfl rfl rfl rfl rfl (Nat.le_of_ble_eq_true rfl) (Nat.le_of_ble_eq_true rfl) rfl (fun x19 h19 g19 hp19 hw19 => ?_)
      obtain ⟨rfl, rfl⟩ := hp19
      obtain rfl := Option.some.inj hw19
      refine A_h (Y63 er im s t0 g0 h0 t1 g1 h1 tl tp wl wt wh mu J pt vK vk vm tn tr v1 v2 pl ft rk rf K m0 f0 k0 m1 f1 k1 tl2 tp2 wl2 wt2 sb zs sn) rfl ?_
      refine A_if_eq hE 25 31 dX8_judge_22 rfl rfl (fun c22 => ?_) (fun c22 => ?_)
      · have hb := bI_0 c22
        refine A_aload_n hE 32 dX8_judge_31 rfl rfl ?_
        refine A_get hE 35 dX8_judge_32 rfl fkX8_10 rfl rfl ?_
        refine A_get hE 38 dX8_judge_35 rfl fkX8_63 rfl rfl ?_
        refine A_aload_n hE 39 dX8_judge_38 rfl rfl ?_
        refine A_get hE 42 dX8_judge_39 rfl fkX8_42 rfl rfl ?_
        refine A_iload_n hE 43 dX8_judge_42 rfl rfl ?_
        refine A_aald hE 44 2 dX8_judge_43 rfl rfl rfl (by omega) rfl rfl ?_
        refine A_get hE 47 dX8_judge_44 rfl fkX8_226 rfl rfl ?_
        refine A_callVi hE 50 (c_X2_rightTurns s t0 t1 g0 h0 g1 h1 (zs 2) (sn 2) hz24 w) [11, 3, 4, 5, 6, 7, 8, 9, 10, 12, 13, 14, 15, 58, 59] dX8_judge_47 rfl mkX8_276 rfl rfl rfl rfl rfl rfl rfl (Nat.le_of_ble_eq_true rfl) (Nat.le_of_ble_eq_true rfl) rfl (fun x47 h47 g47 hp47 hw47 => ?_)
        obtain ⟨rfl, rfl⟩ := hp47
        obtain rfl := Option.some.inj hw47
        refine A_h (Y63 er im s t0 g0 h0 t1 g1 h1 tl tp wl wt wh mu J pt vK vk vm tn tr v1 v2 pl ft rk rf K m0 f0 k0 m1 f1 k1 tl2 tp2 wl2 wt2 sb zs sn) rfl ?_
        refine A_iret hE dX8_judge_50 ?_
        rw [judgeF, if_pos hh, ek, if_neg hb, hz, nI_clamp (by omega), show rtF s (vn 2 nu) (zs 2) 0 = rtF s (sn 2) (zs 2) 0 from rt_cg (s := s) (zs 2) 0 (fun i hi => (hvn i (by omega)).symm)]
        exact ⟨rfl, rfl⟩
      · have hb := bI_1 c22
        refine A_aload_n hE 26 dX8_judge_25 rfl rfl ?_
        refine A_iconst hE 27 dX8_judge_26 rfl (2) rfl ?_
        refine A_callVi hE 30 (c_X8_error er im 2 (by omega)) [0, 1] dX8_judge_27 rfl mkX8_59 rfl rfl rfl rfl rfl rfl rfl (Nat.le_of_ble_eq_true rfl) (Nat.le_of_ble_eq_true rfl) rfl (fun x27 h27 g27 hp27 hw27 => ?_)
        obtain ⟨rfl, rfl⟩ := hp27
        obtain rfl := Option.some.inj hw27
        refine A_h (Y63 (upd er 2 (er 2 + 1)) im s t0 g0 h0 t1 g1 h1 tl tp wl wt wh mu J pt vK vk vm tn tr v1 v2 pl ft rk rf K m0 f0 k0 m1 f1 k1 tl2 tp2 wl2 wt2 sb zs sn) rfl ?_
        refine A_iret hE dX8_judge_30 ?_
        rw [judgeF, if_pos hh, ek, if_pos hb]
        exact ⟨rfl, rfl⟩
    · obtain ⟨hz24, hz, hvn⟩ := hR 3 (by omega)
      refine A_aload_n hE 14 dX8_judge_13 rfl rfl ?_
      refine A_get hE 17 dX8_judge_14 rfl fkX8_42 rfl rfl ?_
      refine A_iload_n hE 18 dX8_judge_17 rfl rfl ?_
      refine A_aald hE 19 3 dX8_judge_18 rfl rfl rfl (by omega) rfl rfl ?_
      refine A_callVi hE 22 (c_X4_isMissing (sb 3) (zs 3) (sn 3)) [60, 61, 62] dX8_judge_19 rfl mkX8_222 rfl rfl rfl rfl rfl rfl rfl (Nat.le_of_ble_eq_true rfl) (Nat.le_of_ble_eq_true rfl) rfl (fun x19 h19 g19 hp19 hw19 => ?_)
      obtain ⟨rfl, rfl⟩ := hp19
      obtain rfl := Option.some.inj hw19
      refine A_h (Y63 er im s t0 g0 h0 t1 g1 h1 tl tp wl wt wh mu J pt vK vk vm tn tr v1 v2 pl ft rk rf K m0 f0 k0 m1 f1 k1 tl2 tp2 wl2 wt2 sb zs sn) rfl ?_
      refine A_if_eq hE 25 31 dX8_judge_22 rfl rfl (fun c22 => ?_) (fun c22 => ?_)
      · have hb := bI_0 c22
        refine A_aload_n hE 32 dX8_judge_31 rfl rfl ?_
        refine A_get hE 35 dX8_judge_32 rfl fkX8_10 rfl rfl ?_
        refine A_get hE 38 dX8_judge_35 rfl fkX8_63 rfl rfl ?_
        refine A_aload_n hE 39 dX8_judge_38 rfl rfl ?_
        refine A_get hE 42 dX8_judge_39 rfl fkX8_42 rfl rfl ?_
        refine A_iload_n hE 43 dX8_judge_42 rfl rfl ?_
        refine A_aald hE 44 3 dX8_judge_43 rfl rfl rfl (by omega) rfl rfl ?_
        refine A_get hE 47 dX8_judge_44 rfl fkX8_226 rfl rfl ?_
        refine A_callVi hE 50 (c_X2_rightTurns s t0 t1 g0 h0 g1 h1 (zs 3) (sn 3) hz24 w) [11, 3, 4, 5, 6, 7, 8, 9, 10, 12, 13, 14, 15, 61, 62] dX8_judge_47 rfl mkX8_276 rfl rfl rfl rfl rfl rfl rfl (Nat.le_of_ble_eq_true rfl) (Nat.le_of_ble_eq_true rfl) rfl (fun x47 h47 g47 hp47 hw47 => ?_)
        obtain ⟨rfl, rfl⟩ := hp47
        obtain rfl := Option.some.inj hw47
        refine A_h (Y63 er im s t0 g0 h0 t1 g1 h1 tl tp wl wt wh mu J pt vK vk vm tn tr v1 v2 pl ft rk rf K m0 f0 k0 m1 f1 k1 tl2 tp2 wl2 wt2 sb zs sn) rfl ?_
        refine A_iret hE dX8_judge_50 ?_
        rw [judgeF, if_pos hh, ek, if_neg hb, hz, nI_clamp (by omega), show rtF s (vn 3 nu) (zs 3) 0 = rtF s (sn 3) (zs 3) 0 from rt_cg (s := s) (zs 3) 0 (fun i hi => (hvn i (by omega)).symm)]
        exact ⟨rfl, rfl⟩
      · have hb := bI_1 c22
        refine A_aload_n hE 26 dX8_judge_25 rfl rfl ?_
        refine A_iconst hE 27 dX8_judge_26 rfl (2) rfl ?_
        refine A_callVi hE 30 (c_X8_error er im 2 (by omega)) [0, 1] dX8_judge_27 rfl mkX8_59 rfl rfl rfl rfl rfl rfl rfl (Nat.le_of_ble_eq_true rfl) (Nat.le_of_ble_eq_true rfl) rfl (fun x27 h27 g27 hp27 hw27 => ?_)
        obtain ⟨rfl, rfl⟩ := hp27
        obtain rfl := Option.some.inj hw27
        refine A_h (Y63 (upd er 2 (er 2 + 1)) im s t0 g0 h0 t1 g1 h1 tl tp wl wt wh mu J pt vK vk vm tn tr v1 v2 pl ft rk rf K m0 f0 k0 m1 f1 k1 tl2 tp2 wl2 wt2 sb zs sn) rfl ?_
        refine A_iret hE dX8_judge_30 ?_
        rw [judgeF, if_pos hh, ek, if_pos hb]
        exact ⟨rfl, rfl⟩
  · have hh := bI_0 c4
    refine A_aload_n hE 8 dX8_judge_7 rfl rfl ?_
    refine A_iconst hE 9 dX8_judge_8 rfl (1) rfl ?_
    refine A_callVi hE 12 (c_X8_error er im 1 (by omega)) [0, 1] dX8_judge_9 rfl mkX8_59 rfl rfl rfl rfl rfl rfl rfl (Nat.le_of_ble_eq_true rfl) (Nat.le_of_ble_eq_true rfl) rfl (fun x9 h9 g9 hp9 hw9 => ?_)
    obtain ⟨rfl, rfl⟩ := hp9
    obtain rfl := Option.some.inj hw9
    refine A_h (Y63 (upd er 1 (er 1 + 1)) im s t0 g0 h0 t1 g1 h1 tl tp wl wt wh mu J pt vK vk vm tn tr v1 v2 pl ft rk rf K m0 f0 k0 m1 f1 k1 tl2 tp2 wl2 wt2 sb zs sn) rfl ?_
    refine A_iret hE dX8_judge_12 ?_
    rw [judgeF, if_neg hh]
    exact ⟨rfl, rfl⟩
set_option maxRecDepth 100000 in
theorem c_X8_fits (er : Nat → Int32) (im : Int32) (s : St) (t0 : Sp) (g0 h0 : Nat → Int32) (t1 : Sp) (g1 h1 : Nat → Int32) (tl : Nat) (tp : Nat → Int32) (wl : Nat) (wt : Nat → Int32) (wh mu : Int32) (J : St) (pt : Int32) (vK : Nat) (vk vm : Int32) (tn : Nat) (tr : Nat → Int32) (v1 v2 : Value) (pl ft : Int32) (rk : Nat) (rf : Nat → Int32) (K : St) (m0 : Nat) (f0 k0 : Nat → Int32) (m1 : Nat) (f1 k1 : Nat → Int32) (tl2 : Nat) (tp2 : Nat → Int32) (wl2 : Nat) (wt2 sb : Nat → Int32) (zs : Nat → Nat) (sn : Nat → Nat → Int32) (dn : Nat) (df dk : Nat → Int32) (dm : Nat) (dg dl : Nat → Int32) (h what : Int32) (w : wf s) (l0 : LawC 0 t0 g0) (l1 : LawC 1 t1 g1) (sz nu : Nat → Int32) (hR : ShR zs sn sz nu) (hB : ∀ k, k < 4 → widB (sb k)) : AMet yX8_fits cX8_fits 4 (some (.int)) 7 0 0 [.ref 0, .int h, .int what] (Y71 er im s t0 g0 h0 t1 g1 h1 tl tp wl wt wh mu J pt vK vk vm tn tr v1 v2 pl ft rk rf K m0 f0 k0 m1 f1 k1 tl2 tp2 wl2 wt2 sb zs sn dn df dk dm dg dl) (pI fun x0 hz0 => x0 = (fitsF t0 t1 s er sb sz nu h what).1 ∧ ∃ (J' : St) (dn' dm' : Nat) (df' dk' dg' dl' : Nat → Int32), hz0 = Y71 (fitsF t0 t1 s er sb sz nu h what).2.2 im (fitsF t0 t1 s er sb sz nu h what).2.1 t0 g0 h0 t1 g1 h1 tl tp wl wt wh mu J' pt vK vk vm tn tr v1 v2 pl ft rk rf K m0 f0 k0 m1 f1 k1 tl2 tp2 wl2 wt2 sb zs sn dn' df' dk' dm' dg' dl') := by
  refine AMet.of (by decide +kernel) rfl (fun E ad0 hE => ?_)
  refine A_iload_n hE 1 dX8_fits_0 rfl rfl ?_
  refine A_callSi hE 4 (c_X8_isSheet h) [] dX8_fits_1 rfl mkX8_219 rfl rfl rfl rfl rfl rfl (Nat.le_of_ble_eq_true rfl) (Nat.le_of_ble_eq_true rfl) rfl (fun x1 h1 g1 hp1 hw1 => ?_)
  obtain ⟨rfl, rfl⟩ := hp1
  obtain rfl := Option.some.inj hw1
  refine A_if_eq hE 7 16 dX8_fits_4 rfl rfl (fun c4 => ?_) (fun c4 => ?_)
  · have hh := bI_0 c4
    refine A_aload_n hE 17 dX8_fits_16 rfl rfl ?_
    refine A_iconst hE 18 dX8_fits_17 rfl (1) rfl ?_
    refine A_callVi hE 21 (c_X8_error er im 1 (by omega)) [0, 1] dX8_fits_18 rfl mkX8_59 rfl rfl rfl rfl rfl rfl rfl (Nat.le_of_ble_eq_true rfl) (Nat.le_of_ble_eq_true rfl) rfl (fun x18 h18 g18 hp18 hw18 => ?_)
    obtain ⟨rfl, rfl⟩ := hp18
    obtain rfl := Option.some.inj hw18
    refine A_h (Y71 (upd er 1 (er 1 + 1)) im s t0 g0 h0 t1 g1 h1 tl tp wl wt wh mu J pt vK vk vm tn tr v1 v2 pl ft rk rf K m0 f0 k0 m1 f1 k1 tl2 tp2 wl2 wt2 sb zs sn dn df dk dm dg dl) rfl ?_
    refine A_iret hE dX8_fits_21 ?_
    rw [fitsF, if_neg (fun z => hh z.1)]
    exact ⟨rfl, J, dn, dm, df, dk, dg, dl, rfl⟩
  · have hh := bI_1 c4
    obtain ⟨k, hkk, rfl⟩ := iK2 (n := 3) hh.1 hh.2 (by omega)
    have ek : (nI k).toNatClampNeg = k := nI_clamp (by omega)
    refine A_iload_n hE 8 dX8_fits_7 rfl rfl ?_
    refine A_iconst hE 9 dX8_fits_8 rfl (0) rfl ?_
    refine A_iconst hE 10 dX8_fits_9 rfl (1) rfl ?_
    refine A_callSi hE 13 (c_X8_isWithin what 0 1) [] dX8_fits_10 rfl mkX8_55 rfl rfl rfl rfl rfl rfl (Nat.le_of_ble_eq_true rfl) (Nat.le_of_ble_eq_true rfl) rfl (fun x10 h10 g10 hp10 hw10 => ?_)
    obtain ⟨rfl, rfl⟩ := hp10
    obtain rfl := Option.some.inj hw10
    refine A_if_ne hE 16 22 dX8_fits_13 rfl rfl (fun c13 => ?_) (fun c13 => ?_)
    · have hw := bI_1 c13
      rcases (show k = 0 ∨ k = 1 ∨ k = 2 ∨ k = 3 by omega) with rfl | rfl | rfl | rfl
      · obtain ⟨hz24, hz, hvn⟩ := hR 0 (by omega)
        refine A_aload_n hE 23 dX8_fits_22 rfl rfl ?_
        refine A_get hE 26 dX8_fits_23 rfl fkX8_42 rfl rfl ?_
        refine A_iload_n hE 27 dX8_fits_26 rfl rfl ?_
        refine A_aald hE 28 0 dX8_fits_27 rfl rfl rfl (by omega) rfl rfl ?_
        refine A_callVi hE 31 (c_X4_isMissing (sb 0) (zs 0) (sn 0)) [51, 52, 53] dX8_fits_28 rfl mkX8_222 rfl rfl rfl rfl rfl rfl rfl (Nat.le_of_ble_eq_true rfl) (Nat.le_of_ble_eq_true rfl) rfl (fun x28 h28 g28 hp28 hw28 => ?_)
        obtain ⟨rfl, rfl⟩ := hp28
        obtain rfl := Option.some.inj hw28
        refine A_h (Y71 er im s t0 g0 h0 t1 g1 h1 tl tp wl wt wh mu J pt vK vk vm tn tr v1 v2 pl ft rk rf K m0 f0 k0 m1 f1 k1 tl2 tp2 wl2 wt2 sb zs sn dn df dk dm dg dl) rfl ?_
        refine A_if_eq hE 34 40 dX8_fits_31 rfl rfl (fun c31 => ?_) (fun c31 => ?_)
        · have hb := bI_0 c31
          refine A_aload_n hE 41 dX8_fits_40 rfl rfl ?_
          refine A_get hE 44 dX8_fits_41 rfl fkX8_29 rfl rfl ?_
          refine A_aload_n hE 45 dX8_fits_44 rfl rfl ?_
          refine A_get hE 48 dX8_fits_45 rfl fkX8_10 rfl rfl ?_
          refine A_get hE 51 dX8_fits_48 rfl fkX8_63 rfl rfl ?_
          refine A_aload_n hE 52 dX8_fits_51 rfl rfl ?_
          refine A_get hE 55 dX8_fits_52 rfl fkX8_42 rfl rfl ?_
          refine A_iload_n hE 56 dX8_fits_55 rfl rfl ?_
          refine A_aald hE 57 0 dX8_fits_56 rfl rfl rfl (by omega) rfl rfl ?_
          refine A_get hE 60 dX8_fits_57 rfl fkX8_226 rfl rfl ?_
          refine A_callVi hE 63 (c_X6_placesThatFit s J wh mu t0 t1 g0 h0 g1 h1 dn dm df dk dg dl (zs 0) (sn 0) hz24 w l0 l1) [20, 11, 12, 13, 14, 15, 21, 22, 23, 24, 25, 3, 4, 5, 6, 7, 8, 9, 10, 63, 64, 65, 66, 67, 68, 69, 70, 52, 53] dX8_fits_60 rfl mkX8_229 rfl rfl rfl rfl rfl rfl rfl (Nat.le_of_ble_eq_true rfl) (Nat.le_of_ble_eq_true rfl) rfl (fun x60 h60 g60 hp60 hw60 => ?_)
          obtain ⟨rfl, J1, n2, m2, f2, k2, f3, k3, rfl⟩ := hp60
          obtain rfl := Option.some.inj hw60
          refine A_h (Y71 er im s t0 g0 h0 t1 g1 h1 tl tp wl wt wh mu J1 pt vK vk vm tn tr v1 v2 pl ft rk rf K m0 f0 k0 m1 f1 k1 tl2 tp2 wl2 wt2 sb zs sn n2 f2 k2 m2 f3 k3) rfl ?_
          rw [show pfF t1 s (sn 0) (zs 0) (hn s) 0 0 = nI (ptM t0 t1 s (sn 0) (zs 0) (hn s) 0 0) from pf_eq t0 t1 s (sn 0) (zs 0) (hn s) 0 0 (by have := w.1; omega) (by decide)]
          have hP : (ptM t0 t1 s (sn 0) (zs 0) (hn s) 0 0) < 256 := Nat.lt_of_lt_of_le (ptM_lt (hn s) 0 0 (by decide)) (by rw [Nat.zero_add]; exact pow_le w.1)
          refine A_istore_n hE 64 dX8_fits_63 rfl rfl rfl ?_
          refine A_iload_n hE 65 dX8_fits_64 rfl rfl ?_
          refine A_if_ne hE 68 72 dX8_fits_65 rfl rfl (fun c65 => ?_) (fun c65 => ?_)
          · refine A_iload_n hE 73 dX8_fits_72 rfl rfl ?_
            refine A_callSi hE 76 (c_J6_bitCount_0f7a4 (ptM t0 t1 s (sn 0) (zs 0) (hn s) 0 0) hP) [] dX8_fits_73 rfl mkX8_233 rfl rfl rfl rfl rfl rfl (Nat.le_of_ble_eq_true rfl) (Nat.le_of_ble_eq_true rfl) rfl (fun x73 h73 g73 hp73 hw73 => ?_)
            obtain ⟨rfl, rfl⟩ := hp73
            obtain rfl := Option.some.inj hw73
            refine A_iret hE dX8_fits_76 ?_
            rw [fitsF, if_pos ⟨hh, hw⟩, ek, if_neg hb, hz, nI_clamp (by omega), (show ptM t0 t1 s (vn 0 nu) (zs 0) (hn s) 0 0 = ptM t0 t1 s (sn 0) (zs 0) (hn s) 0 0 from pt_cg (fun i hi => (hvn i hi).symm) (hn s) 0 0), if_neg c65]
            exact ⟨rfl, J1, n2, m2, f2, k2, f3, k3, rfl⟩
          · refine A_iload_n hE 69 dX8_fits_68 rfl rfl ?_
            refine A_goto hE 76 dX8_fits_69 rfl ?_
            refine A_iret hE dX8_fits_76 ?_
            rw [fitsF, if_pos ⟨hh, hw⟩, ek, if_neg hb, hz, nI_clamp (by omega), (show ptM t0 t1 s (vn 0 nu) (zs 0) (hn s) 0 0 = ptM t0 t1 s (sn 0) (zs 0) (hn s) 0 0 from pt_cg (fun i hi => (hvn i hi).symm) (hn s) 0 0), if_pos c65]
            exact ⟨rfl, J1, n2, m2, f2, k2, f3, k3, rfl⟩
        · have hb := bI_1 c31
          refine A_aload_n hE 35 dX8_fits_34 rfl rfl ?_
          refine A_iconst hE 36 dX8_fits_35 rfl (2) rfl ?_
          refine A_callVi hE 39 (c_X8_error er im 2 (by omega)) [0, 1] dX8_fits_36 rfl mkX8_59 rfl rfl rfl rfl rfl rfl rfl (Nat.le_of_ble_eq_true rfl) (Nat.le_of_ble_eq_true rfl) rfl (fun x36 h36 g36 hp36 hw36 => ?_)
          obtain ⟨rfl, rfl⟩ := hp36
          obtain rfl := Option.some.inj hw36
          refine A_h (Y71 (upd er 2 (er 2 + 1)) im s t0 g0 h0 t1 g1 h1 tl tp wl wt wh mu J pt vK vk vm tn tr v1 v2 pl ft rk rf K m0 f0 k0 m1 f1 k1 tl2 tp2 wl2 wt2 sb zs sn dn df dk dm dg dl) rfl ?_
          refine A_iret hE dX8_fits_39 ?_
          rw [fitsF, if_pos ⟨hh, hw⟩, ek, if_pos hb]
          exact ⟨rfl, J, dn, dm, df, dk, dg, dl, rfl⟩
      · obtain ⟨hz24, hz, hvn⟩ := hR 1 (by omega)
        refine A_aload_n hE 23 dX8_fits_22 rfl rfl ?_
        refine A_get hE 26 dX8_fits_23 rfl fkX8_42 rfl rfl ?_
        refine A_iload_n hE 27 dX8_fits_26 rfl rfl ?_
        refine A_aald hE 28 1 dX8_fits_27 rfl rfl rfl (by omega) rfl rfl ?_
        refine A_callVi hE 31 (c_X4_isMissing (sb 1) (zs 1) (sn 1)) [54, 55, 56] dX8_fits_28 rfl mkX8_222 rfl rfl rfl rfl rfl rfl rfl (Nat.le_of_ble_eq_true rfl) (Nat.le_of_ble_eq_true rfl) rfl (fun x28 h28 g28 hp28 hw28 => ?_)
        obtain ⟨rfl, rfl⟩ := hp28
        obtain rfl := Option.some.inj hw28
        refine A_h (Y71 er im s t0 g0 h0 t1 g1 h1 tl tp wl wt wh mu J pt vK vk vm tn tr v1 v2 pl ft rk rf K m0 f0 k0 m1 f1 k1 tl2 tp2 wl2 wt2 sb zs sn dn df dk dm dg dl) rfl ?_
        refine A_if_eq hE 34 40 dX8_fits_31 rfl rfl (fun c31 => ?_) (fun c31 => ?_)
        · have hb := bI_0 c31
          refine A_aload_n hE 41 dX8_fits_40 rfl rfl ?_
          refine A_get hE 44 dX8_fits_41 rfl fkX8_29 rfl rfl ?_
          refine A_aload_n hE 45 dX8_fits_44 rfl rfl ?_
          refine A_get hE 48 dX8_fits_45 rfl fkX8_10 rfl rfl ?_
          refine A_get hE 51 dX8_fits_48 rfl fkX8_63 rfl rfl ?_
          refine A_aload_n hE 52 dX8_fits_51 rfl rfl ?_
          refine A_get hE 55 dX8_fits_52 rfl fkX8_42 rfl rfl ?_
          refine A_iload_n hE 56 dX8_fits_55 rfl rfl ?_
          refine A_aald hE 57 1 dX8_fits_56 rfl rfl rfl (by omega) rfl rfl ?_
          refine A_get hE 60 dX8_fits_57 rfl fkX8_226 rfl rfl ?_
          refine A_callVi hE 63 (c_X6_placesThatFit s J wh mu t0 t1 g0 h0 g1 h1 dn dm df dk dg dl (zs 1) (sn 1) hz24 w l0 l1) [20, 11, 12, 13, 14, 15, 21, 22, 23, 24, 25, 3, 4, 5, 6, 7, 8, 9, 10, 63, 64, 65, 66, 67, 68, 69, 70, 55, 56] dX8_fits_60 rfl mkX8_229 rfl rfl rfl rfl rfl rfl rfl (Nat.le_of_ble_eq_true rfl) (Nat.le_of_ble_eq_true rfl) rfl (fun x60 h60 g60 hp60 hw60 => ?_)
          obtain ⟨rfl, J1, n2, m2, f2, k2, f3, k3, rfl⟩ := hp60
          obtain rfl := Option.some.inj hw60
          refine A_h (Y71 er im s t0 g0 h0 t1 g1 h1 tl tp wl wt wh mu J1 pt vK vk vm tn tr v1 v2 pl ft rk rf K m0 f0 k0 m1 f1 k1 tl2 tp2 wl2 wt2 sb zs sn n2 f2 k2 m2 f3 k3) rfl ?_
          rw [show pfF t1 s (sn 1) (zs 1) (hn s) 0 0 = nI (ptM t0 t1 s (sn 1) (zs 1) (hn s) 0 0) from pf_eq t0 t1 s (sn 1) (zs 1) (hn s) 0 0 (by have := w.1; omega) (by decide)]
          have hP : (ptM t0 t1 s (sn 1) (zs 1) (hn s) 0 0) < 256 := Nat.lt_of_lt_of_le (ptM_lt (hn s) 0 0 (by decide)) (by rw [Nat.zero_add]; exact pow_le w.1)
          refine A_istore_n hE 64 dX8_fits_63 rfl rfl rfl ?_
          refine A_iload_n hE 65 dX8_fits_64 rfl rfl ?_
          refine A_if_ne hE 68 72 dX8_fits_65 rfl rfl (fun c65 => ?_) (fun c65 => ?_)
          · refine A_iload_n hE 73 dX8_fits_72 rfl rfl ?_
            refine A_callSi hE 76 (c_J6_bitCount_0f7a4 (ptM t0 t1 s (sn 1) (zs 1) (hn s) 0 0) hP) [] dX8_fits_73 rfl mkX8_233 rfl rfl rfl rfl rfl rfl (Nat.le_of_ble_eq_true rfl) (Nat.le_of_ble_eq_true rfl) rfl (fun x73 h73 g73 hp73 hw73 => ?_)
            obtain ⟨rfl, rfl⟩ := hp73
            obtain rfl := Option.some.inj hw73
            refine A_iret hE dX8_fits_76 ?_
            rw [fitsF, if_pos ⟨hh, hw⟩, ek, if_neg hb, hz, nI_clamp (by omega), (show ptM t0 t1 s (vn 1 nu) (zs 1) (hn s) 0 0 = ptM t0 t1 s (sn 1) (zs 1) (hn s) 0 0 from pt_cg (fun i hi => (hvn i hi).symm) (hn s) 0 0), if_neg c65]
            exact ⟨rfl, J1, n2, m2, f2, k2, f3, k3, rfl⟩
          · refine A_iload_n hE 69 dX8_fits_68 rfl rfl ?_
            refine A_goto hE 76 dX8_fits_69 rfl ?_
            refine A_iret hE dX8_fits_76 ?_
            rw [fitsF, if_pos ⟨hh, hw⟩, ek, if_neg hb, hz, nI_clamp (by omega), (show ptM t0 t1 s (vn 1 nu) (zs 1) (hn s) 0 0 = ptM t0 t1 s (sn 1) (zs 1) (hn s) 0 0 from pt_cg (fun i hi => (hvn i hi).symm) (hn s) 0 0), if_pos c65]
            exact ⟨rfl, J1, n2, m2, f2, k2, f3, k3, rfl⟩
        · have hb := bI_1 c31
          refine A_aload_n hE 35 dX8_fits_34 rfl rfl ?_
          refine A_iconst hE 36 dX8_fits_35 rfl (2) rfl ?_
          refine A_callVi hE 39 (c_X8_error er im 2 (by omega)) [0, 1] dX8_fits_36 rfl mkX8_59 rfl rfl rfl rfl rfl rfl rfl (Nat.le_of_ble_eq_true rfl) (Nat.le_of_ble_eq_true rfl) rfl (fun x36 h36 g36 hp36 hw36 => ?_)
          obtain ⟨rfl, rfl⟩ := hp36
          obtain rfl := Option.some.inj hw36
          refine A_h (Y71 (upd er 2 (er 2 + 1)) im s t0 g0 h0 t1 g1 h1 tl tp wl wt wh mu J pt vK vk vm tn tr v1 v2 pl ft rk rf K m0 f0 k0 m1 f1 k1 tl2 tp2 wl2 wt2 sb zs sn dn df dk dm dg dl) rfl ?_
          refine A_iret hE dX8_fits_39 ?_
          rw [fitsF, if_pos ⟨hh, hw⟩, ek, if_pos hb]
          exact ⟨rfl, J, dn, dm, df, dk, dg, dl, rfl⟩
      · obtain ⟨hz24, hz, hvn⟩ := hR 2 (by omega)
        refine A_aload_n hE 23 dX8_fits_22 rfl rfl ?_
        refine A_get hE 26 dX8_fits_23 rfl fkX8_42 rfl rfl ?_
        refine A_iload_n hE 27 dX8_fits_26 rfl rfl ?_
        refine A_aald hE 28 2 dX8_fits_27 rfl rfl rfl (by omega) rfl rfl ?_
        refine A_callVi hE 31 (c_X4_isMissing (sb 2) (zs 2) (sn 2)) [57, 58, 59] dX8_fits_28 rfl mkX8_222 rfl rfl rfl rfl rfl rfl rfl (Nat.le_of_ble_eq_true rfl) (Nat.le_of_ble_eq_true rfl) rfl (fun x28 h28 g28 hp28 hw28 => ?_)
        obtain ⟨rfl, rfl⟩ := hp28
        obtain rfl := Option.some.inj hw28
        refine A_h (Y71 er im s t0 g0 h0 t1 g1 h1 tl tp wl wt wh mu J pt vK vk vm tn tr v1 v2 pl ft rk rf K m0 f0 k0 m1 f1 k1 tl2 tp2 wl2 wt2 sb zs sn dn df dk dm dg dl) rfl ?_
        refine A_if_eq hE 34 40 dX8_fits_31 rfl rfl (fun c31 => ?_) (fun c31 => ?_)
        · have hb := bI_0 c31
          refine A_aload_n hE 41 dX8_fits_40 rfl rfl ?_
          refine A_get hE 44 dX8_fits_41 rfl fkX8_29 rfl rfl ?_
          refine A_aload_n hE 45 dX8_fits_44 rfl rfl ?_
          refine A_get hE 48 dX8_fits_45 rfl fkX8_10 rfl rfl ?_
          refine A_get hE 51 dX8_fits_48 rfl fkX8_63 rfl rfl ?_
          refine A_aload_n hE 52 dX8_fits_51 rfl rfl ?_
          refine A_get hE 55 dX8_fits_52 rfl fkX8_42 rfl rfl ?_
          refine A_iload_n hE 56 dX8_fits_55 rfl rfl ?_
          refine A_aald hE 57 2 dX8_fits_56 rfl rfl rfl (by omega) rfl rfl ?_
          refine A_get hE 60 dX8_fits_57 rfl fkX8_226 rfl rfl ?_
          refine A_callVi hE 63 (c_X6_placesThatFit s J wh mu t0 t1 g0 h0 g1 h1 dn dm df dk dg dl (zs 2) (sn 2) hz24 w l0 l1) [20, 11, 12, 13, 14, 15, 21, 22, 23, 24, 25, 3, 4, 5, 6, 7, 8, 9, 10, 63, 64, 65, 66, 67, 68, 69, 70, 58, 59] dX8_fits_60 rfl mkX8_229 rfl rfl rfl rfl rfl rfl rfl (Nat.le_of_ble_eq_true rfl) (Nat.le_of_ble_eq_true rfl) rfl (fun x60 h60 g60 hp60 hw60 => ?_)
          obtain ⟨rfl, J1, n2, m2, f2, k2, f3, k3, rfl⟩ := hp60
          obtain rfl := Option.some.inj hw60
          refine A_h (Y71 er im s t0 g0 h0 t1 g1 h1 tl tp wl wt wh mu J1 pt vK vk vm tn tr v1 v2 pl ft rk rf K m0 f0 k0 m1 f1 k1 tl2 tp2 wl2 wt2 sb zs sn n2 f2 k2 m2 f3 k3) rfl ?_
          rw [show pfF t1 s (sn 2) (zs 2) (hn s) 0 0 = nI (ptM t0 t1 s (sn 2) (zs 2) (hn s) 0 0) from pf_eq t0 t1 s (sn 2) (zs 2) (hn s) 0 0 (by have := w.1; omega) (by decide)]
          have hP : (ptM t0 t1 s (sn 2) (zs 2) (hn s) 0 0) < 256 := Nat.lt_of_lt_of_le (ptM_lt (hn s) 0 0 (by decide)) (by rw [Nat.zero_add]; exact pow_le w.1)
          refine A_istore_n hE 64 dX8_fits_63 rfl rfl rfl ?_
          refine A_iload_n hE 65 dX8_fits_64 rfl rfl ?_
          refine A_if_ne hE 68 72 dX8_fits_65 rfl rfl (fun c65 => ?_) (fun c65 => ?_)
          · refine A_iload_n hE 73 dX8_fits_72 rfl rfl ?_
            refine A_callSi hE 76 (c_J6_bitCount_0f7a4 (ptM t0 t1 s (sn 2) (zs 2) (hn s) 0 0) hP) [] dX8_fits_73 rfl mkX8_233 rfl rfl rfl rfl rfl rfl (Nat.le_of_ble_eq_true rfl) (Nat.le_of_ble_eq_true rfl) rfl (fun x73 h73 g73 hp73 hw73 => ?_)
            obtain ⟨rfl, rfl⟩ := hp73
            obtain rfl := Option.some.inj hw73
            refine A_iret hE dX8_fits_76 ?_
            rw [fitsF, if_pos ⟨hh, hw⟩, ek, if_neg hb, hz, nI_clamp (by omega), (show ptM t0 t1 s (vn 2 nu) (zs 2) (hn s) 0 0 = ptM t0 t1 s (sn 2) (zs 2) (hn s) 0 0 from pt_cg (fun i hi => (hvn i hi).symm) (hn s) 0 0), if_neg c65]
            exact ⟨rfl, J1, n2, m2, f2, k2, f3, k3, rfl⟩
          · refine A_iload_n hE 69 dX8_fits_68 rfl rfl ?_
            refine A_goto hE 76 dX8_fits_69 rfl ?_
            refine A_iret hE dX8_fits_76 ?_
            rw [fitsF, if_pos ⟨hh, hw⟩, ek, if_neg hb, hz, nI_clamp (by omega), (show ptM t0 t1 s (vn 2 nu) (zs 2) (hn s) 0 0 = ptM t0 t1 s (sn 2) (zs 2) (hn s) 0 0 from pt_cg (fun i hi => (hvn i hi).symm) (hn s) 0 0), if_pos c65]
            exact ⟨rfl, J1, n2, m2, f2, k2, f3, k3, rfl⟩
        · have hb := bI_1 c31
          refine A_aload_n hE 35 dX8_fits_34 rfl rfl ?_
          refine A_iconst hE 36 dX8_fits_35 rfl (2) rfl ?_
          refine A_callVi hE 39 (c_X8_error er im 2 (by omega)) [0, 1] dX8_fits_36 rfl mkX8_59 rfl rfl rfl rfl rfl rfl rfl (Nat.le_of_ble_eq_true rfl) (Nat.le_of_ble_eq_true rfl) rfl (fun x36 h36 g36 hp36 hw36 => ?_)
          obtain ⟨rfl, rfl⟩ := hp36
          obtain rfl := Option.some.inj hw36
          refine A_h (Y71 (upd er 2 (er 2 + 1)) im s t0 g0 h0 t1 g1 h1 tl tp wl wt wh mu J pt vK vk vm tn tr v1 v2 pl ft rk rf K m0 f0 k0 m1 f1 k1 tl2 tp2 wl2 wt2 sb zs sn dn df dk dm dg dl) rfl ?_
          refine A_iret hE dX8_fits_39 ?_
          rw [fitsF, if_pos ⟨hh, hw⟩, ek, if_pos hb]
          exact ⟨rfl, J, dn, dm, df, dk, dg, dl, rfl⟩
      · obtain ⟨hz24, hz, hvn⟩ := hR 3 (by omega)
        refine A_aload_n hE 23 dX8_fits_22 rfl rfl ?_
        refine A_get hE 26 dX8_fits_23 rfl fkX8_42 rfl rfl ?_
        refine A_iload_n hE 27 dX8_fits_26 rfl rfl ?_
        refine A_aald hE 28 3 dX8_fits_27 rfl rfl rfl (by omega) rfl rfl ?_
        refine A_callVi hE 31 (c_X4_isMissing (sb 3) (zs 3) (sn 3)) [60, 61, 62] dX8_fits_28 rfl mkX8_222 rfl rfl rfl rfl rfl rfl rfl (Nat.le_of_ble_eq_true rfl) (Nat.le_of_ble_eq_true rfl) rfl (fun x28 h28 g28 hp28 hw28 => ?_)
        obtain ⟨rfl, rfl⟩ := hp28
        obtain rfl := Option.some.inj hw28
        refine A_h (Y71 er im s t0 g0 h0 t1 g1 h1 tl tp wl wt wh mu J pt vK vk vm tn tr v1 v2 pl ft rk rf K m0 f0 k0 m1 f1 k1 tl2 tp2 wl2 wt2 sb zs sn dn df dk dm dg dl) rfl ?_
        refine A_if_eq hE 34 40 dX8_fits_31 rfl rfl (fun c31 => ?_) (fun c31 => ?_)
        · have hb := bI_0 c31
          refine A_aload_n hE 41 dX8_fits_40 rfl rfl ?_
          refine A_get hE 44 dX8_fits_41 rfl fkX8_29 rfl rfl ?_
          refine A_aload_n hE 45 dX8_fits_44 rfl rfl ?_
          refine A_get hE 48 dX8_fits_45 rfl fkX8_10 rfl rfl ?_
          refine A_get hE 51 dX8_fits_48 rfl fkX8_63 rfl rfl ?_
          refine A_aload_n hE 52 dX8_fits_51 rfl rfl ?_
          refine A_get hE 55 dX8_fits_52 rfl fkX8_42 rfl rfl ?_
          refine A_iload_n hE 56 dX8_fits_55 rfl rfl ?_
          refine A_aald hE 57 3 dX8_fits_56 rfl rfl rfl (by omega) rfl rfl ?_
          refine A_get hE 60 dX8_fits_57 rfl fkX8_226 rfl rfl ?_
          refine A_callVi hE 63 (c_X6_placesThatFit s J wh mu t0 t1 g0 h0 g1 h1 dn dm df dk dg dl (zs 3) (sn 3) hz24 w l0 l1) [20, 11, 12, 13, 14, 15, 21, 22, 23, 24, 25, 3, 4, 5, 6, 7, 8, 9, 10, 63, 64, 65, 66, 67, 68, 69, 70, 61, 62] dX8_fits_60 rfl mkX8_229 rfl rfl rfl rfl rfl rfl rfl (Nat.le_of_ble_eq_true rfl) (Nat.le_of_ble_eq_true rfl) rfl (fun x60 h60 g60 hp60 hw60 => ?_)
          obtain ⟨rfl, J1, n2, m2, f2, k2, f3, k3, rfl⟩ := hp60
          obtain rfl := Option.some.inj hw60
          refine A_h (Y71 er im s t0 g0 h0 t1 g1 h1 tl tp wl wt wh mu J1 pt vK vk vm tn tr v1 v2 pl ft rk rf K m0 f0 k0 m1 f1 k1 tl2 tp2 wl2 wt2 sb zs sn n2 f2 k2 m2 f3 k3) rfl ?_
          rw [show pfF t1 s (sn 3) (zs 3) (hn s) 0 0 = nI (ptM t0 t1 s (sn 3) (zs 3) (hn s) 0 0) from pf_eq t0 t1 s (sn 3) (zs 3) (hn s) 0 0 (by have := w.1; omega) (by decide)]
          have hP : (ptM t0 t1 s (sn 3) (zs 3) (hn s) 0 0) < 256 := Nat.lt_of_lt_of_le (ptM_lt (hn s) 0 0 (by decide)) (by rw [Nat.zero_add]; exact pow_le w.1)
          refine A_istore_n hE 64 dX8_fits_63 rfl rfl rfl ?_
          refine A_iload_n hE 65 dX8_fits_64 rfl rfl ?_
          refine A_if_ne hE 68 72 dX8_fits_65 rfl rfl (fun c65 => ?_) (fun c65 => ?_)
          · refine A_iload_n hE 73 dX8_fits_72 rfl rfl ?_
            refine A_callSi hE 76 (c_J6_bitCount_0f7a4 (ptM t0 t1 s (sn 3) (zs 3) (hn s) 0 0) hP) [] dX8_fits_73 rfl mkX8_233 rfl rfl rfl rfl rfl rfl (Nat.le_of_ble_eq_true rfl) (Nat.le_of_ble_eq_true rfl) rfl (fun x73 h73 g73 hp73 hw73 => ?_)
            obtain ⟨rfl, rfl⟩ := hp73
            obtain rfl := Option.some.inj hw73
            refine A_iret hE dX8_fits_76 ?_
            rw [fitsF, if_pos ⟨hh, hw⟩, ek, if_neg hb, hz, nI_clamp (by omega), (show ptM t0 t1 s (vn 3 nu) (zs 3) (hn s) 0 0 = ptM t0 t1 s (sn 3) (zs 3) (hn s) 0 0 from pt_cg (fun i hi => (hvn i hi).symm) (hn s) 0 0), if_neg c65]
            exact ⟨rfl, J1, n2, m2, f2, k2, f3, k3, rfl⟩
          · refine A_iload_n hE 69 dX8_fits_68 rfl rfl ?_
            refine A_goto hE 76 dX8_fits_69 rfl ?_
            refine A_iret hE dX8_fits_76 ?_
            rw [fitsF, if_pos ⟨hh, hw⟩, ek, if_neg hb, hz, nI_clamp (by omega), (show ptM t0 t1 s (vn 3 nu) (zs 3) (hn s) 0 0 = ptM t0 t1 s (sn 3) (zs 3) (hn s) 0 0 from pt_cg (fun i hi => (hvn i hi).symm) (hn s) 0 0), if_pos c65]
            exact ⟨rfl, J1, n2, m2, f2, k2, f3, k3, rfl⟩
        · have hb := bI_1 c31
          refine A_aload_n hE 35 dX8_fits_34 rfl rfl ?_
          refine A_iconst hE 36 dX8_fits_35 rfl (2) rfl ?_
          refine A_callVi hE 39 (c_X8_error er im 2 (by omega)) [0, 1] dX8_fits_36 rfl mkX8_59 rfl rfl rfl rfl rfl rfl rfl (Nat.le_of_ble_eq_true rfl) (Nat.le_of_ble_eq_true rfl) rfl (fun x36 h36 g36 hp36 hw36 => ?_)
          obtain ⟨rfl, rfl⟩ := hp36
          obtain rfl := Option.some.inj hw36
          refine A_h (Y71 (upd er 2 (er 2 + 1)) im s t0 g0 h0 t1 g1 h1 tl tp wl wt wh mu J pt vK vk vm tn tr v1 v2 pl ft rk rf K m0 f0 k0 m1 f1 k1 tl2 tp2 wl2 wt2 sb zs sn dn df dk dm dg dl) rfl ?_
          refine A_iret hE dX8_fits_39 ?_
          rw [fitsF, if_pos ⟨hh, hw⟩, ek, if_pos hb]
          exact ⟨rfl, J, dn, dm, df, dk, dg, dl, rfl⟩
    · have hw := bI_0 c13
      refine A_aload_n hE 17 dX8_fits_16 rfl rfl ?_
      refine A_iconst hE 18 dX8_fits_17 rfl (1) rfl ?_
      refine A_callVi hE 21 (c_X8_error er im 1 (by omega)) [0, 1] dX8_fits_18 rfl mkX8_59 rfl rfl rfl rfl rfl rfl rfl (Nat.le_of_ble_eq_true rfl) (Nat.le_of_ble_eq_true rfl) rfl (fun x18 h18 g18 hp18 hw18 => ?_)
      obtain ⟨rfl, rfl⟩ := hp18
      obtain rfl := Option.some.inj hw18
      refine A_h (Y71 (upd er 1 (er 1 + 1)) im s t0 g0 h0 t1 g1 h1 tl tp wl wt wh mu J pt vK vk vm tn tr v1 v2 pl ft rk rf K m0 f0 k0 m1 f1 k1 tl2 tp2 wl2 wt2 sb zs sn dn df dk dm dg dl) rfl ?_
      refine A_iret hE dX8_fits_21 ?_
      rw [fitsF, if_neg (fun z => hw z.2)]
      exact ⟨rfl, J, dn, dm, df, dk, dg, dl, rfl⟩
set_option maxRecDepth 100000 in
theorem c_X8_sheet (er : Nat → Int32) (im : Int32) (s : St) (t0 : Sp) (g0 h0 : Nat → Int32) (t1 : Sp) (g1 h1 : Nat → Int32) (tl : Nat) (tp : Nat → Int32) (wl : Nat) (wt : Nat → Int32) (wh mu : Int32) (J : St) (pt : Int32) (vK : Nat) (vk vm : Int32) (tn : Nat) (tr : Nat → Int32) (v1 v2 : Value) (pl ft : Int32) (rk : Nat) (rf : Nat → Int32) (K : St) (m0 : Nat) (f0 k0 : Nat → Int32) (m1 : Nat) (f1 k1 : Nat → Int32) (tl2 : Nat) (tp2 : Nat → Int32) (wl2 : Nat) (wt2 sb : Nat → Int32) (zs : Nat → Nat) (sn : Nat → Nat → Int32) (h bw n : Int32) (sz nu : Nat → Int32) (hR : ShR zs sn sz nu) (hB : ∀ k, k < 4 → widB (sb k)) : AMet yX8_sheet cX8_sheet 4 (some (.int)) 2 0 0 [.ref 0, .int h, .int bw, .int n] (Y63 er im s t0 g0 h0 t1 g1 h1 tl tp wl wt wh mu J pt vK vk vm tn tr v1 v2 pl ft rk rf K m0 f0 k0 m1 f1 k1 tl2 tp2 wl2 wt2 sb zs sn) (pI fun x0 hz0 => x0 = (sheetF er sb sz nu h bw n).1 ∧ ∃ (zs' : Nat → Nat) (sn' : Nat → Nat → Int32), ShR zs' sn' (sheetF er sb sz nu h bw n).2.2.2.1 (sheetF er sb sz nu h bw n).2.2.2.2 ∧ hz0 = Y63 (sheetF er sb sz nu h bw n).2.1 im s t0 g0 h0 t1 g1 h1 tl tp wl wt wh mu J pt vK vk vm tn tr v1 v2 pl ft rk rf K m0 f0 k0 m1 f1 k1 tl2 tp2 wl2 wt2 (sheetF er sb sz nu h bw n).2.2.1 zs' sn') := by
  refine AMet.of (by decide +kernel) rfl (fun E ad0 hE => ?_)
  refine A_iload_n hE 1 dX8_sheet_0 rfl rfl ?_
  refine A_callSi hE 4 (c_X8_isSheet h) [] dX8_sheet_1 rfl mkX8_219 rfl rfl rfl rfl rfl rfl (Nat.le_of_ble_eq_true rfl) (Nat.le_of_ble_eq_true rfl) rfl (fun x1 h1 g1 hp1 hw1 => ?_)
  obtain ⟨rfl, rfl⟩ := hp1
  obtain rfl := Option.some.inj hw1
  refine A_if_eq hE 7 14 dX8_sheet_4 rfl rfl (fun c4 => ?_) (fun c4 => ?_)
  · have hh := bI_0 c4
    refine A_aload_n hE 15 dX8_sheet_14 rfl rfl ?_
    refine A_iconst hE 16 dX8_sheet_15 rfl (1) rfl ?_
    refine A_callVi hE 19 (c_X8_error er im 1 (by omega)) [0, 1] dX8_sheet_16 rfl mkX8_59 rfl rfl rfl rfl rfl rfl rfl (Nat.le_of_ble_eq_true rfl) (Nat.le_of_ble_eq_true rfl) rfl (fun x16 h16 g16 hp16 hw16 => ?_)
    obtain ⟨rfl, rfl⟩ := hp16
    obtain rfl := Option.some.inj hw16
    refine A_h (Y63 (upd er 1 (er 1 + 1)) im s t0 g0 h0 t1 g1 h1 tl tp wl wt wh mu J pt vK vk vm tn tr v1 v2 pl ft rk rf K m0 f0 k0 m1 f1 k1 tl2 tp2 wl2 wt2 sb zs sn) rfl ?_
    refine A_iret hE dX8_sheet_19 ?_
    rw [sheetF, if_neg (fun z => hh z.1)]
    exact ⟨rfl, zs, sn, hR, rfl⟩
  · have hh := bI_1 c4
    obtain ⟨k, hkk, rfl⟩ := iK2 (n := 3) hh.1 hh.2 (by omega)
    have ek : (nI k).toNatClampNeg = k := nI_clamp (by omega)
    refine A_iload_n hE 8 dX8_sheet_7 rfl rfl ?_
    refine A_callSi hE 11 (c_X4_isWidth bw) [] dX8_sheet_8 rfl mkX8_251 rfl rfl rfl rfl rfl rfl (Nat.le_of_ble_eq_true rfl) (Nat.le_of_ble_eq_true rfl) rfl (fun x8 h8 g8 hp8 hw8 => ?_)
    obtain ⟨rfl, rfl⟩ := hp8
    obtain rfl := Option.some.inj hw8
    refine A_if_ne hE 14 20 dX8_sheet_11 rfl rfl (fun c11 => ?_) (fun c11 => ?_)
    · have hw := bI_1 c11
      rcases (show k = 0 ∨ k = 1 ∨ k = 2 ∨ k = 3 by omega) with rfl | rfl | rfl | rfl
      · obtain ⟨hz24, hz, hvn⟩ := hR 0 (by omega)
        refine A_iload_n hE 21 dX8_sheet_20 rfl rfl ?_
        refine A_if_ne hE 24 37 dX8_sheet_21 rfl rfl (fun c21 => ?_) (fun c21 => ?_)
        · refine A_iload_n hE 38 dX8_sheet_37 rfl rfl ?_
          refine A_if_ge hE 41 47 dX8_sheet_38 rfl rfl (fun c38 => ?_) (fun c38 => ?_)
          · refine A_iload_n hE 48 dX8_sheet_47 rfl rfl ?_
            refine A_bipush hE 50 dX8_sheet_48 rfl (24) (by decide) ?_
            refine A_icmp_le hE 53 59 dX8_sheet_50 rfl rfl (fun c50 => ?_) (fun c50 => ?_)
            · obtain ⟨j, hj, rfl⟩ := iK2 (n := 24) c38 c50 (by omega)
              refine A_aload_n hE 60 dX8_sheet_59 rfl rfl ?_
              refine A_get hE 63 dX8_sheet_60 rfl fkX8_42 rfl rfl ?_
              refine A_iload_n hE 64 dX8_sheet_63 rfl rfl ?_
              refine A_aald hE 65 0 dX8_sheet_64 rfl rfl rfl (by omega) rfl rfl ?_
              refine A_iload_n hE 66 dX8_sheet_65 rfl rfl ?_
              refine A_iload_n hE 67 dX8_sheet_66 rfl rfl ?_
              refine A_callVv hE 70 (c_X4_layOut (sb 0) bw (zs 0) j (sn 0) (by omega)) [51, 52, 53] dX8_sheet_67 rfl mkX8_254 rfl rfl rfl rfl rfl rfl rfl (Nat.le_of_ble_eq_true rfl) (Nat.le_of_ble_eq_true rfl) rfl (fun h67 g67 hp67 hw67 => ?_)
              obtain rfl := hp67
              obtain rfl := Option.some.inj hw67
              refine A_h (Y63 er im s t0 g0 h0 t1 g1 h1 tl tp wl wt wh mu J pt vK vk vm tn tr v1 v2 pl ft rk rf K m0 f0 k0 m1 f1 k1 tl2 tp2 wl2 wt2 (upd sb 0 bw) (updZ zs 0 j) (updS sn 0 (fun z => if z < j then 0 else sn 0 z))) rfl ?_
              refine A_iconst hE 71 dX8_sheet_70 rfl (1) rfl ?_
              refine A_iret hE dX8_sheet_71 ?_
              rw [sheetF, if_pos ⟨hh, hw⟩, ek, if_neg c21, if_neg (iN c38), if_neg (iN c50)]
              exact ⟨rfl, _, _, hR.lay (k := 0) (j := j) (by omega), rfl⟩
            · refine A_aload_n hE 54 dX8_sheet_53 rfl rfl ?_
              refine A_iconst hE 55 dX8_sheet_54 rfl (1) rfl ?_
              refine A_callVi hE 58 (c_X8_error er im 1 (by omega)) [0, 1] dX8_sheet_55 rfl mkX8_59 rfl rfl rfl rfl rfl rfl rfl (Nat.le_of_ble_eq_true rfl) (Nat.le_of_ble_eq_true rfl) rfl (fun x55 h55 g55 hp55 hw55 => ?_)
              obtain ⟨rfl, rfl⟩ := hp55
              obtain rfl := Option.some.inj hw55
              refine A_h (Y63 (upd er 1 (er 1 + 1)) im s t0 g0 h0 t1 g1 h1 tl tp wl wt wh mu J pt vK vk vm tn tr v1 v2 pl ft rk rf K m0 f0 k0 m1 f1 k1 tl2 tp2 wl2 wt2 sb zs sn) rfl ?_
              refine A_iret hE dX8_sheet_58 ?_
              rw [sheetF, if_pos ⟨hh, hw⟩, ek, if_neg c21, if_neg (iN c38), if_pos (iG c50)]
              exact ⟨rfl, zs, sn, hR, rfl⟩
          · refine A_aload_n hE 42 dX8_sheet_41 rfl rfl ?_
            refine A_iconst hE 43 dX8_sheet_42 rfl (3) rfl ?_
            refine A_callVi hE 46 (c_X8_error er im 3 (by omega)) [0, 1] dX8_sheet_43 rfl mkX8_59 rfl rfl rfl rfl rfl rfl rfl (Nat.le_of_ble_eq_true rfl) (Nat.le_of_ble_eq_true rfl) rfl (fun x43 h43 g43 hp43 hw43 => ?_)
            obtain ⟨rfl, rfl⟩ := hp43
            obtain rfl := Option.some.inj hw43
            refine A_h (Y63 (upd er 3 (er 3 + 1)) im s t0 g0 h0 t1 g1 h1 tl tp wl wt wh mu J pt vK vk vm tn tr v1 v2 pl ft rk rf K m0 f0 k0 m1 f1 k1 tl2 tp2 wl2 wt2 sb zs sn) rfl ?_
            refine A_iret hE dX8_sheet_46 ?_
            rw [sheetF, if_pos ⟨hh, hw⟩, ek, if_neg c21, if_pos (iG c38)]
            exact ⟨rfl, zs, sn, hR, rfl⟩
        · refine A_aload_n hE 25 dX8_sheet_24 rfl rfl ?_
          refine A_get hE 28 dX8_sheet_25 rfl fkX8_42 rfl rfl ?_
          refine A_iload_n hE 29 dX8_sheet_28 rfl rfl ?_
          refine A_aald hE 30 0 dX8_sheet_29 rfl rfl rfl (by omega) rfl rfl ?_
          refine A_iconst hE 31 dX8_sheet_30 rfl (0) rfl ?_
          refine A_iconst hE 32 dX8_sheet_31 rfl (0) rfl ?_
          refine A_callVv hE 35 (c_X4_layOut (sb 0) 0 (zs 0) 0 (sn 0) (by omega)) [51, 52, 53] dX8_sheet_32 rfl mkX8_254 rfl rfl rfl rfl rfl rfl rfl (Nat.le_of_ble_eq_true rfl) (Nat.le_of_ble_eq_true rfl) rfl (fun h32 g32 hp32 hw32 => ?_)
          obtain rfl := hp32
          obtain rfl := Option.some.inj hw32
          refine A_h (Y63 er im s t0 g0 h0 t1 g1 h1 tl tp wl wt wh mu J pt vK vk vm tn tr v1 v2 pl ft rk rf K m0 f0 k0 m1 f1 k1 tl2 tp2 wl2 wt2 (upd sb 0 0) (updZ zs 0 0) (updS sn 0 (fun z => if z < 0 then 0 else sn 0 z))) rfl ?_
          refine A_iconst hE 36 dX8_sheet_35 rfl (1) rfl ?_
          refine A_iret hE dX8_sheet_36 ?_
          rw [sheetF, if_pos ⟨hh, hw⟩, ek, if_pos c21]
          exact ⟨rfl, _, _, hR.lay (k := 0) (j := 0) (by omega), rfl⟩
      · obtain ⟨hz24, hz, hvn⟩ := hR 1 (by omega)
        refine A_iload_n hE 21 dX8_sheet_20 rfl rfl ?_
        refine A_if_ne hE 24 37 dX8_sheet_21 rfl rfl (fun c21 => ?_) (fun c21 => ?_)
        · refine A_iload_n hE 38 dX8_sheet_37 rfl rfl ?_
          refine A_if_ge hE 41 47 dX8_sheet_38 rfl rfl (fun c38 => ?_) (fun c38 => ?_)
          · refine A_iload_n hE 48 dX8_sheet_47 rfl rfl ?_
            refine A_bipush hE 50 dX8_sheet_48 rfl (24) (by decide) ?_
            refine A_icmp_le hE 53 59 dX8_sheet_50 rfl rfl (fun c50 => ?_) (fun c50 => ?_)
            · obtain ⟨j, hj, rfl⟩ := iK2 (n := 24) c38 c50 (by omega)
              refine A_aload_n hE 60 dX8_sheet_59 rfl rfl ?_
              refine A_get hE 63 dX8_sheet_60 rfl fkX8_42 rfl rfl ?_
              refine A_iload_n hE 64 dX8_sheet_63 rfl rfl ?_
              refine A_aald hE 65 1 dX8_sheet_64 rfl rfl rfl (by omega) rfl rfl ?_
              refine A_iload_n hE 66 dX8_sheet_65 rfl rfl ?_
              refine A_iload_n hE 67 dX8_sheet_66 rfl rfl ?_
              refine A_callVv hE 70 (c_X4_layOut (sb 1) bw (zs 1) j (sn 1) (by omega)) [54, 55, 56] dX8_sheet_67 rfl mkX8_254 rfl rfl rfl rfl rfl rfl rfl (Nat.le_of_ble_eq_true rfl) (Nat.le_of_ble_eq_true rfl) rfl (fun h67 g67 hp67 hw67 => ?_)
              obtain rfl := hp67
              obtain rfl := Option.some.inj hw67
              refine A_h (Y63 er im s t0 g0 h0 t1 g1 h1 tl tp wl wt wh mu J pt vK vk vm tn tr v1 v2 pl ft rk rf K m0 f0 k0 m1 f1 k1 tl2 tp2 wl2 wt2 (upd sb 1 bw) (updZ zs 1 j) (updS sn 1 (fun z => if z < j then 0 else sn 1 z))) rfl ?_
              refine A_iconst hE 71 dX8_sheet_70 rfl (1) rfl ?_
              refine A_iret hE dX8_sheet_71 ?_
              rw [sheetF, if_pos ⟨hh, hw⟩, ek, if_neg c21, if_neg (iN c38), if_neg (iN c50)]
              exact ⟨rfl, _, _, hR.lay (k := 1) (j := j) (by omega), rfl⟩
            · refine A_aload_n hE 54 dX8_sheet_53 rfl rfl ?_
              refine A_iconst hE 55 dX8_sheet_54 rfl (1) rfl ?_
              refine A_callVi hE 58 (c_X8_error er im 1 (by omega)) [0, 1] dX8_sheet_55 rfl mkX8_59 rfl rfl rfl rfl rfl rfl rfl (Nat.le_of_ble_eq_true rfl) (Nat.le_of_ble_eq_true rfl) rfl (fun x55 h55 g55 hp55 hw55 => ?_)
              obtain ⟨rfl, rfl⟩ := hp55
              obtain rfl := Option.some.inj hw55
              refine A_h (Y63 (upd er 1 (er 1 + 1)) im s t0 g0 h0 t1 g1 h1 tl tp wl wt wh mu J pt vK vk vm tn tr v1 v2 pl ft rk rf K m0 f0 k0 m1 f1 k1 tl2 tp2 wl2 wt2 sb zs sn) rfl ?_
              refine A_iret hE dX8_sheet_58 ?_
              rw [sheetF, if_pos ⟨hh, hw⟩, ek, if_neg c21, if_neg (iN c38), if_pos (iG c50)]
              exact ⟨rfl, zs, sn, hR, rfl⟩
          · refine A_aload_n hE 42 dX8_sheet_41 rfl rfl ?_
            refine A_iconst hE 43 dX8_sheet_42 rfl (3) rfl ?_
            refine A_callVi hE 46 (c_X8_error er im 3 (by omega)) [0, 1] dX8_sheet_43 rfl mkX8_59 rfl rfl rfl rfl rfl rfl rfl (Nat.le_of_ble_eq_true rfl) (Nat.le_of_ble_eq_true rfl) rfl (fun x43 h43 g43 hp43 hw43 => ?_)
            obtain ⟨rfl, rfl⟩ := hp43
            obtain rfl := Option.some.inj hw43
            refine A_h (Y63 (upd er 3 (er 3 + 1)) im s t0 g0 h0 t1 g1 h1 tl tp wl wt wh mu J pt vK vk vm tn tr v1 v2 pl ft rk rf K m0 f0 k0 m1 f1 k1 tl2 tp2 wl2 wt2 sb zs sn) rfl ?_
            refine A_iret hE dX8_sheet_46 ?_
            rw [sheetF, if_pos ⟨hh, hw⟩, ek, if_neg c21, if_pos (iG c38)]
            exact ⟨rfl, zs, sn, hR, rfl⟩
        · refine A_aload_n hE 25 dX8_sheet_24 rfl rfl ?_
          refine A_get hE 28 dX8_sheet_25 rfl fkX8_42 rfl rfl ?_
          refine A_iload_n hE 29 dX8_sheet_28 rfl rfl ?_
          refine A_aald hE 30 1 dX8_sheet_29 rfl rfl rfl (by omega) rfl rfl ?_
          refine A_iconst hE 31 dX8_sheet_30 rfl (0) rfl ?_
          refine A_iconst hE 32 dX8_sheet_31 rfl (0) rfl ?_
          refine A_callVv hE 35 (c_X4_layOut (sb 1) 0 (zs 1) 0 (sn 1) (by omega)) [54, 55, 56] dX8_sheet_32 rfl mkX8_254 rfl rfl rfl rfl rfl rfl rfl (Nat.le_of_ble_eq_true rfl) (Nat.le_of_ble_eq_true rfl) rfl (fun h32 g32 hp32 hw32 => ?_)
          obtain rfl := hp32
          obtain rfl := Option.some.inj hw32
          refine A_h (Y63 er im s t0 g0 h0 t1 g1 h1 tl tp wl wt wh mu J pt vK vk vm tn tr v1 v2 pl ft rk rf K m0 f0 k0 m1 f1 k1 tl2 tp2 wl2 wt2 (upd sb 1 0) (updZ zs 1 0) (updS sn 1 (fun z => if z < 0 then 0 else sn 1 z))) rfl ?_
          refine A_iconst hE 36 dX8_sheet_35 rfl (1) rfl ?_
          refine A_iret hE dX8_sheet_36 ?_
          rw [sheetF, if_pos ⟨hh, hw⟩, ek, if_pos c21]
          exact ⟨rfl, _, _, hR.lay (k := 1) (j := 0) (by omega), rfl⟩
      · obtain ⟨hz24, hz, hvn⟩ := hR 2 (by omega)
        refine A_iload_n hE 21 dX8_sheet_20 rfl rfl ?_
        refine A_if_ne hE 24 37 dX8_sheet_21 rfl rfl (fun c21 => ?_) (fun c21 => ?_)
        · refine A_iload_n hE 38 dX8_sheet_37 rfl rfl ?_
          refine A_if_ge hE 41 47 dX8_sheet_38 rfl rfl (fun c38 => ?_) (fun c38 => ?_)
          · refine A_iload_n hE 48 dX8_sheet_47 rfl rfl ?_
            refine A_bipush hE 50 dX8_sheet_48 rfl (24) (by decide) ?_
            refine A_icmp_le hE 53 59 dX8_sheet_50 rfl rfl (fun c50 => ?_) (fun c50 => ?_)
            · obtain ⟨j, hj, rfl⟩ := iK2 (n := 24) c38 c50 (by omega)
              refine A_aload_n hE 60 dX8_sheet_59 rfl rfl ?_
              refine A_get hE 63 dX8_sheet_60 rfl fkX8_42 rfl rfl ?_
              refine A_iload_n hE 64 dX8_sheet_63 rfl rfl ?_
              refine A_aald hE 65 2 dX8_sheet_64 rfl rfl rfl (by omega) rfl rfl ?_
              refine A_iload_n hE 66 dX8_sheet_65 rfl rfl ?_
              refine A_iload_n hE 67 dX8_sheet_66 rfl rfl ?_
              refine A_callVv hE 70 (c_X4_layOut (sb 2) bw (zs 2) j (sn 2) (by omega)) [57, 58, 59] dX8_sheet_67 rfl mkX8_254 rfl rfl rfl rfl rfl rfl rfl (Nat.le_of_ble_eq_true rfl) (Nat.le_of_ble_eq_true rfl) rfl (fun h67 g67 hp67 hw67 => ?_)
              obtain rfl := hp67
              obtain rfl := Option.some.inj hw67
              refine A_h (Y63 er im s t0 g0 h0 t1 g1 h1 tl tp wl wt wh mu J pt vK vk vm tn tr v1 v2 pl ft rk rf K m0 f0 k0 m1 f1 k1 tl2 tp2 wl2 wt2 (upd sb 2 bw) (updZ zs 2 j) (updS sn 2 (fun z => if z < j then 0 else sn 2 z))) rfl ?_
              refine A_iconst hE 71 dX8_sheet_70 rfl (1) rfl ?_
              refine A_iret hE dX8_sheet_71 ?_
              rw [sheetF, if_pos ⟨hh, hw⟩, ek, if_neg c21, if_neg (iN c38), if_neg (iN c50)]
              exact ⟨rfl, _, _, hR.lay (k := 2) (j := j) (by omega), rfl⟩
            · refine A_aload_n hE 54 dX8_sheet_53 rfl rfl ?_
              refine A_iconst hE 55 dX8_sheet_54 rfl (1) rfl ?_
              refine A_callVi hE 58 (c_X8_error er im 1 (by omega)) [0, 1] dX8_sheet_55 rfl mkX8_59 rfl rfl rfl rfl rfl rfl rfl (Nat.le_of_ble_eq_true rfl) (Nat.le_of_ble_eq_true rfl) rfl (fun x55 h55 g55 hp55 hw55 => ?_)
              obtain ⟨rfl, rfl⟩ := hp55
              obtain rfl := Option.some.inj hw55
              refine A_h (Y63 (upd er 1 (er 1 + 1)) im s t0 g0 h0 t1 g1 h1 tl tp wl wt wh mu J pt vK vk vm tn tr v1 v2 pl ft rk rf K m0 f0 k0 m1 f1 k1 tl2 tp2 wl2 wt2 sb zs sn) rfl ?_
              refine A_iret hE dX8_sheet_58 ?_
              rw [sheetF, if_pos ⟨hh, hw⟩, ek, if_neg c21, if_neg (iN c38), if_pos (iG c50)]
              exact ⟨rfl, zs, sn, hR, rfl⟩
          · refine A_aload_n hE 42 dX8_sheet_41 rfl rfl ?_
            refine A_iconst hE 43 dX8_sheet_42 rfl (3) rfl ?_
            refine A_callVi hE 46 (c_X8_error er im 3 (by omega)) [0, 1] dX8_sheet_43 rfl mkX8_59 rfl rfl rfl rfl rfl rfl rfl (Nat.le_of_ble_eq_true rfl) (Nat.le_of_ble_eq_true rfl) rfl (fun x43 h43 g43 hp43 hw43 => ?_)
            obtain ⟨rfl, rfl⟩ := hp43
            obtain rfl := Option.some.inj hw43
            refine A_h (Y63 (upd er 3 (er 3 + 1)) im s t0 g0 h0 t1 g1 h1 tl tp wl wt wh mu J pt vK vk vm tn tr v1 v2 pl ft rk rf K m0 f0 k0 m1 f1 k1 tl2 tp2 wl2 wt2 sb zs sn) rfl ?_
            refine A_iret hE dX8_sheet_46 ?_
            rw [sheetF, if_pos ⟨hh, hw⟩, ek, if_neg c21, if_pos (iG c38)]
            exact ⟨rfl, zs, sn, hR, rfl⟩
        · refine A_aload_n hE 25 dX8_sheet_24 rfl rfl ?_
          refine A_get hE 28 dX8_sheet_25 rfl fkX8_42 rfl rfl ?_
          refine A_iload_n hE 29 dX8_sheet_28 rfl rfl ?_
          refine A_aald hE 30 2 dX8_sheet_29 rfl rfl rfl (by omega) rfl rfl ?_
          refine A_iconst hE 31 dX8_sheet_30 rfl (0) rfl ?_
          refine A_iconst hE 32 dX8_sheet_31 rfl (0) rfl ?_
          refine A_callVv hE 35 (c_X4_layOut (sb 2) 0 (zs 2) 0 (sn 2) (by omega)) [57, 58, 59] dX8_sheet_32 rfl mkX8_254 rfl rfl rfl rfl rfl rfl rfl (Nat.le_of_ble_eq_true rfl) (Nat.le_of_ble_eq_true rfl) rfl (fun h32 g32 hp32 hw32 => ?_)
          obtain rfl := hp32
          obtain rfl := Option.some.inj hw32
          refine A_h (Y63 er im s t0 g0 h0 t1 g1 h1 tl tp wl wt wh mu J pt vK vk vm tn tr v1 v2 pl ft rk rf K m0 f0 k0 m1 f1 k1 tl2 tp2 wl2 wt2 (upd sb 2 0) (updZ zs 2 0) (updS sn 2 (fun z => if z < 0 then 0 else sn 2 z))) rfl ?_
          refine A_iconst hE 36 dX8_sheet_35 rfl (1) rfl ?_
          refine A_iret hE dX8_sheet_36 ?_
          rw [sheetF, if_pos ⟨hh, hw⟩, ek, if_pos c21]
          exact ⟨rfl, _, _, hR.lay (k := 2) (j := 0) (by omega), rfl⟩
      · obtain ⟨hz24, hz, hvn⟩ := hR 3 (by omega)
        refine A_iload_n hE 21 dX8_sheet_20 rfl rfl ?_
        refine A_if_ne hE 24 37 dX8_sheet_21 rfl rfl (fun c21 => ?_) (fun c21 => ?_)
        · refine A_iload_n hE 38 dX8_sheet_37 rfl rfl ?_
          refine A_if_ge hE 41 47 dX8_sheet_38 rfl rfl (fun c38 => ?_) (fun c38 => ?_)
          · refine A_iload_n hE 48 dX8_sheet_47 rfl rfl ?_
            refine A_bipush hE 50 dX8_sheet_48 rfl (24) (by decide) ?_
            refine A_icmp_le hE 53 59 dX8_sheet_50 rfl rfl (fun c50 => ?_) (fun c50 => ?_)
            · obtain ⟨j, hj, rfl⟩ := iK2 (n := 24) c38 c50 (by omega)
              refine A_aload_n hE 60 dX8_sheet_59 rfl rfl ?_
              refine A_get hE 63 dX8_sheet_60 rfl fkX8_42 rfl rfl ?_
              refine A_iload_n hE 64 dX8_sheet_63 rfl rfl ?_
              refine A_aald hE 65 3 dX8_sheet_64 rfl rfl rfl (by omega) rfl rfl ?_
              refine A_iload_n hE 66 dX8_sheet_65 rfl rfl ?_
              refine A_iload_n hE 67 dX8_sheet_66 rfl rfl ?_
              refine A_callVv hE 70 (c_X4_layOut (sb 3) bw (zs 3) j (sn 3) (by omega)) [60, 61, 62] dX8_sheet_67 rfl mkX8_254 rfl rfl rfl rfl rfl rfl rfl (Nat.le_of_ble_eq_true rfl) (Nat.le_of_ble_eq_true rfl) rfl (fun h67 g67 hp67 hw67 => ?_)
              obtain rfl := hp67
              obtain rfl := Option.some.inj hw67
              refine A_h (Y63 er im s t0 g0 h0 t1 g1 h1 tl tp wl wt wh mu J pt vK vk vm tn tr v1 v2 pl ft rk rf K m0 f0 k0 m1 f1 k1 tl2 tp2 wl2 wt2 (upd sb 3 bw) (updZ zs 3 j) (updS sn 3 (fun z => if z < j then 0 else sn 3 z))) rfl ?_
              refine A_iconst hE 71 dX8_sheet_70 rfl (1) rfl ?_
              refine A_iret hE dX8_sheet_71 ?_
              rw [sheetF, if_pos ⟨hh, hw⟩, ek, if_neg c21, if_neg (iN c38), if_neg (iN c50)]
              exact ⟨rfl, _, _, hR.lay (k := 3) (j := j) (by omega), rfl⟩
            · refine A_aload_n hE 54 dX8_sheet_53 rfl rfl ?_
              refine A_iconst hE 55 dX8_sheet_54 rfl (1) rfl ?_
              refine A_callVi hE 58 (c_X8_error er im 1 (by omega)) [0, 1] dX8_sheet_55 rfl mkX8_59 rfl rfl rfl rfl rfl rfl rfl (Nat.le_of_ble_eq_true rfl) (Nat.le_of_ble_eq_true rfl) rfl (fun x55 h55 g55 hp55 hw55 => ?_)
              obtain ⟨rfl, rfl⟩ := hp55
              obtain rfl := Option.some.inj hw55
              refine A_h (Y63 (upd er 1 (er 1 + 1)) im s t0 g0 h0 t1 g1 h1 tl tp wl wt wh mu J pt vK vk vm tn tr v1 v2 pl ft rk rf K m0 f0 k0 m1 f1 k1 tl2 tp2 wl2 wt2 sb zs sn) rfl ?_
              refine A_iret hE dX8_sheet_58 ?_
              rw [sheetF, if_pos ⟨hh, hw⟩, ek, if_neg c21, if_neg (iN c38), if_pos (iG c50)]
              exact ⟨rfl, zs, sn, hR, rfl⟩
          · refine A_aload_n hE 42 dX8_sheet_41 rfl rfl ?_
            refine A_iconst hE 43 dX8_sheet_42 rfl (3) rfl ?_
            refine A_callVi hE 46 (c_X8_error er im 3 (by omega)) [0, 1] dX8_sheet_43 rfl mkX8_59 rfl rfl rfl rfl rfl rfl rfl (Nat.le_of_ble_eq_true rfl) (Nat.le_of_ble_eq_true rfl) rfl (fun x43 h43 g43 hp43 hw43 => ?_)
            obtain ⟨rfl, rfl⟩ := hp43
            obtain rfl := Option.some.inj hw43
            refine A_h (Y63 (upd er 3 (er 3 + 1)) im s t0 g0 h0 t1 g1 h1 tl tp wl wt wh mu J pt vK vk vm tn tr v1 v2 pl ft rk rf K m0 f0 k0 m1 f1 k1 tl2 tp2 wl2 wt2 sb zs sn) rfl ?_
            refine A_iret hE dX8_sheet_46 ?_
            rw [sheetF, if_pos ⟨hh, hw⟩, ek, if_neg c21, if_pos (iG c38)]
            exact ⟨rfl, zs, sn, hR, rfl⟩
        · refine A_aload_n hE 25 dX8_sheet_24 rfl rfl ?_
          refine A_get hE 28 dX8_sheet_25 rfl fkX8_42 rfl rfl ?_
          refine A_iload_n hE 29 dX8_sheet_28 rfl rfl ?_
          refine A_aald hE 30 3 dX8_sheet_29 rfl rfl rfl (by omega) rfl rfl ?_
          refine A_iconst hE 31 dX8_sheet_30 rfl (0) rfl ?_
          refine A_iconst hE 32 dX8_sheet_31 rfl (0) rfl ?_
          refine A_callVv hE 35 (c_X4_layOut (sb 3) 0 (zs 3) 0 (sn 3) (by omega)) [60, 61, 62] dX8_sheet_32 rfl mkX8_254 rfl rfl rfl rfl rfl rfl rfl (Nat.le_of_ble_eq_true rfl) (Nat.le_of_ble_eq_true rfl) rfl (fun h32 g32 hp32 hw32 => ?_)
          obtain rfl := hp32
          obtain rfl := Option.some.inj hw32
          refine A_h (Y63 er im s t0 g0 h0 t1 g1 h1 tl tp wl wt wh mu J pt vK vk vm tn tr v1 v2 pl ft rk rf K m0 f0 k0 m1 f1 k1 tl2 tp2 wl2 wt2 (upd sb 3 0) (updZ zs 3 0) (updS sn 3 (fun z => if z < 0 then 0 else sn 3 z))) rfl ?_
          refine A_iconst hE 36 dX8_sheet_35 rfl (1) rfl ?_
          refine A_iret hE dX8_sheet_36 ?_
          rw [sheetF, if_pos ⟨hh, hw⟩, ek, if_pos c21]
          exact ⟨rfl, _, _, hR.lay (k := 3) (j := 0) (by omega), rfl⟩
    · have hw := bI_0 c11
      refine A_aload_n hE 15 dX8_sheet_14 rfl rfl ?_
      refine A_iconst hE 16 dX8_sheet_15 rfl (1) rfl ?_
      refine A_callVi hE 19 (c_X8_error er im 1 (by omega)) [0, 1] dX8_sheet_16 rfl mkX8_59 rfl rfl rfl rfl rfl rfl rfl (Nat.le_of_ble_eq_true rfl) (Nat.le_of_ble_eq_true rfl) rfl (fun x16 h16 g16 hp16 hw16 => ?_)
      obtain ⟨rfl, rfl⟩ := hp16
      obtain rfl := Option.some.inj hw16
      refine A_h (Y63 (upd er 1 (er 1 + 1)) im s t0 g0 h0 t1 g1 h1 tl tp wl wt wh mu J pt vK vk vm tn tr v1 v2 pl ft rk rf K m0 f0 k0 m1 f1 k1 tl2 tp2 wl2 wt2 sb zs sn) rfl ?_
      refine A_iret hE dX8_sheet_19 ?_
      rw [sheetF, if_neg (fun z => hw z.2)]
      exact ⟨rfl, zs, sn, hR, rfl⟩
set_option maxRecDepth 100000 in
theorem c_X8_put (er : Nat → Int32) (im : Int32) (s : St) (t0 : Sp) (g0 h0 : Nat → Int32) (t1 : Sp) (g1 h1 : Nat → Int32) (tl : Nat) (tp : Nat → Int32) (wl : Nat) (wt : Nat → Int32) (wh mu : Int32) (J : St) (pt : Int32) (vK : Nat) (vk vm : Int32) (tn : Nat) (tr : Nat → Int32) (v1 v2 : Value) (pl ft : Int32) (rk : Nat) (rf : Nat → Int32) (K : St) (m0 : Nat) (f0 k0 : Nat → Int32) (m1 : Nat) (f1 k1 : Nat → Int32) (tl2 : Nat) (tp2 : Nat → Int32) (wl2 : Nat) (wt2 sb : Nat → Int32) (zs : Nat → Nat) (sn : Nat → Nat → Int32) (h i v : Int32) (sz nu : Nat → Int32) (hR : ShR zs sn sz nu) (hB : ∀ k, k < 4 → widB (sb k)) : AMet yX8_put cX8_put 5 (some (.int)) 2 0 0 [.ref 0, .int h, .int i, .int v] (Y63 er im s t0 g0 h0 t1 g1 h1 tl tp wl wt wh mu J pt vK vk vm tn tr v1 v2 pl ft rk rf K m0 f0 k0 m1 f1 k1 tl2 tp2 wl2 wt2 sb zs sn) (pI fun x0 hz0 => x0 = (putF er sb sz nu h i v).1 ∧ ∃ (zs' : Nat → Nat) (sn' : Nat → Nat → Int32), ShR zs' sn' (putF er sb sz nu h i v).2.2.2.1 (putF er sb sz nu h i v).2.2.2.2 ∧ hz0 = Y63 (putF er sb sz nu h i v).2.1 im s t0 g0 h0 t1 g1 h1 tl tp wl wt wh mu J pt vK vk vm tn tr v1 v2 pl ft rk rf K m0 f0 k0 m1 f1 k1 tl2 tp2 wl2 wt2 (putF er sb sz nu h i v).2.2.1 zs' sn') := by
  refine AMet.of (by decide +kernel) rfl (fun E ad0 hE => ?_)
  refine A_iload_n hE 1 dX8_put_0 rfl rfl ?_
  refine A_callSi hE 4 (c_X8_isSheet h) [] dX8_put_1 rfl mkX8_219 rfl rfl rfl rfl rfl rfl (Nat.le_of_ble_eq_true rfl) (Nat.le_of_ble_eq_true rfl) rfl (fun x1 h1 g1 hp1 hw1 => ?_)
  obtain ⟨rfl, rfl⟩ := hp1
  obtain rfl := Option.some.inj hw1
  refine A_if_ne hE 7 13 dX8_put_4 rfl rfl (fun c4 => ?_) (fun c4 => ?_)
  · have hh := bI_1 c4
    obtain ⟨k, hkk, rfl⟩ := iK2 (n := 3) hh.1 hh.2 (by omega)
    have ek : (nI k).toNatClampNeg = k := nI_clamp (by omega)
    rcases (show k = 0 ∨ k = 1 ∨ k = 2 ∨ k = 3 by omega) with rfl | rfl | rfl | rfl
    · obtain ⟨hz24, hz, hvn⟩ := hR 0 (by omega)
      refine A_aload_n hE 14 dX8_put_13 rfl rfl ?_
      refine A_get hE 17 dX8_put_14 rfl fkX8_42 rfl rfl ?_
      refine A_iload_n hE 18 dX8_put_17 rfl rfl ?_
      refine A_aald hE 19 0 dX8_put_18 rfl rfl rfl (by omega) rfl rfl ?_
      refine A_astore hE 21 dX8_put_19 rfl rfl rfl ?_
      refine A_aload hE 23 dX8_put_21 rfl rfl ?_
      refine A_callVi hE 26 (c_X4_isMissing (sb 0) (zs 0) (sn 0)) [51, 52, 53] dX8_put_23 rfl mkX8_222 rfl rfl rfl rfl rfl rfl rfl (Nat.le_of_ble_eq_true rfl) (Nat.le_of_ble_eq_true rfl) rfl (fun x23 h23 g23 hp23 hw23 => ?_)
      obtain ⟨rfl, rfl⟩ := hp23
      obtain rfl := Option.some.inj hw23
      refine A_h (Y63 er im s t0 g0 h0 t1 g1 h1 tl tp wl wt wh mu J pt vK vk vm tn tr v1 v2 pl ft rk rf K m0 f0 k0 m1 f1 k1 tl2 tp2 wl2 wt2 sb zs sn) rfl ?_
      refine A_if_eq hE 29 35 dX8_put_26 rfl rfl (fun c26 => ?_) (fun c26 => ?_)
      · have hb := bI_0 c26
        refine A_aload hE 37 dX8_put_35 rfl rfl ?_
        refine A_get hE 40 dX8_put_37 rfl fkX8_226 rfl rfl ?_
        refine A_iload_n hE 41 dX8_put_40 rfl rfl ?_
        refine A_callVi hE 44 (c_X3_has 24 (sn 0) (nI (zs 0)) i) [52, 53] dX8_put_41 rfl mkX8_248 rfl rfl rfl rfl rfl rfl rfl (Nat.le_of_ble_eq_true rfl) (Nat.le_of_ble_eq_true rfl) rfl (fun x41 h41 g41 hp41 hw41 => ?_)
        obtain ⟨rfl, rfl⟩ := hp41
        obtain rfl := Option.some.inj hw41
        refine A_h (Y63 er im s t0 g0 h0 t1 g1 h1 tl tp wl wt wh mu J pt vK vk vm tn tr v1 v2 pl ft rk rf K m0 f0 k0 m1 f1 k1 tl2 tp2 wl2 wt2 sb zs sn) rfl ?_
        refine A_if_ne hE 47 53 dX8_put_44 rfl rfl (fun c44 => ?_) (fun c44 => ?_)
        · have hi := bI_1 c44
          obtain ⟨j, hj, rfl⟩ := iK hi.1 hi.2 (by omega)
          have ej : (nI j).toNatClampNeg = j := nI_clamp (by omega)
          refine A_aload hE 55 dX8_put_53 rfl rfl ?_
          refine A_get hE 58 dX8_put_55 rfl fkX8_226 rfl rfl ?_
          refine A_get hE 61 dX8_put_58 rfl fkX8_249 rfl rfl ?_
          refine A_iload_n hE 62 dX8_put_61 rfl rfl ?_
          refine A_aload hE 64 dX8_put_62 rfl rfl ?_
          refine A_iload_n hE 65 dX8_put_64 rfl rfl ?_
          refine A_callVi hE 68 (c_X4_lowestBits (sb 0) v (zs 0) (sn 0) (hB 0 (by omega))) [51, 52, 53] dX8_put_65 rfl mkX8_257 rfl rfl rfl rfl rfl rfl rfl (Nat.le_of_ble_eq_true rfl) (Nat.le_of_ble_eq_true rfl) rfl (fun x65 h65 g65 hp65 hw65 => ?_)
          obtain ⟨rfl, rfl⟩ := hp65
          obtain rfl := Option.some.inj hw65
          refine A_h (Y63 er im s t0 g0 h0 t1 g1 h1 tl tp wl wt wh mu J pt vK vk vm tn tr v1 v2 pl ft rk rf K m0 f0 k0 m1 f1 k1 tl2 tp2 wl2 wt2 sb zs sn) rfl ?_
          refine A_iast hE 69 j dX8_put_68 rfl rfl rfl (by omega) rfl rfl ?_
          refine A_h (Y63 er im s t0 g0 h0 t1 g1 h1 tl tp wl wt wh mu J pt vK vk vm tn tr v1 v2 pl ft rk rf K m0 f0 k0 m1 f1 k1 tl2 tp2 wl2 wt2 sb zs (updS sn 0 (upd (sn 0) j (lowB (sb 0) v)))) rfl ?_
          refine A_iconst hE 70 dX8_put_69 rfl (1) rfl ?_
          refine A_iret hE dX8_put_70 ?_
          rw [putF, if_pos hh, ek, if_neg hb, if_pos (by rw [hz]; exact hi), ej]
          exact ⟨rfl, _, _, hR.put (by omega), rfl⟩
        · have hi := bI_0 c44
          refine A_aload_n hE 48 dX8_put_47 rfl rfl ?_
          refine A_iconst hE 49 dX8_put_48 rfl (1) rfl ?_
          refine A_callVi hE 52 (c_X8_error er im 1 (by omega)) [0, 1] dX8_put_49 rfl mkX8_59 rfl rfl rfl rfl rfl rfl rfl (Nat.le_of_ble_eq_true rfl) (Nat.le_of_ble_eq_true rfl) rfl (fun x49 h49 g49 hp49 hw49 => ?_)
          obtain ⟨rfl, rfl⟩ := hp49
          obtain rfl := Option.some.inj hw49
          refine A_h (Y63 (upd er 1 (er 1 + 1)) im s t0 g0 h0 t1 g1 h1 tl tp wl wt wh mu J pt vK vk vm tn tr v1 v2 pl ft rk rf K m0 f0 k0 m1 f1 k1 tl2 tp2 wl2 wt2 sb zs sn) rfl ?_
          refine A_iret hE dX8_put_52 ?_
          rw [putF, if_pos hh, ek, if_neg hb, if_neg (by rw [hz]; exact hi)]
          exact ⟨rfl, zs, sn, hR, rfl⟩
      · have hb := bI_1 c26
        refine A_aload_n hE 30 dX8_put_29 rfl rfl ?_
        refine A_iconst hE 31 dX8_put_30 rfl (2) rfl ?_
        refine A_callVi hE 34 (c_X8_error er im 2 (by omega)) [0, 1] dX8_put_31 rfl mkX8_59 rfl rfl rfl rfl rfl rfl rfl (Nat.le_of_ble_eq_true rfl) (Nat.le_of_ble_eq_true rfl) rfl (fun x31 h31 g31 hp31 hw31 => ?_)
        obtain ⟨rfl, rfl⟩ := hp31
        obtain rfl := Option.some.inj hw31
        refine A_h (Y63 (upd er 2 (er 2 + 1)) im s t0 g0 h0 t1 g1 h1 tl tp wl wt wh mu J pt vK vk vm tn tr v1 v2 pl ft rk rf K m0 f0 k0 m1 f1 k1 tl2 tp2 wl2 wt2 sb zs sn) rfl ?_
        refine A_iret hE dX8_put_34 ?_
        rw [putF, if_pos hh, ek, if_pos hb]
        exact ⟨rfl, zs, sn, hR, rfl⟩
    · obtain ⟨hz24, hz, hvn⟩ := hR 1 (by omega)
      refine A_aload_n hE 14 dX8_put_13 rfl rfl ?_
      refine A_get hE 17 dX8_put_14 rfl fkX8_42 rfl rfl ?_
      refine A_iload_n hE 18 dX8_put_17 rfl rfl ?_
      refine A_aald hE 19 1 dX8_put_18 rfl rfl rfl (by omega) rfl rfl ?_
      refine A_astore hE 21 dX8_put_19 rfl rfl rfl ?_
      refine A_aload hE 23 dX8_put_21 rfl rfl ?_
      refine A_callVi hE 26 (c_X4_isMissing (sb 1) (zs 1) (sn 1)) [54, 55, 56] dX8_put_23 rfl mkX8_222 rfl rfl rfl rfl rfl rfl rfl (Nat.le_of_ble_eq_true rfl) (Nat.le_of_ble_eq_true rfl) rfl (fun x23 h23 g23 hp23 hw23 => ?_)
      obtain ⟨rfl, rfl⟩ := hp23
      obtain rfl := Option.some.inj hw23
      refine A_h (Y63 er im s t0 g0 h0 t1 g1 h1 tl tp wl wt wh mu J pt vK vk vm tn tr v1 v2 pl ft rk rf K m0 f0 k0 m1 f1 k1 tl2 tp2 wl2 wt2 sb zs sn) rfl ?_
      refine A_if_eq hE 29 35 dX8_put_26 rfl rfl (fun c26 => ?_) (fun c26 => ?_)
      · have hb := bI_0 c26
        refine A_aload hE 37 dX8_put_35 rfl rfl ?_
        refine A_get hE 40 dX8_put_37 rfl fkX8_226 rfl rfl ?_
        refine A_iload_n hE 41 dX8_put_40 rfl rfl ?_
        refine A_callVi hE 44 (c_X3_has 24 (sn 1) (nI (zs 1)) i) [55, 56] dX8_put_41 rfl mkX8_248 rfl rfl rfl rfl rfl rfl rfl (Nat.le_of_ble_eq_true rfl) (Nat.le_of_ble_eq_true rfl) rfl (fun x41 h41 g41 hp41 hw41 => ?_)
        obtain ⟨rfl, rfl⟩ := hp41
        obtain rfl := Option.some.inj hw41
        refine A_h (Y63 er im s t0 g0 h0 t1 g1 h1 tl tp wl wt wh mu J pt vK vk vm tn tr v1 v2 pl ft rk rf K m0 f0 k0 m1 f1 k1 tl2 tp2 wl2 wt2 sb zs sn) rfl ?_
        refine A_if_ne hE 47 53 dX8_put_44 rfl rfl (fun c44 => ?_) (fun c44 => ?_)
        · have hi := bI_1 c44
          obtain ⟨j, hj, rfl⟩ := iK hi.1 hi.2 (by omega)
          have ej : (nI j).toNatClampNeg = j := nI_clamp (by omega)
          refine A_aload hE 55 dX8_put_53 rfl rfl ?_
          refine A_get hE 58 dX8_put_55 rfl fkX8_226 rfl rfl ?_
          refine A_get hE 61 dX8_put_58 rfl fkX8_249 rfl rfl ?_
          refine A_iload_n hE 62 dX8_put_61 rfl rfl ?_
          refine A_aload hE 64 dX8_put_62 rfl rfl ?_
          refine A_iload_n hE 65 dX8_put_64 rfl rfl ?_
          refine A_callVi hE 68 (c_X4_lowestBits (sb 1) v (zs 1) (sn 1) (hB 1 (by omega))) [54, 55, 56] dX8_put_65 rfl mkX8_257 rfl rfl rfl rfl rfl rfl rfl (Nat.le_of_ble_eq_true rfl) (Nat.le_of_ble_eq_true rfl) rfl (fun x65 h65 g65 hp65 hw65 => ?_)
          obtain ⟨rfl, rfl⟩ := hp65
          obtain rfl := Option.some.inj hw65
          refine A_h (Y63 er im s t0 g0 h0 t1 g1 h1 tl tp wl wt wh mu J pt vK vk vm tn tr v1 v2 pl ft rk rf K m0 f0 k0 m1 f1 k1 tl2 tp2 wl2 wt2 sb zs sn) rfl ?_
          refine A_iast hE 69 j dX8_put_68 rfl rfl rfl (by omega) rfl rfl ?_
          refine A_h (Y63 er im s t0 g0 h0 t1 g1 h1 tl tp wl wt wh mu J pt vK vk vm tn tr v1 v2 pl ft rk rf K m0 f0 k0 m1 f1 k1 tl2 tp2 wl2 wt2 sb zs (updS sn 1 (upd (sn 1) j (lowB (sb 1) v)))) rfl ?_
          refine A_iconst hE 70 dX8_put_69 rfl (1) rfl ?_
          refine A_iret hE dX8_put_70 ?_
          rw [putF, if_pos hh, ek, if_neg hb, if_pos (by rw [hz]; exact hi), ej]
          exact ⟨rfl, _, _, hR.put (by omega), rfl⟩
        · have hi := bI_0 c44
          refine A_aload_n hE 48 dX8_put_47 rfl rfl ?_
          refine A_iconst hE 49 dX8_put_48 rfl (1) rfl ?_
          refine A_callVi hE 52 (c_X8_error er im 1 (by omega)) [0, 1] dX8_put_49 rfl mkX8_59 rfl rfl rfl rfl rfl rfl rfl (Nat.le_of_ble_eq_true rfl) (Nat.le_of_ble_eq_true rfl) rfl (fun x49 h49 g49 hp49 hw49 => ?_)
          obtain ⟨rfl, rfl⟩ := hp49
          obtain rfl := Option.some.inj hw49
          refine A_h (Y63 (upd er 1 (er 1 + 1)) im s t0 g0 h0 t1 g1 h1 tl tp wl wt wh mu J pt vK vk vm tn tr v1 v2 pl ft rk rf K m0 f0 k0 m1 f1 k1 tl2 tp2 wl2 wt2 sb zs sn) rfl ?_
          refine A_iret hE dX8_put_52 ?_
          rw [putF, if_pos hh, ek, if_neg hb, if_neg (by rw [hz]; exact hi)]
          exact ⟨rfl, zs, sn, hR, rfl⟩
      · have hb := bI_1 c26
        refine A_aload_n hE 30 dX8_put_29 rfl rfl ?_
        refine A_iconst hE 31 dX8_put_30 rfl (2) rfl ?_
        refine A_callVi hE 34 (c_X8_error er im 2 (by omega)) [0, 1] dX8_put_31 rfl mkX8_59 rfl rfl rfl rfl rfl rfl rfl (Nat.le_of_ble_eq_true rfl) (Nat.le_of_ble_eq_true rfl) rfl (fun x31 h31 g31 hp31 hw31 => ?_)
        obtain ⟨rfl, rfl⟩ := hp31
        obtain rfl := Option.some.inj hw31
        refine A_h (Y63 (upd er 2 (er 2 + 1)) im s t0 g0 h0 t1 g1 h1 tl tp wl wt wh mu J pt vK vk vm tn tr v1 v2 pl ft rk rf K m0 f0 k0 m1 f1 k1 tl2 tp2 wl2 wt2 sb zs sn) rfl ?_
        refine A_iret hE dX8_put_34 ?_
        rw [putF, if_pos hh, ek, if_pos hb]
        exact ⟨rfl, zs, sn, hR, rfl⟩
    · obtain ⟨hz24, hz, hvn⟩ := hR 2 (by omega)
      refine A_aload_n hE 14 dX8_put_13 rfl rfl ?_
      refine A_get hE 17 dX8_put_14 rfl fkX8_42 rfl rfl ?_
      refine A_iload_n hE 18 dX8_put_17 rfl rfl ?_
      refine A_aald hE 19 2 dX8_put_18 rfl rfl rfl (by omega) rfl rfl ?_
      refine A_astore hE 21 dX8_put_19 rfl rfl rfl ?_
      refine A_aload hE 23 dX8_put_21 rfl rfl ?_
      refine A_callVi hE 26 (c_X4_isMissing (sb 2) (zs 2) (sn 2)) [57, 58, 59] dX8_put_23 rfl mkX8_222 rfl rfl rfl rfl rfl rfl rfl (Nat.le_of_ble_eq_true rfl) (Nat.le_of_ble_eq_true rfl) rfl (fun x23 h23 g23 hp23 hw23 => ?_)
      obtain ⟨rfl, rfl⟩ := hp23
      obtain rfl := Option.some.inj hw23
      refine A_h (Y63 er im s t0 g0 h0 t1 g1 h1 tl tp wl wt wh mu J pt vK vk vm tn tr v1 v2 pl ft rk rf K m0 f0 k0 m1 f1 k1 tl2 tp2 wl2 wt2 sb zs sn) rfl ?_
      refine A_if_eq hE 29 35 dX8_put_26 rfl rfl (fun c26 => ?_) (fun c26 => ?_)
      · have hb := bI_0 c26
        refine A_aload hE 37 dX8_put_35 rfl rfl ?_
        refine A_get hE 40 dX8_put_37 rfl fkX8_226 rfl rfl ?_
        refine A_iload_n hE 41 dX8_put_40 rfl rfl ?_
        refine A_callVi hE 44 (c_X3_has 24 (sn 2) (nI (zs 2)) i) [58, 59] dX8_put_41 rfl mkX8_248 rfl rfl rfl rfl rfl rfl rfl (Nat.le_of_ble_eq_true rfl) (Nat.le_of_ble_eq_true rfl) rfl (fun x41 h41 g41 hp41 hw41 => ?_)
        obtain ⟨rfl, rfl⟩ := hp41
        obtain rfl := Option.some.inj hw41
        refine A_h (Y63 er im s t0 g0 h0 t1 g1 h1 tl tp wl wt wh mu J pt vK vk vm tn tr v1 v2 pl ft rk rf K m0 f0 k0 m1 f1 k1 tl2 tp2 wl2 wt2 sb zs sn) rfl ?_
        refine A_if_ne hE 47 53 dX8_put_44 rfl rfl (fun c44 => ?_) (fun c44 => ?_)
        · have hi := bI_1 c44
          obtain ⟨j, hj, rfl⟩ := iK hi.1 hi.2 (by omega)
          have ej : (nI j).toNatClampNeg = j := nI_clamp (by omega)
          refine A_aload hE 55 dX8_put_53 rfl rfl ?_
          refine A_get hE 58 dX8_put_55 rfl fkX8_226 rfl rfl ?_
          refine A_get hE 61 dX8_put_58 rfl fkX8_249 rfl rfl ?_
          refine A_iload_n hE 62 dX8_put_61 rfl rfl ?_
          refine A_aload hE 64 dX8_put_62 rfl rfl ?_
          refine A_iload_n hE 65 dX8_put_64 rfl rfl ?_
          refine A_callVi hE 68 (c_X4_lowestBits (sb 2) v (zs 2) (sn 2) (hB 2 (by omega))) [57, 58, 59] dX8_put_65 rfl mkX8_257 rfl rfl rfl rfl rfl rfl rfl (Nat.le_of_ble_eq_true rfl) (Nat.le_of_ble_eq_true rfl) rfl (fun x65 h65 g65 hp65 hw65 => ?_)
          obtain ⟨rfl, rfl⟩ := hp65
          obtain rfl := Option.some.inj hw65
          refine A_h (Y63 er im s t0 g0 h0 t1 g1 h1 tl tp wl wt wh mu J pt vK vk vm tn tr v1 v2 pl ft rk rf K m0 f0 k0 m1 f1 k1 tl2 tp2 wl2 wt2 sb zs sn) rfl ?_
          refine A_iast hE 69 j dX8_put_68 rfl rfl rfl (by omega) rfl rfl ?_
          refine A_h (Y63 er im s t0 g0 h0 t1 g1 h1 tl tp wl wt wh mu J pt vK vk vm tn tr v1 v2 pl ft rk rf K m0 f0 k0 m1 f1 k1 tl2 tp2 wl2 wt2 sb zs (updS sn 2 (upd (sn 2) j (lowB (sb 2) v)))) rfl ?_
          refine A_iconst hE 70 dX8_put_69 rfl (1) rfl ?_
          refine A_iret hE dX8_put_70 ?_
          rw [putF, if_pos hh, ek, if_neg hb, if_pos (by rw [hz]; exact hi), ej]
          exact ⟨rfl, _, _, hR.put (by omega), rfl⟩
        · have hi := bI_0 c44
          refine A_aload_n hE 48 dX8_put_47 rfl rfl ?_
          refine A_iconst hE 49 dX8_put_48 rfl (1) rfl ?_
          refine A_callVi hE 52 (c_X8_error er im 1 (by omega)) [0, 1] dX8_put_49 rfl mkX8_59 rfl rfl rfl rfl rfl rfl rfl (Nat.le_of_ble_eq_true rfl) (Nat.le_of_ble_eq_true rfl) rfl (fun x49 h49 g49 hp49 hw49 => ?_)
          obtain ⟨rfl, rfl⟩ := hp49
          obtain rfl := Option.some.inj hw49
          refine A_h (Y63 (upd er 1 (er 1 + 1)) im s t0 g0 h0 t1 g1 h1 tl tp wl wt wh mu J pt vK vk vm tn tr v1 v2 pl ft rk rf K m0 f0 k0 m1 f1 k1 tl2 tp2 wl2 wt2 sb zs sn) rfl ?_
          refine A_iret hE dX8_put_52 ?_
          rw [putF, if_pos hh, ek, if_neg hb, if_neg (by rw [hz]; exact hi)]
          exact ⟨rfl, zs, sn, hR, rfl⟩
      · have hb := bI_1 c26
        refine A_aload_n hE 30 dX8_put_29 rfl rfl ?_
        refine A_iconst hE 31 dX8_put_30 rfl (2) rfl ?_
        refine A_callVi hE 34 (c_X8_error er im 2 (by omega)) [0, 1] dX8_put_31 rfl mkX8_59 rfl rfl rfl rfl rfl rfl rfl (Nat.le_of_ble_eq_true rfl) (Nat.le_of_ble_eq_true rfl) rfl (fun x31 h31 g31 hp31 hw31 => ?_)
        obtain ⟨rfl, rfl⟩ := hp31
        obtain rfl := Option.some.inj hw31
        refine A_h (Y63 (upd er 2 (er 2 + 1)) im s t0 g0 h0 t1 g1 h1 tl tp wl wt wh mu J pt vK vk vm tn tr v1 v2 pl ft rk rf K m0 f0 k0 m1 f1 k1 tl2 tp2 wl2 wt2 sb zs sn) rfl ?_
        refine A_iret hE dX8_put_34 ?_
        rw [putF, if_pos hh, ek, if_pos hb]
        exact ⟨rfl, zs, sn, hR, rfl⟩
    · obtain ⟨hz24, hz, hvn⟩ := hR 3 (by omega)
      refine A_aload_n hE 14 dX8_put_13 rfl rfl ?_
      refine A_get hE 17 dX8_put_14 rfl fkX8_42 rfl rfl ?_
      refine A_iload_n hE 18 dX8_put_17 rfl rfl ?_
      refine A_aald hE 19 3 dX8_put_18 rfl rfl rfl (by omega) rfl rfl ?_
      refine A_astore hE 21 dX8_put_19 rfl rfl rfl ?_
      refine A_aload hE 23 dX8_put_21 rfl rfl ?_
      refine A_callVi hE 26 (c_X4_isMissing (sb 3) (zs 3) (sn 3)) [60, 61, 62] dX8_put_23 rfl mkX8_222 rfl rfl rfl rfl rfl rfl rfl (Nat.le_of_ble_eq_true rfl) (Nat.le_of_ble_eq_true rfl) rfl (fun x23 h23 g23 hp23 hw23 => ?_)
      obtain ⟨rfl, rfl⟩ := hp23
      obtain rfl := Option.some.inj hw23
      refine A_h (Y63 er im s t0 g0 h0 t1 g1 h1 tl tp wl wt wh mu J pt vK vk vm tn tr v1 v2 pl ft rk rf K m0 f0 k0 m1 f1 k1 tl2 tp2 wl2 wt2 sb zs sn) rfl ?_
      refine A_if_eq hE 29 35 dX8_put_26 rfl rfl (fun c26 => ?_) (fun c26 => ?_)
      · have hb := bI_0 c26
        refine A_aload hE 37 dX8_put_35 rfl rfl ?_
        refine A_get hE 40 dX8_put_37 rfl fkX8_226 rfl rfl ?_
        refine A_iload_n hE 41 dX8_put_40 rfl rfl ?_
        refine A_callVi hE 44 (c_X3_has 24 (sn 3) (nI (zs 3)) i) [61, 62] dX8_put_41 rfl mkX8_248 rfl rfl rfl rfl rfl rfl rfl (Nat.le_of_ble_eq_true rfl) (Nat.le_of_ble_eq_true rfl) rfl (fun x41 h41 g41 hp41 hw41 => ?_)
        obtain ⟨rfl, rfl⟩ := hp41
        obtain rfl := Option.some.inj hw41
        refine A_h (Y63 er im s t0 g0 h0 t1 g1 h1 tl tp wl wt wh mu J pt vK vk vm tn tr v1 v2 pl ft rk rf K m0 f0 k0 m1 f1 k1 tl2 tp2 wl2 wt2 sb zs sn) rfl ?_
        refine A_if_ne hE 47 53 dX8_put_44 rfl rfl (fun c44 => ?_) (fun c44 => ?_)
        · have hi := bI_1 c44
          obtain ⟨j, hj, rfl⟩ := iK hi.1 hi.2 (by omega)
          have ej : (nI j).toNatClampNeg = j := nI_clamp (by omega)
          refine A_aload hE 55 dX8_put_53 rfl rfl ?_
          refine A_get hE 58 dX8_put_55 rfl fkX8_226 rfl rfl ?_
          refine A_get hE 61 dX8_put_58 rfl fkX8_249 rfl rfl ?_
          refine A_iload_n hE 62 dX8_put_61 rfl rfl ?_
          refine A_aload hE 64 dX8_put_62 rfl rfl ?_
          refine A_iload_n hE 65 dX8_put_64 rfl rfl ?_
          refine A_callVi hE 68 (c_X4_lowestBits (sb 3) v (zs 3) (sn 3) (hB 3 (by omega))) [60, 61, 62] dX8_put_65 rfl mkX8_257 rfl rfl rfl rfl rfl rfl rfl (Nat.le_of_ble_eq_true rfl) (Nat.le_of_ble_eq_true rfl) rfl (fun x65 h65 g65 hp65 hw65 => ?_)
          obtain ⟨rfl, rfl⟩ := hp65
          obtain rfl := Option.some.inj hw65
          refine A_h (Y63 er im s t0 g0 h0 t1 g1 h1 tl tp wl wt wh mu J pt vK vk vm tn tr v1 v2 pl ft rk rf K m0 f0 k0 m1 f1 k1 tl2 tp2 wl2 wt2 sb zs sn) rfl ?_
          refine A_iast hE 69 j dX8_put_68 rfl rfl rfl (by omega) rfl rfl ?_
          refine A_h (Y63 er im s t0 g0 h0 t1 g1 h1 tl tp wl wt wh mu J pt vK vk vm tn tr v1 v2 pl ft rk rf K m0 f0 k0 m1 f1 k1 tl2 tp2 wl2 wt2 sb zs (updS sn 3 (upd (sn 3) j (lowB (sb 3) v)))) rfl ?_
          refine A_iconst hE 70 dX8_put_69 rfl (1) rfl ?_
          refine A_iret hE dX8_put_70 ?_
          rw [putF, if_pos hh, ek, if_neg hb, if_pos (by rw [hz]; exact hi), ej]
          exact ⟨rfl, _, _, hR.put (by omega), rfl⟩
        · have hi := bI_0 c44
          refine A_aload_n hE 48 dX8_put_47 rfl rfl ?_
          refine A_iconst hE 49 dX8_put_48 rfl (1) rfl ?_
          refine A_callVi hE 52 (c_X8_error er im 1 (by omega)) [0, 1] dX8_put_49 rfl mkX8_59 rfl rfl rfl rfl rfl rfl rfl (Nat.le_of_ble_eq_true rfl) (Nat.le_of_ble_eq_true rfl) rfl (fun x49 h49 g49 hp49 hw49 => ?_)
          obtain ⟨rfl, rfl⟩ := hp49
          obtain rfl := Option.some.inj hw49
          refine A_h (Y63 (upd er 1 (er 1 + 1)) im s t0 g0 h0 t1 g1 h1 tl tp wl wt wh mu J pt vK vk vm tn tr v1 v2 pl ft rk rf K m0 f0 k0 m1 f1 k1 tl2 tp2 wl2 wt2 sb zs sn) rfl ?_
          refine A_iret hE dX8_put_52 ?_
          rw [putF, if_pos hh, ek, if_neg hb, if_neg (by rw [hz]; exact hi)]
          exact ⟨rfl, zs, sn, hR, rfl⟩
      · have hb := bI_1 c26
        refine A_aload_n hE 30 dX8_put_29 rfl rfl ?_
        refine A_iconst hE 31 dX8_put_30 rfl (2) rfl ?_
        refine A_callVi hE 34 (c_X8_error er im 2 (by omega)) [0, 1] dX8_put_31 rfl mkX8_59 rfl rfl rfl rfl rfl rfl rfl (Nat.le_of_ble_eq_true rfl) (Nat.le_of_ble_eq_true rfl) rfl (fun x31 h31 g31 hp31 hw31 => ?_)
        obtain ⟨rfl, rfl⟩ := hp31
        obtain rfl := Option.some.inj hw31
        refine A_h (Y63 (upd er 2 (er 2 + 1)) im s t0 g0 h0 t1 g1 h1 tl tp wl wt wh mu J pt vK vk vm tn tr v1 v2 pl ft rk rf K m0 f0 k0 m1 f1 k1 tl2 tp2 wl2 wt2 sb zs sn) rfl ?_
        refine A_iret hE dX8_put_34 ?_
        rw [putF, if_pos hh, ek, if_pos hb]
        exact ⟨rfl, zs, sn, hR, rfl⟩
  · have hh := bI_0 c4
    refine A_aload_n hE 8 dX8_put_7 rfl rfl ?_
    refine A_iconst hE 9 dX8_put_8 rfl (1) rfl ?_
    refine A_callVi hE 12 (c_X8_error er im 1 (by omega)) [0, 1] dX8_put_9 rfl mkX8_59 rfl rfl rfl rfl rfl rfl rfl (Nat.le_of_ble_eq_true rfl) (Nat.le_of_ble_eq_true rfl) rfl (fun x9 h9 g9 hp9 hw9 => ?_)
    obtain ⟨rfl, rfl⟩ := hp9
    obtain rfl := Option.some.inj hw9
    refine A_h (Y63 (upd er 1 (er 1 + 1)) im s t0 g0 h0 t1 g1 h1 tl tp wl wt wh mu J pt vK vk vm tn tr v1 v2 pl ft rk rf K m0 f0 k0 m1 f1 k1 tl2 tp2 wl2 wt2 sb zs sn) rfl ?_
    refine A_iret hE dX8_put_12 ?_
    rw [putF, if_neg hh]
    exact ⟨rfl, zs, sn, hR, rfl⟩
