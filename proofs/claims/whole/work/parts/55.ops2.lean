theorem op_voice (j : Nat) (hj : j ≤ 512) (er : Nat → Int32) (im : Int32) (s : St) (t0 : Sp) (g0 h0 : Nat → Int32) (t1 : Sp) (g1 h1 : Nat → Int32) (tl : Nat) (tp : Nat → Int32) (wl : Nat) (wt : Nat → Int32) (wh mu : Int32) (J : St) (pt : Int32) (vK : Nat) (vk vm : Int32) (tn : Nat) (tr : Nat → Int32) (v1 : Value) (vk2 : Nat) (pl ft : Int32) (rk : Nat) (rf : Nat → Int32) (K : St) (m0 : Nat) (f0 k0 : Nat → Int32) (m1 : Nat) (f1 k1 : Nat → Int32) (tl2 : Nat) (tp2 : Nat → Int32) (wl2 : Nat) (wt2 sb : Nat → Int32) (zs : Nat → Nat) (sn : Nat → Nat → Int32) (dn : Nat) (df dk : Nat → Int32) (dm : Nat) (dg dl KK be st na pi sz nu as' : Nat → Int32) (at' op sp us sk ip : Int32) (hC : JC j im s t0 g0 t1 g1 tl tp wl wt tn v1 K m0 f0 m1 f1 tl2 tp2 wl2 wt2 sb zs sn KK sz nu) (h : Int32) (v : Int32) (x : Int32) : OpS yX8_voice cX8_voice 5 yX9_voice cX9_voice 6 [.int h, .int v, .int x] (Y71 er im s t0 g0 h0 t1 g1 h1 tl tp wl wt wh mu J pt vK vk vm tn tr v1 (.retAddr vk2) pl ft rk rf K m0 f0 k0 m1 f1 k1 tl2 tp2 wl2 wt2 sb zs sn dn df dk dm dg dl) (MW s KK be er st na pi tr sb sz nu as' im at' op sp us (nI tn) sk ip) j := by
  obtain ⟨jS, jn, jv, ji, jm, jk, jR, jB⟩ := hC
  obtain ⟨w, ⟨T0, T1⟩, ⟨L0, L1⟩, ⟨a6, a60, aT⟩, ⟨b7, b24, bW⟩⟩ := id jS
  have ji' : ∃ q : Nat, q ≤ j + 1 ∧ im = nI q := by
    obtain ⟨q, q1, q2⟩ := ji
    exact ⟨q, by omega, q2⟩
  refine ⟨(voiceF s er h v x).1, 18, 10, Y29 er im s t0 g0 h0 t1 g1 h1 tl tp wl wt wh mu J pt vK vk vm tn tr, List.drop 29 (Y71 er im s t0 g0 h0 t1 g1 h1 tl tp wl wt wh mu J pt vK vk vm tn tr v1 (.retAddr vk2) pl ft rk rf K m0 f0 k0 m1 f1 k1 tl2 tp2 wl2 wt2 sb zs sn dn df dk dm dg dl), _, _, ⟨rfl, Nat.zero_lt_succ _⟩, by omega, by omega, c_X8_voice er im s t0 g0 h0 t1 g1 h1 tl tp wl wt wh mu J pt vK vk vm tn tr h v x w, c_X9_voice s KK be er st na pi tr sb sz nu as' im at' op sp us 0 sk ip h v x tn w, fun h9 h2 q1 q2 => ?_⟩
  obtain ⟨ptx, vKx, vkx, vmx, rfl⟩ := q1
  obtain ⟨skx, ipx, rfl⟩ := q2
  have js := jS
  have jn' : voiceT s h v tn ≤ 30 := by
    unfold voiceT
    split
    · exact apN_le _ _ (by omega)
    · exact jn
  refine ⟨(voiceF s er h v x).2.2, im, s, t0, g0, h0, t1, g1, h1, tl, tp, wl, wt, wh, mu, J, ptx, vKx, vkx, vmx, (voiceT s h v tn), (voiceR s h v tr), v1, vk2, pl, ft, rk, rf, K, m0, f0, k0, m1, f1, k1, tl2, tp2, wl2, wt2, sb, zs, sn, dn, df, dk, dm, dg, dl, KK, be, st, na, pi, sz, nu, as', at', op, sp, us, skx, ipx, eqvH_of rfl, rfl, ?_⟩
  exact ⟨js, jn', jv, ji', jm, jk, jR, jB⟩
theorem op_body (j : Nat) (hj : j ≤ 512) (er : Nat → Int32) (im : Int32) (s : St) (t0 : Sp) (g0 h0 : Nat → Int32) (t1 : Sp) (g1 h1 : Nat → Int32) (tl : Nat) (tp : Nat → Int32) (wl : Nat) (wt : Nat → Int32) (wh mu : Int32) (J : St) (pt : Int32) (vK : Nat) (vk vm : Int32) (tn : Nat) (tr : Nat → Int32) (v1 : Value) (vk2 : Nat) (pl ft : Int32) (rk : Nat) (rf : Nat → Int32) (K : St) (m0 : Nat) (f0 k0 : Nat → Int32) (m1 : Nat) (f1 k1 : Nat → Int32) (tl2 : Nat) (tp2 : Nat → Int32) (wl2 : Nat) (wt2 sb : Nat → Int32) (zs : Nat → Nat) (sn : Nat → Nat → Int32) (dn : Nat) (df dk : Nat → Int32) (dm : Nat) (dg dl KK be st na pi sz nu as' : Nat → Int32) (at' op sp us sk ip : Int32) (hC : JC j im s t0 g0 t1 g1 tl tp wl wt tn v1 K m0 f0 m1 f1 tl2 tp2 wl2 wt2 sb zs sn KK sz nu) (ia : Int32) : OpS yX8_body cX8_body 2 yX9_body cX9_body 2 [.int ia] (Y71 er im s t0 g0 h0 t1 g1 h1 tl tp wl wt wh mu J pt vK vk vm tn tr v1 (.retAddr vk2) pl ft rk rf K m0 f0 k0 m1 f1 k1 tl2 tp2 wl2 wt2 sb zs sn dn df dk dm dg dl) (MW s KK be er st na pi tr sb sz nu as' im at' op sp us (nI tn) sk ip) j := by
  obtain ⟨jS, jn, jv, ji, jm, jk, jR, jB⟩ := hC
  obtain ⟨w, ⟨T0, T1⟩, ⟨L0, L1⟩, ⟨a6, a60, aT⟩, ⟨b7, b24, bW⟩⟩ := id jS
  have ji' : ∃ q : Nat, q ≤ j + 1 ∧ im = nI q := by
    obtain ⟨q, q1, q2⟩ := ji
    exact ⟨q, by omega, q2⟩
  refine ⟨(bodyF s er tn tr ia).1, 1, 2, Y29 er im s t0 g0 h0 t1 g1 h1 tl tp wl wt wh mu J pt vK vk vm tn tr, List.drop 29 (Y71 er im s t0 g0 h0 t1 g1 h1 tl tp wl wt wh mu J pt vK vk vm tn tr v1 (.retAddr vk2) pl ft rk rf K m0 f0 k0 m1 f1 k1 tl2 tp2 wl2 wt2 sb zs sn dn df dk dm dg dl), _, _, ⟨rfl, Nat.zero_lt_succ _⟩, by omega, by omega, c_X8_body er im s t0 g0 h0 t1 g1 h1 tl tp wl wt wh mu J pt vK vk vm tn tr ia jn, c_X9_body s KK be er st na pi tr sb sz nu as' im at' op sp us 0 sk ip ia tn jn, fun h9 h2 q1 q2 => ?_⟩
  obtain rfl := q1
  obtain rfl := q2
  have e1 : (bodyF s er tn tr ia).2.1 = s := by
    unfold bodyF
    split <;> rfl
  rw [e1]
  have js := jS
  refine ⟨(bodyF s er tn tr ia).2.2, im, s, t0, g0, h0, t1, g1, h1, tl, tp, wl, wt, wh, mu, J, pt, vK, vk, vm, tn, tr, v1, vk2, pl, ft, rk, rf, K, m0, f0, k0, m1, f1, k1, tl2, tp2, wl2, wt2, sb, zs, sn, dn, df, dk, dm, dg, dl, KK, be, st, na, pi, sz, nu, as', at', op, sp, us, sk, ip, eqvH_of rfl, rfl, ?_⟩
  exact ⟨js, jn, jv, ji', jm, jk, jR, jB⟩
theorem op_count (j : Nat) (hj : j ≤ 512) (er : Nat → Int32) (im : Int32) (s : St) (t0 : Sp) (g0 h0 : Nat → Int32) (t1 : Sp) (g1 h1 : Nat → Int32) (tl : Nat) (tp : Nat → Int32) (wl : Nat) (wt : Nat → Int32) (wh mu : Int32) (J : St) (pt : Int32) (vK : Nat) (vk vm : Int32) (tn : Nat) (tr : Nat → Int32) (v1 : Value) (vk2 : Nat) (pl ft : Int32) (rk : Nat) (rf : Nat → Int32) (K : St) (m0 : Nat) (f0 k0 : Nat → Int32) (m1 : Nat) (f1 k1 : Nat → Int32) (tl2 : Nat) (tp2 : Nat → Int32) (wl2 : Nat) (wt2 sb : Nat → Int32) (zs : Nat → Nat) (sn : Nat → Nat → Int32) (dn : Nat) (df dk : Nat → Int32) (dm : Nat) (dg dl KK be st na pi sz nu as' : Nat → Int32) (at' op sp us sk ip : Int32) (hC : JC j im s t0 g0 t1 g1 tl tp wl wt tn v1 K m0 f0 m1 f1 tl2 tp2 wl2 wt2 sb zs sn KK sz nu) (what : Int32) : OpS yX8_count cX8_count 3 yX9_count cX9_count 2 [.int what] (Y71 er im s t0 g0 h0 t1 g1 h1 tl tp wl wt wh mu J pt vK vk vm tn tr v1 (.retAddr vk2) pl ft rk rf K m0 f0 k0 m1 f1 k1 tl2 tp2 wl2 wt2 sb zs sn dn df dk dm dg dl) (MW s KK be er st na pi tr sb sz nu as' im at' op sp us (nI tn) sk ip) j := by
  obtain ⟨jS, jn, jv, ji, jm, jk, jR, jB⟩ := hC
  obtain ⟨w, ⟨T0, T1⟩, ⟨L0, L1⟩, ⟨a6, a60, aT⟩, ⟨b7, b24, bW⟩⟩ := id jS
  have ji' : ∃ q : Nat, q ≤ j + 1 ∧ im = nI q := by
    obtain ⟨q, q1, q2⟩ := ji
    exact ⟨q, by omega, q2⟩
  refine ⟨(countF s er tn what).1, 1, 2, Y29 er im s t0 g0 h0 t1 g1 h1 tl tp wl wt wh mu J pt vK vk vm tn tr, List.drop 29 (Y71 er im s t0 g0 h0 t1 g1 h1 tl tp wl wt wh mu J pt vK vk vm tn tr v1 (.retAddr vk2) pl ft rk rf K m0 f0 k0 m1 f1 k1 tl2 tp2 wl2 wt2 sb zs sn dn df dk dm dg dl), _, _, ⟨rfl, Nat.zero_lt_succ _⟩, by omega, by omega, c_X8_count er im s t0 g0 h0 t1 g1 h1 tl tp wl wt wh mu J pt vK vk vm tn tr what w a6 b7, c_X9_count s KK be er st na pi tr sb sz nu as' im at' op sp us 0 sk ip what tn w, fun h9 h2 q1 q2 => ?_⟩
  obtain rfl := q1
  obtain rfl := q2
  have e1 : (countF s er tn what).2.1 = s := by
    unfold countF
    split <;> rfl
  rw [e1]
  have js := jS
  refine ⟨(countF s er tn what).2.2, im, s, t0, g0, h0, t1, g1, h1, tl, tp, wl, wt, wh, mu, J, pt, vK, vk, vm, tn, tr, v1, vk2, pl, ft, rk, rf, K, m0, f0, k0, m1, f1, k1, tl2, tp2, wl2, wt2, sb, zs, sn, dn, df, dk, dm, dg, dl, KK, be, st, na, pi, sz, nu, as', at', op, sp, us, sk, ip, eqvH_of rfl, rfl, ?_⟩
  exact ⟨js, jn, jv, ji', jm, jk, jR, jB⟩
theorem op_told (j : Nat) (hj : j ≤ 512) (er : Nat → Int32) (im : Int32) (s : St) (t0 : Sp) (g0 h0 : Nat → Int32) (t1 : Sp) (g1 h1 : Nat → Int32) (tl : Nat) (tp : Nat → Int32) (wl : Nat) (wt : Nat → Int32) (wh mu : Int32) (J : St) (pt : Int32) (vK : Nat) (vk vm : Int32) (tn : Nat) (tr : Nat → Int32) (v1 : Value) (vk2 : Nat) (pl ft : Int32) (rk : Nat) (rf : Nat → Int32) (K : St) (m0 : Nat) (f0 k0 : Nat → Int32) (m1 : Nat) (f1 k1 : Nat → Int32) (tl2 : Nat) (tp2 : Nat → Int32) (wl2 : Nat) (wt2 sb : Nat → Int32) (zs : Nat → Nat) (sn : Nat → Nat → Int32) (dn : Nat) (df dk : Nat → Int32) (dm : Nat) (dg dl KK be st na pi sz nu as' : Nat → Int32) (at' op sp us sk ip : Int32) (hC : JC j im s t0 g0 t1 g1 tl tp wl wt tn v1 K m0 f0 m1 f1 tl2 tp2 wl2 wt2 sb zs sn KK sz nu) (ka : Int32) : OpS yX8_told cX8_told 2 yX9_told cX9_told 2 [.int ka] (Y71 er im s t0 g0 h0 t1 g1 h1 tl tp wl wt wh mu J pt vK vk vm tn tr v1 (.retAddr vk2) pl ft rk rf K m0 f0 k0 m1 f1 k1 tl2 tp2 wl2 wt2 sb zs sn dn df dk dm dg dl) (MW s KK be er st na pi tr sb sz nu as' im at' op sp us (nI tn) sk ip) j := by
  obtain ⟨jS, jn, jv, ji, jm, jk, jR, jB⟩ := hC
  obtain ⟨w, ⟨T0, T1⟩, ⟨L0, L1⟩, ⟨a6, a60, aT⟩, ⟨b7, b24, bW⟩⟩ := id jS
  have ji' : ∃ q : Nat, q ≤ j + 1 ∧ im = nI q := by
    obtain ⟨q, q1, q2⟩ := ji
    exact ⟨q, by omega, q2⟩
  refine ⟨(toldF s er ka).1, 1, 1, Y2 er im, List.drop 2 (Y71 er im s t0 g0 h0 t1 g1 h1 tl tp wl wt wh mu J pt vK vk vm tn tr v1 (.retAddr vk2) pl ft rk rf K m0 f0 k0 m1 f1 k1 tl2 tp2 wl2 wt2 sb zs sn dn df dk dm dg dl), _, _, ⟨rfl, Nat.zero_lt_succ _⟩, by omega, by omega, c_X8_told er im s ka, c_X9_told s KK be er st na pi tr sb sz nu as' im at' op sp us (nI tn) sk ip ka, fun h9 h2 q1 q2 => ?_⟩
  obtain rfl := q1
  obtain rfl := q2
  have e1 : (toldF s er ka).2.1 = s := by
    unfold toldF
    split <;> rfl
  rw [e1]
  have js := jS
  refine ⟨(toldF s er ka).2.2, im, s, t0, g0, h0, t1, g1, h1, tl, tp, wl, wt, wh, mu, J, pt, vK, vk, vm, tn, tr, v1, vk2, pl, ft, rk, rf, K, m0, f0, k0, m1, f1, k1, tl2, tp2, wl2, wt2, sb, zs, sn, dn, df, dk, dm, dg, dl, KK, be, st, na, pi, sz, nu, as', at', op, sp, us, sk, ip, eqvH_of rfl, rfl, ?_⟩
  exact ⟨js, jn, jv, ji', jm, jk, jR, jB⟩
theorem op_tell (j : Nat) (hj : j ≤ 512) (er : Nat → Int32) (im : Int32) (s : St) (t0 : Sp) (g0 h0 : Nat → Int32) (t1 : Sp) (g1 h1 : Nat → Int32) (tl : Nat) (tp : Nat → Int32) (wl : Nat) (wt : Nat → Int32) (wh mu : Int32) (J : St) (pt : Int32) (vK : Nat) (vk vm : Int32) (tn : Nat) (tr : Nat → Int32) (v1 : Value) (vk2 : Nat) (pl ft : Int32) (rk : Nat) (rf : Nat → Int32) (K : St) (m0 : Nat) (f0 k0 : Nat → Int32) (m1 : Nat) (f1 k1 : Nat → Int32) (tl2 : Nat) (tp2 : Nat → Int32) (wl2 : Nat) (wt2 sb : Nat → Int32) (zs : Nat → Nat) (sn : Nat → Nat → Int32) (dn : Nat) (df dk : Nat → Int32) (dm : Nat) (dg dl KK be st na pi sz nu as' : Nat → Int32) (at' op sp us sk ip : Int32) (hC : JC j im s t0 g0 t1 g1 tl tp wl wt tn v1 K m0 f0 m1 f1 tl2 tp2 wl2 wt2 sb zs sn KK sz nu) (v : Int32) : OpS yX8_tell cX8_tell 2 yX9_tell cX9_tell 2 [.int v] (Y71 er im s t0 g0 h0 t1 g1 h1 tl tp wl wt wh mu J pt vK vk vm tn tr v1 (.retAddr vk2) pl ft rk rf K m0 f0 k0 m1 f1 k1 tl2 tp2 wl2 wt2 sb zs sn dn df dk dm dg dl) (MW s KK be er st na pi tr sb sz nu as' im at' op sp us (nI tn) sk ip) j := by
  obtain ⟨jS, jn, jv, ji, jm, jk, jR, jB⟩ := hC
  obtain ⟨w, ⟨T0, T1⟩, ⟨L0, L1⟩, ⟨a6, a60, aT⟩, ⟨b7, b24, bW⟩⟩ := id jS
  have ji' : ∃ q : Nat, q ≤ j + 1 ∧ im = nI q := by
    obtain ⟨q, q1, q2⟩ := ji
    exact ⟨q, by omega, q2⟩
  have M := c_X9_tell s KK be er st na pi tr sb sz nu as' im at' op sp us (nI tn) sk ip v wl b24 b7
  by_cases hf : wl = 24
  · have eF : tellF s er v = bad 4 s er := by rw [tellF, if_pos (by rw [b7, hf]; rfl)]
    rw [eF] at M
    refine ⟨-1000000000 - nI 4, 1, 1, Y20 er im s t0 g0 h0 t1 g1 h1 tl tp wl wt, List.drop 20 (Y71 er im s t0 g0 h0 t1 g1 h1 tl tp wl wt wh mu J pt vK vk vm tn tr v1 (.retAddr vk2) pl ft rk rf K m0 f0 k0 m1 f1 k1 tl2 tp2 wl2 wt2 sb zs sn dn df dk dm dg dl), _, _, ⟨rfl, Nat.zero_lt_succ _⟩, by omega, by omega, c_X8_tell_full er im s t0 g0 h0 t1 g1 h1 tl tp wl wt v hf, M, fun h9 h2 q1 q2 => ?_⟩
    obtain rfl := q1
    obtain rfl := q2
    have js := jS
    refine ⟨(upd er 4 (er 4 + 1)), im, s, t0, g0, h0, t1, g1, h1, tl, tp, wl, wt, wh, mu, J, pt, vK, vk, vm, tn, tr, v1, vk2, pl, ft, rk, rf, K, m0, f0, k0, m1, f1, k1, tl2, tp2, wl2, wt2, sb, zs, sn, dn, df, dk, dm, dg, dl, KK, be, st, na, pi, sz, nu, as', at', op, sp, us, sk, ip, eqvH_of rfl, rfl, ?_⟩
    exact ⟨js, jn, jv, ji', jm, jk, jR, jB⟩
  · have hlt : wl < 24 := by omega
    have ew : (s 7).toNatClampNeg = wl := by rw [b7]; exact nI_clamp (by omega)
    have eF : tellF s er v = (nI (wl + 1), upd (upd s (359 + wl) v) 7 (s 7 + 1), er) := by
      rw [tellF, if_neg (fun z => hf ((nI_eq (by omega) (b := 24) (by omega)).mp (by rw [← b7]; exact z))), ew, b7, nI_1]
    rw [eF] at M
    refine ⟨nI (wl + 1), 1, 1, Y20 er im s t0 g0 h0 t1 g1 h1 tl tp wl wt, List.drop 20 (Y71 er im s t0 g0 h0 t1 g1 h1 tl tp wl wt wh mu J pt vK vk vm tn tr v1 (.retAddr vk2) pl ft rk rf K m0 f0 k0 m1 f1 k1 tl2 tp2 wl2 wt2 sb zs sn dn df dk dm dg dl), _, _, ⟨rfl, Nat.zero_lt_succ _⟩, by omega, by omega, c_X8_tell_ok er im s t0 g0 h0 t1 g1 h1 tl tp wl wt v hlt, M, fun h9 h2 q1 q2 => ?_⟩
    obtain rfl := q1
    obtain rfl := q2
    have js := jS.tell hlt v
    show JI (j + 1) (Y71 er im s t0 g0 h0 t1 g1 h1 tl tp (wl + 1) (upd wt wl v) wh mu J pt vK vk vm tn tr v1 (.retAddr vk2) pl ft rk rf K m0 f0 k0 m1 f1 k1 tl2 tp2 wl2 wt2 sb zs sn dn df dk dm dg dl) _
    refine ⟨er, im, (upd (upd s (359 + wl) v) 7 (s 7 + 1)), t0, g0, h0, t1, g1, h1, tl, tp, (wl + 1), (upd wt wl v), wh, mu, J, pt, vK, vk, vm, tn, tr, v1, vk2, pl, ft, rk, rf, K, m0, f0, k0, m1, f1, k1, tl2, tp2, wl2, wt2, sb, zs, sn, dn, df, dk, dm, dg, dl, KK, be, st, na, pi, sz, nu, as', at', op, sp, us, sk, ip, eqS (r := (upd (upd s (359 + wl) v) 7 (s 7 + 1))) (fun z h1 h2 h3 => by rw [upd_n h3, upd_n (by omega)]), rfl, ?_⟩
    exact ⟨js, jn, jv, ji', jm, jk, jR, jB⟩
theorem sd_7 {s : St} {t0 : Sp} (h : Nat) {x : Int32} : said t0 (upd s 7 x) h = said t0 s h := by
  unfold said tells
  rw [its_upd_lo (by omega), its_upd_lo (by omega)]
  rfl
theorem rs_7 {s : St} {t0 : Sp} {v : Nat → Int32} {x : Int32} : ∀ (m k : Nat), rsF t0 (upd s 7 x) v m k = rsF t0 s v m k
  | 0, _ => rfl
  | m + 1, k => by
    rw [rsF, rsF, sd_7, rs_7 m (k + 1)]
    rfl
theorem op_check (j : Nat) (hj : j ≤ 512) (er : Nat → Int32) (im : Int32) (s : St) (t0 : Sp) (g0 h0 : Nat → Int32) (t1 : Sp) (g1 h1 : Nat → Int32) (tl : Nat) (tp : Nat → Int32) (wl : Nat) (wt : Nat → Int32) (wh mu : Int32) (J : St) (pt : Int32) (vK : Nat) (vk vm : Int32) (tn : Nat) (tr : Nat → Int32) (v1 : Value) (vk2 : Nat) (pl ft : Int32) (rk : Nat) (rf : Nat → Int32) (K : St) (m0 : Nat) (f0 k0 : Nat → Int32) (m1 : Nat) (f1 k1 : Nat → Int32) (tl2 : Nat) (tp2 : Nat → Int32) (wl2 : Nat) (wt2 sb : Nat → Int32) (zs : Nat → Nat) (sn : Nat → Nat → Int32) (dn : Nat) (df dk : Nat → Int32) (dm : Nat) (dg dl KK be st na pi sz nu as' : Nat → Int32) (at' op sp us sk ip : Int32) (hC : JC j im s t0 g0 t1 g1 tl tp wl wt tn v1 K m0 f0 m1 f1 tl2 tp2 wl2 wt2 sb zs sn KK sz nu)  : OpS yX8_check cX8_check 3 yX9_check cX9_check 3 [] (Y71 er im s t0 g0 h0 t1 g1 h1 tl tp wl wt wh mu J pt vK vk vm tn tr v1 (.retAddr vk2) pl ft rk rf K m0 f0 k0 m1 f1 k1 tl2 tp2 wl2 wt2 sb zs sn dn df dk dm dg dl) (MW s KK be er st na pi tr sb sz nu as' im at' op sp us (nI tn) sk ip) j := by
  obtain ⟨jS, jn, jv, ji, jm, jk, jR, jB⟩ := hC
  obtain ⟨w, ⟨T0, T1⟩, ⟨L0, L1⟩, ⟨a6, a60, aT⟩, ⟨b7, b24, bW⟩⟩ := id jS
  have ji' : ∃ q : Nat, q ≤ j + 1 ∧ im = nI q := by
    obtain ⟨q, q1, q2⟩ := ji
    exact ⟨q, by omega, q2⟩
  have ew : (s 7).toNatClampNeg = wl := by rw [b7]; exact nI_clamp (by omega)
  have ev : (if (rsF t0 s wt wl 0) = wl then 0 else 1 + nI (rsF t0 s wt wl 0)) = (checkF t0 s er).1 := by
    obtain ⟨q, q1, q2, q3, q4⟩ := ck_eq t0 (upd s 7 0) wt wl (fun z hz => by rw [upd_n (by omega)]; exact bW z hz) wl 0 (Nat.zero_add _)
    rw [rs_7] at q3
    show _ = chk t0 (upd s 7 0) (s 7).toNatClampNeg 0
    rw [ew, q3, q4]
  have X := c_X8_check er im s t0 g0 h0 t1 g1 h1 tl tp wl wt w L0 b24
  rw [ev] at X
  refine ⟨(checkF t0 s er).1, 4, 4, Y20 er im s t0 g0 h0 t1 g1 h1 tl tp wl wt, List.drop 20 (Y71 er im s t0 g0 h0 t1 g1 h1 tl tp wl wt wh mu J pt vK vk vm tn tr v1 (.retAddr vk2) pl ft rk rf K m0 f0 k0 m1 f1 k1 tl2 tp2 wl2 wt2 sb zs sn dn df dk dm dg dl), _, _, ⟨rfl, Nat.zero_lt_succ _⟩, by omega, by omega, X, c_X9_check s KK be er st na pi tr sb sz nu as' im at' op sp us (nI tn) sk ip t0 wl b24 b7 w T0, fun h9 h2 q1 q2 => ?_⟩
  obtain ⟨h0x, rfl⟩ := q1
  obtain ⟨nax, pix, rfl⟩ := q2
  have js := jS.checked
  show JI (j + 1) (Y71 er im s t0 g0 h0x t1 g1 h1 tl tp 0 wt wh mu J pt vK vk vm tn tr v1 (.retAddr vk2) pl ft rk rf K m0 f0 k0 m1 f1 k1 tl2 tp2 wl2 wt2 sb zs sn dn df dk dm dg dl) _
  refine ⟨er, im, (upd s 7 0), t0, g0, h0x, t1, g1, h1, tl, tp, 0, wt, wh, mu, J, pt, vK, vk, vm, tn, tr, v1, vk2, pl, ft, rk, rf, K, m0, f0, k0, m1, f1, k1, tl2, tp2, wl2, wt2, sb, zs, sn, dn, df, dk, dm, dg, dl, KK, be, st, nax, pix, sz, nu, as', at', op, sp, us, sk, ip, eqS (r := upd s 7 0) (fun z h1 h2 h3 => upd_n h3), rfl, ?_⟩
  exact ⟨js, jn, jv, ji', jm, jk, jR, jB⟩
theorem op_feed (j : Nat) (hj : j ≤ 512) (er : Nat → Int32) (im : Int32) (s : St) (t0 : Sp) (g0 h0 : Nat → Int32) (t1 : Sp) (g1 h1 : Nat → Int32) (tl : Nat) (tp : Nat → Int32) (wl : Nat) (wt : Nat → Int32) (wh mu : Int32) (J : St) (pt : Int32) (vK : Nat) (vk vm : Int32) (tn : Nat) (tr : Nat → Int32) (v1 : Value) (vk2 : Nat) (pl ft : Int32) (rk : Nat) (rf : Nat → Int32) (K : St) (m0 : Nat) (f0 k0 : Nat → Int32) (m1 : Nat) (f1 k1 : Nat → Int32) (tl2 : Nat) (tp2 : Nat → Int32) (wl2 : Nat) (wt2 sb : Nat → Int32) (zs : Nat → Nat) (sn : Nat → Nat → Int32) (dn : Nat) (df dk : Nat → Int32) (dm : Nat) (dg dl KK be st na pi sz nu as' : Nat → Int32) (at' op sp us sk ip : Int32) (hC : JC j im s t0 g0 t1 g1 tl tp wl wt tn v1 K m0 f0 m1 f1 tl2 tp2 wl2 wt2 sb zs sn KK sz nu) (c : Int64) (m : Int32) : OpS yX8_feed cX8_feed 5 yX9_feed cX9_feed 5 [.long c, .int m] (Y71 er im s t0 g0 h0 t1 g1 h1 tl tp wl wt wh mu J pt vK vk vm tn tr v1 (.retAddr vk2) pl ft rk rf K m0 f0 k0 m1 f1 k1 tl2 tp2 wl2 wt2 sb zs sn dn df dk dm dg dl) (MW s KK be er st na pi tr sb sz nu as' im at' op sp us (nI tn) sk ip) j := by
  obtain ⟨jS, jn, jv, ji, jm, jk, jR, jB⟩ := hC
  obtain ⟨w, ⟨T0, T1⟩, ⟨L0, L1⟩, ⟨a6, a60, aT⟩, ⟨b7, b24, bW⟩⟩ := id jS
  have ji' : ∃ q : Nat, q ≤ j + 1 ∧ im = nI q := by
    obtain ⟨q, q1, q2⟩ := ji
    exact ⟨q, by omega, q2⟩
  have M := c_X9_feed s KK be er st na pi tr sb sz nu as' im at' op sp us (nI tn) sk ip c m tl a60 a6
  by_cases hm : 1 ≤ m ∧ m ≤ 8
  · by_cases hf : 60 < nI tl + m
    · have eF : feedF s er c m = bad 4 s er := by rw [feedF, if_pos hm, if_pos (by rw [a6]; exact hf)]
      rw [eF] at M
      refine ⟨-1000000000 - nI 4, 1, 1, Y20 er im s t0 g0 h0 t1 g1 h1 tl tp wl wt, List.drop 20 (Y71 er im s t0 g0 h0 t1 g1 h1 tl tp wl wt wh mu J pt vK vk vm tn tr v1 (.retAddr vk2) pl ft rk rf K m0 f0 k0 m1 f1 k1 tl2 tp2 wl2 wt2 sb zs sn dn df dk dm dg dl), _, _, ⟨rfl, Nat.zero_lt_succ _⟩, by omega, by omega, c_X8_feed_full er im s t0 g0 h0 t1 g1 h1 tl tp wl wt c m hm hf, M, fun h9 h2 q1 q2 => ?_⟩
      obtain rfl := q1
      obtain rfl := q2
      have js := jS
      refine ⟨(upd er 4 (er 4 + 1)), im, s, t0, g0, h0, t1, g1, h1, tl, tp, wl, wt, wh, mu, J, pt, vK, vk, vm, tn, tr, v1, vk2, pl, ft, rk, rf, K, m0, f0, k0, m1, f1, k1, tl2, tp2, wl2, wt2, sb, zs, sn, dn, df, dk, dm, dg, dl, KK, be, st, na, pi, sz, nu, as', at', op, sp, us, sk, ip, eqvH_of rfl, rfl, ?_⟩
      exact ⟨js, jn, jv, ji', jm, jk, jR, jB⟩
    · obtain ⟨k, hk, rfl⟩ := iK2 (n := 8) (Int32.le_trans (show (0 : Int32) ≤ 1 by decide) hm.1) hm.2 (by omega)
      have hk1 : 1 ≤ k := (nI_leI (a := 1) (by omega) (by omega)).mp hm.1
      have hf2 : tl + k ≤ 60 := by
          rcases Nat.lt_or_ge 60 (tl + k) with z | z
          · exact absurd (by rw [nI_add]; exact nI_lt (a := 60) z (by omega)) hf
          · exact z
      obtain ⟨f9, f8, f7⟩ := feedN_eq (c := c) k 0 a6 hf2
      have eF : feedF s er c (nI k) = (nI (tl + k), feedN c k 0 s, er) := by rw [feedF, if_pos hm, if_neg (by rw [a6]; exact hf), nI_clamp (by omega), f9]
      rw [eF] at M
      refine ⟨nI (tl + k), 1, 1, Y20 er im s t0 g0 h0 t1 g1 h1 tl tp wl wt, List.drop 20 (Y71 er im s t0 g0 h0 t1 g1 h1 tl tp wl wt wh mu J pt vK vk vm tn tr v1 (.retAddr vk2) pl ft rk rf K m0 f0 k0 m1 f1 k1 tl2 tp2 wl2 wt2 sb zs sn dn df dk dm dg dl), _, _, ⟨rfl, Nat.zero_lt_succ _⟩, by omega, by omega, c_X8_feed_ok er im s t0 g0 h0 t1 g1 h1 tl tp wl wt c k hk1 hk hf2, M, fun h9 h2 q1 q2 => ?_⟩
      obtain rfl := q1
      obtain rfl := q2
      have js := jS.feed c hk hf2
      show JI (j + 1) (Y71 er im s t0 g0 h0 t1 g1 h1 (tl + k) (fdT c tl k tp) wl wt wh mu J pt vK vk vm tn tr v1 (.retAddr vk2) pl ft rk rf K m0 f0 k0 m1 f1 k1 tl2 tp2 wl2 wt2 sb zs sn dn df dk dm dg dl) _
      refine ⟨er, im, (feedN c k 0 s), t0, g0, h0, t1, g1, h1, (tl + k), (fdT c tl k tp), wl, wt, wh, mu, J, pt, vK, vk, vm, tn, tr, v1, vk2, pl, ft, rk, rf, K, m0, f0, k0, m1, f1, k1, tl2, tp2, wl2, wt2, sb, zs, sn, dn, df, dk, dm, dg, dl, KK, be, st, na, pi, sz, nu, as', at', op, sp, us, sk, ip, eqS (r := (feedN c k 0 s)) (fun z h1 h2 h3 => f8 z h2 (by omega)), rfl, ?_⟩
      exact ⟨js, jn, jv, ji', jm, jk, jR, jB⟩
  · have eF : feedF s er c m = bad 1 s er := by rw [feedF, if_neg hm]
    rw [eF] at M
    refine ⟨-1000000000 - nI 1, 1, 1, Y20 er im s t0 g0 h0 t1 g1 h1 tl tp wl wt, List.drop 20 (Y71 er im s t0 g0 h0 t1 g1 h1 tl tp wl wt wh mu J pt vK vk vm tn tr v1 (.retAddr vk2) pl ft rk rf K m0 f0 k0 m1 f1 k1 tl2 tp2 wl2 wt2 sb zs sn dn df dk dm dg dl), _, _, ⟨rfl, Nat.zero_lt_succ _⟩, by omega, by omega, c_X8_feed_no er im s t0 g0 h0 t1 g1 h1 tl tp wl wt c m hm, M, fun h9 h2 q1 q2 => ?_⟩
    obtain rfl := q1
    obtain rfl := q2
    have js := jS
    refine ⟨(upd er 1 (er 1 + 1)), im, s, t0, g0, h0, t1, g1, h1, tl, tp, wl, wt, wh, mu, J, pt, vK, vk, vm, tn, tr, v1, vk2, pl, ft, rk, rf, K, m0, f0, k0, m1, f1, k1, tl2, tp2, wl2, wt2, sb, zs, sn, dn, df, dk, dm, dg, dl, KK, be, st, na, pi, sz, nu, as', at', op, sp, us, sk, ip, eqvH_of rfl, rfl, ?_⟩
    exact ⟨js, jn, jv, ji', jm, jk, jR, jB⟩
theorem op_untell (j : Nat) (hj : j ≤ 512) (er : Nat → Int32) (im : Int32) (s : St) (t0 : Sp) (g0 h0 : Nat → Int32) (t1 : Sp) (g1 h1 : Nat → Int32) (tl : Nat) (tp : Nat → Int32) (wl : Nat) (wt : Nat → Int32) (wh mu : Int32) (J : St) (pt : Int32) (vK : Nat) (vk vm : Int32) (tn : Nat) (tr : Nat → Int32) (v1 : Value) (vk2 : Nat) (pl ft : Int32) (rk : Nat) (rf : Nat → Int32) (K : St) (m0 : Nat) (f0 k0 : Nat → Int32) (m1 : Nat) (f1 k1 : Nat → Int32) (tl2 : Nat) (tp2 : Nat → Int32) (wl2 : Nat) (wt2 sb : Nat → Int32) (zs : Nat → Nat) (sn : Nat → Nat → Int32) (dn : Nat) (df dk : Nat → Int32) (dm : Nat) (dg dl KK be st na pi sz nu as' : Nat → Int32) (at' op sp us sk ip : Int32) (hC : JC j im s t0 g0 t1 g1 tl tp wl wt tn v1 K m0 f0 m1 f1 tl2 tp2 wl2 wt2 sb zs sn KK sz nu) (u : Int32) : OpS yX8_untell cX8_untell 4 yX9_untell cX9_untell 3 [.int u] (Y71 er im s t0 g0 h0 t1 g1 h1 tl tp wl wt wh mu J pt vK vk vm tn tr v1 (.retAddr vk2) pl ft rk rf K m0 f0 k0 m1 f1 k1 tl2 tp2 wl2 wt2 sb zs sn dn df dk dm dg dl) (MW s KK be er st na pi tr sb sz nu as' im at' op sp us (nI tn) sk ip) j := by
  obtain ⟨jS, jn, jv, ji, jm, jk, jR, jB⟩ := hC
  obtain ⟨w, ⟨T0, T1⟩, ⟨L0, L1⟩, ⟨a6, a60, aT⟩, ⟨b7, b24, bW⟩⟩ := id jS
  have ji' : ∃ q : Nat, q ≤ j + 1 ∧ im = nI q := by
    obtain ⟨q, q1, q2⟩ := ji
    exact ⟨q, by omega, q2⟩
  have M := c_X9_untell s KK be er st na pi tr sb sz nu as' im at' op sp us (nI tn) sk ip u
  by_cases hu : 0 ≤ u ∧ u ≤ 1
  · obtain ⟨k, hk, rfl⟩ := iK2 (n := 1) hu.1 hu.2 (by omega)
    rcases (show k = 0 ∨ k = 1 by omega) with rfl | rfl
    · have eF : untellF s er (nI 0) = (if 0 < nI t0.length then 1 else 0, upd s (49 + 125 * 0) 0, er) := by
        rw [untellF, if_pos hu, show (nI 0).toNatClampNeg = 0 by decide, T0.2.1]
      rw [eF] at M
      refine ⟨(if 0 < nI t0.length then 1 else 0), 2, 2, Y16 er im s t0 g0 h0 t1 g1 h1, List.drop 16 (Y71 er im s t0 g0 h0 t1 g1 h1 tl tp wl wt wh mu J pt vK vk vm tn tr v1 (.retAddr vk2) pl ft rk rf K m0 f0 k0 m1 f1 k1 tl2 tp2 wl2 wt2 sb zs sn dn df dk dm dg dl), _, _, ⟨rfl, Nat.zero_lt_succ _⟩, by omega, by omega, c_X8_untell_0 er im s t0 g0 h0 t1 g1 h1, M, fun h9 h2 q1 q2 => ?_⟩
      obtain rfl := q1
      obtain rfl := q2
      have js := jS.text0 (r := (upd s (49 + 125 * 0) 0)) [] g0 MT_nil (LawC.nil 0 g0) (tl' := tl) (by rw [upd_n (by omega)]; exact a6) (Or.inr rfl) (fun z h1 h2 => upd_n (by omega))
      show JI (j + 1) (Y71 er im s [] g0 h0 t1 g1 h1 tl tp wl wt wh mu J pt vK vk vm tn tr v1 (.retAddr vk2) pl ft rk rf K m0 f0 k0 m1 f1 k1 tl2 tp2 wl2 wt2 sb zs sn dn df dk dm dg dl) _
      refine ⟨er, im, (upd s (49 + 125 * 0) 0), [], g0, h0, t1, g1, h1, tl, tp, wl, wt, wh, mu, J, pt, vK, vk, vm, tn, tr, v1, vk2, pl, ft, rk, rf, K, m0, f0, k0, m1, f1, k1, tl2, tp2, wl2, wt2, sb, zs, sn, dn, df, dk, dm, dg, dl, KK, be, st, na, pi, sz, nu, as', at', op, sp, us, sk, ip, eqS (r := (upd s (49 + 125 * 0) 0)) (fun z h1 h2 h3 => upd_n (by omega)), rfl, ?_⟩
      exact ⟨js, jn, jv, ji', jm, jk, jR, jB⟩
    · have eF : untellF s er (nI 1) = (if 0 < nI t1.length then 1 else 0, upd s (49 + 125 * 1) 0, er) := by
        rw [untellF, if_pos hu, show (nI 1).toNatClampNeg = 1 by decide, T1.2.1]
      rw [eF] at M
      refine ⟨(if 0 < nI t1.length then 1 else 0), 2, 2, Y16 er im s t0 g0 h0 t1 g1 h1, List.drop 16 (Y71 er im s t0 g0 h0 t1 g1 h1 tl tp wl wt wh mu J pt vK vk vm tn tr v1 (.retAddr vk2) pl ft rk rf K m0 f0 k0 m1 f1 k1 tl2 tp2 wl2 wt2 sb zs sn dn df dk dm dg dl), _, _, ⟨rfl, Nat.zero_lt_succ _⟩, by omega, by omega, c_X8_untell_1 er im s t0 g0 h0 t1 g1 h1, M, fun h9 h2 q1 q2 => ?_⟩
      obtain rfl := q1
      obtain rfl := q2
      have js := jS.text1 (r := (upd s (49 + 125 * 1) 0)) [] g1 MT_nil (LawC.nil 1 g1) (tl' := tl) (by rw [upd_n (by omega)]; exact a6) (Or.inr rfl) (fun z h1 h2 => upd_n (by omega))
      show JI (j + 1) (Y71 er im s t0 g0 h0 [] g1 h1 tl tp wl wt wh mu J pt vK vk vm tn tr v1 (.retAddr vk2) pl ft rk rf K m0 f0 k0 m1 f1 k1 tl2 tp2 wl2 wt2 sb zs sn dn df dk dm dg dl) _
      refine ⟨er, im, (upd s (49 + 125 * 1) 0), t0, g0, h0, [], g1, h1, tl, tp, wl, wt, wh, mu, J, pt, vK, vk, vm, tn, tr, v1, vk2, pl, ft, rk, rf, K, m0, f0, k0, m1, f1, k1, tl2, tp2, wl2, wt2, sb, zs, sn, dn, df, dk, dm, dg, dl, KK, be, st, na, pi, sz, nu, as', at', op, sp, us, sk, ip, eqS (r := (upd s (49 + 125 * 1) 0)) (fun z h1 h2 h3 => upd_n (by omega)), rfl, ?_⟩
      exact ⟨js, jn, jv, ji', jm, jk, jR, jB⟩
  · have eF : untellF s er u = bad 1 s er := by rw [untellF, if_neg hu]
    rw [eF] at M
    refine ⟨-1000000000 - nI 1, 2, 2, Y16 er im s t0 g0 h0 t1 g1 h1, List.drop 16 (Y71 er im s t0 g0 h0 t1 g1 h1 tl tp wl wt wh mu J pt vK vk vm tn tr v1 (.retAddr vk2) pl ft rk rf K m0 f0 k0 m1 f1 k1 tl2 tp2 wl2 wt2 sb zs sn dn df dk dm dg dl), _, _, ⟨rfl, Nat.zero_lt_succ _⟩, by omega, by omega, c_X8_untell_no er im s t0 g0 h0 t1 g1 h1 u hu, M, fun h9 h2 q1 q2 => ?_⟩
    obtain rfl := q1
    obtain rfl := q2
    have js := jS
    refine ⟨(upd er 1 (er 1 + 1)), im, s, t0, g0, h0, t1, g1, h1, tl, tp, wl, wt, wh, mu, J, pt, vK, vk, vm, tn, tr, v1, vk2, pl, ft, rk, rf, K, m0, f0, k0, m1, f1, k1, tl2, tp2, wl2, wt2, sb, zs, sn, dn, df, dk, dm, dg, dl, KK, be, st, na, pi, sz, nu, as', at', op, sp, us, sk, ip, eqvH_of rfl, rfl, ?_⟩
    exact ⟨js, jn, jv, ji', jm, jk, jR, jB⟩
theorem op_image (j : Nat) (hj : j ≤ 512) (er : Nat → Int32) (im : Int32) (s : St) (t0 : Sp) (g0 h0 : Nat → Int32) (t1 : Sp) (g1 h1 : Nat → Int32) (tl : Nat) (tp : Nat → Int32) (wl : Nat) (wt : Nat → Int32) (wh mu : Int32) (J : St) (pt : Int32) (vK : Nat) (vk vm : Int32) (tn : Nat) (tr : Nat → Int32) (v1 : Value) (vk2 : Nat) (pl ft : Int32) (rk : Nat) (rf : Nat → Int32) (K : St) (m0 : Nat) (f0 k0 : Nat → Int32) (m1 : Nat) (f1 k1 : Nat → Int32) (tl2 : Nat) (tp2 : Nat → Int32) (wl2 : Nat) (wt2 sb : Nat → Int32) (zs : Nat → Nat) (sn : Nat → Nat → Int32) (dn : Nat) (df dk : Nat → Int32) (dm : Nat) (dg dl KK be st na pi sz nu as' : Nat → Int32) (at' op sp us sk ip : Int32) (hC : JC j im s t0 g0 t1 g1 tl tp wl wt tn v1 K m0 f0 m1 f1 tl2 tp2 wl2 wt2 sb zs sn KK sz nu)  : OpS yX8_image cX8_image 1 yX9_image cX9_image 1 [] (Y71 er im s t0 g0 h0 t1 g1 h1 tl tp wl wt wh mu J pt vK vk vm tn tr v1 (.retAddr vk2) pl ft rk rf K m0 f0 k0 m1 f1 k1 tl2 tp2 wl2 wt2 sb zs sn dn df dk dm dg dl) (MW s KK be er st na pi tr sb sz nu as' im at' op sp us (nI tn) sk ip) j := by
  obtain ⟨jS, jn, jv, ji, jm, jk, jR, jB⟩ := hC
  obtain ⟨w, ⟨T0, T1⟩, ⟨L0, L1⟩, ⟨a6, a60, aT⟩, ⟨b7, b24, bW⟩⟩ := id jS
  have ji' : ∃ q : Nat, q ≤ j + 1 ∧ im = nI q := by
    obtain ⟨q, q1, q2⟩ := ji
    exact ⟨q, by omega, q2⟩
  refine ⟨im + 1, 5, 1, Y50 er im s t0 g0 h0 t1 g1 h1 tl tp wl wt wh mu J pt vK vk vm tn tr v1 (.retAddr vk2) pl ft rk rf K m0 f0 k0 m1 f1 k1 tl2 tp2 wl2 wt2, List.drop 50 (Y71 er im s t0 g0 h0 t1 g1 h1 tl tp wl wt wh mu J pt vK vk vm tn tr v1 (.retAddr vk2) pl ft rk rf K m0 f0 k0 m1 f1 k1 tl2 tp2 wl2 wt2 sb zs sn dn df dk dm dg dl), _, _, ⟨rfl, Nat.zero_lt_succ _⟩, by omega, by omega, c_X8_image er im s t0 g0 h0 t1 g1 h1 tl tp wl wt wh mu J pt vK vk vm tn tr v1 (.retAddr vk2) pl ft rk rf K m0 f0 k0 m1 f1 k1 tl2 tp2 wl2 wt2 jm.1 jm.2 L0.len L1.len a60 b24, c_X9_image s KK be er st na pi tr sb sz nu as' im at' op sp us (nI tn) sk ip, fun h9 h2 q1 q2 => ?_⟩
  obtain rfl := q1
  obtain rfl := q2
  have ji2 : ∃ q : Nat, q ≤ j + 1 ∧ im + 1 = nI q := by
    obtain ⟨q, q1, q2⟩ := ji
    exact ⟨q + 1, by omega, by rw [q2, nI_1]⟩
  have js := jS
  refine ⟨er, (im + 1), s, t0, g0, h0, t1, g1, h1, tl, tp, wl, wt, wh, mu, J, pt, vK, vk, vm, tn, tr, v1, vk2, pl, ft, rk, rf, s, t0.length, (ovr t0.length g0 f0), k0, t1.length, (ovr t1.length g1 f1), k1, tl, (ovr tl tp tp2), wl, (ovr wl wt wt2), sb, zs, sn, dn, df, dk, dm, dg, dl, s, be, st, na, pi, sz, nu, as', at', op, sp, us, sk, ip, eqvH_of rfl, rfl, ?_⟩
  exact ⟨js, jn, jv, ji2, ⟨L0.len, L1.len⟩, Or.inr ⟨t0, t1, rfl, rfl, rfl, jS.ovr⟩, jR, jB⟩
theorem op_restore (j : Nat) (hj : j ≤ 512) (er : Nat → Int32) (im : Int32) (s : St) (t0 : Sp) (g0 h0 : Nat → Int32) (t1 : Sp) (g1 h1 : Nat → Int32) (tl : Nat) (tp : Nat → Int32) (wl : Nat) (wt : Nat → Int32) (wh mu : Int32) (J : St) (pt : Int32) (vK : Nat) (vk vm : Int32) (tn : Nat) (tr : Nat → Int32) (v1 : Value) (vk2 : Nat) (pl ft : Int32) (rk : Nat) (rf : Nat → Int32) (K : St) (m0 : Nat) (f0 k0 : Nat → Int32) (m1 : Nat) (f1 k1 : Nat → Int32) (tl2 : Nat) (tp2 : Nat → Int32) (wl2 : Nat) (wt2 sb : Nat → Int32) (zs : Nat → Nat) (sn : Nat → Nat → Int32) (dn : Nat) (df dk : Nat → Int32) (dm : Nat) (dg dl KK be st na pi sz nu as' : Nat → Int32) (at' op sp us sk ip : Int32) (hC : JC j im s t0 g0 t1 g1 tl tp wl wt tn v1 K m0 f0 m1 f1 tl2 tp2 wl2 wt2 sb zs sn KK sz nu)  : OpS yX8_restore cX8_restore 1 yX9_restore cX9_restore 1 [] (Y71 er im s t0 g0 h0 t1 g1 h1 tl tp wl wt wh mu J pt vK vk vm tn tr v1 (.retAddr vk2) pl ft rk rf K m0 f0 k0 m1 f1 k1 tl2 tp2 wl2 wt2 sb zs sn dn df dk dm dg dl) (MW s KK be er st na pi tr sb sz nu as' im at' op sp us (nI tn) sk ip) j := by
  obtain ⟨jS, jn, jv, ji, jm, jk, jR, jB⟩ := hC
  obtain ⟨w, ⟨T0, T1⟩, ⟨L0, L1⟩, ⟨a6, a60, aT⟩, ⟨b7, b24, bW⟩⟩ := id jS
  have ji' : ∃ q : Nat, q ≤ j + 1 ∧ im = nI q := by
    obtain ⟨q, q1, q2⟩ := ji
    exact ⟨q, by omega, q2⟩
  have M := c_X9_restore s KK be er st na pi tr sb sz nu as' im at' op sp us (nI tn) sk ip
  by_cases hz : im = 0
  · refine ⟨-1000000000 - nI 2, 1, 1, Y2 er im, List.drop 2 (Y71 er im s t0 g0 h0 t1 g1 h1 tl tp wl wt wh mu J pt vK vk vm tn tr v1 (.retAddr vk2) pl ft rk rf K m0 f0 k0 m1 f1 k1 tl2 tp2 wl2 wt2 sb zs sn dn df dk dm dg dl), _, _, ⟨rfl, Nat.zero_lt_succ _⟩, by omega, by omega, c_X8_restore_no er im hz, M.imp (fun v hh hp => by
      obtain ⟨x, rfl, hp⟩ := hp
      exact ⟨x, rfl, hp.1 hz⟩), fun h9 h2 q1 q2 => ?_⟩
    obtain rfl := q1
    obtain rfl := q2
    have js := jS
    refine ⟨(upd er 2 (er 2 + 1)), im, s, t0, g0, h0, t1, g1, h1, tl, tp, wl, wt, wh, mu, J, pt, vK, vk, vm, tn, tr, v1, vk2, pl, ft, rk, rf, K, m0, f0, k0, m1, f1, k1, tl2, tp2, wl2, wt2, sb, zs, sn, dn, df, dk, dm, dg, dl, KK, be, st, na, pi, sz, nu, as', at', op, sp, us, sk, ip, eqvH_of rfl, rfl, ?_⟩
    exact ⟨js, jn, jv, ji', jm, jk, jR, jB⟩
  · rcases jk with jk | ⟨u0, u1, rfl, rfl, rfl, kS⟩
    · exact absurd jk hz
    · have kL := kS.2.2.1
      have kT := kS.2.2.2.1
      have kW := kS.2.2.2.2
      refine ⟨K 0, 5, 1, Y50 er im s t0 g0 h0 t1 g1 h1 tl tp wl wt wh mu J pt vK vk vm tn tr v1 (.retAddr vk2) pl ft rk rf K u0.length f0 k0 u1.length f1 k1 tl2 tp2 wl2 wt2, List.drop 50 (Y71 er im s t0 g0 h0 t1 g1 h1 tl tp wl wt wh mu J pt vK vk vm tn tr v1 (.retAddr vk2) pl ft rk rf K u0.length f0 k0 u1.length f1 k1 tl2 tp2 wl2 wt2 sb zs sn dn df dk dm dg dl), _, _, ⟨rfl, Nat.zero_lt_succ _⟩, by omega, by omega, c_X8_restore_ok er im s t0 g0 h0 t1 g1 h1 tl tp wl wt wh mu J pt vK vk vm tn tr v1 (.retAddr vk2) pl ft rk rf K u0 f0 k0 u1 f1 k1 tl2 tp2 wl2 wt2 L0.len L1.len kL.1.len kL.2.len kT.2.1 kW.2.1 hz, M.imp (fun v hh hp => by
      obtain ⟨x, rfl, hp⟩ := hp
      exact ⟨x, rfl, hp.2 hz⟩), fun h9 h2 q1 q2 => ?_⟩
      obtain rfl := q1
      obtain rfl := q2
      have js := kS.ovr (f0 := g0) (f1 := g1) (tq' := tp) (wq := wt)
      refine ⟨er, im, K, u0, (ovr u0.length f0 g0), h0, u1, (ovr u1.length f1 g1), h1, tl2, (ovr tl2 tp2 tp), wl2, (ovr wl2 wt2 wt), wh, mu, J, pt, vK, vk, vm, tn, tr, v1, vk2, pl, ft, rk, rf, K, u0.length, f0, k0, u1.length, f1, k1, tl2, tp2, wl2, wt2, sb, zs, sn, dn, df, dk, dm, dg, dl, K, be, st, na, pi, sz, nu, as', at', op, sp, us, sk, ip, eqvH_of rfl, rfl, ?_⟩
      exact ⟨js, jn, jv, ji', jm, Or.inr ⟨u0, u1, rfl, rfl, rfl, kS⟩, jR, jB⟩
