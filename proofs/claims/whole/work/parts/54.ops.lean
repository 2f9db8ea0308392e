theorem eqvH_rf : ∀ (h : List AE), eqvH h h
  | [] => trivial
  | _ :: l => ⟨Or.inl rfl, eqvH_rf l⟩
theorem eqvH_of {h h2 : List AE} (e : h = h2) : eqvH h h2 := e ▸ eqvH_rf h
theorem eqv_cons {a b : AE} {l r : List AE} (h1 : eqvE a b) (h2 : eqvH l r) : eqvH (a :: l) (b :: r) := ⟨h1, h2⟩

theorem eqS {er : Nat → Int32} {im : Int32} {s : St} {t0 : Sp} {g0 h0 : Nat → Int32} {t1 : Sp} {g1 h1 : Nat → Int32} {tl : Nat} {tp : Nat → Int32} {wl : Nat} {wt : Nat → Int32} {wh mu : Int32} {J : St} {pt : Int32} {vK : Nat} {vk vm : Int32} {tn : Nat} {tr : Nat → Int32} {v1 : Value} {vk2 : Nat} {pl ft : Int32} {rk : Nat} {rf : Nat → Int32} {K : St} {m0 : Nat} {f0 k0 : Nat → Int32} {m1 : Nat} {f1 k1 : Nat → Int32} {tl2 : Nat} {tp2 : Nat → Int32} {wl2 : Nat} {wt2 sb : Nat → Int32} {zs : Nat → Nat} {sn : Nat → Nat → Int32} {dn : Nat} {df dk : Nat → Int32} {dm : Nat} {dg dl : Nat → Int32} {r : St} (he : ∀ z, z < 49 → z ≠ 6 → z ≠ 7 → r z = s z) : eqvH (Y71 er im s t0 g0 h0 t1 g1 h1 tl tp wl wt wh mu J pt vK vk vm tn tr v1 (.retAddr vk2) pl ft rk rf K m0 f0 k0 m1 f1 k1 tl2 tp2 wl2 wt2 sb zs sn dn df dk dm dg dl) (Y71 er im r t0 g0 h0 t1 g1 h1 tl tp wl wt wh mu J pt vK vk vm tn tr v1 (.retAddr vk2) pl ft rk rf K m0 f0 k0 m1 f1 k1 tl2 tp2 wl2 wt2 sb zs sn dn df dk dm dg dl) := by
  have ei : ∀ h, h < 8 → ∀ j, j < 5 → its r h j = its s h j := fun h hh j hj => he _ (by omega) (by omega) (by omega)
  have eb : ∀ h, h < 8 → bit r h = bit s h := fun h hh => by unfold bit; rw [ei h hh 4 (by omega)]
  have ep : pm r = pm s := by
    unfold pm pmN
    rw [eb 0 (by omega), eb 1 (by omega), eb 2 (by omega), eb 3 (by omega), eb 4 (by omega), eb 5 (by omega), eb 6 (by omega), eb 7 (by omega)]
  have e : RoundO 3 7 12 13 14 15 s = RoundO 3 7 12 13 14 15 r := by
    unfold RoundO
    rw [ep, he 8 (by omega) (by omega) (by omega), he 0 (by omega) (by omega) (by omega), he 1 (by omega) (by omega) (by omega), he 2 (by omega) (by omega) (by omega), he 3 (by omega) (by omega) (by omega), he 4 (by omega) (by omega) (by omega), he 5 (by omega) (by omega) (by omega)]
  have ea : ∀ j, j < 5 → eqvE (cI 8 (arr s j)) (cI 8 (arr r j)) := fun j hj => Or.inr ⟨8, _, _, rfl, rfl, fun h hh => (ei h hh j hj).symm⟩
  exact eqv_cons (Or.inl rfl) (eqv_cons (Or.inl rfl) (eqv_cons (Or.inl rfl) (eqv_cons (Or.inl rfl) (eqv_cons (Or.inl rfl) (eqv_cons (Or.inl rfl) (eqv_cons (Or.inl rfl) (eqv_cons (Or.inl rfl) (eqv_cons (Or.inl rfl) (eqv_cons (Or.inl rfl) (eqv_cons (Or.inl rfl) (eqv_cons (Or.inl e) (eqv_cons (ea 0 (by omega)) (eqv_cons (ea 1 (by omega)) (eqv_cons (ea 2 (by omega)) (eqv_cons (ea 3 (by omega)) (eqvH_rf _))))))))))))))))

/-- both sides tell one state, behind j calls -/
def JC (j : Nat) (im : Int32) (s : St) (t0 : Sp) (g0 : Nat → Int32) (t1 : Sp) (g1 : Nat → Int32) (tl : Nat) (tp : Nat → Int32) (wl : Nat) (wt : Nat → Int32) (tn : Nat) (v1 : Value) (K : St) (m0 : Nat) (f0 : Nat → Int32) (m1 : Nat) (f1 : Nat → Int32) (tl2 : Nat) (tp2 : Nat → Int32) (wl2 : Nat) (wt2 sb : Nat → Int32) (zs : Nat → Nat) (sn : Nat → Nat → Int32) (KK sz nu : Nat → Int32) : Prop :=
  JS s t0 g0 t1 g1 tl tp wl wt ∧ tn ≤ 30 ∧ (v1 = .ref 30 ∨ v1 = .ref 16) ∧ (∃ q : Nat, q ≤ j ∧ im = nI q) ∧ (m0 ≤ 60 ∧ m1 ≤ 60) ∧ (im = 0 ∨ ∃ u0 u1 : Sp, m0 = u0.length ∧ m1 = u1.length ∧ K = KK ∧ JS KK u0 f0 u1 f1 tl2 tp2 wl2 wt2) ∧ ShR zs sn sz nu ∧ (∀ k, k < 4 → widB (sb k))
def JI (j : Nat) (hx hm : List AE) : Prop := ∃ (er : Nat → Int32) (im : Int32) (s : St) (t0 : Sp) (g0 h0 : Nat → Int32) (t1 : Sp) (g1 h1 : Nat → Int32) (tl : Nat) (tp : Nat → Int32) (wl : Nat) (wt : Nat → Int32) (wh mu : Int32) (J : St) (pt : Int32) (vK : Nat) (vk vm : Int32) (tn : Nat) (tr : Nat → Int32) (v1 : Value) (vk2 : Nat) (pl ft : Int32) (rk : Nat) (rf : Nat → Int32) (K : St) (m0 : Nat) (f0 k0 : Nat → Int32) (m1 : Nat) (f1 k1 : Nat → Int32) (tl2 : Nat) (tp2 : Nat → Int32) (wl2 : Nat) (wt2 sb : Nat → Int32) (zs : Nat → Nat) (sn : Nat → Nat → Int32) (dn : Nat) (df dk : Nat → Int32) (dm : Nat) (dg dl KK be st na pi sz nu as' : Nat → Int32) (at' op sp us sk ip : Int32), eqvH hx (Y71 er im s t0 g0 h0 t1 g1 h1 tl tp wl wt wh mu J pt vK vk vm tn tr v1 (.retAddr vk2) pl ft rk rf K m0 f0 k0 m1 f1 k1 tl2 tp2 wl2 wt2 sb zs sn dn df dk dm dg dl) ∧ hm = MW s KK be er st na pi tr sb sz nu as' im at' op sp us (nI tn) sk ip ∧ JC j im s t0 g0 t1 g1 tl tp wl wt tn v1 K m0 f0 m1 f1 tl2 tp2 wl2 wt2 sb zs sn KK sz nu
/-- one call, on both sides: one answer, and again one state -/
def OpS (y : MethodName) (cc : ByteArray) (nL : Nat) (y2 : MethodName) (cc2 : ByteArray) (nL2 : Nat) (as : List Value) (hx hm : List AE) (j : Nat) : Prop := ∃ (v : Int32) (d d2 : Nat) (hc t : List AE) (QX QY : List AE → Prop), (hx = hc ++ t ∧ 0 < hc.length) ∧ d ≤ 50 ∧ d2 ≤ 50 ∧ AMet y cc nL (some .int) d 0 0 (.ref 0 :: as) hc (pI fun x h => x = v ∧ QX h) ∧ AMet y2 cc2 nL2 (some .int) d2 0 0 (.ref 0 :: as) hm (pI fun x h => x = v ∧ QY h) ∧ ∀ h h2 : List AE, QX h → QY h2 → JI (j + 1) (h ++ t) h2

theorem op_home (j : Nat) (hj : j ≤ 512) (er : Nat → Int32) (im : Int32) (s : St) (t0 : Sp) (g0 h0 : Nat → Int32) (t1 : Sp) (g1 h1 : Nat → Int32) (tl : Nat) (tp : Nat → Int32) (wl : Nat) (wt : Nat → Int32) (wh mu : Int32) (J : St) (pt : Int32) (vK : Nat) (vk vm : Int32) (tn : Nat) (tr : Nat → Int32) (v1 : Value) (vk2 : Nat) (pl ft : Int32) (rk : Nat) (rf : Nat → Int32) (K : St) (m0 : Nat) (f0 k0 : Nat → Int32) (m1 : Nat) (f1 k1 : Nat → Int32) (tl2 : Nat) (tp2 : Nat → Int32) (wl2 : Nat) (wt2 sb : Nat → Int32) (zs : Nat → Nat) (sn : Nat → Nat → Int32) (dn : Nat) (df dk : Nat → Int32) (dm : Nat) (dg dl KK be st na pi sz nu as' : Nat → Int32) (at' op sp us sk ip : Int32) (hC : JC j im s t0 g0 t1 g1 tl tp wl wt tn v1 K m0 f0 m1 f1 tl2 tp2 wl2 wt2 sb zs sn KK sz nu) (km : Int32) : OpS yX8_home cX8_home 2 yX9_home cX9_home 3 [.int km] (Y71 er im s t0 g0 h0 t1 g1 h1 tl tp wl wt wh mu J pt vK vk vm tn tr v1 (.retAddr vk2) pl ft rk rf K m0 f0 k0 m1 f1 k1 tl2 tp2 wl2 wt2 sb zs sn dn df dk dm dg dl) (MW s KK be er st na pi tr sb sz nu as' im at' op sp us (nI tn) sk ip) j := by
  obtain ⟨jS, jn, jv, ji, jm, jk, jR, jB⟩ := hC
  obtain ⟨w, ⟨T0, T1⟩, ⟨L0, L1⟩, ⟨a6, a60, aT⟩, ⟨b7, b24, bW⟩⟩ := id jS
  have ji' : ∃ q : Nat, q ≤ j + 1 ∧ im = nI q := by
    obtain ⟨q, q1, q2⟩ := ji
    exact ⟨q, by omega, q2⟩
  refine ⟨(homeF s er km).1, 1, 2, Y16 er im s t0 g0 h0 t1 g1 h1, List.drop 16 (Y71 er im s t0 g0 h0 t1 g1 h1 tl tp wl wt wh mu J pt vK vk vm tn tr v1 (.retAddr vk2) pl ft rk rf K m0 f0 k0 m1 f1 k1 tl2 tp2 wl2 wt2 sb zs sn dn df dk dm dg dl), _, _, ⟨rfl, Nat.zero_lt_succ _⟩, by omega, by omega, c_X8_home er im s t0 g0 h0 t1 g1 h1 km w, c_X9_home s KK be er st na pi tr sb sz nu as' im at' op sp us (nI tn) sk ip km w, fun h h2 q1 q2 => ?_⟩
  obtain rfl := q1
  obtain rfl := q2
  have js : JS (homeF s er km).2.1 t0 g0 t1 g1 tl tp wl wt := by
    rw [homeF]
    by_cases hc : 0 ≤ km ∧ km ≤ 69
    · rw [if_pos hc]
      by_cases h8 : s 8 = 8
      · rw [if_pos h8]; exact jS
      · rw [if_neg h8]
        have w1 := w.1
        have hlt : hn s < 8 := by
          rcases Nat.lt_or_ge (hn s) 8 with e | e
          · exact e
          · exact absurd (by rw [w.2.1, show hn s = 8 by omega]; rfl) h8
        exact jS.same (wf_ins w hlt hc) (by show inS km s 6 = s 6; unfold inS; rw [upd_n (by omega), upd_n (by omega), upd_n (by omega)]) (by show inS km s 7 = s 7; unfold inS; rw [upd_n (by omega), upd_n (by omega), upd_n (by omega)]) (fun z hz => by show inS km s z = s z; unfold inS; rw [upd_n (by omega), upd_n (by omega), upd_n (by omega)])
    · rw [if_neg hc]; exact jS
  refine ⟨(homeF s er km).2.2, im, (homeF s er km).2.1, t0, g0, h0, t1, g1, h1, tl, tp, wl, wt, wh, mu, J, pt, vK, vk, vm, tn, tr, v1, vk2, pl, ft, rk, rf, K, m0, f0, k0, m1, f1, k1, tl2, tp2, wl2, wt2, sb, zs, sn, dn, df, dk, dm, dg, dl, KK, be, st, na, pi, sz, nu, as', at', op, sp, us, sk, ip, eqvH_of rfl, rfl, ?_⟩
  exact ⟨js, jn, jv, ji', jm, jk, jR, jB⟩
theorem op_homeIs (j : Nat) (hj : j ≤ 512) (er : Nat → Int32) (im : Int32) (s : St) (t0 : Sp) (g0 h0 : Nat → Int32) (t1 : Sp) (g1 h1 : Nat → Int32) (tl : Nat) (tp : Nat → Int32) (wl : Nat) (wt : Nat → Int32) (wh mu : Int32) (J : St) (pt : Int32) (vK : Nat) (vk vm : Int32) (tn : Nat) (tr : Nat → Int32) (v1 : Value) (vk2 : Nat) (pl ft : Int32) (rk : Nat) (rf : Nat → Int32) (K : St) (m0 : Nat) (f0 k0 : Nat → Int32) (m1 : Nat) (f1 k1 : Nat → Int32) (tl2 : Nat) (tp2 : Nat → Int32) (wl2 : Nat) (wt2 sb : Nat → Int32) (zs : Nat → Nat) (sn : Nat → Nat → Int32) (dn : Nat) (df dk : Nat → Int32) (dm : Nat) (dg dl KK be st na pi sz nu as' : Nat → Int32) (at' op sp us sk ip : Int32) (hC : JC j im s t0 g0 t1 g1 tl tp wl wt tn v1 K m0 f0 m1 f1 tl2 tp2 wl2 wt2 sb zs sn KK sz nu) (h : Int32) (what : Int32) : OpS yX8_homeIs cX8_homeIs 4 yX9_homeIs cX9_homeIs 3 [.int h, .int what] (Y71 er im s t0 g0 h0 t1 g1 h1 tl tp wl wt wh mu J pt vK vk vm tn tr v1 (.retAddr vk2) pl ft rk rf K m0 f0 k0 m1 f1 k1 tl2 tp2 wl2 wt2 sb zs sn dn df dk dm dg dl) (MW s KK be er st na pi tr sb sz nu as' im at' op sp us (nI tn) sk ip) j := by
  obtain ⟨jS, jn, jv, ji, jm, jk, jR, jB⟩ := hC
  obtain ⟨w, ⟨T0, T1⟩, ⟨L0, L1⟩, ⟨a6, a60, aT⟩, ⟨b7, b24, bW⟩⟩ := id jS
  have ji' : ∃ q : Nat, q ≤ j + 1 ∧ im = nI q := by
    obtain ⟨q, q1, q2⟩ := ji
    exact ⟨q, by omega, q2⟩
  refine ⟨(homeIsF t0 t1 s er h what).1, 3, 4, Y16 er im s t0 g0 h0 t1 g1 h1, List.drop 16 (Y71 er im s t0 g0 h0 t1 g1 h1 tl tp wl wt wh mu J pt vK vk vm tn tr v1 (.retAddr vk2) pl ft rk rf K m0 f0 k0 m1 f1 k1 tl2 tp2 wl2 wt2 sb zs sn dn df dk dm dg dl), _, _, ⟨rfl, Nat.zero_lt_succ _⟩, by omega, by omega, c_X8_homeIs er im s t0 g0 h0 t1 g1 h1 h what w L0 L1, c_X9_homeIs s KK be er st na pi tr sb sz nu as' im at' op sp us (nI tn) sk ip h what t0 t1 w T0 T1, fun h h2 q1 q2 => ?_⟩
  obtain ⟨h0x, h1x, rfl⟩ := q1
  obtain ⟨nax, pix, rfl⟩ := q2
  have js : JS (homeIsF t0 t1 s er h what).2.1 t0 g0 t1 g1 tl tp wl wt := by
    unfold homeIsF
    repeat (first | exact jS | split)
  refine ⟨(homeIsF t0 t1 s er h what).2.2, im, (homeIsF t0 t1 s er h what).2.1, t0, g0, h0x, t1, g1, h1x, tl, tp, wl, wt, wh, mu, J, pt, vK, vk, vm, tn, tr, v1, vk2, pl, ft, rk, rf, K, m0, f0, k0, m1, f1, k1, tl2, tp2, wl2, wt2, sb, zs, sn, dn, df, dk, dm, dg, dl, KK, be, st, nax, pix, sz, nu, as', at', op, sp, us, sk, ip, eqvH_of rfl, rfl, ?_⟩
  exact ⟨js, jn, jv, ji', jm, jk, jR, jB⟩
theorem op_become (j : Nat) (hj : j ≤ 512) (er : Nat → Int32) (im : Int32) (s : St) (t0 : Sp) (g0 h0 : Nat → Int32) (t1 : Sp) (g1 h1 : Nat → Int32) (tl : Nat) (tp : Nat → Int32) (wl : Nat) (wt : Nat → Int32) (wh mu : Int32) (J : St) (pt : Int32) (vK : Nat) (vk vm : Int32) (tn : Nat) (tr : Nat → Int32) (v1 : Value) (vk2 : Nat) (pl ft : Int32) (rk : Nat) (rf : Nat → Int32) (K : St) (m0 : Nat) (f0 k0 : Nat → Int32) (m1 : Nat) (f1 k1 : Nat → Int32) (tl2 : Nat) (tp2 : Nat → Int32) (wl2 : Nat) (wt2 sb : Nat → Int32) (zs : Nat → Nat) (sn : Nat → Nat → Int32) (dn : Nat) (df dk : Nat → Int32) (dm : Nat) (dg dl KK be st na pi sz nu as' : Nat → Int32) (at' op sp us sk ip : Int32) (hC : JC j im s t0 g0 t1 g1 tl tp wl wt tn v1 K m0 f0 m1 f1 tl2 tp2 wl2 wt2 sb zs sn KK sz nu) (h : Int32) (km : Int32) : OpS yX8_become cX8_become 4 yX9_become cX9_become 4 [.int h, .int km] (Y71 er im s t0 g0 h0 t1 g1 h1 tl tp wl wt wh mu J pt vK vk vm tn tr v1 (.retAddr vk2) pl ft rk rf K m0 f0 k0 m1 f1 k1 tl2 tp2 wl2 wt2 sb zs sn dn df dk dm dg dl) (MW s KK be er st na pi tr sb sz nu as' im at' op sp us (nI tn) sk ip) j := by
  obtain ⟨jS, jn, jv, ji, jm, jk, jR, jB⟩ := hC
  obtain ⟨w, ⟨T0, T1⟩, ⟨L0, L1⟩, ⟨a6, a60, aT⟩, ⟨b7, b24, bW⟩⟩ := id jS
  have ji' : ∃ q : Nat, q ≤ j + 1 ∧ im = nI q := by
    obtain ⟨q, q1, q2⟩ := ji
    exact ⟨q, by omega, q2⟩
  refine ⟨(becomeF s er h km).1, 1, 2, Y16 er im s t0 g0 h0 t1 g1 h1, List.drop 16 (Y71 er im s t0 g0 h0 t1 g1 h1 tl tp wl wt wh mu J pt vK vk vm tn tr v1 (.retAddr vk2) pl ft rk rf K m0 f0 k0 m1 f1 k1 tl2 tp2 wl2 wt2 sb zs sn dn df dk dm dg dl), _, _, ⟨rfl, Nat.zero_lt_succ _⟩, by omega, by omega, c_X8_become er im s t0 g0 h0 t1 g1 h1 h km w, c_X9_become s KK be er st na pi tr sb sz nu as' im at' op sp us (nI tn) sk ip h km w, fun h h2 q1 q2 => ?_⟩
  obtain rfl := q1
  obtain rfl := q2
  have js : JS (becomeF s er h km).2.1 t0 g0 t1 g1 tl tp wl wt := by
    rw [becomeF]
    by_cases hc : (0 ≤ h ∧ h < s 8) ∧ (0 ≤ km ∧ km ≤ 69)
    · rw [if_pos hc]
      obtain ⟨h1, h2⟩ := hc
      obtain ⟨k, hk, rfl⟩ := iK (n := hn s) h1.1 (by rw [← w.2.1]; exact h1.2) (by have := w.1; omega)
      have ek : (nI k).toNatClampNeg = k := nI_clamp (by have := w.1; omega)
      rw [ek]
      have w1 := w.1
      obtain ⟨q, hq, rfl⟩ := iK2 (n := 69) h2.1 h2.2 (by omega)
      exact jS.same (wf_bec w hk ⟨q / 10, by omega, pk_div (d := 10) (by omega) (by omega) (by omega)⟩ ⟨q % 10, by omega, pk_rem (d := 10) (by omega) (by omega) (by omega)⟩) (by show upd (upd s _ _) _ _ 6 = _; rw [upd_n (by omega), upd_n (by omega)]) (by show upd (upd s _ _) _ _ 7 = _; rw [upd_n (by omega), upd_n (by omega)]) (fun z hz => by show upd (upd s _ _) _ _ z = _; rw [upd_n (by omega), upd_n (by omega)])
    · rw [if_neg hc]; exact jS
  refine ⟨(becomeF s er h km).2.2, im, (becomeF s er h km).2.1, t0, g0, h0, t1, g1, h1, tl, tp, wl, wt, wh, mu, J, pt, vK, vk, vm, tn, tr, v1, vk2, pl, ft, rk, rf, K, m0, f0, k0, m1, f1, k1, tl2, tp2, wl2, wt2, sb, zs, sn, dn, df, dk, dm, dg, dl, KK, be, st, na, pi, sz, nu, as', at', op, sp, us, sk, ip, eqvH_of rfl, rfl, ?_⟩
  exact ⟨js, jn, jv, ji', jm, jk, jR, jB⟩
theorem op_as (j : Nat) (hj : j ≤ 512) (er : Nat → Int32) (im : Int32) (s : St) (t0 : Sp) (g0 h0 : Nat → Int32) (t1 : Sp) (g1 h1 : Nat → Int32) (tl : Nat) (tp : Nat → Int32) (wl : Nat) (wt : Nat → Int32) (wh mu : Int32) (J : St) (pt : Int32) (vK : Nat) (vk vm : Int32) (tn : Nat) (tr : Nat → Int32) (v1 : Value) (vk2 : Nat) (pl ft : Int32) (rk : Nat) (rf : Nat → Int32) (K : St) (m0 : Nat) (f0 k0 : Nat → Int32) (m1 : Nat) (f1 k1 : Nat → Int32) (tl2 : Nat) (tp2 : Nat → Int32) (wl2 : Nat) (wt2 sb : Nat → Int32) (zs : Nat → Nat) (sn : Nat → Nat → Int32) (dn : Nat) (df dk : Nat → Int32) (dm : Nat) (dg dl KK be st na pi sz nu as' : Nat → Int32) (at' op sp us sk ip : Int32) (hC : JC j im s t0 g0 t1 g1 tl tp wl wt tn v1 K m0 f0 m1 f1 tl2 tp2 wl2 wt2 sb zs sn KK sz nu) (h : Int32) (kd : Int32) : OpS yX8_as cX8_as 3 yX9_as cX9_as 5 [.int h, .int kd] (Y71 er im s t0 g0 h0 t1 g1 h1 tl tp wl wt wh mu J pt vK vk vm tn tr v1 (.retAddr vk2) pl ft rk rf K m0 f0 k0 m1 f1 k1 tl2 tp2 wl2 wt2 sb zs sn dn df dk dm dg dl) (MW s KK be er st na pi tr sb sz nu as' im at' op sp us (nI tn) sk ip) j := by
  obtain ⟨jS, jn, jv, ji, jm, jk, jR, jB⟩ := hC
  obtain ⟨w, ⟨T0, T1⟩, ⟨L0, L1⟩, ⟨a6, a60, aT⟩, ⟨b7, b24, bW⟩⟩ := id jS
  have ji' : ∃ q : Nat, q ≤ j + 1 ∧ im = nI q := by
    obtain ⟨q, q1, q2⟩ := ji
    exact ⟨q, by omega, q2⟩
  refine ⟨(asF s er h kd).1, 1, 2, Y16 er im s t0 g0 h0 t1 g1 h1, List.drop 16 (Y71 er im s t0 g0 h0 t1 g1 h1 tl tp wl wt wh mu J pt vK vk vm tn tr v1 (.retAddr vk2) pl ft rk rf K m0 f0 k0 m1 f1 k1 tl2 tp2 wl2 wt2 sb zs sn dn df dk dm dg dl), _, _, ⟨rfl, Nat.zero_lt_succ _⟩, by omega, by omega, c_X8_as er im s t0 g0 h0 t1 g1 h1 h kd w, c_X9_as s KK be er st na pi tr sb sz nu as' im at' op sp us (nI tn) sk ip h kd w, fun h h2 q1 q2 => ?_⟩
  obtain rfl := q1
  obtain rfl := q2
  have js : JS (asF s er h kd).2.1 t0 g0 t1 g1 tl tp wl wt := by
    unfold asF
    repeat (first | exact jS | split)
  refine ⟨(asF s er h kd).2.2, im, (asF s er h kd).2.1, t0, g0, h0, t1, g1, h1, tl, tp, wl, wt, wh, mu, J, pt, vK, vk, vm, tn, tr, v1, vk2, pl, ft, rk, rf, K, m0, f0, k0, m1, f1, k1, tl2, tp2, wl2, wt2, sb, zs, sn, dn, df, dk, dm, dg, dl, KK, be, st, na, pi, sz, nu, as', at', op, sp, us, sk, ip, eqvH_of rfl, rfl, ?_⟩
  exact ⟨js, jn, jv, ji', jm, jk, jR, jB⟩
theorem op_past (j : Nat) (hj : j ≤ 512) (er : Nat → Int32) (im : Int32) (s : St) (t0 : Sp) (g0 h0 : Nat → Int32) (t1 : Sp) (g1 h1 : Nat → Int32) (tl : Nat) (tp : Nat → Int32) (wl : Nat) (wt : Nat → Int32) (wh mu : Int32) (J : St) (pt : Int32) (vK : Nat) (vk vm : Int32) (tn : Nat) (tr : Nat → Int32) (v1 : Value) (vk2 : Nat) (pl ft : Int32) (rk : Nat) (rf : Nat → Int32) (K : St) (m0 : Nat) (f0 k0 : Nat → Int32) (m1 : Nat) (f1 k1 : Nat → Int32) (tl2 : Nat) (tp2 : Nat → Int32) (wl2 : Nat) (wt2 sb : Nat → Int32) (zs : Nat → Nat) (sn : Nat → Nat → Int32) (dn : Nat) (df dk : Nat → Int32) (dm : Nat) (dg dl KK be st na pi sz nu as' : Nat → Int32) (at' op sp us sk ip : Int32) (hC : JC j im s t0 g0 t1 g1 tl tp wl wt tn v1 K m0 f0 m1 f1 tl2 tp2 wl2 wt2 sb zs sn KK sz nu) (h : Int32) (v : Int32) : OpS yX8_past cX8_past 4 yX9_past cX9_past 3 [.int h, .int v] (Y71 er im s t0 g0 h0 t1 g1 h1 tl tp wl wt wh mu J pt vK vk vm tn tr v1 (.retAddr vk2) pl ft rk rf K m0 f0 k0 m1 f1 k1 tl2 tp2 wl2 wt2 sb zs sn dn df dk dm dg dl) (MW s KK be er st na pi tr sb sz nu as' im at' op sp us (nI tn) sk ip) j := by
  obtain ⟨jS, jn, jv, ji, jm, jk, jR, jB⟩ := hC
  obtain ⟨w, ⟨T0, T1⟩, ⟨L0, L1⟩, ⟨a6, a60, aT⟩, ⟨b7, b24, bW⟩⟩ := id jS
  have ji' : ∃ q : Nat, q ≤ j + 1 ∧ im = nI q := by
    obtain ⟨q, q1, q2⟩ := ji
    exact ⟨q, by omega, q2⟩
  refine ⟨(pastF s er h v).1, 1, 2, Y16 er im s t0 g0 h0 t1 g1 h1, List.drop 16 (Y71 er im s t0 g0 h0 t1 g1 h1 tl tp wl wt wh mu J pt vK vk vm tn tr v1 (.retAddr vk2) pl ft rk rf K m0 f0 k0 m1 f1 k1 tl2 tp2 wl2 wt2 sb zs sn dn df dk dm dg dl), _, _, ⟨rfl, Nat.zero_lt_succ _⟩, by omega, by omega, c_X8_past er im s t0 g0 h0 t1 g1 h1 h v w, c_X9_past s KK be er st na pi tr sb sz nu as' im at' op sp us (nI tn) sk ip h v w, fun h h2 q1 q2 => ?_⟩
  obtain rfl := q1
  obtain rfl := q2
  have js : JS (pastF s er h v).2.1 t0 g0 t1 g1 tl tp wl wt := by
    rw [pastF]
    by_cases hc : (0 ≤ h ∧ h < s 8) ∧ (0 ≤ v ∧ v ≤ 1)
    · rw [if_pos hc]
      obtain ⟨h1, h2⟩ := hc
      obtain ⟨k, hk, rfl⟩ := iK (n := hn s) h1.1 (by rw [← w.2.1]; exact h1.2) (by have := w.1; omega)
      have ek : (nI k).toNatClampNeg = k := nI_clamp (by have := w.1; omega)
      rw [ek]
      have w1 := w.1
      obtain ⟨q, hq, rfl⟩ := iK2 (n := 1) h2.1 h2.2 (by omega)
      have h01 : nI q = 0 ∨ nI q = 1 := by
        rcases (show q = 0 ∨ q = 1 by omega) with rfl | rfl
        · exact Or.inl rfl
        · exact Or.inr rfl
      exact jS.same (wf_pst w hk h01) (show upd s (9 + 5 * k + 4) (nI q) 6 = s 6 from upd_n (by omega)) (show upd s (9 + 5 * k + 4) (nI q) 7 = s 7 from upd_n (by omega)) (fun z hz => show upd s (9 + 5 * k + 4) (nI q) z = s z from upd_n (by omega))
    · rw [if_neg hc]; exact jS
  refine ⟨(pastF s er h v).2.2, im, (pastF s er h v).2.1, t0, g0, h0, t1, g1, h1, tl, tp, wl, wt, wh, mu, J, pt, vK, vk, vm, tn, tr, v1, vk2, pl, ft, rk, rf, K, m0, f0, k0, m1, f1, k1, tl2, tp2, wl2, wt2, sb, zs, sn, dn, df, dk, dm, dg, dl, KK, be, st, na, pi, sz, nu, as', at', op, sp, us, sk, ip, eqvH_of rfl, rfl, ?_⟩
  exact ⟨js, jn, jv, ji', jm, jk, jR, jB⟩
theorem op_goes (j : Nat) (hj : j ≤ 512) (er : Nat → Int32) (im : Int32) (s : St) (t0 : Sp) (g0 h0 : Nat → Int32) (t1 : Sp) (g1 h1 : Nat → Int32) (tl : Nat) (tp : Nat → Int32) (wl : Nat) (wt : Nat → Int32) (wh mu : Int32) (J : St) (pt : Int32) (vK : Nat) (vk vm : Int32) (tn : Nat) (tr : Nat → Int32) (v1 : Value) (vk2 : Nat) (pl ft : Int32) (rk : Nat) (rf : Nat → Int32) (K : St) (m0 : Nat) (f0 k0 : Nat → Int32) (m1 : Nat) (f1 k1 : Nat → Int32) (tl2 : Nat) (tp2 : Nat → Int32) (wl2 : Nat) (wt2 sb : Nat → Int32) (zs : Nat → Nat) (sn : Nat → Nat → Int32) (dn : Nat) (df dk : Nat → Int32) (dm : Nat) (dg dl KK be st na pi sz nu as' : Nat → Int32) (at' op sp us sk ip : Int32) (hC : JC j im s t0 g0 t1 g1 tl tp wl wt tn v1 K m0 f0 m1 f1 tl2 tp2 wl2 wt2 sb zs sn KK sz nu) (h : Int32) : OpS yX8_goes cX8_goes 3 yX9_goes cX9_goes 2 [.int h] (Y71 er im s t0 g0 h0 t1 g1 h1 tl tp wl wt wh mu J pt vK vk vm tn tr v1 (.retAddr vk2) pl ft rk rf K m0 f0 k0 m1 f1 k1 tl2 tp2 wl2 wt2 sb zs sn dn df dk dm dg dl) (MW s KK be er st na pi tr sb sz nu as' im at' op sp us (nI tn) sk ip) j := by
  obtain ⟨jS, jn, jv, ji, jm, jk, jR, jB⟩ := hC
  obtain ⟨w, ⟨T0, T1⟩, ⟨L0, L1⟩, ⟨a6, a60, aT⟩, ⟨b7, b24, bW⟩⟩ := id jS
  have ji' : ∃ q : Nat, q ≤ j + 1 ∧ im = nI q := by
    obtain ⟨q, q1, q2⟩ := ji
    exact ⟨q, by omega, q2⟩
  refine ⟨(goesF s er h).1, 1, 2, Y16 er im s t0 g0 h0 t1 g1 h1, List.drop 16 (Y71 er im s t0 g0 h0 t1 g1 h1 tl tp wl wt wh mu J pt vK vk vm tn tr v1 (.retAddr vk2) pl ft rk rf K m0 f0 k0 m1 f1 k1 tl2 tp2 wl2 wt2 sb zs sn dn df dk dm dg dl), _, _, ⟨rfl, Nat.zero_lt_succ _⟩, by omega, by omega, c_X8_goes er im s t0 g0 h0 t1 g1 h1 h , c_X9_goes s KK be er st na pi tr sb sz nu as' im at' op sp us (nI tn) sk ip h w, fun h h2 q1 q2 => ?_⟩
  obtain rfl := q1
  obtain rfl := q2
  have js : JS (goesF s er h).2.1 t0 g0 t1 g1 tl tp wl wt := by
    rw [goesF]
    by_cases hc : 0 ≤ h ∧ h < s 8
    · rw [if_pos hc]
      obtain ⟨k, hk, rfl⟩ := iK (n := hn s) hc.1 (by rw [← w.2.1]; exact hc.2) (by have := w.1; omega)
      exact jS.same (wf_4 w hk) (show upd s 4 (nI k) 6 = s 6 from upd_n (by omega)) (show upd s 4 (nI k) 7 = s 7 from upd_n (by omega)) (fun z hz => show upd s 4 (nI k) z = s z from upd_n (by omega))
    · rw [if_neg hc]; exact jS
  refine ⟨(goesF s er h).2.2, im, (goesF s er h).2.1, t0, g0, h0, t1, g1, h1, tl, tp, wl, wt, wh, mu, J, pt, vK, vk, vm, tn, tr, v1, vk2, pl, ft, rk, rf, K, m0, f0, k0, m1, f1, k1, tl2, tp2, wl2, wt2, sb, zs, sn, dn, df, dk, dm, dg, dl, KK, be, st, na, pi, sz, nu, as', at', op, sp, us, sk, ip, eqvH_of rfl, rfl, ?_⟩
  exact ⟨js, jn, jv, ji', jm, jk, jR, jB⟩
theorem op_hears (j : Nat) (hj : j ≤ 512) (er : Nat → Int32) (im : Int32) (s : St) (t0 : Sp) (g0 h0 : Nat → Int32) (t1 : Sp) (g1 h1 : Nat → Int32) (tl : Nat) (tp : Nat → Int32) (wl : Nat) (wt : Nat → Int32) (wh mu : Int32) (J : St) (pt : Int32) (vK : Nat) (vk vm : Int32) (tn : Nat) (tr : Nat → Int32) (v1 : Value) (vk2 : Nat) (pl ft : Int32) (rk : Nat) (rf : Nat → Int32) (K : St) (m0 : Nat) (f0 k0 : Nat → Int32) (m1 : Nat) (f1 k1 : Nat → Int32) (tl2 : Nat) (tp2 : Nat → Int32) (wl2 : Nat) (wt2 sb : Nat → Int32) (zs : Nat → Nat) (sn : Nat → Nat → Int32) (dn : Nat) (df dk : Nat → Int32) (dm : Nat) (dg dl KK be st na pi sz nu as' : Nat → Int32) (at' op sp us sk ip : Int32) (hC : JC j im s t0 g0 t1 g1 tl tp wl wt tn v1 K m0 f0 m1 f1 tl2 tp2 wl2 wt2 sb zs sn KK sz nu) (h : Int32) (v : Int32) : OpS yX8_hears cX8_hears 4 yX9_hears cX9_hears 3 [.int h, .int v] (Y71 er im s t0 g0 h0 t1 g1 h1 tl tp wl wt wh mu J pt vK vk vm tn tr v1 (.retAddr vk2) pl ft rk rf K m0 f0 k0 m1 f1 k1 tl2 tp2 wl2 wt2 sb zs sn dn df dk dm dg dl) (MW s KK be er st na pi tr sb sz nu as' im at' op sp us (nI tn) sk ip) j := by
  obtain ⟨jS, jn, jv, ji, jm, jk, jR, jB⟩ := hC
  obtain ⟨w, ⟨T0, T1⟩, ⟨L0, L1⟩, ⟨a6, a60, aT⟩, ⟨b7, b24, bW⟩⟩ := id jS
  have ji' : ∃ q : Nat, q ≤ j + 1 ∧ im = nI q := by
    obtain ⟨q, q1, q2⟩ := ji
    exact ⟨q, by omega, q2⟩
  refine ⟨(hearsF s er h v).1, 1, 2, Y16 er im s t0 g0 h0 t1 g1 h1, List.drop 16 (Y71 er im s t0 g0 h0 t1 g1 h1 tl tp wl wt wh mu J pt vK vk vm tn tr v1 (.retAddr vk2) pl ft rk rf K m0 f0 k0 m1 f1 k1 tl2 tp2 wl2 wt2 sb zs sn dn df dk dm dg dl), _, _, ⟨rfl, Nat.zero_lt_succ _⟩, by omega, by omega, c_X8_hears er im s t0 g0 h0 t1 g1 h1 h v w, c_X9_hears s KK be er st na pi tr sb sz nu as' im at' op sp us (nI tn) sk ip h v w, fun h h2 q1 q2 => ?_⟩
  obtain rfl := q1
  obtain rfl := q2
  have js : JS (hearsF s er h v).2.1 t0 g0 t1 g1 tl tp wl wt := by
    rw [hearsF]
    by_cases hc : (0 ≤ h ∧ h < s 8) ∧ (0 ≤ v ∧ v ≤ 9999)
    · rw [if_pos hc]
      obtain ⟨h1, h2⟩ := hc
      obtain ⟨k, hk, rfl⟩ := iK (n := hn s) h1.1 (by rw [← w.2.1]; exact h1.2) (by have := w.1; omega)
      have ek : (nI k).toNatClampNeg = k := nI_clamp (by have := w.1; omega)
      rw [ek]
      have w1 := w.1
      exact jS.same (wf_hi (Or.inl rfl) (iK2 (n := 9999) h2.1 h2.2 (by omega)) hk w) (show upd s (9 + 5 * k + 2) v 6 = s 6 from upd_n (by omega)) (show upd s (9 + 5 * k + 2) v 7 = s 7 from upd_n (by omega)) (fun z hz => show upd s (9 + 5 * k + 2) v z = s z from upd_n (by omega))
    · rw [if_neg hc]; exact jS
  refine ⟨(hearsF s er h v).2.2, im, (hearsF s er h v).2.1, t0, g0, h0, t1, g1, h1, tl, tp, wl, wt, wh, mu, J, pt, vK, vk, vm, tn, tr, v1, vk2, pl, ft, rk, rf, K, m0, f0, k0, m1, f1, k1, tl2, tp2, wl2, wt2, sb, zs, sn, dn, df, dk, dm, dg, dl, KK, be, st, na, pi, sz, nu, as', at', op, sp, us, sk, ip, eqvH_of rfl, rfl, ?_⟩
  exact ⟨js, jn, jv, ji', jm, jk, jR, jB⟩
theorem op_day (j : Nat) (hj : j ≤ 512) (er : Nat → Int32) (im : Int32) (s : St) (t0 : Sp) (g0 h0 : Nat → Int32) (t1 : Sp) (g1 h1 : Nat → Int32) (tl : Nat) (tp : Nat → Int32) (wl : Nat) (wt : Nat → Int32) (wh mu : Int32) (J : St) (pt : Int32) (vK : Nat) (vk vm : Int32) (tn : Nat) (tr : Nat → Int32) (v1 : Value) (vk2 : Nat) (pl ft : Int32) (rk : Nat) (rf : Nat → Int32) (K : St) (m0 : Nat) (f0 k0 : Nat → Int32) (m1 : Nat) (f1 k1 : Nat → Int32) (tl2 : Nat) (tp2 : Nat → Int32) (wl2 : Nat) (wt2 sb : Nat → Int32) (zs : Nat → Nat) (sn : Nat → Nat → Int32) (dn : Nat) (df dk : Nat → Int32) (dm : Nat) (dg dl KK be st na pi sz nu as' : Nat → Int32) (at' op sp us sk ip : Int32) (hC : JC j im s t0 g0 t1 g1 tl tp wl wt tn v1 K m0 f0 m1 f1 tl2 tp2 wl2 wt2 sb zs sn KK sz nu) (v : Int32) : OpS yX8_day cX8_day 3 yX9_day cX9_day 2 [.int v] (Y71 er im s t0 g0 h0 t1 g1 h1 tl tp wl wt wh mu J pt vK vk vm tn tr v1 (.retAddr vk2) pl ft rk rf K m0 f0 k0 m1 f1 k1 tl2 tp2 wl2 wt2 sb zs sn dn df dk dm dg dl) (MW s KK be er st na pi tr sb sz nu as' im at' op sp us (nI tn) sk ip) j := by
  obtain ⟨jS, jn, jv, ji, jm, jk, jR, jB⟩ := hC
  obtain ⟨w, ⟨T0, T1⟩, ⟨L0, L1⟩, ⟨a6, a60, aT⟩, ⟨b7, b24, bW⟩⟩ := id jS
  have ji' : ∃ q : Nat, q ≤ j + 1 ∧ im = nI q := by
    obtain ⟨q, q1, q2⟩ := ji
    exact ⟨q, by omega, q2⟩
  refine ⟨(dayF' s er v).1, 1, 2, Y16 er im s t0 g0 h0 t1 g1 h1, List.drop 16 (Y71 er im s t0 g0 h0 t1 g1 h1 tl tp wl wt wh mu J pt vK vk vm tn tr v1 (.retAddr vk2) pl ft rk rf K m0 f0 k0 m1 f1 k1 tl2 tp2 wl2 wt2 sb zs sn dn df dk dm dg dl), _, _, ⟨rfl, Nat.zero_lt_succ _⟩, by omega, by omega, c_X8_day er im s t0 g0 h0 t1 g1 h1 v , c_X9_day s KK be er st na pi tr sb sz nu as' im at' op sp us (nI tn) sk ip v , fun h h2 q1 q2 => ?_⟩
  obtain rfl := q1
  obtain rfl := q2
  have js : JS (dayF' s er v).2.1 t0 g0 t1 g1 tl tp wl wt := by
    rw [dayF']
    by_cases hc : 0 ≤ v ∧ v ≤ 9999
    · rw [if_pos hc]
      exact jS.same (wf_lo (Or.inl rfl) w) (show upd s 0 v 6 = s 6 from upd_n (by omega)) (show upd s 0 v 7 = s 7 from upd_n (by omega)) (fun z hz => show upd s 0 v z = s z from upd_n (by omega))
    · rw [if_neg hc]; exact jS
  refine ⟨(dayF' s er v).2.2, im, (dayF' s er v).2.1, t0, g0, h0, t1, g1, h1, tl, tp, wl, wt, wh, mu, J, pt, vK, vk, vm, tn, tr, v1, vk2, pl, ft, rk, rf, K, m0, f0, k0, m1, f1, k1, tl2, tp2, wl2, wt2, sb, zs, sn, dn, df, dk, dm, dg, dl, KK, be, st, na, pi, sz, nu, as', at', op, sp, us, sk, ip, eqvH_of rfl, rfl, ?_⟩
  exact ⟨js, jn, jv, ji', jm, jk, jR, jB⟩
theorem op_seed (j : Nat) (hj : j ≤ 512) (er : Nat → Int32) (im : Int32) (s : St) (t0 : Sp) (g0 h0 : Nat → Int32) (t1 : Sp) (g1 h1 : Nat → Int32) (tl : Nat) (tp : Nat → Int32) (wl : Nat) (wt : Nat → Int32) (wh mu : Int32) (J : St) (pt : Int32) (vK : Nat) (vk vm : Int32) (tn : Nat) (tr : Nat → Int32) (v1 : Value) (vk2 : Nat) (pl ft : Int32) (rk : Nat) (rf : Nat → Int32) (K : St) (m0 : Nat) (f0 k0 : Nat → Int32) (m1 : Nat) (f1 k1 : Nat → Int32) (tl2 : Nat) (tp2 : Nat → Int32) (wl2 : Nat) (wt2 sb : Nat → Int32) (zs : Nat → Nat) (sn : Nat → Nat → Int32) (dn : Nat) (df dk : Nat → Int32) (dm : Nat) (dg dl KK be st na pi sz nu as' : Nat → Int32) (at' op sp us sk ip : Int32) (hC : JC j im s t0 g0 t1 g1 tl tp wl wt tn v1 K m0 f0 m1 f1 tl2 tp2 wl2 wt2 sb zs sn KK sz nu) (v : Int32) : OpS yX8_seed cX8_seed 3 yX9_seed cX9_seed 2 [.int v] (Y71 er im s t0 g0 h0 t1 g1 h1 tl tp wl wt wh mu J pt vK vk vm tn tr v1 (.retAddr vk2) pl ft rk rf K m0 f0 k0 m1 f1 k1 tl2 tp2 wl2 wt2 sb zs sn dn df dk dm dg dl) (MW s KK be er st na pi tr sb sz nu as' im at' op sp us (nI tn) sk ip) j := by
  obtain ⟨jS, jn, jv, ji, jm, jk, jR, jB⟩ := hC
  obtain ⟨w, ⟨T0, T1⟩, ⟨L0, L1⟩, ⟨a6, a60, aT⟩, ⟨b7, b24, bW⟩⟩ := id jS
  have ji' : ∃ q : Nat, q ≤ j + 1 ∧ im = nI q := by
    obtain ⟨q, q1, q2⟩ := ji
    exact ⟨q, by omega, q2⟩
  refine ⟨(seedF s er v).1, 0, 2, Y16 er im s t0 g0 h0 t1 g1 h1, List.drop 16 (Y71 er im s t0 g0 h0 t1 g1 h1 tl tp wl wt wh mu J pt vK vk vm tn tr v1 (.retAddr vk2) pl ft rk rf K m0 f0 k0 m1 f1 k1 tl2 tp2 wl2 wt2 sb zs sn dn df dk dm dg dl), _, _, ⟨rfl, Nat.zero_lt_succ _⟩, by omega, by omega, c_X8_seed er im s t0 g0 h0 t1 g1 h1 v , c_X9_seed s KK be er st na pi tr sb sz nu as' im at' op sp us (nI tn) sk ip v , fun h h2 q1 q2 => ?_⟩
  obtain rfl := q1
  obtain rfl := q2
  have js : JS (seedF s er v).2.1 t0 g0 t1 g1 tl tp wl wt := by
    rw [seedF]
    exact jS.same (wf_lo (Or.inr (Or.inr (Or.inl rfl))) w) (show upd s 5 v 6 = s 6 from upd_n (by omega)) (show upd s 5 v 7 = s 7 from upd_n (by omega)) (fun z hz => show upd s 5 v z = s z from upd_n (by omega))
  refine ⟨(seedF s er v).2.2, im, (seedF s er v).2.1, t0, g0, h0, t1, g1, h1, tl, tp, wl, wt, wh, mu, J, pt, vK, vk, vm, tn, tr, v1, vk2, pl, ft, rk, rf, K, m0, f0, k0, m1, f1, k1, tl2, tp2, wl2, wt2, sb, zs, sn, dn, df, dk, dm, dg, dl, KK, be, st, na, pi, sz, nu, as', at', op, sp, us, sk, ip, eqvH_of rfl, rfl, ?_⟩
  exact ⟨js, jn, jv, ji', jm, jk, jR, jB⟩
theorem op_set (j : Nat) (hj : j ≤ 512) (er : Nat → Int32) (im : Int32) (s : St) (t0 : Sp) (g0 h0 : Nat → Int32) (t1 : Sp) (g1 h1 : Nat → Int32) (tl : Nat) (tp : Nat → Int32) (wl : Nat) (wt : Nat → Int32) (wh mu : Int32) (J : St) (pt : Int32) (vK : Nat) (vk vm : Int32) (tn : Nat) (tr : Nat → Int32) (v1 : Value) (vk2 : Nat) (pl ft : Int32) (rk : Nat) (rf : Nat → Int32) (K : St) (m0 : Nat) (f0 k0 : Nat → Int32) (m1 : Nat) (f1 k1 : Nat → Int32) (tl2 : Nat) (tp2 : Nat → Int32) (wl2 : Nat) (wt2 sb : Nat → Int32) (zs : Nat → Nat) (sn : Nat → Nat → Int32) (dn : Nat) (df dk : Nat → Int32) (dm : Nat) (dg dl KK be st na pi sz nu as' : Nat → Int32) (at' op sp us sk ip : Int32) (hC : JC j im s t0 g0 t1 g1 tl tp wl wt tn v1 K m0 f0 m1 f1 tl2 tp2 wl2 wt2 sb zs sn KK sz nu) (what : Int32) (v : Int32) : OpS yX8_set cX8_set 3 yX9_set cX9_set 4 [.int what, .int v] (Y71 er im s t0 g0 h0 t1 g1 h1 tl tp wl wt wh mu J pt vK vk vm tn tr v1 (.retAddr vk2) pl ft rk rf K m0 f0 k0 m1 f1 k1 tl2 tp2 wl2 wt2 sb zs sn dn df dk dm dg dl) (MW s KK be er st na pi tr sb sz nu as' im at' op sp us (nI tn) sk ip) j := by
  obtain ⟨jS, jn, jv, ji, jm, jk, jR, jB⟩ := hC
  obtain ⟨w, ⟨T0, T1⟩, ⟨L0, L1⟩, ⟨a6, a60, aT⟩, ⟨b7, b24, bW⟩⟩ := id jS
  have ji' : ∃ q : Nat, q ≤ j + 1 ∧ im = nI q := by
    obtain ⟨q, q1, q2⟩ := ji
    exact ⟨q, by omega, q2⟩
  refine ⟨(setF s er what v).1, 2, 2, Y16 er im s t0 g0 h0 t1 g1 h1, List.drop 16 (Y71 er im s t0 g0 h0 t1 g1 h1 tl tp wl wt wh mu J pt vK vk vm tn tr v1 (.retAddr vk2) pl ft rk rf K m0 f0 k0 m1 f1 k1 tl2 tp2 wl2 wt2 sb zs sn dn df dk dm dg dl), _, _, ⟨rfl, Nat.zero_lt_succ _⟩, by omega, by omega, c_X8_set er im s t0 g0 h0 t1 g1 h1 what v , c_X9_set s KK be er st na pi tr sb sz nu as' im at' op sp us (nI tn) sk ip what v , fun h h2 q1 q2 => ?_⟩
  obtain rfl := q1
  obtain rfl := q2
  have js : JS (setF s er what v).2.1 t0 g0 t1 g1 tl tp wl wt := by
    by_cases hw : 0 ≤ what ∧ what ≤ 2
    · obtain ⟨k, hk, rfl⟩ := iK2 (n := 2) hw.1 hw.2 (by omega)
      rcases (show k = 0 ∨ k = 1 ∨ k = 2 by omega) with rfl | rfl | rfl
      · rw [set_0]
        by_cases hc : 0 ≤ v ∧ v ≤ 99
        · rw [if_pos hc]
          exact jS.same (wf_lo (Or.inr (Or.inl rfl)) w) (show upd s 1 v 6 = s 6 from upd_n (by omega)) (show upd s 1 v 7 = s 7 from upd_n (by omega)) (fun z hz => show upd s 1 v z = s z from upd_n (by omega))
        · rw [if_neg hc]; exact jS
      · rw [set_1]
        by_cases hc : 0 ≤ v ∧ v ≤ 99
        · rw [if_pos hc]
          exact jS.same (wf_2 w (iK2 (n := 99) hc.1 hc.2 (by omega))) (show upd s 2 v 6 = s 6 from upd_n (by omega)) (show upd s 2 v 7 = s 7 from upd_n (by omega)) (fun z hz => show upd s 2 v z = s z from upd_n (by omega))
        · rw [if_neg hc]; exact jS
      · rw [set_2]
        by_cases hc : 1 ≤ v ∧ v ≤ 40
        · rw [if_pos hc]
          obtain ⟨q, hq, rfl⟩ := iK2 (n := 40) (Int32.le_trans (show (0 : Int32) ≤ 1 by decide) hc.1) hc.2 (by omega)
          have hq1 : 1 ≤ q := (nI_leI (a := 1) (by omega) (by omega)).mp hc.1
          exact jS.same (wf_3 w ⟨q, hq1, hq, rfl⟩) (show upd s 3 (nI q) 6 = s 6 from upd_n (by omega)) (show upd s 3 (nI q) 7 = s 7 from upd_n (by omega)) (fun z hz => show upd s 3 (nI q) z = s z from upd_n (by omega))
        · rw [if_neg hc]; exact jS
    · rw [setF, if_neg (fun z => hw z.1)]; exact jS
  refine ⟨(setF s er what v).2.2, im, (setF s er what v).2.1, t0, g0, h0, t1, g1, h1, tl, tp, wl, wt, wh, mu, J, pt, vK, vk, vm, tn, tr, v1, vk2, pl, ft, rk, rf, K, m0, f0, k0, m1, f1, k1, tl2, tp2, wl2, wt2, sb, zs, sn, dn, df, dk, dm, dg, dl, KK, be, st, na, pi, sz, nu, as', at', op, sp, us, sk, ip, eqvH_of rfl, rfl, ?_⟩
  exact ⟨js, jn, jv, ji', jm, jk, jR, jB⟩
theorem op_law (j : Nat) (hj : j ≤ 512) (er : Nat → Int32) (im : Int32) (s : St) (t0 : Sp) (g0 h0 : Nat → Int32) (t1 : Sp) (g1 h1 : Nat → Int32) (tl : Nat) (tp : Nat → Int32) (wl : Nat) (wt : Nat → Int32) (wh mu : Int32) (J : St) (pt : Int32) (vK : Nat) (vk vm : Int32) (tn : Nat) (tr : Nat → Int32) (v1 : Value) (vk2 : Nat) (pl ft : Int32) (rk : Nat) (rf : Nat → Int32) (K : St) (m0 : Nat) (f0 k0 : Nat → Int32) (m1 : Nat) (f1 k1 : Nat → Int32) (tl2 : Nat) (tp2 : Nat → Int32) (wl2 : Nat) (wt2 sb : Nat → Int32) (zs : Nat → Nat) (sn : Nat → Nat → Int32) (dn : Nat) (df dk : Nat → Int32) (dm : Nat) (dg dl KK be st na pi sz nu as' : Nat → Int32) (at' op sp us sk ip : Int32) (hC : JC j im s t0 g0 t1 g1 tl tp wl wt tn v1 K m0 f0 m1 f1 tl2 tp2 wl2 wt2 sb zs sn KK sz nu) (u : Int32) (a : Int32) (b : Int32) (c : Int32) : OpS yX8_law cX8_law 5 yX9_law cX9_law 5 [.int u, .int a, .int b, .int c] (Y71 er im s t0 g0 h0 t1 g1 h1 tl tp wl wt wh mu J pt vK vk vm tn tr v1 (.retAddr vk2) pl ft rk rf K m0 f0 k0 m1 f1 k1 tl2 tp2 wl2 wt2 sb zs sn dn df dk dm dg dl) (MW s KK be er st na pi tr sb sz nu as' im at' op sp us (nI tn) sk ip) j := by
  obtain ⟨jS, jn, jv, ji, jm, jk, jR, jB⟩ := hC
  obtain ⟨w, ⟨T0, T1⟩, ⟨L0, L1⟩, ⟨a6, a60, aT⟩, ⟨b7, b24, bW⟩⟩ := id jS
  have ji' : ∃ q : Nat, q ≤ j + 1 ∧ im = nI q := by
    obtain ⟨q, q1, q2⟩ := ji
    exact ⟨q, by omega, q2⟩
  refine ⟨(lawF t0 t1 s er u a b c).1, 2, 3, Y16 er im s t0 g0 h0 t1 g1 h1, List.drop 16 (Y71 er im s t0 g0 h0 t1 g1 h1 tl tp wl wt wh mu J pt vK vk vm tn tr v1 (.retAddr vk2) pl ft rk rf K m0 f0 k0 m1 f1 k1 tl2 tp2 wl2 wt2 sb zs sn dn df dk dm dg dl), _, _, ⟨rfl, Nat.zero_lt_succ _⟩, by omega, by omega, c_X8_law er im s t0 g0 h0 t1 g1 h1 u a b c L0 L1, c_X9_law s KK be er st na pi tr sb sz nu as' im at' op sp us (nI tn) sk ip u a b c t0 t1 T0 T1, fun h h2 q1 q2 => ?_⟩
  obtain ⟨h0x, h1x, rfl⟩ := q1
  obtain ⟨nax, pix, rfl⟩ := q2
  have js : JS (lawF t0 t1 s er u a b c).2.1 t0 g0 t1 g1 tl tp wl wt := by
    unfold lawF
    repeat (first | exact jS | split)
  refine ⟨(lawF t0 t1 s er u a b c).2.2, im, (lawF t0 t1 s er u a b c).2.1, t0, g0, h0x, t1, g1, h1x, tl, tp, wl, wt, wh, mu, J, pt, vK, vk, vm, tn, tr, v1, vk2, pl, ft, rk, rf, K, m0, f0, k0, m1, f1, k1, tl2, tp2, wl2, wt2, sb, zs, sn, dn, df, dk, dm, dg, dl, KK, be, st, nax, pix, sz, nu, as', at', op, sp, us, sk, ip, eqvH_of rfl, rfl, ?_⟩
  exact ⟨js, jn, jv, ji', jm, jk, jR, jB⟩
theorem op_days (j : Nat) (hj : j ≤ 512) (er : Nat → Int32) (im : Int32) (s : St) (t0 : Sp) (g0 h0 : Nat → Int32) (t1 : Sp) (g1 h1 : Nat → Int32) (tl : Nat) (tp : Nat → Int32) (wl : Nat) (wt : Nat → Int32) (wh mu : Int32) (J : St) (pt : Int32) (vK : Nat) (vk vm : Int32) (tn : Nat) (tr : Nat → Int32) (v1 : Value) (vk2 : Nat) (pl ft : Int32) (rk : Nat) (rf : Nat → Int32) (K : St) (m0 : Nat) (f0 k0 : Nat → Int32) (m1 : Nat) (f1 k1 : Nat → Int32) (tl2 : Nat) (tp2 : Nat → Int32) (wl2 : Nat) (wt2 sb : Nat → Int32) (zs : Nat → Nat) (sn : Nat → Nat → Int32) (dn : Nat) (df dk : Nat → Int32) (dm : Nat) (dg dl KK be st na pi sz nu as' : Nat → Int32) (at' op sp us sk ip : Int32) (hC : JC j im s t0 g0 t1 g1 tl tp wl wt tn v1 K m0 f0 m1 f1 tl2 tp2 wl2 wt2 sb zs sn KK sz nu) (n : Int32) : OpS yX8_days cX8_days 2 yX9_days cX9_days 2 [.int n] (Y71 er im s t0 g0 h0 t1 g1 h1 tl tp wl wt wh mu J pt vK vk vm tn tr v1 (.retAddr vk2) pl ft rk rf K m0 f0 k0 m1 f1 k1 tl2 tp2 wl2 wt2 sb zs sn dn df dk dm dg dl) (MW s KK be er st na pi tr sb sz nu as' im at' op sp us (nI tn) sk ip) j := by
  obtain ⟨jS, jn, jv, ji, jm, jk, jR, jB⟩ := hC
  obtain ⟨w, ⟨T0, T1⟩, ⟨L0, L1⟩, ⟨a6, a60, aT⟩, ⟨b7, b24, bW⟩⟩ := id jS
  have ji' : ∃ q : Nat, q ≤ j + 1 ∧ im = nI q := by
    obtain ⟨q, q1, q2⟩ := ji
    exact ⟨q, by omega, q2⟩
  refine ⟨(daysF t0 t1 s er n).1, 5, 6, Y16 er im s t0 g0 h0 t1 g1 h1, List.drop 16 (Y71 er im s t0 g0 h0 t1 g1 h1 tl tp wl wt wh mu J pt vK vk vm tn tr v1 (.retAddr vk2) pl ft rk rf K m0 f0 k0 m1 f1 k1 tl2 tp2 wl2 wt2 sb zs sn dn df dk dm dg dl), _, _, ⟨rfl, Nat.zero_lt_succ _⟩, by omega, by omega, c_X8_days er im s t0 g0 h0 t1 g1 h1 n w L0 L1, c_X9_days s KK be er st na pi tr sb sz nu as' im at' op sp us (nI tn) sk ip n t0 t1 w T0 T1, fun h h2 q1 q2 => ?_⟩
  obtain ⟨h0x, h1x, rfl⟩ := q1
  obtain ⟨nax, pix, rfl⟩ := q2
  have js : JS (daysF t0 t1 s er n).2.1 t0 g0 t1 g1 tl tp wl wt := by
    unfold daysF
    split
    · split
      · exact jS
      · exact jS.same (wf_dN _ w) (dN_67 (Or.inl rfl) _ w) (dN_67 (Or.inr rfl) _ w) (fun z hz => dN_hi hz _ w)
    · exact jS
  refine ⟨(daysF t0 t1 s er n).2.2, im, (daysF t0 t1 s er n).2.1, t0, g0, h0x, t1, g1, h1x, tl, tp, wl, wt, wh, mu, J, pt, vK, vk, vm, tn, tr, v1, vk2, pl, ft, rk, rf, K, m0, f0, k0, m1, f1, k1, tl2, tp2, wl2, wt2, sb, zs, sn, dn, df, dk, dm, dg, dl, KK, be, st, nax, pix, sz, nu, as', at', op, sp, us, sk, ip, eqvH_of rfl, rfl, ?_⟩
  exact ⟨js, jn, jv, ji', jm, jk, jR, jB⟩
theorem op_loose (j : Nat) (hj : j ≤ 512) (er : Nat → Int32) (im : Int32) (s : St) (t0 : Sp) (g0 h0 : Nat → Int32) (t1 : Sp) (g1 h1 : Nat → Int32) (tl : Nat) (tp : Nat → Int32) (wl : Nat) (wt : Nat → Int32) (wh mu : Int32) (J : St) (pt : Int32) (vK : Nat) (vk vm : Int32) (tn : Nat) (tr : Nat → Int32) (v1 : Value) (vk2 : Nat) (pl ft : Int32) (rk : Nat) (rf : Nat → Int32) (K : St) (m0 : Nat) (f0 k0 : Nat → Int32) (m1 : Nat) (f1 k1 : Nat → Int32) (tl2 : Nat) (tp2 : Nat → Int32) (wl2 : Nat) (wt2 sb : Nat → Int32) (zs : Nat → Nat) (sn : Nat → Nat → Int32) (dn : Nat) (df dk : Nat → Int32) (dm : Nat) (dg dl KK be st na pi sz nu as' : Nat → Int32) (at' op sp us sk ip : Int32) (hC : JC j im s t0 g0 t1 g1 tl tp wl wt tn v1 K m0 f0 m1 f1 tl2 tp2 wl2 wt2 sb zs sn KK sz nu) (n : Int32) : OpS yX8_loose cX8_loose 3 yX9_loose cX9_loose 3 [.int n] (Y71 er im s t0 g0 h0 t1 g1 h1 tl tp wl wt wh mu J pt vK vk vm tn tr v1 (.retAddr vk2) pl ft rk rf K m0 f0 k0 m1 f1 k1 tl2 tp2 wl2 wt2 sb zs sn dn df dk dm dg dl) (MW s KK be er st na pi tr sb sz nu as' im at' op sp us (nI tn) sk ip) j := by
  obtain ⟨jS, jn, jv, ji, jm, jk, jR, jB⟩ := hC
  obtain ⟨w, ⟨T0, T1⟩, ⟨L0, L1⟩, ⟨a6, a60, aT⟩, ⟨b7, b24, bW⟩⟩ := id jS
  have ji' : ∃ q : Nat, q ≤ j + 1 ∧ im = nI q := by
    obtain ⟨q, q1, q2⟩ := ji
    exact ⟨q, by omega, q2⟩
  refine ⟨(looseF t0 t1 s er n).1, 5, 5, Y16 er im s t0 g0 h0 t1 g1 h1, List.drop 16 (Y71 er im s t0 g0 h0 t1 g1 h1 tl tp wl wt wh mu J pt vK vk vm tn tr v1 (.retAddr vk2) pl ft rk rf K m0 f0 k0 m1 f1 k1 tl2 tp2 wl2 wt2 sb zs sn dn df dk dm dg dl), _, _, ⟨rfl, Nat.zero_lt_succ _⟩, by omega, by omega, c_X8_loose er im s t0 g0 h0 t1 g1 h1 n w L0 L1, c_X9_loose s KK be er st na pi tr sb sz nu as' im at' op sp us (nI tn) sk ip n t0 t1 w T0 T1, fun h h2 q1 q2 => ?_⟩
  obtain ⟨h0x, h1x, rfl⟩ := q1
  obtain ⟨nax, pix, rfl⟩ := q2
  have js : JS (looseF t0 t1 s er n).2.1 t0 g0 t1 g1 tl tp wl wt := by
    unfold looseF
    split
    · split
      · exact jS
      · exact jS.same (wf_loN _ w) (loN_o (Or.inl rfl) _ w) (loN_o (Or.inr (Or.inl rfl)) _ w) (fun z hz => loN_o (Or.inr (Or.inr hz)) _ w)
    · exact jS
  refine ⟨(looseF t0 t1 s er n).2.2, im, (looseF t0 t1 s er n).2.1, t0, g0, h0x, t1, g1, h1x, tl, tp, wl, wt, wh, mu, J, pt, vK, vk, vm, tn, tr, v1, vk2, pl, ft, rk, rf, K, m0, f0, k0, m1, f1, k1, tl2, tp2, wl2, wt2, sb, zs, sn, dn, df, dk, dm, dg, dl, KK, be, st, nax, pix, sz, nu, as', at', op, sp, us, sk, ip, eqvH_of rfl, rfl, ?_⟩
  exact ⟨js, jn, jv, ji', jm, jk, jR, jB⟩
theorem op_then (j : Nat) (hj : j ≤ 512) (er : Nat → Int32) (im : Int32) (s : St) (t0 : Sp) (g0 h0 : Nat → Int32) (t1 : Sp) (g1 h1 : Nat → Int32) (tl : Nat) (tp : Nat → Int32) (wl : Nat) (wt : Nat → Int32) (wh mu : Int32) (J : St) (pt : Int32) (vK : Nat) (vk vm : Int32) (tn : Nat) (tr : Nat → Int32) (v1 : Value) (vk2 : Nat) (pl ft : Int32) (rk : Nat) (rf : Nat → Int32) (K : St) (m0 : Nat) (f0 k0 : Nat → Int32) (m1 : Nat) (f1 k1 : Nat → Int32) (tl2 : Nat) (tp2 : Nat → Int32) (wl2 : Nat) (wt2 sb : Nat → Int32) (zs : Nat → Nat) (sn : Nat → Nat → Int32) (dn : Nat) (df dk : Nat → Int32) (dm : Nat) (dg dl KK be st na pi sz nu as' : Nat → Int32) (at' op sp us sk ip : Int32) (hC : JC j im s t0 g0 t1 g1 tl tp wl wt tn v1 K m0 f0 m1 f1 tl2 tp2 wl2 wt2 sb zs sn KK sz nu) (n : Int32) (what : Int32) : OpS yX8_then cX8_then 4 yX9_then cX9_then 4 [.int n, .int what] (Y71 er im s t0 g0 h0 t1 g1 h1 tl tp wl wt wh mu J pt vK vk vm tn tr v1 (.retAddr vk2) pl ft rk rf K m0 f0 k0 m1 f1 k1 tl2 tp2 wl2 wt2 sb zs sn dn df dk dm dg dl) (MW s KK be er st na pi tr sb sz nu as' im at' op sp us (nI tn) sk ip) j := by
  obtain ⟨jS, jn, jv, ji, jm, jk, jR, jB⟩ := hC
  obtain ⟨w, ⟨T0, T1⟩, ⟨L0, L1⟩, ⟨a6, a60, aT⟩, ⟨b7, b24, bW⟩⟩ := id jS
  have ji' : ∃ q : Nat, q ≤ j + 1 ∧ im = nI q := by
    obtain ⟨q, q1, q2⟩ := ji
    exact ⟨q, by omega, q2⟩
  refine ⟨(thenF t0 t1 s er n what).1, 6, 6, Y71 er im s t0 g0 h0 t1 g1 h1 tl tp wl wt wh mu J pt vK vk vm tn tr v1 (.retAddr vk2) pl ft rk rf K m0 f0 k0 m1 f1 k1 tl2 tp2 wl2 wt2 sb zs sn dn df dk dm dg dl, List.drop 71 (Y71 er im s t0 g0 h0 t1 g1 h1 tl tp wl wt wh mu J pt vK vk vm tn tr v1 (.retAddr vk2) pl ft rk rf K m0 f0 k0 m1 f1 k1 tl2 tp2 wl2 wt2 sb zs sn dn df dk dm dg dl), _, _, ⟨rfl, Nat.zero_lt_succ _⟩, by omega, by omega, c_X8_then er im s t0 g0 h0 t1 g1 h1 tl tp wl wt wh mu J pt vK vk vm tn tr v1 (.retAddr vk2) pl ft rk rf K m0 f0 k0 m1 f1 k1 tl2 tp2 wl2 wt2 sb zs sn dn df dk dm dg dl n what w L0 L1, c_X9_then s KK be er st na pi tr sb sz nu as' im at' op sp us (nI tn) sk ip n what t0 t1 w T0 T1, fun h h2 q1 q2 => ?_⟩
  obtain ⟨Jx, whx, mux, dnx, dmx, dfx, dkx, dgx, dlx, rfl⟩ := q1
  obtain ⟨bex, nax, pix, rfl⟩ := q2
  have js : JS (thenF t0 t1 s er n what).2.1 t0 g0 t1 g1 tl tp wl wt := by
    unfold thenF
    repeat (first | exact jS | split)
  refine ⟨(thenF t0 t1 s er n what).2.2, im, (thenF t0 t1 s er n what).2.1, t0, g0, h0, t1, g1, h1, tl, tp, wl, wt, whx, mux, Jx, pt, vK, vk, vm, tn, tr, v1, vk2, pl, ft, rk, rf, K, m0, f0, k0, m1, f1, k1, tl2, tp2, wl2, wt2, sb, zs, sn, dnx, dfx, dkx, dmx, dgx, dlx, KK, bex, st, nax, pix, sz, nu, as', at', op, sp, us, sk, ip, eqvH_of rfl, rfl, ?_⟩
  exact ⟨js, jn, jv, ji', jm, jk, jR, jB⟩
theorem op_soonest (j : Nat) (hj : j ≤ 512) (er : Nat → Int32) (im : Int32) (s : St) (t0 : Sp) (g0 h0 : Nat → Int32) (t1 : Sp) (g1 h1 : Nat → Int32) (tl : Nat) (tp : Nat → Int32) (wl : Nat) (wt : Nat → Int32) (wh mu : Int32) (J : St) (pt : Int32) (vK : Nat) (vk vm : Int32) (tn : Nat) (tr : Nat → Int32) (v1 : Value) (vk2 : Nat) (pl ft : Int32) (rk : Nat) (rf : Nat → Int32) (K : St) (m0 : Nat) (f0 k0 : Nat → Int32) (m1 : Nat) (f1 k1 : Nat → Int32) (tl2 : Nat) (tp2 : Nat → Int32) (wl2 : Nat) (wt2 sb : Nat → Int32) (zs : Nat → Nat) (sn : Nat → Nat → Int32) (dn : Nat) (df dk : Nat → Int32) (dm : Nat) (dg dl KK be st na pi sz nu as' : Nat → Int32) (at' op sp us sk ip : Int32) (hC : JC j im s t0 g0 t1 g1 tl tp wl wt tn v1 K m0 f0 m1 f1 tl2 tp2 wl2 wt2 sb zs sn KK sz nu) (h : Int32) (v : Int32) : OpS yX8_soonest cX8_soonest 4 yX9_soonest cX9_soonest 4 [.int h, .int v] (Y71 er im s t0 g0 h0 t1 g1 h1 tl tp wl wt wh mu J pt vK vk vm tn tr v1 (.retAddr vk2) pl ft rk rf K m0 f0 k0 m1 f1 k1 tl2 tp2 wl2 wt2 sb zs sn dn df dk dm dg dl) (MW s KK be er st na pi tr sb sz nu as' im at' op sp us (nI tn) sk ip) j := by
  obtain ⟨jS, jn, jv, ji, jm, jk, jR, jB⟩ := hC
  obtain ⟨w, ⟨T0, T1⟩, ⟨L0, L1⟩, ⟨a6, a60, aT⟩, ⟨b7, b24, bW⟩⟩ := id jS
  have ji' : ∃ q : Nat, q ≤ j + 1 ∧ im = nI q := by
    obtain ⟨q, q1, q2⟩ := ji
    exact ⟨q, by omega, q2⟩
  refine ⟨(soonF t0 t1 s er h v).1, 6, 5, Y71 er im s t0 g0 h0 t1 g1 h1 tl tp wl wt wh mu J pt vK vk vm tn tr v1 (.retAddr vk2) pl ft rk rf K m0 f0 k0 m1 f1 k1 tl2 tp2 wl2 wt2 sb zs sn dn df dk dm dg dl, List.drop 71 (Y71 er im s t0 g0 h0 t1 g1 h1 tl tp wl wt wh mu J pt vK vk vm tn tr v1 (.retAddr vk2) pl ft rk rf K m0 f0 k0 m1 f1 k1 tl2 tp2 wl2 wt2 sb zs sn dn df dk dm dg dl), _, _, ⟨rfl, Nat.zero_lt_succ _⟩, by omega, by omega, c_X8_soonest er im s t0 g0 h0 t1 g1 h1 tl tp wl wt wh mu J pt vK vk vm tn tr v1 (.retAddr vk2) pl ft rk rf K m0 f0 k0 m1 f1 k1 tl2 tp2 wl2 wt2 sb zs sn dn df dk dm dg dl h v w L0 L1, c_X9_soonest s KK be er st na pi tr sb sz nu as' im at' op sp us (nI tn) sk ip h v t0 t1 w T0 T1, fun h h2 q1 q2 => ?_⟩
  obtain ⟨Jx, whx, mux, dnx, dmx, dfx, dkx, dgx, dlx, rfl⟩ := q1
  obtain ⟨bex, nax, pix, rfl⟩ := q2
  have js : JS (soonF t0 t1 s er h v).2.1 t0 g0 t1 g1 tl tp wl wt := by
    unfold soonF
    repeat (first | exact jS | split)
  refine ⟨(soonF t0 t1 s er h v).2.2, im, (soonF t0 t1 s er h v).2.1, t0, g0, h0, t1, g1, h1, tl, tp, wl, wt, whx, mux, Jx, pt, vK, vk, vm, tn, tr, v1, vk2, pl, ft, rk, rf, K, m0, f0, k0, m1, f1, k1, tl2, tp2, wl2, wt2, sb, zs, sn, dnx, dfx, dkx, dmx, dgx, dlx, KK, bex, st, nax, pix, sz, nu, as', at', op, sp, us, sk, ip, eqvH_of rfl, rfl, ?_⟩
  exact ⟨js, jn, jv, ji', jm, jk, jR, jB⟩
theorem op_startFor (j : Nat) (hj : j ≤ 512) (er : Nat → Int32) (im : Int32) (s : St) (t0 : Sp) (g0 h0 : Nat → Int32) (t1 : Sp) (g1 h1 : Nat → Int32) (tl : Nat) (tp : Nat → Int32) (wl : Nat) (wt : Nat → Int32) (wh mu : Int32) (J : St) (pt : Int32) (vK : Nat) (vk vm : Int32) (tn : Nat) (tr : Nat → Int32) (v1 : Value) (vk2 : Nat) (pl ft : Int32) (rk : Nat) (rf : Nat → Int32) (K : St) (m0 : Nat) (f0 k0 : Nat → Int32) (m1 : Nat) (f1 k1 : Nat → Int32) (tl2 : Nat) (tp2 : Nat → Int32) (wl2 : Nat) (wt2 sb : Nat → Int32) (zs : Nat → Nat) (sn : Nat → Nat → Int32) (dn : Nat) (df dk : Nat → Int32) (dm : Nat) (dg dl KK be st na pi sz nu as' : Nat → Int32) (at' op sp us sk ip : Int32) (hC : JC j im s t0 g0 t1 g1 tl tp wl wt tn v1 K m0 f0 m1 f1 tl2 tp2 wl2 wt2 sb zs sn KK sz nu) (h : Int32) (n : Int32) (what : Int32) : OpS yX8_startFor cX8_startFor 4 yX9_startFor cX9_startFor 8 [.int h, .int n, .int what] (Y71 er im s t0 g0 h0 t1 g1 h1 tl tp wl wt wh mu J pt vK vk vm tn tr v1 (.retAddr vk2) pl ft rk rf K m0 f0 k0 m1 f1 k1 tl2 tp2 wl2 wt2 sb zs sn dn df dk dm dg dl) (MW s KK be er st na pi tr sb sz nu as' im at' op sp us (nI tn) sk ip) j := by
  obtain ⟨jS, jn, jv, ji, jm, jk, jR, jB⟩ := hC
  obtain ⟨w, ⟨T0, T1⟩, ⟨L0, L1⟩, ⟨a6, a60, aT⟩, ⟨b7, b24, bW⟩⟩ := id jS
  have ji' : ∃ q : Nat, q ≤ j + 1 ∧ im = nI q := by
    obtain ⟨q, q1, q2⟩ := ji
    exact ⟨q, by omega, q2⟩
  refine ⟨(startF t0 t1 s er h n what).1, 6, 6, Y71 er im s t0 g0 h0 t1 g1 h1 tl tp wl wt wh mu J pt vK vk vm tn tr v1 (.retAddr vk2) pl ft rk rf K m0 f0 k0 m1 f1 k1 tl2 tp2 wl2 wt2 sb zs sn dn df dk dm dg dl, List.drop 71 (Y71 er im s t0 g0 h0 t1 g1 h1 tl tp wl wt wh mu J pt vK vk vm tn tr v1 (.retAddr vk2) pl ft rk rf K m0 f0 k0 m1 f1 k1 tl2 tp2 wl2 wt2 sb zs sn dn df dk dm dg dl), _, _, ⟨rfl, Nat.zero_lt_succ _⟩, by omega, by omega, c_X8_startFor er im s t0 g0 h0 t1 g1 h1 tl tp wl wt wh mu J pt vK vk vm tn tr v1 (.retAddr vk2) pl ft rk rf K m0 f0 k0 m1 f1 k1 tl2 tp2 wl2 wt2 sb zs sn dn df dk dm dg dl h n what w L0 L1, c_X9_startFor s KK be er st na pi tr sb sz nu as' im at' op sp us (nI tn) sk ip h n what t0 t1 w T0 T1, fun h h2 q1 q2 => ?_⟩
  obtain ⟨Jx, whx, mux, dnx, dmx, dfx, dkx, dgx, dlx, rfl⟩ := q1
  obtain ⟨bex, nax, pix, rfl⟩ := q2
  have js : JS (startF t0 t1 s er h n what).2.1 t0 g0 t1 g1 tl tp wl wt := by
    unfold startF
    repeat (first | exact jS | split)
  refine ⟨(startF t0 t1 s er h n what).2.2, im, (startF t0 t1 s er h n what).2.1, t0, g0, h0, t1, g1, h1, tl, tp, wl, wt, whx, mux, Jx, pt, vK, vk, vm, tn, tr, v1, vk2, pl, ft, rk, rf, K, m0, f0, k0, m1, f1, k1, tl2, tp2, wl2, wt2, sb, zs, sn, dnx, dfx, dkx, dmx, dgx, dlx, KK, bex, st, nax, pix, sz, nu, as', at', op, sp, us, sk, ip, eqvH_of rfl, rfl, ?_⟩
  exact ⟨js, jn, jv, ji', jm, jk, jR, jB⟩
theorem op_swapFor (j : Nat) (hj : j ≤ 512) (er : Nat → Int32) (im : Int32) (s : St) (t0 : Sp) (g0 h0 : Nat → Int32) (t1 : Sp) (g1 h1 : Nat → Int32) (tl : Nat) (tp : Nat → Int32) (wl : Nat) (wt : Nat → Int32) (wh mu : Int32) (J : St) (pt : Int32) (vK : Nat) (vk vm : Int32) (tn : Nat) (tr : Nat → Int32) (v1 : Value) (vk2 : Nat) (pl ft : Int32) (rk : Nat) (rf : Nat → Int32) (K : St) (m0 : Nat) (f0 k0 : Nat → Int32) (m1 : Nat) (f1 k1 : Nat → Int32) (tl2 : Nat) (tp2 : Nat → Int32) (wl2 : Nat) (wt2 sb : Nat → Int32) (zs : Nat → Nat) (sn : Nat → Nat → Int32) (dn : Nat) (df dk : Nat → Int32) (dm : Nat) (dg dl KK be st na pi sz nu as' : Nat → Int32) (at' op sp us sk ip : Int32) (hC : JC j im s t0 g0 t1 g1 tl tp wl wt tn v1 K m0 f0 m1 f1 tl2 tp2 wl2 wt2 sb zs sn KK sz nu) (n : Int32) (what : Int32) : OpS yX8_swapFor cX8_swapFor 3 yX9_swapFor cX9_swapFor 8 [.int n, .int what] (Y71 er im s t0 g0 h0 t1 g1 h1 tl tp wl wt wh mu J pt vK vk vm tn tr v1 (.retAddr vk2) pl ft rk rf K m0 f0 k0 m1 f1 k1 tl2 tp2 wl2 wt2 sb zs sn dn df dk dm dg dl) (MW s KK be er st na pi tr sb sz nu as' im at' op sp us (nI tn) sk ip) j := by
  obtain ⟨jS, jn, jv, ji, jm, jk, jR, jB⟩ := hC
  obtain ⟨w, ⟨T0, T1⟩, ⟨L0, L1⟩, ⟨a6, a60, aT⟩, ⟨b7, b24, bW⟩⟩ := id jS
  have ji' : ∃ q : Nat, q ≤ j + 1 ∧ im = nI q := by
    obtain ⟨q, q1, q2⟩ := ji
    exact ⟨q, by omega, q2⟩
  refine ⟨(swapF t0 t1 s er n what).1, 6, 6, Y71 er im s t0 g0 h0 t1 g1 h1 tl tp wl wt wh mu J pt vK vk vm tn tr v1 (.retAddr vk2) pl ft rk rf K m0 f0 k0 m1 f1 k1 tl2 tp2 wl2 wt2 sb zs sn dn df dk dm dg dl, List.drop 71 (Y71 er im s t0 g0 h0 t1 g1 h1 tl tp wl wt wh mu J pt vK vk vm tn tr v1 (.retAddr vk2) pl ft rk rf K m0 f0 k0 m1 f1 k1 tl2 tp2 wl2 wt2 sb zs sn dn df dk dm dg dl), _, _, ⟨rfl, Nat.zero_lt_succ _⟩, by omega, by omega, c_X8_swapFor er im s t0 g0 h0 t1 g1 h1 tl tp wl wt wh mu J pt vK vk vm tn tr v1 (.retAddr vk2) pl ft rk rf K m0 f0 k0 m1 f1 k1 tl2 tp2 wl2 wt2 sb zs sn dn df dk dm dg dl n what w L0 L1, c_X9_swapFor s KK be er st na pi tr sb sz nu as' im at' op sp us (nI tn) sk ip n what t0 t1 w T0 T1, fun h h2 q1 q2 => ?_⟩
  obtain ⟨Jx, whx, mux, dnx, dmx, dfx, dkx, dgx, dlx, rfl⟩ := q1
  obtain ⟨bex, nax, pix, rfl⟩ := q2
  have js : JS (swapF t0 t1 s er n what).2.1 t0 g0 t1 g1 tl tp wl wt := by
    unfold swapF
    repeat (first | exact jS | split)
  refine ⟨(swapF t0 t1 s er n what).2.2, im, (swapF t0 t1 s er n what).2.1, t0, g0, h0, t1, g1, h1, tl, tp, wl, wt, whx, mux, Jx, pt, vK, vk, vm, tn, tr, v1, vk2, pl, ft, rk, rf, K, m0, f0, k0, m1, f1, k1, tl2, tp2, wl2, wt2, sb, zs, sn, dnx, dfx, dkx, dmx, dgx, dlx, KK, bex, st, nax, pix, sz, nu, as', at', op, sp, us, sk, ip, eqvH_of rfl, rfl, ?_⟩
  exact ⟨js, jn, jv, ji', jm, jk, jR, jB⟩
theorem op_spare (j : Nat) (hj : j ≤ 512) (er : Nat → Int32) (im : Int32) (s : St) (t0 : Sp) (g0 h0 : Nat → Int32) (t1 : Sp) (g1 h1 : Nat → Int32) (tl : Nat) (tp : Nat → Int32) (wl : Nat) (wt : Nat → Int32) (wh mu : Int32) (J : St) (pt : Int32) (vK : Nat) (vk vm : Int32) (tn : Nat) (tr : Nat → Int32) (v1 : Value) (vk2 : Nat) (pl ft : Int32) (rk : Nat) (rf : Nat → Int32) (K : St) (m0 : Nat) (f0 k0 : Nat → Int32) (m1 : Nat) (f1 k1 : Nat → Int32) (tl2 : Nat) (tp2 : Nat → Int32) (wl2 : Nat) (wt2 sb : Nat → Int32) (zs : Nat → Nat) (sn : Nat → Nat → Int32) (dn : Nat) (df dk : Nat → Int32) (dm : Nat) (dg dl KK be st na pi sz nu as' : Nat → Int32) (at' op sp us sk ip : Int32) (hC : JC j im s t0 g0 t1 g1 tl tp wl wt tn v1 K m0 f0 m1 f1 tl2 tp2 wl2 wt2 sb zs sn KK sz nu) (n : Int32) (v : Int32) : OpS yX8_spare cX8_spare 4 yX9_spare cX9_spare 6 [.int n, .int v] (Y71 er im s t0 g0 h0 t1 g1 h1 tl tp wl wt wh mu J pt vK vk vm tn tr v1 (.retAddr vk2) pl ft rk rf K m0 f0 k0 m1 f1 k1 tl2 tp2 wl2 wt2 sb zs sn dn df dk dm dg dl) (MW s KK be er st na pi tr sb sz nu as' im at' op sp us (nI tn) sk ip) j := by
  obtain ⟨jS, jn, jv, ji, jm, jk, jR, jB⟩ := hC
  obtain ⟨w, ⟨T0, T1⟩, ⟨L0, L1⟩, ⟨a6, a60, aT⟩, ⟨b7, b24, bW⟩⟩ := id jS
  have ji' : ∃ q : Nat, q ≤ j + 1 ∧ im = nI q := by
    obtain ⟨q, q1, q2⟩ := ji
    exact ⟨q, by omega, q2⟩
  refine ⟨(spareF t0 t1 s er n v).1, 7, 7, Y71 er im s t0 g0 h0 t1 g1 h1 tl tp wl wt wh mu J pt vK vk vm tn tr v1 (.retAddr vk2) pl ft rk rf K m0 f0 k0 m1 f1 k1 tl2 tp2 wl2 wt2 sb zs sn dn df dk dm dg dl, List.drop 71 (Y71 er im s t0 g0 h0 t1 g1 h1 tl tp wl wt wh mu J pt vK vk vm tn tr v1 (.retAddr vk2) pl ft rk rf K m0 f0 k0 m1 f1 k1 tl2 tp2 wl2 wt2 sb zs sn dn df dk dm dg dl), _, _, ⟨rfl, Nat.zero_lt_succ _⟩, by omega, by omega, c_X8_spare er im s t0 g0 h0 t1 g1 h1 tl tp wl wt wh mu J pt vK vk vm tn tr v1 (.retAddr vk2) pl ft rk rf K m0 f0 k0 m1 f1 k1 tl2 tp2 wl2 wt2 sb zs sn dn df dk dm dg dl n v w L0 L1, c_X9_spare s KK be er st na pi tr sb sz nu as' im at' op sp us (nI tn) sk ip n v t0 t1 w T0 T1, fun h h2 q1 q2 => ?_⟩
  obtain ⟨Jx, whx, mux, dnx, dmx, dfx, dkx, dgx, dlx, rfl⟩ := q1
  obtain ⟨bex, nax, pix, rfl⟩ := q2
  have js : JS (spareF t0 t1 s er n v).2.1 t0 g0 t1 g1 tl tp wl wt := by
    unfold spareF
    repeat (first | exact jS | split)
  refine ⟨(spareF t0 t1 s er n v).2.2, im, (spareF t0 t1 s er n v).2.1, t0, g0, h0, t1, g1, h1, tl, tp, wl, wt, whx, mux, Jx, pt, vK, vk, vm, tn, tr, v1, vk2, pl, ft, rk, rf, K, m0, f0, k0, m1, f1, k1, tl2, tp2, wl2, wt2, sb, zs, sn, dnx, dfx, dkx, dmx, dgx, dlx, KK, bex, st, nax, pix, sz, nu, as', at', op, sp, us, sk, ip, eqvH_of rfl, rfl, ?_⟩
  exact ⟨js, jn, jv, ji', jm, jk, jR, jB⟩
theorem op_odds (j : Nat) (hj : j ≤ 512) (er : Nat → Int32) (im : Int32) (s : St) (t0 : Sp) (g0 h0 : Nat → Int32) (t1 : Sp) (g1 h1 : Nat → Int32) (tl : Nat) (tp : Nat → Int32) (wl : Nat) (wt : Nat → Int32) (wh mu : Int32) (J : St) (pt : Int32) (vK : Nat) (vk vm : Int32) (tn : Nat) (tr : Nat → Int32) (v1 : Value) (vk2 : Nat) (pl ft : Int32) (rk : Nat) (rf : Nat → Int32) (K : St) (m0 : Nat) (f0 k0 : Nat → Int32) (m1 : Nat) (f1 k1 : Nat → Int32) (tl2 : Nat) (tp2 : Nat → Int32) (wl2 : Nat) (wt2 sb : Nat → Int32) (zs : Nat → Nat) (sn : Nat → Nat → Int32) (dn : Nat) (df dk : Nat → Int32) (dm : Nat) (dg dl KK be st na pi sz nu as' : Nat → Int32) (at' op sp us sk ip : Int32) (hC : JC j im s t0 g0 t1 g1 tl tp wl wt tn v1 K m0 f0 m1 f1 tl2 tp2 wl2 wt2 sb zs sn KK sz nu) (h : Int32) (v : Int32) (n : Int32) (p : Int32) : OpS yX8_odds cX8_odds 8 yX9_odds cX9_odds 7 [.int h, .int v, .int n, .int p] (Y71 er im s t0 g0 h0 t1 g1 h1 tl tp wl wt wh mu J pt vK vk vm tn tr v1 (.retAddr vk2) pl ft rk rf K m0 f0 k0 m1 f1 k1 tl2 tp2 wl2 wt2 sb zs sn dn df dk dm dg dl) (MW s KK be er st na pi tr sb sz nu as' im at' op sp us (nI tn) sk ip) j := by
  obtain ⟨jS, jn, jv, ji, jm, jk, jR, jB⟩ := hC
  obtain ⟨w, ⟨T0, T1⟩, ⟨L0, L1⟩, ⟨a6, a60, aT⟩, ⟨b7, b24, bW⟩⟩ := id jS
  have ji' : ∃ q : Nat, q ≤ j + 1 ∧ im = nI q := by
    obtain ⟨q, q1, q2⟩ := ji
    exact ⟨q, by omega, q2⟩
  refine ⟨(oddsF t0 t1 s er h v n p).1, 6, 6, Y71 er im s t0 g0 h0 t1 g1 h1 tl tp wl wt wh mu J pt vK vk vm tn tr v1 (.retAddr vk2) pl ft rk rf K m0 f0 k0 m1 f1 k1 tl2 tp2 wl2 wt2 sb zs sn dn df dk dm dg dl, List.drop 71 (Y71 er im s t0 g0 h0 t1 g1 h1 tl tp wl wt wh mu J pt vK vk vm tn tr v1 (.retAddr vk2) pl ft rk rf K m0 f0 k0 m1 f1 k1 tl2 tp2 wl2 wt2 sb zs sn dn df dk dm dg dl), _, _, ⟨rfl, Nat.zero_lt_succ _⟩, by omega, by omega, c_X8_odds er im s t0 g0 h0 t1 g1 h1 tl tp wl wt wh mu J pt vK vk vm tn tr v1 (.retAddr vk2) pl ft rk rf K m0 f0 k0 m1 f1 k1 tl2 tp2 wl2 wt2 sb zs sn dn df dk dm dg dl h v n p w L0 L1, c_X9_odds s KK be er st na pi tr sb sz nu as' im at' op sp us (nI tn) sk ip h v n p t0 t1 w T0 T1, fun h h2 q1 q2 => ?_⟩
  obtain ⟨Jx, whx, mux, dnx, dmx, dfx, dkx, dgx, dlx, rfl⟩ := q1
  obtain ⟨bex, nax, pix, rfl⟩ := q2
  have js : JS (oddsF t0 t1 s er h v n p).2.1 t0 g0 t1 g1 tl tp wl wt := by
    unfold oddsF
    repeat (first | exact jS | split)
  refine ⟨(oddsF t0 t1 s er h v n p).2.2, im, (oddsF t0 t1 s er h v n p).2.1, t0, g0, h0, t1, g1, h1, tl, tp, wl, wt, whx, mux, Jx, pt, vK, vk, vm, tn, tr, v1, vk2, pl, ft, rk, rf, K, m0, f0, k0, m1, f1, k1, tl2, tp2, wl2, wt2, sb, zs, sn, dnx, dfx, dkx, dmx, dgx, dlx, KK, bex, st, nax, pix, sz, nu, as', at', op, sp, us, sk, ip, eqvH_of rfl, rfl, ?_⟩
  exact ⟨js, jn, jv, ji', jm, jk, jR, jB⟩
