theorem op_text (j : Nat) (hj : j ≤ 512) (er : Nat → Int32) (im : Int32) (s : St) (t0 : Sp) (g0 h0 : Nat → Int32) (t1 : Sp) (g1 h1 : Nat → Int32) (tl : Nat) (tp : Nat → Int32) (wl : Nat) (wt : Nat → Int32) (wh mu : Int32) (J : St) (pt : Int32) (vK : Nat) (vk vm : Int32) (tn : Nat) (tr : Nat → Int32) (v1 : Value) (vk2 : Nat) (pl ft : Int32) (rk : Nat) (rf : Nat → Int32) (K : St) (m0 : Nat) (f0 k0 : Nat → Int32) (m1 : Nat) (f1 k1 : Nat → Int32) (tl2 : Nat) (tp2 : Nat → Int32) (wl2 : Nat) (wt2 sb : Nat → Int32) (zs : Nat → Nat) (sn : Nat → Nat → Int32) (dn : Nat) (df dk : Nat → Int32) (dm : Nat) (dg dl KK be st na pi sz nu as' : Nat → Int32) (at' op sp us sk ip : Int32) (hC : JC j im s t0 g0 t1 g1 tl tp wl wt tn v1 K m0 f0 m1 f1 tl2 tp2 wl2 wt2 sb zs sn KK sz nu) (u : Int32) : OpS yX8_text cX8_text 3 yX9_text cX9_text 5 [.int u] (Y71 er im s t0 g0 h0 t1 g1 h1 tl tp wl wt wh mu J pt vK vk vm tn tr v1 (.retAddr vk2) pl ft rk rf K m0 f0 k0 m1 f1 k1 tl2 tp2 wl2 wt2 sb zs sn dn df dk dm dg dl) (MW s KK be er st na pi tr sb sz nu as' im at' op sp us (nI tn) sk ip) j := by
  obtain ⟨jS, jn, jv, ji, jm, jk, jR, jB⟩ := hC
  obtain ⟨w, ⟨T0, T1⟩, ⟨L0, L1⟩, ⟨a6, a60, aT⟩, ⟨b7, b24, bW⟩⟩ := id jS
  have ji' : ∃ q : Nat, q ≤ j + 1 ∧ im = nI q := by
    obtain ⟨q, q1, q2⟩ := ji
    exact ⟨q, by omega, q2⟩
  by_cases hu : 0 ≤ u ∧ u ≤ 1
  · obtain ⟨k, hk, rfl⟩ := iK2 (n := 1) hu.1 hu.2 (by omega)
    rcases (show k = 0 ∨ k = 1 by omega) with rfl | rfl
    · have X := c_X8_text_0 er im s t0 g0 h0 t1 g1 h1 tl tp wl wt wh mu J pt vK vk vm tn tr v1 pl ft rk rf (tq s) vk2 L0.len a60 (fun z hz => (aT z hz).1) (fun z hz => (aT z hz).2) jv
      have M := c_X9_text_ok s KK be er st na pi tr sb sz nu as' im at' op sp us (nI tn) sk ip tl 0 (by omega) a6 a60
      rcases hR : txP (tq s) tl 0 with ⟨b, r⟩
      by_cases hok : b = tl ∧ r ≠ none
      · obtain ⟨rfl, hr⟩ := hok
        obtain ⟨s2, rfl⟩ : ∃ s2, r = some s2 := by
          cases r with
          | none => exact absurd rfl hr
          | some s2 => exact ⟨s2, rfl⟩
        have hok := (tx_ok a60 hR).1
        refine ⟨1, 47, 37, Y32 er im s t0 g0 h0 t1 g1 h1 b tp wl wt wh mu J pt vK vk vm tn tr v1 (.retAddr vk2) pl ft rk rf, List.drop 32 (Y71 er im s t0 g0 h0 t1 g1 h1 b tp wl wt wh mu J pt vK vk vm tn tr v1 (.retAddr vk2) pl ft rk rf K m0 f0 k0 m1 f1 k1 tl2 tp2 wl2 wt2 sb zs sn dn df dk dm dg dl), _, _, ⟨rfl, Nat.zero_lt_succ _⟩, by omega, by omega, X.imp (post' := pI fun x h => x = 1 ∧ (fun h => ∃ (f2 : Nat → Int32) (plx ftx : Int32) (rkx : Nat) (rfx : Nat → Int32), StepC 0 f2 s2 ∧ h = Y32 er im s s2 (fun z => if z < s2.length then f2 z else g0 z) h0 t1 g1 h1 0 tp wl wt wh mu J pt vK vk vm tn tr (.ref 16) (.retAddr 3) plx ftx rkx rfx) h) (fun v hh hp => by
        obtain ⟨x, rfl, hp⟩ := hp
        refine ⟨x, rfl, ?_⟩
        rcases hp with ⟨s3, f2, plx, ftx, rkx, rfx, e1, rfl, hf, rfl⟩ | ⟨b2, plx, ftx, rkx, rfx, e1, e2, e3⟩
        · rw [hR] at e1
          cases e1
          exact ⟨rfl, f2, plx, ftx, rkx, rfx, hf, rfl⟩
        · rw [hR] at e1
          rcases e1 with e1 | ⟨e1, s3, e4⟩
          · cases e1
          · cases e4
            exact absurd rfl e1), M.imp (post' := pI fun x h => x = 1 ∧ (fun h => ∃ (s' st' : Nat → Int32) (at1 op' sp' us' : Int32), MText s' 0 s2 ∧ (∀ z, z < 49 + 125 * 0 ∨ 174 + 125 * 0 ≤ z → s' z = upd s 6 0 z) ∧ h = MW s' KK be er st' na pi tr sb sz nu as' im at1 op' sp' us' (nI tn) sk ip) h) (fun v hh hp => by
        obtain ⟨x, rfl, s9, st9, at9, op9, sp9, us9, hp, rfl⟩ := hp
        refine ⟨x, rfl, ?_⟩
        rcases hp with ⟨s3, e1, rfl, e2, e3⟩ | ⟨b2, e1, e2, e3⟩
        · rw [hR] at e1
          cases e1
          exact ⟨rfl, s9, st9, at9, op9, sp9, us9, e2, e3, rfl⟩
        · rw [hR] at e1
          rcases e1 with e1 | ⟨e1, s3, e4⟩
          · cases e1
          · cases e4
            exact absurd rfl e1), fun h9 h2 q1 q2 => ?_⟩
        obtain ⟨f2, plx, ftx, rkx, rfx, hf, rfl⟩ := q1
        obtain ⟨s9, st9, at9, op9, sp9, us9, m9, e9, rfl⟩ := q2
        have js := jS.text0 (r := s9) s2 (fun z => if z < s2.length then f2 z else g0 z) m9 (LawC.ofStep hok hf) (tl' := 0) (by rw [e9 6 (by omega), upd_s]; rfl) (Or.inl rfl) (fun z h1 h2 => by rw [e9 z (by omega), upd_n h2])
        show JI (j + 1) (Y71 er im s s2 (fun z => if z < s2.length then f2 z else g0 z) h0 t1 g1 h1 0 tp wl wt wh mu J pt vK vk vm tn tr (.ref 16) (.retAddr 3) plx ftx rkx rfx K m0 f0 k0 m1 f1 k1 tl2 tp2 wl2 wt2 sb zs sn dn df dk dm dg dl) _
        refine ⟨er, im, s9, s2, (fun z => if z < s2.length then f2 z else g0 z), h0, t1, g1, h1, 0, tp, wl, wt, wh, mu, J, pt, vK, vk, vm, tn, tr, (.ref 16), 3, plx, ftx, rkx, rfx, K, m0, f0, k0, m1, f1, k1, tl2, tp2, wl2, wt2, sb, zs, sn, dn, df, dk, dm, dg, dl, KK, be, st9, na, pi, sz, nu, as', at9, op9, sp9, us9, sk, ip, eqS (r := s9) (fun z h1 h2 h3 => by rw [e9 z (by omega), upd_n h2]), rfl, ?_⟩
        exact ⟨js, jn, Or.inr rfl, ji', jm, jk, jR, jB⟩
      · refine ⟨-10 - nI b, 47, 37, Y32 er im s t0 g0 h0 t1 g1 h1 tl tp wl wt wh mu J pt vK vk vm tn tr v1 (.retAddr vk2) pl ft rk rf, List.drop 32 (Y71 er im s t0 g0 h0 t1 g1 h1 tl tp wl wt wh mu J pt vK vk vm tn tr v1 (.retAddr vk2) pl ft rk rf K m0 f0 k0 m1 f1 k1 tl2 tp2 wl2 wt2 sb zs sn dn df dk dm dg dl), _, _, ⟨rfl, Nat.zero_lt_succ _⟩, by omega, by omega, X.imp (post' := pI fun x h => x = -10 - nI b ∧ (fun h => ∃ (plx ftx : Int32) (rkx : Nat) (rfx : Nat → Int32), h = Y32 er im s t0 g0 h0 t1 g1 h1 0 tp wl wt wh mu J pt vK vk vm tn tr (.ref 16) (.retAddr 3) plx ftx rkx rfx) h) (fun v hh hp => by
        obtain ⟨x, rfl, hp⟩ := hp
        refine ⟨x, rfl, ?_⟩
        rcases hp with ⟨s3, f2, plx, ftx, rkx, rfx, e1, -⟩ | ⟨b2, plx, ftx, rkx, rfx, e1, rfl, rfl⟩
        · rw [hR] at e1
          cases e1
          exact absurd ⟨rfl, by simp⟩ hok
        · have hb2 : b2 = b := by
            rw [hR] at e1
            rcases e1 with e1 | ⟨e1, s3, e4⟩
            · cases e1; rfl
            · cases e4; rfl
          exact ⟨by rw [hb2], plx, ftx, rkx, rfx, rfl⟩), M.imp (post' := pI fun x h => x = -10 - nI b ∧ (fun h => ∃ (st' : Nat → Int32) (at1 op' sp' us' : Int32), h = MW (upd s 6 0) KK be er st' na pi tr sb sz nu as' im at1 op' sp' us' (nI tn) sk ip) h) (fun v hh hp => by
        obtain ⟨x, rfl, s9, st9, at9, op9, sp9, us9, hp, rfl⟩ := hp
        refine ⟨x, rfl, ?_⟩
        rcases hp with ⟨s3, e1, -⟩ | ⟨b2, e1, rfl, rfl⟩
        · rw [hR] at e1
          cases e1
          exact absurd ⟨rfl, by simp⟩ hok
        · have hb2 : b2 = b := by
            rw [hR] at e1
            rcases e1 with e1 | ⟨e1, s3, e4⟩
            · cases e1; rfl
            · cases e4; rfl
          exact ⟨by rw [hb2], st9, at9, op9, sp9, us9, rfl⟩), fun h9 h2 q1 q2 => ?_⟩
        obtain ⟨plx, ftx, rkx, rfx, rfl⟩ := q1
        obtain ⟨st9, at9, op9, sp9, us9, rfl⟩ := q2
        have js := jS.text0 (r := (upd s 6 0)) t0 g0 (T0.lo (by omega)) L0 (tl' := 0) upd_s (Or.inl rfl) (fun z h1 h2 => upd_n h2)
        show JI (j + 1) (Y71 er im s t0 g0 h0 t1 g1 h1 0 tp wl wt wh mu J pt vK vk vm tn tr (.ref 16) (.retAddr 3) plx ftx rkx rfx K m0 f0 k0 m1 f1 k1 tl2 tp2 wl2 wt2 sb zs sn dn df dk dm dg dl) _
        refine ⟨er, im, (upd s 6 0), t0, g0, h0, t1, g1, h1, 0, tp, wl, wt, wh, mu, J, pt, vK, vk, vm, tn, tr, (.ref 16), 3, plx, ftx, rkx, rfx, K, m0, f0, k0, m1, f1, k1, tl2, tp2, wl2, wt2, sb, zs, sn, dn, df, dk, dm, dg, dl, KK, be, st9, na, pi, sz, nu, as', at9, op9, sp9, us9, sk, ip, eqS (r := (upd s 6 0)) (fun z h1 h2 h3 => upd_n h2), rfl, ?_⟩
        exact ⟨js, jn, Or.inr rfl, ji', jm, jk, jR, jB⟩
    · have X := c_X8_text_1 er im s t0 g0 h0 t1 g1 h1 tl tp wl wt wh mu J pt vK vk vm tn tr v1 pl ft rk rf (tq s) vk2 L1.len a60 (fun z hz => (aT z hz).1) (fun z hz => (aT z hz).2) jv
      have M := c_X9_text_ok s KK be er st na pi tr sb sz nu as' im at' op sp us (nI tn) sk ip tl 1 (by omega) a6 a60
      rcases hR : txP (tq s) tl 1 with ⟨b, r⟩
      by_cases hok : b = tl ∧ r ≠ none
      · obtain ⟨rfl, hr⟩ := hok
        obtain ⟨s2, rfl⟩ : ∃ s2, r = some s2 := by
          cases r with
          | none => exact absurd rfl hr
          | some s2 => exact ⟨s2, rfl⟩
        have hok := (tx_ok a60 hR).1
        refine ⟨1, 47, 37, Y32 er im s t0 g0 h0 t1 g1 h1 b tp wl wt wh mu J pt vK vk vm tn tr v1 (.retAddr vk2) pl ft rk rf, List.drop 32 (Y71 er im s t0 g0 h0 t1 g1 h1 b tp wl wt wh mu J pt vK vk vm tn tr v1 (.retAddr vk2) pl ft rk rf K m0 f0 k0 m1 f1 k1 tl2 tp2 wl2 wt2 sb zs sn dn df dk dm dg dl), _, _, ⟨rfl, Nat.zero_lt_succ _⟩, by omega, by omega, X.imp (post' := pI fun x h => x = 1 ∧ (fun h => ∃ (f2 : Nat → Int32) (plx ftx : Int32) (rkx : Nat) (rfx : Nat → Int32), StepC 1 f2 s2 ∧ h = Y32 er im s t0 g0 h0 s2 (fun z => if z < s2.length then f2 z else g1 z) h1 0 tp wl wt wh mu J pt vK vk vm tn tr (.ref 16) (.retAddr 4) plx ftx rkx rfx) h) (fun v hh hp => by
        obtain ⟨x, rfl, hp⟩ := hp
        refine ⟨x, rfl, ?_⟩
        rcases hp with ⟨s3, f2, plx, ftx, rkx, rfx, e1, rfl, hf, rfl⟩ | ⟨b2, plx, ftx, rkx, rfx, e1, e2, e3⟩
        · rw [hR] at e1
          cases e1
          exact ⟨rfl, f2, plx, ftx, rkx, rfx, hf, rfl⟩
        · rw [hR] at e1
          rcases e1 with e1 | ⟨e1, s3, e4⟩
          · cases e1
          · cases e4
            exact absurd rfl e1), M.imp (post' := pI fun x h => x = 1 ∧ (fun h => ∃ (s' st' : Nat → Int32) (at1 op' sp' us' : Int32), MText s' 1 s2 ∧ (∀ z, z < 49 + 125 * 1 ∨ 174 + 125 * 1 ≤ z → s' z = upd s 6 0 z) ∧ h = MW s' KK be er st' na pi tr sb sz nu as' im at1 op' sp' us' (nI tn) sk ip) h) (fun v hh hp => by
        obtain ⟨x, rfl, s9, st9, at9, op9, sp9, us9, hp, rfl⟩ := hp
        refine ⟨x, rfl, ?_⟩
        rcases hp with ⟨s3, e1, rfl, e2, e3⟩ | ⟨b2, e1, e2, e3⟩
        · rw [hR] at e1
          cases e1
          exact ⟨rfl, s9, st9, at9, op9, sp9, us9, e2, e3, rfl⟩
        · rw [hR] at e1
          rcases e1 with e1 | ⟨e1, s3, e4⟩
          · cases e1
          · cases e4
            exact absurd rfl e1), fun h9 h2 q1 q2 => ?_⟩
        obtain ⟨f2, plx, ftx, rkx, rfx, hf, rfl⟩ := q1
        obtain ⟨s9, st9, at9, op9, sp9, us9, m9, e9, rfl⟩ := q2
        have js := jS.text1 (r := s9) s2 (fun z => if z < s2.length then f2 z else g1 z) m9 (LawC.ofStep hok hf) (tl' := 0) (by rw [e9 6 (by omega), upd_s]; rfl) (Or.inl rfl) (fun z h1 h2 => by rw [e9 z (by omega), upd_n h2])
        show JI (j + 1) (Y71 er im s t0 g0 h0 s2 (fun z => if z < s2.length then f2 z else g1 z) h1 0 tp wl wt wh mu J pt vK vk vm tn tr (.ref 16) (.retAddr 4) plx ftx rkx rfx K m0 f0 k0 m1 f1 k1 tl2 tp2 wl2 wt2 sb zs sn dn df dk dm dg dl) _
        refine ⟨er, im, s9, t0, g0, h0, s2, (fun z => if z < s2.length then f2 z else g1 z), h1, 0, tp, wl, wt, wh, mu, J, pt, vK, vk, vm, tn, tr, (.ref 16), 4, plx, ftx, rkx, rfx, K, m0, f0, k0, m1, f1, k1, tl2, tp2, wl2, wt2, sb, zs, sn, dn, df, dk, dm, dg, dl, KK, be, st9, na, pi, sz, nu, as', at9, op9, sp9, us9, sk, ip, eqS (r := s9) (fun z h1 h2 h3 => by rw [e9 z (by omega), upd_n h2]), rfl, ?_⟩
        exact ⟨js, jn, Or.inr rfl, ji', jm, jk, jR, jB⟩
      · refine ⟨-10 - nI b, 47, 37, Y32 er im s t0 g0 h0 t1 g1 h1 tl tp wl wt wh mu J pt vK vk vm tn tr v1 (.retAddr vk2) pl ft rk rf, List.drop 32 (Y71 er im s t0 g0 h0 t1 g1 h1 tl tp wl wt wh mu J pt vK vk vm tn tr v1 (.retAddr vk2) pl ft rk rf K m0 f0 k0 m1 f1 k1 tl2 tp2 wl2 wt2 sb zs sn dn df dk dm dg dl), _, _, ⟨rfl, Nat.zero_lt_succ _⟩, by omega, by omega, X.imp (post' := pI fun x h => x = -10 - nI b ∧ (fun h => ∃ (plx ftx : Int32) (rkx : Nat) (rfx : Nat → Int32), h = Y32 er im s t0 g0 h0 t1 g1 h1 0 tp wl wt wh mu J pt vK vk vm tn tr (.ref 16) (.retAddr 4) plx ftx rkx rfx) h) (fun v hh hp => by
        obtain ⟨x, rfl, hp⟩ := hp
        refine ⟨x, rfl, ?_⟩
        rcases hp with ⟨s3, f2, plx, ftx, rkx, rfx, e1, -⟩ | ⟨b2, plx, ftx, rkx, rfx, e1, rfl, rfl⟩
        · rw [hR] at e1
          cases e1
          exact absurd ⟨rfl, by simp⟩ hok
        · have hb2 : b2 = b := by
            rw [hR] at e1
            rcases e1 with e1 | ⟨e1, s3, e4⟩
            · cases e1; rfl
            · cases e4; rfl
          exact ⟨by rw [hb2], plx, ftx, rkx, rfx, rfl⟩), M.imp (post' := pI fun x h => x = -10 - nI b ∧ (fun h => ∃ (st' : Nat → Int32) (at1 op' sp' us' : Int32), h = MW (upd s 6 0) KK be er st' na pi tr sb sz nu as' im at1 op' sp' us' (nI tn) sk ip) h) (fun v hh hp => by
        obtain ⟨x, rfl, s9, st9, at9, op9, sp9, us9, hp, rfl⟩ := hp
        refine ⟨x, rfl, ?_⟩
        rcases hp with ⟨s3, e1, -⟩ | ⟨b2, e1, rfl, rfl⟩
        · rw [hR] at e1
          cases e1
          exact absurd ⟨rfl, by simp⟩ hok
        · have hb2 : b2 = b := by
            rw [hR] at e1
            rcases e1 with e1 | ⟨e1, s3, e4⟩
            · cases e1; rfl
            · cases e4; rfl
          exact ⟨by rw [hb2], st9, at9, op9, sp9, us9, rfl⟩), fun h9 h2 q1 q2 => ?_⟩
        obtain ⟨plx, ftx, rkx, rfx, rfl⟩ := q1
        obtain ⟨st9, at9, op9, sp9, us9, rfl⟩ := q2
        have js := jS.text1 (r := (upd s 6 0)) t1 g1 (T1.lo (by omega)) L1 (tl' := 0) upd_s (Or.inl rfl) (fun z h1 h2 => upd_n h2)
        show JI (j + 1) (Y71 er im s t0 g0 h0 t1 g1 h1 0 tp wl wt wh mu J pt vK vk vm tn tr (.ref 16) (.retAddr 4) plx ftx rkx rfx K m0 f0 k0 m1 f1 k1 tl2 tp2 wl2 wt2 sb zs sn dn df dk dm dg dl) _
        refine ⟨er, im, (upd s 6 0), t0, g0, h0, t1, g1, h1, 0, tp, wl, wt, wh, mu, J, pt, vK, vk, vm, tn, tr, (.ref 16), 4, plx, ftx, rkx, rfx, K, m0, f0, k0, m1, f1, k1, tl2, tp2, wl2, wt2, sb, zs, sn, dn, df, dk, dm, dg, dl, KK, be, st9, na, pi, sz, nu, as', at9, op9, sp9, us9, sk, ip, eqS (r := (upd s 6 0)) (fun z h1 h2 h3 => upd_n h2), rfl, ?_⟩
        exact ⟨js, jn, Or.inr rfl, ji', jm, jk, jR, jB⟩
  · refine ⟨-1000000000 - nI 1, 2, 2, Y2 er im, List.drop 2 (Y71 er im s t0 g0 h0 t1 g1 h1 tl tp wl wt wh mu J pt vK vk vm tn tr v1 (.retAddr vk2) pl ft rk rf K m0 f0 k0 m1 f1 k1 tl2 tp2 wl2 wt2 sb zs sn dn df dk dm dg dl), _, _, ⟨rfl, Nat.zero_lt_succ _⟩, by omega, by omega, c_X8_text_no er im u hu, c_X9_text_bad s KK be er st na pi tr sb sz nu as' im at' op sp us (nI tn) sk ip u hu, fun h9 h2 q1 q2 => ?_⟩
    obtain rfl := q1
    obtain rfl := q2
    have js := jS
    refine ⟨(upd er 1 (er 1 + 1)), im, s, t0, g0, h0, t1, g1, h1, tl, tp, wl, wt, wh, mu, J, pt, vK, vk, vm, tn, tr, v1, vk2, pl, ft, rk, rf, K, m0, f0, k0, m1, f1, k1, tl2, tp2, wl2, wt2, sb, zs, sn, dn, df, dk, dm, dg, dl, KK, be, st, na, pi, sz, nu, as', at', op, sp, us, sk, ip, eqvH_of rfl, rfl, ?_⟩
    exact ⟨js, jn, jv, ji', jm, jk, jR, jB⟩
theorem op_hearAll (j : Nat) (hj : j ≤ 512) (er : Nat → Int32) (im : Int32) (s : St) (t0 : Sp) (g0 h0 : Nat → Int32) (t1 : Sp) (g1 h1 : Nat → Int32) (tl : Nat) (tp : Nat → Int32) (wl : Nat) (wt : Nat → Int32) (wh mu : Int32) (J : St) (pt : Int32) (vK : Nat) (vk vm : Int32) (tn : Nat) (tr : Nat → Int32) (v1 : Value) (vk2 : Nat) (pl ft : Int32) (rk : Nat) (rf : Nat → Int32) (K : St) (m0 : Nat) (f0 k0 : Nat → Int32) (m1 : Nat) (f1 k1 : Nat → Int32) (tl2 : Nat) (tp2 : Nat → Int32) (wl2 : Nat) (wt2 sb : Nat → Int32) (zs : Nat → Nat) (sn : Nat → Nat → Int32) (dn : Nat) (df dk : Nat → Int32) (dm : Nat) (dg dl KK be st na pi sz nu as' : Nat → Int32) (at' op sp us sk ip : Int32) (hC : JC j im s t0 g0 t1 g1 tl tp wl wt tn v1 K m0 f0 m1 f1 tl2 tp2 wl2 wt2 sb zs sn KK sz nu) (h : Int32) : OpS yX8_hearAll cX8_hearAll 2 yX9_hearAll cX9_hearAll 4 [.int h] (Y71 er im s t0 g0 h0 t1 g1 h1 tl tp wl wt wh mu J pt vK vk vm tn tr v1 (.retAddr vk2) pl ft rk rf K m0 f0 k0 m1 f1 k1 tl2 tp2 wl2 wt2 sb zs sn dn df dk dm dg dl) (MW s KK be er st na pi tr sb sz nu as' im at' op sp us (nI tn) sk ip) j := by
  obtain ⟨jS, jn, jv, ji, jm, jk, jR, jB⟩ := hC
  obtain ⟨w, ⟨T0, T1⟩, ⟨L0, L1⟩, ⟨a6, a60, aT⟩, ⟨b7, b24, bW⟩⟩ := id jS
  have ji' : ∃ q : Nat, q ≤ j + 1 ∧ im = nI q := by
    obtain ⟨q, q1, q2⟩ := ji
    exact ⟨q, by omega, q2⟩
  have hWS : wfSh sb sz := fun k hk => ⟨jB k hk, zs k, (jR k hk).1, (jR k hk).2.1⟩
  refine ⟨(hearAllF s er sb sz nu h).1, 3, 3, Y63 er im s t0 g0 h0 t1 g1 h1 tl tp wl wt wh mu J pt vK vk vm tn tr v1 (.retAddr vk2) pl ft rk rf K m0 f0 k0 m1 f1 k1 tl2 tp2 wl2 wt2 sb zs sn, List.drop 63 (Y71 er im s t0 g0 h0 t1 g1 h1 tl tp wl wt wh mu J pt vK vk vm tn tr v1 (.retAddr vk2) pl ft rk rf K m0 f0 k0 m1 f1 k1 tl2 tp2 wl2 wt2 sb zs sn dn df dk dm dg dl), _, _, ⟨rfl, Nat.zero_lt_succ _⟩, by omega, by omega, c_X8_hearAll er im s t0 g0 h0 t1 g1 h1 tl tp wl wt wh mu J pt vK vk vm tn tr v1 (.retAddr vk2) pl ft rk rf K m0 f0 k0 m1 f1 k1 tl2 tp2 wl2 wt2 sb zs sn h w sz nu jR jB, c_X9_hearAll s KK be er st na pi tr sb sz nu as' im at' op sp us (nI tn) sk ip h hWS w, fun h9 h2 q1 q2 => ?_⟩
  obtain rfl := q1
  obtain rfl := q2
  have js : JS (hearAllF s er sb sz nu h).2.1 t0 g0 t1 g1 tl tp wl wt := by
    unfold hearAllF
    split
    · split
      · exact jS
      · exact jS.same (wf_tk _ _ _ _ w) (tk_o (Or.inl (by omega)) _ _ w) (tk_o (Or.inl (by omega)) _ _ w) (fun z hz => tk_o (Or.inr hz) _ _ w)
    · exact jS
  refine ⟨(hearAllF s er sb sz nu h).2.2, im, (hearAllF s er sb sz nu h).2.1, t0, g0, h0, t1, g1, h1, tl, tp, wl, wt, wh, mu, J, pt, vK, vk, vm, tn, tr, v1, vk2, pl, ft, rk, rf, K, m0, f0, k0, m1, f1, k1, tl2, tp2, wl2, wt2, sb, zs, sn, dn, df, dk, dm, dg, dl, KK, be, st, na, pi, sz, nu, as', at', op, sp, us, sk, ip, eqvH_of rfl, rfl, ?_⟩
  exact ⟨js, jn, jv, ji', jm, jk, jR, jB⟩
theorem op_judge (j : Nat) (hj : j ≤ 512) (er : Nat → Int32) (im : Int32) (s : St) (t0 : Sp) (g0 h0 : Nat → Int32) (t1 : Sp) (g1 h1 : Nat → Int32) (tl : Nat) (tp : Nat → Int32) (wl : Nat) (wt : Nat → Int32) (wh mu : Int32) (J : St) (pt : Int32) (vK : Nat) (vk vm : Int32) (tn : Nat) (tr : Nat → Int32) (v1 : Value) (vk2 : Nat) (pl ft : Int32) (rk : Nat) (rf : Nat → Int32) (K : St) (m0 : Nat) (f0 k0 : Nat → Int32) (m1 : Nat) (f1 k1 : Nat → Int32) (tl2 : Nat) (tp2 : Nat → Int32) (wl2 : Nat) (wt2 sb : Nat → Int32) (zs : Nat → Nat) (sn : Nat → Nat → Int32) (dn : Nat) (df dk : Nat → Int32) (dm : Nat) (dg dl KK be st na pi sz nu as' : Nat → Int32) (at' op sp us sk ip : Int32) (hC : JC j im s t0 g0 t1 g1 tl tp wl wt tn v1 K m0 f0 m1 f1 tl2 tp2 wl2 wt2 sb zs sn KK sz nu) (h : Int32) : OpS yX8_judge cX8_judge 2 yX9_judge cX9_judge 4 [.int h] (Y71 er im s t0 g0 h0 t1 g1 h1 tl tp wl wt wh mu J pt vK vk vm tn tr v1 (.retAddr vk2) pl ft rk rf K m0 f0 k0 m1 f1 k1 tl2 tp2 wl2 wt2 sb zs sn dn df dk dm dg dl) (MW s KK be er st na pi tr sb sz nu as' im at' op sp us (nI tn) sk ip) j := by
  obtain ⟨jS, jn, jv, ji, jm, jk, jR, jB⟩ := hC
  obtain ⟨w, ⟨T0, T1⟩, ⟨L0, L1⟩, ⟨a6, a60, aT⟩, ⟨b7, b24, bW⟩⟩ := id jS
  have ji' : ∃ q : Nat, q ≤ j + 1 ∧ im = nI q := by
    obtain ⟨q, q1, q2⟩ := ji
    exact ⟨q, by omega, q2⟩
  have hWS : wfSh sb sz := fun k hk => ⟨jB k hk, zs k, (jR k hk).1, (jR k hk).2.1⟩
  refine ⟨(judgeF s er sb sz nu h).1, 3, 3, Y63 er im s t0 g0 h0 t1 g1 h1 tl tp wl wt wh mu J pt vK vk vm tn tr v1 (.retAddr vk2) pl ft rk rf K m0 f0 k0 m1 f1 k1 tl2 tp2 wl2 wt2 sb zs sn, List.drop 63 (Y71 er im s t0 g0 h0 t1 g1 h1 tl tp wl wt wh mu J pt vK vk vm tn tr v1 (.retAddr vk2) pl ft rk rf K m0 f0 k0 m1 f1 k1 tl2 tp2 wl2 wt2 sb zs sn dn df dk dm dg dl), _, _, ⟨rfl, Nat.zero_lt_succ _⟩, by omega, by omega, c_X8_judge er im s t0 g0 h0 t1 g1 h1 tl tp wl wt wh mu J pt vK vk vm tn tr v1 (.retAddr vk2) pl ft rk rf K m0 f0 k0 m1 f1 k1 tl2 tp2 wl2 wt2 sb zs sn h w sz nu jR jB, c_X9_judge s KK be er st na pi tr sb sz nu as' im at' op sp us (nI tn) sk ip h hWS w, fun h9 h2 q1 q2 => ?_⟩
  obtain rfl := q1
  obtain rfl := q2
  have js : JS (judgeF s er sb sz nu h).2.1 t0 g0 t1 g1 tl tp wl wt := by
    unfold judgeF
    repeat (first | exact jS | split)
  refine ⟨(judgeF s er sb sz nu h).2.2, im, (judgeF s er sb sz nu h).2.1, t0, g0, h0, t1, g1, h1, tl, tp, wl, wt, wh, mu, J, pt, vK, vk, vm, tn, tr, v1, vk2, pl, ft, rk, rf, K, m0, f0, k0, m1, f1, k1, tl2, tp2, wl2, wt2, sb, zs, sn, dn, df, dk, dm, dg, dl, KK, be, st, na, pi, sz, nu, as', at', op, sp, us, sk, ip, eqvH_of rfl, rfl, ?_⟩
  exact ⟨js, jn, jv, ji', jm, jk, jR, jB⟩
theorem op_fits (j : Nat) (hj : j ≤ 512) (er : Nat → Int32) (im : Int32) (s : St) (t0 : Sp) (g0 h0 : Nat → Int32) (t1 : Sp) (g1 h1 : Nat → Int32) (tl : Nat) (tp : Nat → Int32) (wl : Nat) (wt : Nat → Int32) (wh mu : Int32) (J : St) (pt : Int32) (vK : Nat) (vk vm : Int32) (tn : Nat) (tr : Nat → Int32) (v1 : Value) (vk2 : Nat) (pl ft : Int32) (rk : Nat) (rf : Nat → Int32) (K : St) (m0 : Nat) (f0 k0 : Nat → Int32) (m1 : Nat) (f1 k1 : Nat → Int32) (tl2 : Nat) (tp2 : Nat → Int32) (wl2 : Nat) (wt2 sb : Nat → Int32) (zs : Nat → Nat) (sn : Nat → Nat → Int32) (dn : Nat) (df dk : Nat → Int32) (dm : Nat) (dg dl KK be st na pi sz nu as' : Nat → Int32) (at' op sp us sk ip : Int32) (hC : JC j im s t0 g0 t1 g1 tl tp wl wt tn v1 K m0 f0 m1 f1 tl2 tp2 wl2 wt2 sb zs sn KK sz nu) (h : Int32) (what : Int32) : OpS yX8_fits cX8_fits 4 yX9_fits cX9_fits 7 [.int h, .int what] (Y71 er im s t0 g0 h0 t1 g1 h1 tl tp wl wt wh mu J pt vK vk vm tn tr v1 (.retAddr vk2) pl ft rk rf K m0 f0 k0 m1 f1 k1 tl2 tp2 wl2 wt2 sb zs sn dn df dk dm dg dl) (MW s KK be er st na pi tr sb sz nu as' im at' op sp us (nI tn) sk ip) j := by
  obtain ⟨jS, jn, jv, ji, jm, jk, jR, jB⟩ := hC
  obtain ⟨w, ⟨T0, T1⟩, ⟨L0, L1⟩, ⟨a6, a60, aT⟩, ⟨b7, b24, bW⟩⟩ := id jS
  have ji' : ∃ q : Nat, q ≤ j + 1 ∧ im = nI q := by
    obtain ⟨q, q1, q2⟩ := ji
    exact ⟨q, by omega, q2⟩
  have hWS : wfSh sb sz := fun k hk => ⟨jB k hk, zs k, (jR k hk).1, (jR k hk).2.1⟩
  refine ⟨(fitsF t0 t1 s er sb sz nu h what).1, 7, 6, Y71 er im s t0 g0 h0 t1 g1 h1 tl tp wl wt wh mu J pt vK vk vm tn tr v1 (.retAddr vk2) pl ft rk rf K m0 f0 k0 m1 f1 k1 tl2 tp2 wl2 wt2 sb zs sn dn df dk dm dg dl, List.drop 71 (Y71 er im s t0 g0 h0 t1 g1 h1 tl tp wl wt wh mu J pt vK vk vm tn tr v1 (.retAddr vk2) pl ft rk rf K m0 f0 k0 m1 f1 k1 tl2 tp2 wl2 wt2 sb zs sn dn df dk dm dg dl), _, _, ⟨rfl, Nat.zero_lt_succ _⟩, by omega, by omega, c_X8_fits er im s t0 g0 h0 t1 g1 h1 tl tp wl wt wh mu J pt vK vk vm tn tr v1 (.retAddr vk2) pl ft rk rf K m0 f0 k0 m1 f1 k1 tl2 tp2 wl2 wt2 sb zs sn dn df dk dm dg dl h what w L0 L1 sz nu jR jB, c_X9_fits s KK be er st na pi tr sb sz nu as' im at' op sp us (nI tn) sk ip h what t0 t1 hWS w T0 T1, fun h9 h2 q1 q2 => ?_⟩
  obtain ⟨Jx, dnx, dmx, dfx, dkx, dgx, dlx, rfl⟩ := q1
  obtain ⟨bex, nax, pix, rfl⟩ := q2
  have js : JS (fitsF t0 t1 s er sb sz nu h what).2.1 t0 g0 t1 g1 tl tp wl wt := by
    unfold fitsF
    repeat (first | exact jS | split)
  refine ⟨(fitsF t0 t1 s er sb sz nu h what).2.2, im, (fitsF t0 t1 s er sb sz nu h what).2.1, t0, g0, h0, t1, g1, h1, tl, tp, wl, wt, wh, mu, Jx, pt, vK, vk, vm, tn, tr, v1, vk2, pl, ft, rk, rf, K, m0, f0, k0, m1, f1, k1, tl2, tp2, wl2, wt2, sb, zs, sn, dnx, dfx, dkx, dmx, dgx, dlx, KK, bex, st, nax, pix, sz, nu, as', at', op, sp, us, sk, ip, eqvH_of rfl, rfl, ?_⟩
  exact ⟨js, jn, jv, ji', jm, jk, jR, jB⟩
theorem op_sheet (j : Nat) (hj : j ≤ 512) (er : Nat → Int32) (im : Int32) (s : St) (t0 : Sp) (g0 h0 : Nat → Int32) (t1 : Sp) (g1 h1 : Nat → Int32) (tl : Nat) (tp : Nat → Int32) (wl : Nat) (wt : Nat → Int32) (wh mu : Int32) (J : St) (pt : Int32) (vK : Nat) (vk vm : Int32) (tn : Nat) (tr : Nat → Int32) (v1 : Value) (vk2 : Nat) (pl ft : Int32) (rk : Nat) (rf : Nat → Int32) (K : St) (m0 : Nat) (f0 k0 : Nat → Int32) (m1 : Nat) (f1 k1 : Nat → Int32) (tl2 : Nat) (tp2 : Nat → Int32) (wl2 : Nat) (wt2 sb : Nat → Int32) (zs : Nat → Nat) (sn : Nat → Nat → Int32) (dn : Nat) (df dk : Nat → Int32) (dm : Nat) (dg dl KK be st na pi sz nu as' : Nat → Int32) (at' op sp us sk ip : Int32) (hC : JC j im s t0 g0 t1 g1 tl tp wl wt tn v1 K m0 f0 m1 f1 tl2 tp2 wl2 wt2 sb zs sn KK sz nu) (h : Int32) (bw : Int32) (n : Int32) : OpS yX8_sheet cX8_sheet 4 yX9_sheet cX9_sheet 5 [.int h, .int bw, .int n] (Y71 er im s t0 g0 h0 t1 g1 h1 tl tp wl wt wh mu J pt vK vk vm tn tr v1 (.retAddr vk2) pl ft rk rf K m0 f0 k0 m1 f1 k1 tl2 tp2 wl2 wt2 sb zs sn dn df dk dm dg dl) (MW s KK be er st na pi tr sb sz nu as' im at' op sp us (nI tn) sk ip) j := by
  obtain ⟨jS, jn, jv, ji, jm, jk, jR, jB⟩ := hC
  obtain ⟨w, ⟨T0, T1⟩, ⟨L0, L1⟩, ⟨a6, a60, aT⟩, ⟨b7, b24, bW⟩⟩ := id jS
  have ji' : ∃ q : Nat, q ≤ j + 1 ∧ im = nI q := by
    obtain ⟨q, q1, q2⟩ := ji
    exact ⟨q, by omega, q2⟩
  have hWS : wfSh sb sz := fun k hk => ⟨jB k hk, zs k, (jR k hk).1, (jR k hk).2.1⟩
  refine ⟨(sheetF er sb sz nu h bw n).1, 2, 2, Y63 er im s t0 g0 h0 t1 g1 h1 tl tp wl wt wh mu J pt vK vk vm tn tr v1 (.retAddr vk2) pl ft rk rf K m0 f0 k0 m1 f1 k1 tl2 tp2 wl2 wt2 sb zs sn, List.drop 63 (Y71 er im s t0 g0 h0 t1 g1 h1 tl tp wl wt wh mu J pt vK vk vm tn tr v1 (.retAddr vk2) pl ft rk rf K m0 f0 k0 m1 f1 k1 tl2 tp2 wl2 wt2 sb zs sn dn df dk dm dg dl), _, _, ⟨rfl, Nat.zero_lt_succ _⟩, by omega, by omega, c_X8_sheet er im s t0 g0 h0 t1 g1 h1 tl tp wl wt wh mu J pt vK vk vm tn tr v1 (.retAddr vk2) pl ft rk rf K m0 f0 k0 m1 f1 k1 tl2 tp2 wl2 wt2 sb zs sn h bw n sz nu jR jB, c_X9_sheet s KK be er st na pi tr sb sz nu as' im at' op sp us (nI tn) sk ip h bw n, fun h9 h2 q1 q2 => ?_⟩
  obtain ⟨zsx, snx, jR', rfl⟩ := q1
  obtain rfl := q2
  have jB' : ∀ k, k < 4 → widB ((sheetF er sb sz nu h bw n).2.2.1 k) := by
    intro k hk
    unfold sheetF
    by_cases hc : (0 ≤ h ∧ h ≤ 3) ∧ (bw = 0 ∨ bw = 8 ∨ bw = 16 ∨ bw = 32)
    · rw [if_pos hc]
      have hu : ∀ x : Int32, widB x → widB (upd sb h.toNatClampNeg x k) := by
        intro x hx
        unfold upd
        split
        · exact hx
        · exact jB k hk
      split
      · exact hu 0 (Or.inl rfl)
      · split
        · exact jB k hk
        · split
          · exact jB k hk
          · exact hu bw hc.2
    · rw [if_neg hc]; exact jB k hk
  have js := jS
  refine ⟨(sheetF er sb sz nu h bw n).2.1, im, s, t0, g0, h0, t1, g1, h1, tl, tp, wl, wt, wh, mu, J, pt, vK, vk, vm, tn, tr, v1, vk2, pl, ft, rk, rf, K, m0, f0, k0, m1, f1, k1, tl2, tp2, wl2, wt2, (sheetF er sb sz nu h bw n).2.2.1, zsx, snx, dn, df, dk, dm, dg, dl, KK, be, st, na, pi, (sheetF er sb sz nu h bw n).2.2.2.1, (sheetF er sb sz nu h bw n).2.2.2.2, as', at', op, sp, us, sk, ip, eqvH_of rfl, rfl, ?_⟩
  exact ⟨js, jn, jv, ji', jm, jk, jR', jB'⟩
theorem op_put (j : Nat) (hj : j ≤ 512) (er : Nat → Int32) (im : Int32) (s : St) (t0 : Sp) (g0 h0 : Nat → Int32) (t1 : Sp) (g1 h1 : Nat → Int32) (tl : Nat) (tp : Nat → Int32) (wl : Nat) (wt : Nat → Int32) (wh mu : Int32) (J : St) (pt : Int32) (vK : Nat) (vk vm : Int32) (tn : Nat) (tr : Nat → Int32) (v1 : Value) (vk2 : Nat) (pl ft : Int32) (rk : Nat) (rf : Nat → Int32) (K : St) (m0 : Nat) (f0 k0 : Nat → Int32) (m1 : Nat) (f1 k1 : Nat → Int32) (tl2 : Nat) (tp2 : Nat → Int32) (wl2 : Nat) (wt2 sb : Nat → Int32) (zs : Nat → Nat) (sn : Nat → Nat → Int32) (dn : Nat) (df dk : Nat → Int32) (dm : Nat) (dg dl KK be st na pi sz nu as' : Nat → Int32) (at' op sp us sk ip : Int32) (hC : JC j im s t0 g0 t1 g1 tl tp wl wt tn v1 K m0 f0 m1 f1 tl2 tp2 wl2 wt2 sb zs sn KK sz nu) (h : Int32) (ix : Int32) (v : Int32) : OpS yX8_put cX8_put 5 yX9_put cX9_put 5 [.int h, .int ix, .int v] (Y71 er im s t0 g0 h0 t1 g1 h1 tl tp wl wt wh mu J pt vK vk vm tn tr v1 (.retAddr vk2) pl ft rk rf K m0 f0 k0 m1 f1 k1 tl2 tp2 wl2 wt2 sb zs sn dn df dk dm dg dl) (MW s KK be er st na pi tr sb sz nu as' im at' op sp us (nI tn) sk ip) j := by
  obtain ⟨jS, jn, jv, ji, jm, jk, jR, jB⟩ := hC
  obtain ⟨w, ⟨T0, T1⟩, ⟨L0, L1⟩, ⟨a6, a60, aT⟩, ⟨b7, b24, bW⟩⟩ := id jS
  have ji' : ∃ q : Nat, q ≤ j + 1 ∧ im = nI q := by
    obtain ⟨q, q1, q2⟩ := ji
    exact ⟨q, by omega, q2⟩
  have hWS : wfSh sb sz := fun k hk => ⟨jB k hk, zs k, (jR k hk).1, (jR k hk).2.1⟩
  refine ⟨(putF er sb sz nu h ix v).1, 2, 2, Y63 er im s t0 g0 h0 t1 g1 h1 tl tp wl wt wh mu J pt vK vk vm tn tr v1 (.retAddr vk2) pl ft rk rf K m0 f0 k0 m1 f1 k1 tl2 tp2 wl2 wt2 sb zs sn, List.drop 63 (Y71 er im s t0 g0 h0 t1 g1 h1 tl tp wl wt wh mu J pt vK vk vm tn tr v1 (.retAddr vk2) pl ft rk rf K m0 f0 k0 m1 f1 k1 tl2 tp2 wl2 wt2 sb zs sn dn df dk dm dg dl), _, _, ⟨rfl, Nat.zero_lt_succ _⟩, by omega, by omega, c_X8_put er im s t0 g0 h0 t1 g1 h1 tl tp wl wt wh mu J pt vK vk vm tn tr v1 (.retAddr vk2) pl ft rk rf K m0 f0 k0 m1 f1 k1 tl2 tp2 wl2 wt2 sb zs sn h ix v sz nu jR jB, c_X9_put s KK be er st na pi tr sb sz nu as' im at' op sp us (nI tn) sk ip h ix v hWS, fun h9 h2 q1 q2 => ?_⟩
  obtain ⟨zsx, snx, jR', rfl⟩ := q1
  obtain rfl := q2
  have jB' : ∀ k, k < 4 → widB ((putF er sb sz nu h ix v).2.2.1 k) := by
    intro k hk
    unfold putF
    repeat (first | exact jB k hk | split)
  have js := jS
  refine ⟨(putF er sb sz nu h ix v).2.1, im, s, t0, g0, h0, t1, g1, h1, tl, tp, wl, wt, wh, mu, J, pt, vK, vk, vm, tn, tr, v1, vk2, pl, ft, rk, rf, K, m0, f0, k0, m1, f1, k1, tl2, tp2, wl2, wt2, (putF er sb sz nu h ix v).2.2.1, zsx, snx, dn, df, dk, dm, dg, dl, KK, be, st, na, pi, (putF er sb sz nu h ix v).2.2.2.1, (putF er sb sz nu h ix v).2.2.2.2, as', at', op, sp, us, sk, ip, eqvH_of rfl, rfl, ?_⟩
  exact ⟨js, jn, jv, ji', jm, jk, jR', jB'⟩
theorem op_move (j : Nat) (hj : j ≤ 512) (er : Nat → Int32) (im : Int32) (s : St) (t0 : Sp) (g0 h0 : Nat → Int32) (t1 : Sp) (g1 h1 : Nat → Int32) (tl : Nat) (tp : Nat → Int32) (wl : Nat) (wt : Nat → Int32) (wh mu : Int32) (J : St) (pt : Int32) (vK : Nat) (vk vm : Int32) (tn : Nat) (tr : Nat → Int32) (v1 : Value) (vk2 : Nat) (pl ft : Int32) (rk : Nat) (rf : Nat → Int32) (K : St) (m0 : Nat) (f0 k0 : Nat → Int32) (m1 : Nat) (f1 k1 : Nat → Int32) (tl2 : Nat) (tp2 : Nat → Int32) (wl2 : Nat) (wt2 sb : Nat → Int32) (zs : Nat → Nat) (sn : Nat → Nat → Int32) (dn : Nat) (df dk : Nat → Int32) (dm : Nat) (dg dl KK be st na pi sz nu as' : Nat → Int32) (at' op sp us sk ip : Int32) (hC : JC j im s t0 g0 t1 g1 tl tp wl wt tn v1 K m0 f0 m1 f1 tl2 tp2 wl2 wt2 sb zs sn KK sz nu) (h : Int32) (ix : Int32) (r : Int32) (ij : Int32) (n : Int32) : OpS yX8_move cX8_move 8 yX9_move cX9_move 7 [.int h, .int ix, .int r, .int ij, .int n] (Y71 er im s t0 g0 h0 t1 g1 h1 tl tp wl wt wh mu J pt vK vk vm tn tr v1 (.retAddr vk2) pl ft rk rf K m0 f0 k0 m1 f1 k1 tl2 tp2 wl2 wt2 sb zs sn dn df dk dm dg dl) (MW s KK be er st na pi tr sb sz nu as' im at' op sp us (nI tn) sk ip) j := by
  obtain ⟨jS, jn, jv, ji, jm, jk, jR, jB⟩ := hC
  obtain ⟨w, ⟨T0, T1⟩, ⟨L0, L1⟩, ⟨a6, a60, aT⟩, ⟨b7, b24, bW⟩⟩ := id jS
  have ji' : ∃ q : Nat, q ≤ j + 1 ∧ im = nI q := by
    obtain ⟨q, q1, q2⟩ := ji
    exact ⟨q, by omega, q2⟩
  have hWS : wfSh sb sz := fun k hk => ⟨jB k hk, zs k, (jR k hk).1, (jR k hk).2.1⟩
  refine ⟨(moveF er sb sz nu h ix r ij n).1, 2, 2, Y63 er im s t0 g0 h0 t1 g1 h1 tl tp wl wt wh mu J pt vK vk vm tn tr v1 (.retAddr vk2) pl ft rk rf K m0 f0 k0 m1 f1 k1 tl2 tp2 wl2 wt2 sb zs sn, List.drop 63 (Y71 er im s t0 g0 h0 t1 g1 h1 tl tp wl wt wh mu J pt vK vk vm tn tr v1 (.retAddr vk2) pl ft rk rf K m0 f0 k0 m1 f1 k1 tl2 tp2 wl2 wt2 sb zs sn dn df dk dm dg dl), _, _, ⟨rfl, Nat.zero_lt_succ _⟩, by omega, by omega, c_X8_move er im s t0 g0 h0 t1 g1 h1 tl tp wl wt wh mu J pt vK vk vm tn tr v1 (.retAddr vk2) pl ft rk rf K m0 f0 k0 m1 f1 k1 tl2 tp2 wl2 wt2 sb zs sn h ix r ij n sz nu jR jB, c_X9_move s KK be er st na pi tr sb sz nu as' im at' op sp us (nI tn) sk ip h ix r ij n hWS, fun h9 h2 q1 q2 => ?_⟩
  obtain ⟨zsx, snx, jR', rfl⟩ := q1
  obtain ⟨asx, rfl⟩ := q2
  have jB' : ∀ k, k < 4 → widB ((moveF er sb sz nu h ix r ij n).2.2.1 k) := by
    intro k hk
    unfold moveF
    repeat (first | exact jB k hk | split)
  have js := jS
  refine ⟨(moveF er sb sz nu h ix r ij n).2.1, im, s, t0, g0, h0, t1, g1, h1, tl, tp, wl, wt, wh, mu, J, pt, vK, vk, vm, tn, tr, v1, vk2, pl, ft, rk, rf, K, m0, f0, k0, m1, f1, k1, tl2, tp2, wl2, wt2, (moveF er sb sz nu h ix r ij n).2.2.1, zsx, snx, dn, df, dk, dm, dg, dl, KK, be, st, na, pi, (moveF er sb sz nu h ix r ij n).2.2.2.1, (moveF er sb sz nu h ix r ij n).2.2.2.2, asx, at', op, sp, us, sk, ip, eqvH_of rfl, rfl, ?_⟩
  exact ⟨js, jn, jv, ji', jm, jk, jR', jB'⟩
