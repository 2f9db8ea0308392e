def LW (hx hm : List AE) : List AE := hx ++ hm.map (re (rg 71 13))
theorem head_of {h hc t : List AE} {e : AE} (h0 : getO h 0 = some e) (e1 : h = hc ++ t) (p0 : 0 < hc.length) : getO hc 0 = some e := by
  subst e1
  cases hc with
  | nil => exact absurd p0 (Nat.lt_irrefl 0)
  | cons => exact h0
theorem JI.up {j : Nat} {hx hm : List AE} (h : JI j hx hm) : JI (j + 1) hx hm := by
  obtain ⟨er, im, s, t0, g0, h0, t1, g1, h1, tl, tp, wl, wt, wh, mu, J, pt, vK, vk, vm, tn, tr, v1, vk2, pl, ft, rk, rf, K, m0, f0, k0, m1, f1, k1, tl2, tp2, wl2, wt2, sb, zs, sn, dn, df, dk, dm, dg, dl, KK, be, st, na, pi, sz, nu, as', at', op, sp, us, sk, ip, hq, hm, jS, jn, jv, ⟨q, q1, q2⟩, hr⟩ := h
  exact ⟨er, im, s, t0, g0, h0, t1, g1, h1, tl, tp, wl, wt, wh, mu, J, pt, vK, vk, vm, tn, tr, v1, vk2, pl, ft, rk, rf, K, m0, f0, k0, m1, f1, k1, tl2, tp2, wl2, wt2, sb, zs, sn, dn, df, dk, dm, dg, dl, KK, be, st, na, pi, sz, nu, as', at', op, sp, us, sk, ip, hq, hm, jS, jn, jv, ⟨q, by omega, q2⟩, hr⟩
theorem JI.len {j : Nat} {hx hm : List AE} (h : JI j hx hm) : hx.length = 71 ∧ hm.length = 13 := by
  obtain ⟨er, im, s, t0, g0, h0, t1, g1, h1, tl, tp, wl, wt, wh, mu, J, pt, vK, vk, vm, tn, tr, v1, vk2, pl, ft, rk, rf, K, m0, f0, k0, m1, f1, k1, tl2, tp2, wl2, wt2, sb, zs, sn, dn, df, dk, dm, dg, dl, KK, be, st, na, pi, sz, nu, as', at', op, sp, us, sk, ip, hq, rfl, -⟩ := h
  exact ⟨(eqvH_get hq).1, rfl⟩
def OpQ (y : MethodName) (cc : ByteArray) (nL : Nat) (y2 : MethodName) (cc2 : ByteArray) (nL2 : Nat) (as : List Value) (hx hm : List AE) (j : Nat) : Prop := ∃ (hx2 : List AE) (fs fsm : List Value), eqvH hx hx2 ∧ getO hx2 0 = some (.inr (8, fs)) ∧ getO hm 0 = some (.inr (9, fsm)) ∧ hx2.length = 71 ∧ hm.length = 13 ∧ OpS y cc nL y2 cc2 nL2 as hx2 hm j
theorem JI.op {y y2 : MethodName} {cc cc2 : ByteArray} {nL nL2 j : Nat} {as : List Value} {hx hm : List AE} (hJ : JI j hx hm) (hO : ∀ (er : Nat → Int32) (im : Int32) (s : St) (t0 : Sp) (g0 h0 : Nat → Int32) (t1 : Sp) (g1 h1 : Nat → Int32) (tl : Nat) (tp : Nat → Int32) (wl : Nat) (wt : Nat → Int32) (wh mu : Int32) (J : St) (pt : Int32) (vK : Nat) (vk vm : Int32) (tn : Nat) (tr : Nat → Int32) (v1 : Value) (vk2 : Nat) (pl ft : Int32) (rk : Nat) (rf : Nat → Int32) (K : St) (m0 : Nat) (f0 k0 : Nat → Int32) (m1 : Nat) (f1 k1 : Nat → Int32) (tl2 : Nat) (tp2 : Nat → Int32) (wl2 : Nat) (wt2 sb : Nat → Int32) (zs : Nat → Nat) (sn : Nat → Nat → Int32) (dn : Nat) (df dk : Nat → Int32) (dm : Nat) (dg dl KK be st na pi sz nu as' : Nat → Int32) (at' op sp us sk ip : Int32) (hC : JC j im s t0 g0 t1 g1 tl tp wl wt tn v1 K m0 f0 m1 f1 tl2 tp2 wl2 wt2 sb zs sn KK sz nu), OpS y cc nL y2 cc2 nL2 as (Y71 er im s t0 g0 h0 t1 g1 h1 tl tp wl wt wh mu J pt vK vk vm tn tr v1 (.retAddr vk2) pl ft rk rf K m0 f0 k0 m1 f1 k1 tl2 tp2 wl2 wt2 sb zs sn dn df dk dm dg dl) (MW s KK be er st na pi tr sb sz nu as' im at' op sp us (nI tn) sk ip) j) : OpQ y cc nL y2 cc2 nL2 as hx hm j := by
  obtain ⟨er, im, s, t0, g0, h0, t1, g1, h1, tl, tp, wl, wt, wh, mu, J, pt, vK, vk, vm, tn, tr, v1, vk2, pl, ft, rk, rf, K, m0, f0, k0, m1, f1, k1, tl2, tp2, wl2, wt2, sb, zs, sn, dn, df, dk, dm, dg, dl, KK, be, st, na, pi, sz, nu, as', at', op, sp, us, sk, ip, hq, rfl, hC⟩ := hJ
  exact ⟨_, _, _, hq, rfl, rfl, rfl, rfl, hO er im s t0 g0 h0 t1 g1 h1 tl tp wl wt wh mu J pt vK vk vm tn tr v1 vk2 pl ft rk rf K m0 f0 k0 m1 f1 k1 tl2 tp2 wl2 wt2 sb zs sn dn df dk dm dg dl KK be st na pi sz nu as' at' op sp us sk ip hC⟩
section LOOP
variable {E : AV} {ad0 : Nat → Nat} {n0 cells slots pc : Nat} {lv : List (Nat × Value)} {st : List Value} {b L : Nat} {xs : Nat → Int32} {nm : String}
theorem LX.le (hX : LX E b L xs) : L ≤ 3072 := by
  obtain ⟨p, l, e, s, m, args, below, meth, c, D, tc, sa, A⟩ := E
  exact hX.2.2.2.2.2.2
/-- both calls, and their answers' comparison -/
theorem lw_call (hE : AGood E cL_law 4 RL (some .boolean) nm) (hX : LX E b L xs) (hcl : cells ≤ 600000) (hsl : slots ≤ 7302250) {y y2 : MethodName} {cc cc2 : ByteArray} {nLa nLb j np i1 i2 : Nat} {as : List Value} {hx hm : List AE} (pX pM pE : Nat) {off : Int} (hO : OpQ y cc nLa y2 cc2 nLb as hx hm j) (kX : MKV RL i1 y cc nLa (some .int) np 8) (kM : MKV RL i2 y2 cc2 nLb (some .int) np 9) (dX : decode cL_law pX = .ok (.invokevirtual i1, 3)) (dM : decode cL_law pM = .ok (.invokevirtual i2, 3)) (dE : decode cL_law pE = .ok (.if_icmp .eq off, 3)) (hpE : pM + 3 = pE) (ht : (pE : Int) + off = ((1320 : Nat) : Int)) (has : ∀ n m, as.map (rv (rg n m)) = as) (hlen : as.length = np) (bX : Nat.ble nLa 50 = true) (bM : Nat.ble nLb 50 = true)
    (push1 : ∀ h2 : List AE, AW E room_1 4 (QL E b) ad0 n0 cells slots pX lv (as.reverse ++ [.ref 0]) h2 → AW E room_1 4 (QL E b) ad0 n0 cells slots pc lv [] h2)
    (push2 : ∀ (v : Int32) (h2 : List AE), AW E room_1 4 (QL E b) ad0 n0 cells slots pM lv (as.reverse ++ [.ref 71, .int v]) h2 → AW E room_1 4 (QL E b) ad0 n0 cells slots (pX + 3) lv [.int v] h2)
    (kk : ∀ hx' hm' : List AE, JI (j + 1) hx' hm' → AW E room_1 4 (QL E b) ad0 n0 cells slots 1320 lv [] (LW hx' hm')) : AW E room_1 4 (QL E b) ad0 n0 cells slots pc lv [] (LW hx hm) := by
  obtain ⟨hx2, fs, fsm, hq, h0, h0m, hxl, hml, v, d, d2, hc, t, QX, QY, ⟨e1, p0⟩, n1, n2, MX, MY, fin⟩ := hO
  have hrc := head_of h0 e1 p0
  refine A_eqv (eqvH_app _ hq) ?_
  refine push1 _ ?_
  refine A_h ([] ++ hc.map (re (rg 0 hc.length)) ++ (t ++ hm.map (re (rg 71 13)))) (by rw [mre_rg0, e1]; simp) ?_
  refine A_callL hE (pX + 3) 0 [] (t ++ hm.map (re (rg 71 13))) MX dX rfl kX rfl hrc (has _ _) rfl hlen n1 bX hcl hsl rfl (fun x h' hp hl => ?_)
  obtain ⟨rfl, hp⟩ := hp
  have hl2 : (h' ++ t).length = 71 := by
    rw [← hxl, e1, List.length_append, List.length_append, hl]
  refine push2 x _ ?_
  refine A_h ((h' ++ t) ++ hm.map (re (rg 71 hm.length)) ++ []) (by rw [mre_rg0, hml]; simp) ?_
  refine A_callL hE pE 71 (h' ++ t) [] MY dM hpE kM hl2 h0m (has _ _) rfl hlen n2 bM hcl hsl rfl (fun x2 h2 hp2 hl3 => ?_)
  obtain ⟨rfl, hp2⟩ := hp2
  refine A_h (LW (h' ++ t) h2) (by unfold LW; rw [hml]; simp) ?_
  exact A_icmp_eq hE (pE + 3) 1320 dE rfl ht (fun _ => kk _ _ (fin _ _ hp hp2)) (fun hne => absurd rfl hne)

set_option maxRecDepth 100000 in
theorem lc_home (hE : AGood E cL_law 4 RL (some .boolean) nm) (hX : LX E b L xs) (hcl : cells ≤ 600000) (hsl : slots ≤ 7302250) {j : Nat} {hx hm : List AE} (hj : 6 * j + 6 ≤ L) (hJ : JI j hx hm) (kk : ∀ hx' hm' : List AE, JI (j + 1) hx' hm' → AW E room_1 4 (QL E b) ad0 n0 cells slots 1320 [(3, .int (nI (6 * j))), (2, .ref 71), (1, .ref 0), (0, .retAddr 8)] [] (LW hx' hm')) : AW E room_1 4 (QL E b) ad0 n0 cells slots 192 [(3, .int (nI (6 * j))), (2, .ref 71), (1, .ref 0), (0, .retAddr 8)] [] (LW hx hm) := by
  have x7 := LX.le hX
  refine lw_call hE hX hcl hsl 198 207 210 (hJ.op (fun er im s t0 g0 h0 t1 g1 h1 tl tp wl wt wh mu J pt vK vk vm tn tr v1 vk2 pl ft rk rf K m0 f0 k0 m1 f1 k1 tl2 tp2 wl2 wt2 sb zs sn dn df dk dm dg dl KK be st na pi sz nu as' at' op sp us sk ip hC => op_home j (by omega) er im s t0 g0 h0 t1 g1 h1 tl tp wl wt wh mu J pt vK vk vm tn tr v1 vk2 pl ft rk rf K m0 f0 k0 m1 f1 k1 tl2 tp2 wl2 wt2 sb zs sn dn df dk dm dg dl KK be st na pi sz nu as' at' op sp us sk ip hC (xs (6 * j + 1)))) mkL_13 mkL_17 dL_law_198 dL_law_207 dL_law_210 rfl rfl (fun _ _ => rfl) rfl rfl rfl (fun h2 k => ?_) (fun v h2 k => ?_) kk
  · refine A_aload_n hE 193 dL_law_192 rfl rfl ?_
    refine A_arg hE hX 198 1 j dL_law_193 dL_law_194 dL_law_195 dL_law_196 dL_law_197 rfl rfl rfl rfl (by omega) ?_
    exact k
  · refine A_aload_n hE 202 dL_law_201 rfl rfl ?_
    refine A_arg hE hX 207 1 j dL_law_202 dL_law_203 dL_law_204 dL_law_205 dL_law_206 rfl rfl rfl rfl (by omega) ?_
    exact k
set_option maxRecDepth 100000 in
theorem lc_homeIs (hE : AGood E cL_law 4 RL (some .boolean) nm) (hX : LX E b L xs) (hcl : cells ≤ 600000) (hsl : slots ≤ 7302250) {j : Nat} {hx hm : List AE} (hj : 6 * j + 6 ≤ L) (hJ : JI j hx hm) (kk : ∀ hx' hm' : List AE, JI (j + 1) hx' hm' → AW E room_1 4 (QL E b) ad0 n0 cells slots 1320 [(3, .int (nI (6 * j))), (2, .ref 71), (1, .ref 0), (0, .retAddr 8)] [] (LW hx' hm')) : AW E room_1 4 (QL E b) ad0 n0 cells slots 215 [(3, .int (nI (6 * j))), (2, .ref 71), (1, .ref 0), (0, .retAddr 8)] [] (LW hx hm) := by
  have x7 := LX.le hX
  refine lw_call hE hX hcl hsl 226 240 243 (hJ.op (fun er im s t0 g0 h0 t1 g1 h1 tl tp wl wt wh mu J pt vK vk vm tn tr v1 vk2 pl ft rk rf K m0 f0 k0 m1 f1 k1 tl2 tp2 wl2 wt2 sb zs sn dn df dk dm dg dl KK be st na pi sz nu as' at' op sp us sk ip hC => op_homeIs j (by omega) er im s t0 g0 h0 t1 g1 h1 tl tp wl wt wh mu J pt vK vk vm tn tr v1 vk2 pl ft rk rf K m0 f0 k0 m1 f1 k1 tl2 tp2 wl2 wt2 sb zs sn dn df dk dm dg dl KK be st na pi sz nu as' at' op sp us sk ip hC (xs (6 * j + 1)) (xs (6 * j + 2)))) mkL_18 mkL_22 dL_law_226 dL_law_240 dL_law_243 rfl rfl (fun _ _ => rfl) rfl rfl rfl (fun h2 k => ?_) (fun v h2 k => ?_) kk
  · refine A_aload_n hE 216 dL_law_215 rfl rfl ?_
    refine A_arg hE hX 221 1 j dL_law_216 dL_law_217 dL_law_218 dL_law_219 dL_law_220 rfl rfl rfl rfl (by omega) ?_
    refine A_arg hE hX 226 2 j dL_law_221 dL_law_222 dL_law_223 dL_law_224 dL_law_225 rfl rfl rfl rfl (by omega) ?_
    exact k
  · refine A_aload_n hE 230 dL_law_229 rfl rfl ?_
    refine A_arg hE hX 235 1 j dL_law_230 dL_law_231 dL_law_232 dL_law_233 dL_law_234 rfl rfl rfl rfl (by omega) ?_
    refine A_arg hE hX 240 2 j dL_law_235 dL_law_236 dL_law_237 dL_law_238 dL_law_239 rfl rfl rfl rfl (by omega) ?_
    exact k
set_option maxRecDepth 100000 in
theorem lc_become (hE : AGood E cL_law 4 RL (some .boolean) nm) (hX : LX E b L xs) (hcl : cells ≤ 600000) (hsl : slots ≤ 7302250) {j : Nat} {hx hm : List AE} (hj : 6 * j + 6 ≤ L) (hJ : JI j hx hm) (kk : ∀ hx' hm' : List AE, JI (j + 1) hx' hm' → AW E room_1 4 (QL E b) ad0 n0 cells slots 1320 [(3, .int (nI (6 * j))), (2, .ref 71), (1, .ref 0), (0, .retAddr 8)] [] (LW hx' hm')) : AW E room_1 4 (QL E b) ad0 n0 cells slots 248 [(3, .int (nI (6 * j))), (2, .ref 71), (1, .ref 0), (0, .retAddr 8)] [] (LW hx hm) := by
  have x7 := LX.le hX
  refine lw_call hE hX hcl hsl 259 273 276 (hJ.op (fun er im s t0 g0 h0 t1 g1 h1 tl tp wl wt wh mu J pt vK vk vm tn tr v1 vk2 pl ft rk rf K m0 f0 k0 m1 f1 k1 tl2 tp2 wl2 wt2 sb zs sn dn df dk dm dg dl KK be st na pi sz nu as' at' op sp us sk ip hC => op_become j (by omega) er im s t0 g0 h0 t1 g1 h1 tl tp wl wt wh mu J pt vK vk vm tn tr v1 vk2 pl ft rk rf K m0 f0 k0 m1 f1 k1 tl2 tp2 wl2 wt2 sb zs sn dn df dk dm dg dl KK be st na pi sz nu as' at' op sp us sk ip hC (xs (6 * j + 1)) (xs (6 * j + 2)))) mkL_23 mkL_26 dL_law_259 dL_law_273 dL_law_276 rfl rfl (fun _ _ => rfl) rfl rfl rfl (fun h2 k => ?_) (fun v h2 k => ?_) kk
  · refine A_aload_n hE 249 dL_law_248 rfl rfl ?_
    refine A_arg hE hX 254 1 j dL_law_249 dL_law_250 dL_law_251 dL_law_252 dL_law_253 rfl rfl rfl rfl (by omega) ?_
    refine A_arg hE hX 259 2 j dL_law_254 dL_law_255 dL_law_256 dL_law_257 dL_law_258 rfl rfl rfl rfl (by omega) ?_
    exact k
  · refine A_aload_n hE 263 dL_law_262 rfl rfl ?_
    refine A_arg hE hX 268 1 j dL_law_263 dL_law_264 dL_law_265 dL_law_266 dL_law_267 rfl rfl rfl rfl (by omega) ?_
    refine A_arg hE hX 273 2 j dL_law_268 dL_law_269 dL_law_270 dL_law_271 dL_law_272 rfl rfl rfl rfl (by omega) ?_
    exact k
set_option maxRecDepth 100000 in
theorem lc_as (hE : AGood E cL_law 4 RL (some .boolean) nm) (hX : LX E b L xs) (hcl : cells ≤ 600000) (hsl : slots ≤ 7302250) {j : Nat} {hx hm : List AE} (hj : 6 * j + 6 ≤ L) (hJ : JI j hx hm) (kk : ∀ hx' hm' : List AE, JI (j + 1) hx' hm' → AW E room_1 4 (QL E b) ad0 n0 cells slots 1320 [(3, .int (nI (6 * j))), (2, .ref 71), (1, .ref 0), (0, .retAddr 8)] [] (LW hx' hm')) : AW E room_1 4 (QL E b) ad0 n0 cells slots 281 [(3, .int (nI (6 * j))), (2, .ref 71), (1, .ref 0), (0, .retAddr 8)] [] (LW hx hm) := by
  have x7 := LX.le hX
  refine lw_call hE hX hcl hsl 292 306 309 (hJ.op (fun er im s t0 g0 h0 t1 g1 h1 tl tp wl wt wh mu J pt vK vk vm tn tr v1 vk2 pl ft rk rf K m0 f0 k0 m1 f1 k1 tl2 tp2 wl2 wt2 sb zs sn dn df dk dm dg dl KK be st na pi sz nu as' at' op sp us sk ip hC => op_as j (by omega) er im s t0 g0 h0 t1 g1 h1 tl tp wl wt wh mu J pt vK vk vm tn tr v1 vk2 pl ft rk rf K m0 f0 k0 m1 f1 k1 tl2 tp2 wl2 wt2 sb zs sn dn df dk dm dg dl KK be st na pi sz nu as' at' op sp us sk ip hC (xs (6 * j + 1)) (xs (6 * j + 2)))) mkL_27 mkL_30 dL_law_292 dL_law_306 dL_law_309 rfl rfl (fun _ _ => rfl) rfl rfl rfl (fun h2 k => ?_) (fun v h2 k => ?_) kk
  · refine A_aload_n hE 282 dL_law_281 rfl rfl ?_
    refine A_arg hE hX 287 1 j dL_law_282 dL_law_283 dL_law_284 dL_law_285 dL_law_286 rfl rfl rfl rfl (by omega) ?_
    refine A_arg hE hX 292 2 j dL_law_287 dL_law_288 dL_law_289 dL_law_290 dL_law_291 rfl rfl rfl rfl (by omega) ?_
    exact k
  · refine A_aload_n hE 296 dL_law_295 rfl rfl ?_
    refine A_arg hE hX 301 1 j dL_law_296 dL_law_297 dL_law_298 dL_law_299 dL_law_300 rfl rfl rfl rfl (by omega) ?_
    refine A_arg hE hX 306 2 j dL_law_301 dL_law_302 dL_law_303 dL_law_304 dL_law_305 rfl rfl rfl rfl (by omega) ?_
    exact k
set_option maxRecDepth 100000 in
theorem lc_past (hE : AGood E cL_law 4 RL (some .boolean) nm) (hX : LX E b L xs) (hcl : cells ≤ 600000) (hsl : slots ≤ 7302250) {j : Nat} {hx hm : List AE} (hj : 6 * j + 6 ≤ L) (hJ : JI j hx hm) (kk : ∀ hx' hm' : List AE, JI (j + 1) hx' hm' → AW E room_1 4 (QL E b) ad0 n0 cells slots 1320 [(3, .int (nI (6 * j))), (2, .ref 71), (1, .ref 0), (0, .retAddr 8)] [] (LW hx' hm')) : AW E room_1 4 (QL E b) ad0 n0 cells slots 314 [(3, .int (nI (6 * j))), (2, .ref 71), (1, .ref 0), (0, .retAddr 8)] [] (LW hx hm) := by
  have x7 := LX.le hX
  refine lw_call hE hX hcl hsl 325 339 342 (hJ.op (fun er im s t0 g0 h0 t1 g1 h1 tl tp wl wt wh mu J pt vK vk vm tn tr v1 vk2 pl ft rk rf K m0 f0 k0 m1 f1 k1 tl2 tp2 wl2 wt2 sb zs sn dn df dk dm dg dl KK be st na pi sz nu as' at' op sp us sk ip hC => op_past j (by omega) er im s t0 g0 h0 t1 g1 h1 tl tp wl wt wh mu J pt vK vk vm tn tr v1 vk2 pl ft rk rf K m0 f0 k0 m1 f1 k1 tl2 tp2 wl2 wt2 sb zs sn dn df dk dm dg dl KK be st na pi sz nu as' at' op sp us sk ip hC (xs (6 * j + 1)) (xs (6 * j + 2)))) mkL_31 mkL_34 dL_law_325 dL_law_339 dL_law_342 rfl rfl (fun _ _ => rfl) rfl rfl rfl (fun h2 k => ?_) (fun v h2 k => ?_) kk
  · refine A_aload_n hE 315 dL_law_314 rfl rfl ?_
    refine A_arg hE hX 320 1 j dL_law_315 dL_law_316 dL_law_317 dL_law_318 dL_law_319 rfl rfl rfl rfl (by omega) ?_
    refine A_arg hE hX 325 2 j dL_law_320 dL_law_321 dL_law_322 dL_law_323 dL_law_324 rfl rfl rfl rfl (by omega) ?_
    exact k
  · refine A_aload_n hE 329 dL_law_328 rfl rfl ?_
    refine A_arg hE hX 334 1 j dL_law_329 dL_law_330 dL_law_331 dL_law_332 dL_law_333 rfl rfl rfl rfl (by omega) ?_
    refine A_arg hE hX 339 2 j dL_law_334 dL_law_335 dL_law_336 dL_law_337 dL_law_338 rfl rfl rfl rfl (by omega) ?_
    exact k
set_option maxRecDepth 100000 in
theorem lc_goes (hE : AGood E cL_law 4 RL (some .boolean) nm) (hX : LX E b L xs) (hcl : cells ≤ 600000) (hsl : slots ≤ 7302250) {j : Nat} {hx hm : List AE} (hj : 6 * j + 6 ≤ L) (hJ : JI j hx hm) (kk : ∀ hx' hm' : List AE, JI (j + 1) hx' hm' → AW E room_1 4 (QL E b) ad0 n0 cells slots 1320 [(3, .int (nI (6 * j))), (2, .ref 71), (1, .ref 0), (0, .retAddr 8)] [] (LW hx' hm')) : AW E room_1 4 (QL E b) ad0 n0 cells slots 347 [(3, .int (nI (6 * j))), (2, .ref 71), (1, .ref 0), (0, .retAddr 8)] [] (LW hx hm) := by
  have x7 := LX.le hX
  refine lw_call hE hX hcl hsl 353 362 365 (hJ.op (fun er im s t0 g0 h0 t1 g1 h1 tl tp wl wt wh mu J pt vK vk vm tn tr v1 vk2 pl ft rk rf K m0 f0 k0 m1 f1 k1 tl2 tp2 wl2 wt2 sb zs sn dn df dk dm dg dl KK be st na pi sz nu as' at' op sp us sk ip hC => op_goes j (by omega) er im s t0 g0 h0 t1 g1 h1 tl tp wl wt wh mu J pt vK vk vm tn tr v1 vk2 pl ft rk rf K m0 f0 k0 m1 f1 k1 tl2 tp2 wl2 wt2 sb zs sn dn df dk dm dg dl KK be st na pi sz nu as' at' op sp us sk ip hC (xs (6 * j + 1)))) mkL_35 mkL_38 dL_law_353 dL_law_362 dL_law_365 rfl rfl (fun _ _ => rfl) rfl rfl rfl (fun h2 k => ?_) (fun v h2 k => ?_) kk
  · refine A_aload_n hE 348 dL_law_347 rfl rfl ?_
    refine A_arg hE hX 353 1 j dL_law_348 dL_law_349 dL_law_350 dL_law_351 dL_law_352 rfl rfl rfl rfl (by omega) ?_
    exact k
  · refine A_aload_n hE 357 dL_law_356 rfl rfl ?_
    refine A_arg hE hX 362 1 j dL_law_357 dL_law_358 dL_law_359 dL_law_360 dL_law_361 rfl rfl rfl rfl (by omega) ?_
    exact k
set_option maxRecDepth 100000 in
theorem lc_set (hE : AGood E cL_law 4 RL (some .boolean) nm) (hX : LX E b L xs) (hcl : cells ≤ 600000) (hsl : slots ≤ 7302250) {j : Nat} {hx hm : List AE} (hj : 6 * j + 6 ≤ L) (hJ : JI j hx hm) (kk : ∀ hx' hm' : List AE, JI (j + 1) hx' hm' → AW E room_1 4 (QL E b) ad0 n0 cells slots 1320 [(3, .int (nI (6 * j))), (2, .ref 71), (1, .ref 0), (0, .retAddr 8)] [] (LW hx' hm')) : AW E room_1 4 (QL E b) ad0 n0 cells slots 370 [(3, .int (nI (6 * j))), (2, .ref 71), (1, .ref 0), (0, .retAddr 8)] [] (LW hx hm) := by
  have x7 := LX.le hX
  refine lw_call hE hX hcl hsl 381 395 398 (hJ.op (fun er im s t0 g0 h0 t1 g1 h1 tl tp wl wt wh mu J pt vK vk vm tn tr v1 vk2 pl ft rk rf K m0 f0 k0 m1 f1 k1 tl2 tp2 wl2 wt2 sb zs sn dn df dk dm dg dl KK be st na pi sz nu as' at' op sp us sk ip hC => op_set j (by omega) er im s t0 g0 h0 t1 g1 h1 tl tp wl wt wh mu J pt vK vk vm tn tr v1 vk2 pl ft rk rf K m0 f0 k0 m1 f1 k1 tl2 tp2 wl2 wt2 sb zs sn dn df dk dm dg dl KK be st na pi sz nu as' at' op sp us sk ip hC (xs (6 * j + 1)) (xs (6 * j + 2)))) mkL_39 mkL_42 dL_law_381 dL_law_395 dL_law_398 rfl rfl (fun _ _ => rfl) rfl rfl rfl (fun h2 k => ?_) (fun v h2 k => ?_) kk
  · refine A_aload_n hE 371 dL_law_370 rfl rfl ?_
    refine A_arg hE hX 376 1 j dL_law_371 dL_law_372 dL_law_373 dL_law_374 dL_law_375 rfl rfl rfl rfl (by omega) ?_
    refine A_arg hE hX 381 2 j dL_law_376 dL_law_377 dL_law_378 dL_law_379 dL_law_380 rfl rfl rfl rfl (by omega) ?_
    exact k
  · refine A_aload_n hE 385 dL_law_384 rfl rfl ?_
    refine A_arg hE hX 390 1 j dL_law_385 dL_law_386 dL_law_387 dL_law_388 dL_law_389 rfl rfl rfl rfl (by omega) ?_
    refine A_arg hE hX 395 2 j dL_law_390 dL_law_391 dL_law_392 dL_law_393 dL_law_394 rfl rfl rfl rfl (by omega) ?_
    exact k
set_option maxRecDepth 100000 in
theorem lc_hears (hE : AGood E cL_law 4 RL (some .boolean) nm) (hX : LX E b L xs) (hcl : cells ≤ 600000) (hsl : slots ≤ 7302250) {j : Nat} {hx hm : List AE} (hj : 6 * j + 6 ≤ L) (hJ : JI j hx hm) (kk : ∀ hx' hm' : List AE, JI (j + 1) hx' hm' → AW E room_1 4 (QL E b) ad0 n0 cells slots 1320 [(3, .int (nI (6 * j))), (2, .ref 71), (1, .ref 0), (0, .retAddr 8)] [] (LW hx' hm')) : AW E room_1 4 (QL E b) ad0 n0 cells slots 403 [(3, .int (nI (6 * j))), (2, .ref 71), (1, .ref 0), (0, .retAddr 8)] [] (LW hx hm) := by
  have x7 := LX.le hX
  refine lw_call hE hX hcl hsl 414 428 431 (hJ.op (fun er im s t0 g0 h0 t1 g1 h1 tl tp wl wt wh mu J pt vK vk vm tn tr v1 vk2 pl ft rk rf K m0 f0 k0 m1 f1 k1 tl2 tp2 wl2 wt2 sb zs sn dn df dk dm dg dl KK be st na pi sz nu as' at' op sp us sk ip hC => op_hears j (by omega) er im s t0 g0 h0 t1 g1 h1 tl tp wl wt wh mu J pt vK vk vm tn tr v1 vk2 pl ft rk rf K m0 f0 k0 m1 f1 k1 tl2 tp2 wl2 wt2 sb zs sn dn df dk dm dg dl KK be st na pi sz nu as' at' op sp us sk ip hC (xs (6 * j + 1)) (xs (6 * j + 2)))) mkL_43 mkL_46 dL_law_414 dL_law_428 dL_law_431 rfl rfl (fun _ _ => rfl) rfl rfl rfl (fun h2 k => ?_) (fun v h2 k => ?_) kk
  · refine A_aload_n hE 404 dL_law_403 rfl rfl ?_
    refine A_arg hE hX 409 1 j dL_law_404 dL_law_405 dL_law_406 dL_law_407 dL_law_408 rfl rfl rfl rfl (by omega) ?_
    refine A_arg hE hX 414 2 j dL_law_409 dL_law_410 dL_law_411 dL_law_412 dL_law_413 rfl rfl rfl rfl (by omega) ?_
    exact k
  · refine A_aload_n hE 418 dL_law_417 rfl rfl ?_
    refine A_arg hE hX 423 1 j dL_law_418 dL_law_419 dL_law_420 dL_law_421 dL_law_422 rfl rfl rfl rfl (by omega) ?_
    refine A_arg hE hX 428 2 j dL_law_423 dL_law_424 dL_law_425 dL_law_426 dL_law_427 rfl rfl rfl rfl (by omega) ?_
    exact k
set_option maxRecDepth 100000 in
theorem lc_feed (hE : AGood E cL_law 4 RL (some .boolean) nm) (hX : LX E b L xs) (hcl : cells ≤ 600000) (hsl : slots ≤ 7302250) {j : Nat} {hx hm : List AE} (hj : 6 * j + 6 ≤ L) (hJ : JI j hx hm) (kk : ∀ hx' hm' : List AE, JI (j + 1) hx' hm' → AW E room_1 4 (QL E b) ad0 n0 cells slots 1320 [(3, .int (nI (6 * j))), (2, .ref 71), (1, .ref 0), (0, .retAddr 8)] [] (LW hx' hm')) : AW E room_1 4 (QL E b) ad0 n0 cells slots 436 [(3, .int (nI (6 * j))), (2, .ref 71), (1, .ref 0), (0, .retAddr 8)] [] (LW hx hm) := by
  have x7 := LX.le hX
  refine lw_call hE hX hcl hsl 462 491 494 (hJ.op (fun er im s t0 g0 h0 t1 g1 h1 tl tp wl wt wh mu J pt vK vk vm tn tr v1 vk2 pl ft rk rf K m0 f0 k0 m1 f1 k1 tl2 tp2 wl2 wt2 sb zs sn dn df dk dm dg dl KK be st na pi sz nu as' at' op sp us sk ip hC => op_feed j (by omega) er im s t0 g0 h0 t1 g1 h1 tl tp wl wt wh mu J pt vK vk vm tn tr v1 vk2 pl ft rk rf K m0 f0 k0 m1 f1 k1 tl2 tp2 wl2 wt2 sb zs sn dn df dk dm dg dl KK be st na pi sz nu as' at' op sp us sk ip hC ((((xs (6 * j + 1)).toInt64) <<< ((32 : Int32).toInt64 &&& 63)) ||| (((xs (6 * j + 2)).toInt64) &&& (4294967295 : Int64))) (xs (6 * j + 3)))) mkL_49 mkL_53 dL_law_462 dL_law_491 dL_law_494 rfl rfl (fun _ _ => rfl) rfl rfl rfl (fun h2 k => ?_) (fun v h2 k => ?_) kk
  · refine A_aload_n hE 437 dL_law_436 rfl rfl ?_
    refine A_arg hE hX 442 1 j dL_law_437 dL_law_438 dL_law_439 dL_law_440 dL_law_441 rfl rfl rfl rfl (by omega) ?_
    refine A_i2l hE 443 dL_law_442 rfl ?_
    refine A_bipush hE 445 dL_law_443 rfl (32) (by decide) ?_
    refine A_lshl hE 446 dL_law_445 rfl ?_
    refine A_arg hE hX 451 2 j dL_law_446 dL_law_447 dL_law_448 dL_law_449 dL_law_450 rfl rfl rfl rfl (by omega) ?_
    refine A_i2l hE 452 dL_law_451 rfl ?_
    refine A_ldc2 hE 455 dL_law_452 rfl kkL_47 ?_
    refine A_land hE 456 dL_law_455 rfl ?_
    refine A_lor hE 457 dL_law_456 rfl ?_
    refine A_arg hE hX 462 3 j dL_law_457 dL_law_458 dL_law_459 dL_law_460 dL_law_461 rfl rfl rfl rfl (by omega) ?_
    exact k
  · refine A_aload_n hE 466 dL_law_465 rfl rfl ?_
    refine A_arg hE hX 471 1 j dL_law_466 dL_law_467 dL_law_468 dL_law_469 dL_law_470 rfl rfl rfl rfl (by omega) ?_
    refine A_i2l hE 472 dL_law_471 rfl ?_
    refine A_bipush hE 474 dL_law_472 rfl (32) (by decide) ?_
    refine A_lshl hE 475 dL_law_474 rfl ?_
    refine A_arg hE hX 480 2 j dL_law_475 dL_law_476 dL_law_477 dL_law_478 dL_law_479 rfl rfl rfl rfl (by omega) ?_
    refine A_i2l hE 481 dL_law_480 rfl ?_
    refine A_ldc2 hE 484 dL_law_481 rfl kkL_47 ?_
    refine A_land hE 485 dL_law_484 rfl ?_
    refine A_lor hE 486 dL_law_485 rfl ?_
    refine A_arg hE hX 491 3 j dL_law_486 dL_law_487 dL_law_488 dL_law_489 dL_law_490 rfl rfl rfl rfl (by omega) ?_
    exact k
set_option maxRecDepth 100000 in
theorem lc_text (hE : AGood E cL_law 4 RL (some .boolean) nm) (hX : LX E b L xs) (hcl : cells ≤ 600000) (hsl : slots ≤ 7302250) {j : Nat} {hx hm : List AE} (hj : 6 * j + 6 ≤ L) (hJ : JI j hx hm) (kk : ∀ hx' hm' : List AE, JI (j + 1) hx' hm' → AW E room_1 4 (QL E b) ad0 n0 cells slots 1320 [(3, .int (nI (6 * j))), (2, .ref 71), (1, .ref 0), (0, .retAddr 8)] [] (LW hx' hm')) : AW E room_1 4 (QL E b) ad0 n0 cells slots 499 [(3, .int (nI (6 * j))), (2, .ref 71), (1, .ref 0), (0, .retAddr 8)] [] (LW hx hm) := by
  have x7 := LX.le hX
  refine lw_call hE hX hcl hsl 505 514 517 (hJ.op (fun er im s t0 g0 h0 t1 g1 h1 tl tp wl wt wh mu J pt vK vk vm tn tr v1 vk2 pl ft rk rf K m0 f0 k0 m1 f1 k1 tl2 tp2 wl2 wt2 sb zs sn dn df dk dm dg dl KK be st na pi sz nu as' at' op sp us sk ip hC => op_text j (by omega) er im s t0 g0 h0 t1 g1 h1 tl tp wl wt wh mu J pt vK vk vm tn tr v1 vk2 pl ft rk rf K m0 f0 k0 m1 f1 k1 tl2 tp2 wl2 wt2 sb zs sn dn df dk dm dg dl KK be st na pi sz nu as' at' op sp us sk ip hC (xs (6 * j + 1)))) mkL_54 mkL_57 dL_law_505 dL_law_514 dL_law_517 rfl rfl (fun _ _ => rfl) rfl rfl rfl (fun h2 k => ?_) (fun v h2 k => ?_) kk
  · refine A_aload_n hE 500 dL_law_499 rfl rfl ?_
    refine A_arg hE hX 505 1 j dL_law_500 dL_law_501 dL_law_502 dL_law_503 dL_law_504 rfl rfl rfl rfl (by omega) ?_
    exact k
  · refine A_aload_n hE 509 dL_law_508 rfl rfl ?_
    refine A_arg hE hX 514 1 j dL_law_509 dL_law_510 dL_law_511 dL_law_512 dL_law_513 rfl rfl rfl rfl (by omega) ?_
    exact k
set_option maxRecDepth 100000 in
theorem lc_untell (hE : AGood E cL_law 4 RL (some .boolean) nm) (hX : LX E b L xs) (hcl : cells ≤ 600000) (hsl : slots ≤ 7302250) {j : Nat} {hx hm : List AE} (hj : 6 * j + 6 ≤ L) (hJ : JI j hx hm) (kk : ∀ hx' hm' : List AE, JI (j + 1) hx' hm' → AW E room_1 4 (QL E b) ad0 n0 cells slots 1320 [(3, .int (nI (6 * j))), (2, .ref 71), (1, .ref 0), (0, .retAddr 8)] [] (LW hx' hm')) : AW E room_1 4 (QL E b) ad0 n0 cells slots 522 [(3, .int (nI (6 * j))), (2, .ref 71), (1, .ref 0), (0, .retAddr 8)] [] (LW hx hm) := by
  have x7 := LX.le hX
  refine lw_call hE hX hcl hsl 528 537 540 (hJ.op (fun er im s t0 g0 h0 t1 g1 h1 tl tp wl wt wh mu J pt vK vk vm tn tr v1 vk2 pl ft rk rf K m0 f0 k0 m1 f1 k1 tl2 tp2 wl2 wt2 sb zs sn dn df dk dm dg dl KK be st na pi sz nu as' at' op sp us sk ip hC => op_untell j (by omega) er im s t0 g0 h0 t1 g1 h1 tl tp wl wt wh mu J pt vK vk vm tn tr v1 vk2 pl ft rk rf K m0 f0 k0 m1 f1 k1 tl2 tp2 wl2 wt2 sb zs sn dn df dk dm dg dl KK be st na pi sz nu as' at' op sp us sk ip hC (xs (6 * j + 1)))) mkL_58 mkL_61 dL_law_528 dL_law_537 dL_law_540 rfl rfl (fun _ _ => rfl) rfl rfl rfl (fun h2 k => ?_) (fun v h2 k => ?_) kk
  · refine A_aload_n hE 523 dL_law_522 rfl rfl ?_
    refine A_arg hE hX 528 1 j dL_law_523 dL_law_524 dL_law_525 dL_law_526 dL_law_527 rfl rfl rfl rfl (by omega) ?_
    exact k
  · refine A_aload_n hE 532 dL_law_531 rfl rfl ?_
    refine A_arg hE hX 537 1 j dL_law_532 dL_law_533 dL_law_534 dL_law_535 dL_law_536 rfl rfl rfl rfl (by omega) ?_
    exact k
set_option maxRecDepth 100000 in
theorem lc_law (hE : AGood E cL_law 4 RL (some .boolean) nm) (hX : LX E b L xs) (hcl : cells ≤ 600000) (hsl : slots ≤ 7302250) {j : Nat} {hx hm : List AE} (hj : 6 * j + 6 ≤ L) (hJ : JI j hx hm) (kk : ∀ hx' hm' : List AE, JI (j + 1) hx' hm' → AW E room_1 4 (QL E b) ad0 n0 cells slots 1320 [(3, .int (nI (6 * j))), (2, .ref 71), (1, .ref 0), (0, .retAddr 8)] [] (LW hx' hm')) : AW E room_1 4 (QL E b) ad0 n0 cells slots 545 [(3, .int (nI (6 * j))), (2, .ref 71), (1, .ref 0), (0, .retAddr 8)] [] (LW hx hm) := by
  have x7 := LX.le hX
  refine lw_call hE hX hcl hsl 566 590 593 (hJ.op (fun er im s t0 g0 h0 t1 g1 h1 tl tp wl wt wh mu J pt vK vk vm tn tr v1 vk2 pl ft rk rf K m0 f0 k0 m1 f1 k1 tl2 tp2 wl2 wt2 sb zs sn dn df dk dm dg dl KK be st na pi sz nu as' at' op sp us sk ip hC => op_law j (by omega) er im s t0 g0 h0 t1 g1 h1 tl tp wl wt wh mu J pt vK vk vm tn tr v1 vk2 pl ft rk rf K m0 f0 k0 m1 f1 k1 tl2 tp2 wl2 wt2 sb zs sn dn df dk dm dg dl KK be st na pi sz nu as' at' op sp us sk ip hC (xs (6 * j + 1)) (xs (6 * j + 2)) (xs (6 * j + 3)) (xs (6 * j + 4)))) mkL_62 mkL_66 dL_law_566 dL_law_590 dL_law_593 rfl rfl (fun _ _ => rfl) rfl rfl rfl (fun h2 k => ?_) (fun v h2 k => ?_) kk
  · refine A_aload_n hE 546 dL_law_545 rfl rfl ?_
    refine A_arg hE hX 551 1 j dL_law_546 dL_law_547 dL_law_548 dL_law_549 dL_law_550 rfl rfl rfl rfl (by omega) ?_
    refine A_arg hE hX 556 2 j dL_law_551 dL_law_552 dL_law_553 dL_law_554 dL_law_555 rfl rfl rfl rfl (by omega) ?_
    refine A_arg hE hX 561 3 j dL_law_556 dL_law_557 dL_law_558 dL_law_559 dL_law_560 rfl rfl rfl rfl (by omega) ?_
    refine A_arg hE hX 566 4 j dL_law_561 dL_law_562 dL_law_563 dL_law_564 dL_law_565 rfl rfl rfl rfl (by omega) ?_
    exact k
  · refine A_aload_n hE 570 dL_law_569 rfl rfl ?_
    refine A_arg hE hX 575 1 j dL_law_570 dL_law_571 dL_law_572 dL_law_573 dL_law_574 rfl rfl rfl rfl (by omega) ?_
    refine A_arg hE hX 580 2 j dL_law_575 dL_law_576 dL_law_577 dL_law_578 dL_law_579 rfl rfl rfl rfl (by omega) ?_
    refine A_arg hE hX 585 3 j dL_law_580 dL_law_581 dL_law_582 dL_law_583 dL_law_584 rfl rfl rfl rfl (by omega) ?_
    refine A_arg hE hX 590 4 j dL_law_585 dL_law_586 dL_law_587 dL_law_588 dL_law_589 rfl rfl rfl rfl (by omega) ?_
    exact k
set_option maxRecDepth 100000 in
theorem lc_days (hE : AGood E cL_law 4 RL (some .boolean) nm) (hX : LX E b L xs) (hcl : cells ≤ 600000) (hsl : slots ≤ 7302250) {j : Nat} {hx hm : List AE} (hj : 6 * j + 6 ≤ L) (hJ : JI j hx hm) (kk : ∀ hx' hm' : List AE, JI (j + 1) hx' hm' → AW E room_1 4 (QL E b) ad0 n0 cells slots 1320 [(3, .int (nI (6 * j))), (2, .ref 71), (1, .ref 0), (0, .retAddr 8)] [] (LW hx' hm')) : AW E room_1 4 (QL E b) ad0 n0 cells slots 598 [(3, .int (nI (6 * j))), (2, .ref 71), (1, .ref 0), (0, .retAddr 8)] [] (LW hx hm) := by
  have x7 := LX.le hX
  refine lw_call hE hX hcl hsl 604 613 616 (hJ.op (fun er im s t0 g0 h0 t1 g1 h1 tl tp wl wt wh mu J pt vK vk vm tn tr v1 vk2 pl ft rk rf K m0 f0 k0 m1 f1 k1 tl2 tp2 wl2 wt2 sb zs sn dn df dk dm dg dl KK be st na pi sz nu as' at' op sp us sk ip hC => op_days j (by omega) er im s t0 g0 h0 t1 g1 h1 tl tp wl wt wh mu J pt vK vk vm tn tr v1 vk2 pl ft rk rf K m0 f0 k0 m1 f1 k1 tl2 tp2 wl2 wt2 sb zs sn dn df dk dm dg dl KK be st na pi sz nu as' at' op sp us sk ip hC (xs (6 * j + 1)))) mkL_67 mkL_70 dL_law_604 dL_law_613 dL_law_616 rfl rfl (fun _ _ => rfl) rfl rfl rfl (fun h2 k => ?_) (fun v h2 k => ?_) kk
  · refine A_aload_n hE 599 dL_law_598 rfl rfl ?_
    refine A_arg hE hX 604 1 j dL_law_599 dL_law_600 dL_law_601 dL_law_602 dL_law_603 rfl rfl rfl rfl (by omega) ?_
    exact k
  · refine A_aload_n hE 608 dL_law_607 rfl rfl ?_
    refine A_arg hE hX 613 1 j dL_law_608 dL_law_609 dL_law_610 dL_law_611 dL_law_612 rfl rfl rfl rfl (by omega) ?_
    exact k
set_option maxRecDepth 100000 in
theorem lc_loose (hE : AGood E cL_law 4 RL (some .boolean) nm) (hX : LX E b L xs) (hcl : cells ≤ 600000) (hsl : slots ≤ 7302250) {j : Nat} {hx hm : List AE} (hj : 6 * j + 6 ≤ L) (hJ : JI j hx hm) (kk : ∀ hx' hm' : List AE, JI (j + 1) hx' hm' → AW E room_1 4 (QL E b) ad0 n0 cells slots 1320 [(3, .int (nI (6 * j))), (2, .ref 71), (1, .ref 0), (0, .retAddr 8)] [] (LW hx' hm')) : AW E room_1 4 (QL E b) ad0 n0 cells slots 621 [(3, .int (nI (6 * j))), (2, .ref 71), (1, .ref 0), (0, .retAddr 8)] [] (LW hx hm) := by
  have x7 := LX.le hX
  refine lw_call hE hX hcl hsl 627 636 639 (hJ.op (fun er im s t0 g0 h0 t1 g1 h1 tl tp wl wt wh mu J pt vK vk vm tn tr v1 vk2 pl ft rk rf K m0 f0 k0 m1 f1 k1 tl2 tp2 wl2 wt2 sb zs sn dn df dk dm dg dl KK be st na pi sz nu as' at' op sp us sk ip hC => op_loose j (by omega) er im s t0 g0 h0 t1 g1 h1 tl tp wl wt wh mu J pt vK vk vm tn tr v1 vk2 pl ft rk rf K m0 f0 k0 m1 f1 k1 tl2 tp2 wl2 wt2 sb zs sn dn df dk dm dg dl KK be st na pi sz nu as' at' op sp us sk ip hC (xs (6 * j + 1)))) mkL_71 mkL_74 dL_law_627 dL_law_636 dL_law_639 rfl rfl (fun _ _ => rfl) rfl rfl rfl (fun h2 k => ?_) (fun v h2 k => ?_) kk
  · refine A_aload_n hE 622 dL_law_621 rfl rfl ?_
    refine A_arg hE hX 627 1 j dL_law_622 dL_law_623 dL_law_624 dL_law_625 dL_law_626 rfl rfl rfl rfl (by omega) ?_
    exact k
  · refine A_aload_n hE 631 dL_law_630 rfl rfl ?_
    refine A_arg hE hX 636 1 j dL_law_631 dL_law_632 dL_law_633 dL_law_634 dL_law_635 rfl rfl rfl rfl (by omega) ?_
    exact k
set_option maxRecDepth 100000 in
theorem lc_day (hE : AGood E cL_law 4 RL (some .boolean) nm) (hX : LX E b L xs) (hcl : cells ≤ 600000) (hsl : slots ≤ 7302250) {j : Nat} {hx hm : List AE} (hj : 6 * j + 6 ≤ L) (hJ : JI j hx hm) (kk : ∀ hx' hm' : List AE, JI (j + 1) hx' hm' → AW E room_1 4 (QL E b) ad0 n0 cells slots 1320 [(3, .int (nI (6 * j))), (2, .ref 71), (1, .ref 0), (0, .retAddr 8)] [] (LW hx' hm')) : AW E room_1 4 (QL E b) ad0 n0 cells slots 644 [(3, .int (nI (6 * j))), (2, .ref 71), (1, .ref 0), (0, .retAddr 8)] [] (LW hx hm) := by
  have x7 := LX.le hX
  refine lw_call hE hX hcl hsl 650 659 662 (hJ.op (fun er im s t0 g0 h0 t1 g1 h1 tl tp wl wt wh mu J pt vK vk vm tn tr v1 vk2 pl ft rk rf K m0 f0 k0 m1 f1 k1 tl2 tp2 wl2 wt2 sb zs sn dn df dk dm dg dl KK be st na pi sz nu as' at' op sp us sk ip hC => op_day j (by omega) er im s t0 g0 h0 t1 g1 h1 tl tp wl wt wh mu J pt vK vk vm tn tr v1 vk2 pl ft rk rf K m0 f0 k0 m1 f1 k1 tl2 tp2 wl2 wt2 sb zs sn dn df dk dm dg dl KK be st na pi sz nu as' at' op sp us sk ip hC (xs (6 * j + 1)))) mkL_75 mkL_78 dL_law_650 dL_law_659 dL_law_662 rfl rfl (fun _ _ => rfl) rfl rfl rfl (fun h2 k => ?_) (fun v h2 k => ?_) kk
  · refine A_aload_n hE 645 dL_law_644 rfl rfl ?_
    refine A_arg hE hX 650 1 j dL_law_645 dL_law_646 dL_law_647 dL_law_648 dL_law_649 rfl rfl rfl rfl (by omega) ?_
    exact k
  · refine A_aload_n hE 654 dL_law_653 rfl rfl ?_
    refine A_arg hE hX 659 1 j dL_law_654 dL_law_655 dL_law_656 dL_law_657 dL_law_658 rfl rfl rfl rfl (by omega) ?_
    exact k
set_option maxRecDepth 100000 in
theorem lc_seed (hE : AGood E cL_law 4 RL (some .boolean) nm) (hX : LX E b L xs) (hcl : cells ≤ 600000) (hsl : slots ≤ 7302250) {j : Nat} {hx hm : List AE} (hj : 6 * j + 6 ≤ L) (hJ : JI j hx hm) (kk : ∀ hx' hm' : List AE, JI (j + 1) hx' hm' → AW E room_1 4 (QL E b) ad0 n0 cells slots 1320 [(3, .int (nI (6 * j))), (2, .ref 71), (1, .ref 0), (0, .retAddr 8)] [] (LW hx' hm')) : AW E room_1 4 (QL E b) ad0 n0 cells slots 667 [(3, .int (nI (6 * j))), (2, .ref 71), (1, .ref 0), (0, .retAddr 8)] [] (LW hx hm) := by
  have x7 := LX.le hX
  refine lw_call hE hX hcl hsl 673 682 685 (hJ.op (fun er im s t0 g0 h0 t1 g1 h1 tl tp wl wt wh mu J pt vK vk vm tn tr v1 vk2 pl ft rk rf K m0 f0 k0 m1 f1 k1 tl2 tp2 wl2 wt2 sb zs sn dn df dk dm dg dl KK be st na pi sz nu as' at' op sp us sk ip hC => op_seed j (by omega) er im s t0 g0 h0 t1 g1 h1 tl tp wl wt wh mu J pt vK vk vm tn tr v1 vk2 pl ft rk rf K m0 f0 k0 m1 f1 k1 tl2 tp2 wl2 wt2 sb zs sn dn df dk dm dg dl KK be st na pi sz nu as' at' op sp us sk ip hC (xs (6 * j + 1)))) mkL_79 mkL_82 dL_law_673 dL_law_682 dL_law_685 rfl rfl (fun _ _ => rfl) rfl rfl rfl (fun h2 k => ?_) (fun v h2 k => ?_) kk
  · refine A_aload_n hE 668 dL_law_667 rfl rfl ?_
    refine A_arg hE hX 673 1 j dL_law_668 dL_law_669 dL_law_670 dL_law_671 dL_law_672 rfl rfl rfl rfl (by omega) ?_
    exact k
  · refine A_aload_n hE 677 dL_law_676 rfl rfl ?_
    refine A_arg hE hX 682 1 j dL_law_677 dL_law_678 dL_law_679 dL_law_680 dL_law_681 rfl rfl rfl rfl (by omega) ?_
    exact k
set_option maxRecDepth 100000 in
theorem lc_then (hE : AGood E cL_law 4 RL (some .boolean) nm) (hX : LX E b L xs) (hcl : cells ≤ 600000) (hsl : slots ≤ 7302250) {j : Nat} {hx hm : List AE} (hj : 6 * j + 6 ≤ L) (hJ : JI j hx hm) (kk : ∀ hx' hm' : List AE, JI (j + 1) hx' hm' → AW E room_1 4 (QL E b) ad0 n0 cells slots 1320 [(3, .int (nI (6 * j))), (2, .ref 71), (1, .ref 0), (0, .retAddr 8)] [] (LW hx' hm')) : AW E room_1 4 (QL E b) ad0 n0 cells slots 690 [(3, .int (nI (6 * j))), (2, .ref 71), (1, .ref 0), (0, .retAddr 8)] [] (LW hx hm) := by
  have x7 := LX.le hX
  refine lw_call hE hX hcl hsl 701 715 718 (hJ.op (fun er im s t0 g0 h0 t1 g1 h1 tl tp wl wt wh mu J pt vK vk vm tn tr v1 vk2 pl ft rk rf K m0 f0 k0 m1 f1 k1 tl2 tp2 wl2 wt2 sb zs sn dn df dk dm dg dl KK be st na pi sz nu as' at' op sp us sk ip hC => op_then j (by omega) er im s t0 g0 h0 t1 g1 h1 tl tp wl wt wh mu J pt vK vk vm tn tr v1 vk2 pl ft rk rf K m0 f0 k0 m1 f1 k1 tl2 tp2 wl2 wt2 sb zs sn dn df dk dm dg dl KK be st na pi sz nu as' at' op sp us sk ip hC (xs (6 * j + 1)) (xs (6 * j + 2)))) mkL_83 mkL_86 dL_law_701 dL_law_715 dL_law_718 rfl rfl (fun _ _ => rfl) rfl rfl rfl (fun h2 k => ?_) (fun v h2 k => ?_) kk
  · refine A_aload_n hE 691 dL_law_690 rfl rfl ?_
    refine A_arg hE hX 696 1 j dL_law_691 dL_law_692 dL_law_693 dL_law_694 dL_law_695 rfl rfl rfl rfl (by omega) ?_
    refine A_arg hE hX 701 2 j dL_law_696 dL_law_697 dL_law_698 dL_law_699 dL_law_700 rfl rfl rfl rfl (by omega) ?_
    exact k
  · refine A_aload_n hE 705 dL_law_704 rfl rfl ?_
    refine A_arg hE hX 710 1 j dL_law_705 dL_law_706 dL_law_707 dL_law_708 dL_law_709 rfl rfl rfl rfl (by omega) ?_
    refine A_arg hE hX 715 2 j dL_law_710 dL_law_711 dL_law_712 dL_law_713 dL_law_714 rfl rfl rfl rfl (by omega) ?_
    exact k
set_option maxRecDepth 100000 in
theorem lc_soonest (hE : AGood E cL_law 4 RL (some .boolean) nm) (hX : LX E b L xs) (hcl : cells ≤ 600000) (hsl : slots ≤ 7302250) {j : Nat} {hx hm : List AE} (hj : 6 * j + 6 ≤ L) (hJ : JI j hx hm) (kk : ∀ hx' hm' : List AE, JI (j + 1) hx' hm' → AW E room_1 4 (QL E b) ad0 n0 cells slots 1320 [(3, .int (nI (6 * j))), (2, .ref 71), (1, .ref 0), (0, .retAddr 8)] [] (LW hx' hm')) : AW E room_1 4 (QL E b) ad0 n0 cells slots 723 [(3, .int (nI (6 * j))), (2, .ref 71), (1, .ref 0), (0, .retAddr 8)] [] (LW hx hm) := by
  have x7 := LX.le hX
  refine lw_call hE hX hcl hsl 734 748 751 (hJ.op (fun er im s t0 g0 h0 t1 g1 h1 tl tp wl wt wh mu J pt vK vk vm tn tr v1 vk2 pl ft rk rf K m0 f0 k0 m1 f1 k1 tl2 tp2 wl2 wt2 sb zs sn dn df dk dm dg dl KK be st na pi sz nu as' at' op sp us sk ip hC => op_soonest j (by omega) er im s t0 g0 h0 t1 g1 h1 tl tp wl wt wh mu J pt vK vk vm tn tr v1 vk2 pl ft rk rf K m0 f0 k0 m1 f1 k1 tl2 tp2 wl2 wt2 sb zs sn dn df dk dm dg dl KK be st na pi sz nu as' at' op sp us sk ip hC (xs (6 * j + 1)) (xs (6 * j + 2)))) mkL_87 mkL_90 dL_law_734 dL_law_748 dL_law_751 rfl rfl (fun _ _ => rfl) rfl rfl rfl (fun h2 k => ?_) (fun v h2 k => ?_) kk
  · refine A_aload_n hE 724 dL_law_723 rfl rfl ?_
    refine A_arg hE hX 729 1 j dL_law_724 dL_law_725 dL_law_726 dL_law_727 dL_law_728 rfl rfl rfl rfl (by omega) ?_
    refine A_arg hE hX 734 2 j dL_law_729 dL_law_730 dL_law_731 dL_law_732 dL_law_733 rfl rfl rfl rfl (by omega) ?_
    exact k
  · refine A_aload_n hE 738 dL_law_737 rfl rfl ?_
    refine A_arg hE hX 743 1 j dL_law_738 dL_law_739 dL_law_740 dL_law_741 dL_law_742 rfl rfl rfl rfl (by omega) ?_
    refine A_arg hE hX 748 2 j dL_law_743 dL_law_744 dL_law_745 dL_law_746 dL_law_747 rfl rfl rfl rfl (by omega) ?_
    exact k
set_option maxRecDepth 100000 in
theorem lc_startFor (hE : AGood E cL_law 4 RL (some .boolean) nm) (hX : LX E b L xs) (hcl : cells ≤ 600000) (hsl : slots ≤ 7302250) {j : Nat} {hx hm : List AE} (hj : 6 * j + 6 ≤ L) (hJ : JI j hx hm) (kk : ∀ hx' hm' : List AE, JI (j + 1) hx' hm' → AW E room_1 4 (QL E b) ad0 n0 cells slots 1320 [(3, .int (nI (6 * j))), (2, .ref 71), (1, .ref 0), (0, .retAddr 8)] [] (LW hx' hm')) : AW E room_1 4 (QL E b) ad0 n0 cells slots 756 [(3, .int (nI (6 * j))), (2, .ref 71), (1, .ref 0), (0, .retAddr 8)] [] (LW hx hm) := by
  have x7 := LX.le hX
  refine lw_call hE hX hcl hsl 772 791 794 (hJ.op (fun er im s t0 g0 h0 t1 g1 h1 tl tp wl wt wh mu J pt vK vk vm tn tr v1 vk2 pl ft rk rf K m0 f0 k0 m1 f1 k1 tl2 tp2 wl2 wt2 sb zs sn dn df dk dm dg dl KK be st na pi sz nu as' at' op sp us sk ip hC => op_startFor j (by omega) er im s t0 g0 h0 t1 g1 h1 tl tp wl wt wh mu J pt vK vk vm tn tr v1 vk2 pl ft rk rf K m0 f0 k0 m1 f1 k1 tl2 tp2 wl2 wt2 sb zs sn dn df dk dm dg dl KK be st na pi sz nu as' at' op sp us sk ip hC (xs (6 * j + 1)) (xs (6 * j + 2)) (xs (6 * j + 3)))) mkL_91 mkL_95 dL_law_772 dL_law_791 dL_law_794 rfl rfl (fun _ _ => rfl) rfl rfl rfl (fun h2 k => ?_) (fun v h2 k => ?_) kk
  · refine A_aload_n hE 757 dL_law_756 rfl rfl ?_
    refine A_arg hE hX 762 1 j dL_law_757 dL_law_758 dL_law_759 dL_law_760 dL_law_761 rfl rfl rfl rfl (by omega) ?_
    refine A_arg hE hX 767 2 j dL_law_762 dL_law_763 dL_law_764 dL_law_765 dL_law_766 rfl rfl rfl rfl (by omega) ?_
    refine A_arg hE hX 772 3 j dL_law_767 dL_law_768 dL_law_769 dL_law_770 dL_law_771 rfl rfl rfl rfl (by omega) ?_
    exact k
  · refine A_aload_n hE 776 dL_law_775 rfl rfl ?_
    refine A_arg hE hX 781 1 j dL_law_776 dL_law_777 dL_law_778 dL_law_779 dL_law_780 rfl rfl rfl rfl (by omega) ?_
    refine A_arg hE hX 786 2 j dL_law_781 dL_law_782 dL_law_783 dL_law_784 dL_law_785 rfl rfl rfl rfl (by omega) ?_
    refine A_arg hE hX 791 3 j dL_law_786 dL_law_787 dL_law_788 dL_law_789 dL_law_790 rfl rfl rfl rfl (by omega) ?_
    exact k
set_option maxRecDepth 100000 in
theorem lc_swapFor (hE : AGood E cL_law 4 RL (some .boolean) nm) (hX : LX E b L xs) (hcl : cells ≤ 600000) (hsl : slots ≤ 7302250) {j : Nat} {hx hm : List AE} (hj : 6 * j + 6 ≤ L) (hJ : JI j hx hm) (kk : ∀ hx' hm' : List AE, JI (j + 1) hx' hm' → AW E room_1 4 (QL E b) ad0 n0 cells slots 1320 [(3, .int (nI (6 * j))), (2, .ref 71), (1, .ref 0), (0, .retAddr 8)] [] (LW hx' hm')) : AW E room_1 4 (QL E b) ad0 n0 cells slots 799 [(3, .int (nI (6 * j))), (2, .ref 71), (1, .ref 0), (0, .retAddr 8)] [] (LW hx hm) := by
  have x7 := LX.le hX
  refine lw_call hE hX hcl hsl 810 824 827 (hJ.op (fun er im s t0 g0 h0 t1 g1 h1 tl tp wl wt wh mu J pt vK vk vm tn tr v1 vk2 pl ft rk rf K m0 f0 k0 m1 f1 k1 tl2 tp2 wl2 wt2 sb zs sn dn df dk dm dg dl KK be st na pi sz nu as' at' op sp us sk ip hC => op_swapFor j (by omega) er im s t0 g0 h0 t1 g1 h1 tl tp wl wt wh mu J pt vK vk vm tn tr v1 vk2 pl ft rk rf K m0 f0 k0 m1 f1 k1 tl2 tp2 wl2 wt2 sb zs sn dn df dk dm dg dl KK be st na pi sz nu as' at' op sp us sk ip hC (xs (6 * j + 1)) (xs (6 * j + 2)))) mkL_96 mkL_99 dL_law_810 dL_law_824 dL_law_827 rfl rfl (fun _ _ => rfl) rfl rfl rfl (fun h2 k => ?_) (fun v h2 k => ?_) kk
  · refine A_aload_n hE 800 dL_law_799 rfl rfl ?_
    refine A_arg hE hX 805 1 j dL_law_800 dL_law_801 dL_law_802 dL_law_803 dL_law_804 rfl rfl rfl rfl (by omega) ?_
    refine A_arg hE hX 810 2 j dL_law_805 dL_law_806 dL_law_807 dL_law_808 dL_law_809 rfl rfl rfl rfl (by omega) ?_
    exact k
  · refine A_aload_n hE 814 dL_law_813 rfl rfl ?_
    refine A_arg hE hX 819 1 j dL_law_814 dL_law_815 dL_law_816 dL_law_817 dL_law_818 rfl rfl rfl rfl (by omega) ?_
    refine A_arg hE hX 824 2 j dL_law_819 dL_law_820 dL_law_821 dL_law_822 dL_law_823 rfl rfl rfl rfl (by omega) ?_
    exact k
set_option maxRecDepth 100000 in
theorem lc_spare (hE : AGood E cL_law 4 RL (some .boolean) nm) (hX : LX E b L xs) (hcl : cells ≤ 600000) (hsl : slots ≤ 7302250) {j : Nat} {hx hm : List AE} (hj : 6 * j + 6 ≤ L) (hJ : JI j hx hm) (kk : ∀ hx' hm' : List AE, JI (j + 1) hx' hm' → AW E room_1 4 (QL E b) ad0 n0 cells slots 1320 [(3, .int (nI (6 * j))), (2, .ref 71), (1, .ref 0), (0, .retAddr 8)] [] (LW hx' hm')) : AW E room_1 4 (QL E b) ad0 n0 cells slots 832 [(3, .int (nI (6 * j))), (2, .ref 71), (1, .ref 0), (0, .retAddr 8)] [] (LW hx hm) := by
  have x7 := LX.le hX
  refine lw_call hE hX hcl hsl 843 857 860 (hJ.op (fun er im s t0 g0 h0 t1 g1 h1 tl tp wl wt wh mu J pt vK vk vm tn tr v1 vk2 pl ft rk rf K m0 f0 k0 m1 f1 k1 tl2 tp2 wl2 wt2 sb zs sn dn df dk dm dg dl KK be st na pi sz nu as' at' op sp us sk ip hC => op_spare j (by omega) er im s t0 g0 h0 t1 g1 h1 tl tp wl wt wh mu J pt vK vk vm tn tr v1 vk2 pl ft rk rf K m0 f0 k0 m1 f1 k1 tl2 tp2 wl2 wt2 sb zs sn dn df dk dm dg dl KK be st na pi sz nu as' at' op sp us sk ip hC (xs (6 * j + 1)) (xs (6 * j + 2)))) mkL_100 mkL_103 dL_law_843 dL_law_857 dL_law_860 rfl rfl (fun _ _ => rfl) rfl rfl rfl (fun h2 k => ?_) (fun v h2 k => ?_) kk
  · refine A_aload_n hE 833 dL_law_832 rfl rfl ?_
    refine A_arg hE hX 838 1 j dL_law_833 dL_law_834 dL_law_835 dL_law_836 dL_law_837 rfl rfl rfl rfl (by omega) ?_
    refine A_arg hE hX 843 2 j dL_law_838 dL_law_839 dL_law_840 dL_law_841 dL_law_842 rfl rfl rfl rfl (by omega) ?_
    exact k
  · refine A_aload_n hE 847 dL_law_846 rfl rfl ?_
    refine A_arg hE hX 852 1 j dL_law_847 dL_law_848 dL_law_849 dL_law_850 dL_law_851 rfl rfl rfl rfl (by omega) ?_
    refine A_arg hE hX 857 2 j dL_law_852 dL_law_853 dL_law_854 dL_law_855 dL_law_856 rfl rfl rfl rfl (by omega) ?_
    exact k
set_option maxRecDepth 100000 in
theorem lc_odds (hE : AGood E cL_law 4 RL (some .boolean) nm) (hX : LX E b L xs) (hcl : cells ≤ 600000) (hsl : slots ≤ 7302250) {j : Nat} {hx hm : List AE} (hj : 6 * j + 6 ≤ L) (hJ : JI j hx hm) (kk : ∀ hx' hm' : List AE, JI (j + 1) hx' hm' → AW E room_1 4 (QL E b) ad0 n0 cells slots 1320 [(3, .int (nI (6 * j))), (2, .ref 71), (1, .ref 0), (0, .retAddr 8)] [] (LW hx' hm')) : AW E room_1 4 (QL E b) ad0 n0 cells slots 865 [(3, .int (nI (6 * j))), (2, .ref 71), (1, .ref 0), (0, .retAddr 8)] [] (LW hx hm) := by
  have x7 := LX.le hX
  refine lw_call hE hX hcl hsl 886 910 913 (hJ.op (fun er im s t0 g0 h0 t1 g1 h1 tl tp wl wt wh mu J pt vK vk vm tn tr v1 vk2 pl ft rk rf K m0 f0 k0 m1 f1 k1 tl2 tp2 wl2 wt2 sb zs sn dn df dk dm dg dl KK be st na pi sz nu as' at' op sp us sk ip hC => op_odds j (by omega) er im s t0 g0 h0 t1 g1 h1 tl tp wl wt wh mu J pt vK vk vm tn tr v1 vk2 pl ft rk rf K m0 f0 k0 m1 f1 k1 tl2 tp2 wl2 wt2 sb zs sn dn df dk dm dg dl KK be st na pi sz nu as' at' op sp us sk ip hC (xs (6 * j + 1)) (xs (6 * j + 2)) (xs (6 * j + 3)) (xs (6 * j + 4)))) mkL_104 mkL_107 dL_law_886 dL_law_910 dL_law_913 rfl rfl (fun _ _ => rfl) rfl rfl rfl (fun h2 k => ?_) (fun v h2 k => ?_) kk
  · refine A_aload_n hE 866 dL_law_865 rfl rfl ?_
    refine A_arg hE hX 871 1 j dL_law_866 dL_law_867 dL_law_868 dL_law_869 dL_law_870 rfl rfl rfl rfl (by omega) ?_
    refine A_arg hE hX 876 2 j dL_law_871 dL_law_872 dL_law_873 dL_law_874 dL_law_875 rfl rfl rfl rfl (by omega) ?_
    refine A_arg hE hX 881 3 j dL_law_876 dL_law_877 dL_law_878 dL_law_879 dL_law_880 rfl rfl rfl rfl (by omega) ?_
    refine A_arg hE hX 886 4 j dL_law_881 dL_law_882 dL_law_883 dL_law_884 dL_law_885 rfl rfl rfl rfl (by omega) ?_
    exact k
  · refine A_aload_n hE 890 dL_law_889 rfl rfl ?_
    refine A_arg hE hX 895 1 j dL_law_890 dL_law_891 dL_law_892 dL_law_893 dL_law_894 rfl rfl rfl rfl (by omega) ?_
    refine A_arg hE hX 900 2 j dL_law_895 dL_law_896 dL_law_897 dL_law_898 dL_law_899 rfl rfl rfl rfl (by omega) ?_
    refine A_arg hE hX 905 3 j dL_law_900 dL_law_901 dL_law_902 dL_law_903 dL_law_904 rfl rfl rfl rfl (by omega) ?_
    refine A_arg hE hX 910 4 j dL_law_905 dL_law_906 dL_law_907 dL_law_908 dL_law_909 rfl rfl rfl rfl (by omega) ?_
    exact k
set_option maxRecDepth 100000 in
theorem lc_fits (hE : AGood E cL_law 4 RL (some .boolean) nm) (hX : LX E b L xs) (hcl : cells ≤ 600000) (hsl : slots ≤ 7302250) {j : Nat} {hx hm : List AE} (hj : 6 * j + 6 ≤ L) (hJ : JI j hx hm) (kk : ∀ hx' hm' : List AE, JI (j + 1) hx' hm' → AW E room_1 4 (QL E b) ad0 n0 cells slots 1320 [(3, .int (nI (6 * j))), (2, .ref 71), (1, .ref 0), (0, .retAddr 8)] [] (LW hx' hm')) : AW E room_1 4 (QL E b) ad0 n0 cells slots 918 [(3, .int (nI (6 * j))), (2, .ref 71), (1, .ref 0), (0, .retAddr 8)] [] (LW hx hm) := by
  have x7 := LX.le hX
  refine lw_call hE hX hcl hsl 929 943 946 (hJ.op (fun er im s t0 g0 h0 t1 g1 h1 tl tp wl wt wh mu J pt vK vk vm tn tr v1 vk2 pl ft rk rf K m0 f0 k0 m1 f1 k1 tl2 tp2 wl2 wt2 sb zs sn dn df dk dm dg dl KK be st na pi sz nu as' at' op sp us sk ip hC => op_fits j (by omega) er im s t0 g0 h0 t1 g1 h1 tl tp wl wt wh mu J pt vK vk vm tn tr v1 vk2 pl ft rk rf K m0 f0 k0 m1 f1 k1 tl2 tp2 wl2 wt2 sb zs sn dn df dk dm dg dl KK be st na pi sz nu as' at' op sp us sk ip hC (xs (6 * j + 1)) (xs (6 * j + 2)))) mkL_108 mkL_111 dL_law_929 dL_law_943 dL_law_946 rfl rfl (fun _ _ => rfl) rfl rfl rfl (fun h2 k => ?_) (fun v h2 k => ?_) kk
  · refine A_aload_n hE 919 dL_law_918 rfl rfl ?_
    refine A_arg hE hX 924 1 j dL_law_919 dL_law_920 dL_law_921 dL_law_922 dL_law_923 rfl rfl rfl rfl (by omega) ?_
    refine A_arg hE hX 929 2 j dL_law_924 dL_law_925 dL_law_926 dL_law_927 dL_law_928 rfl rfl rfl rfl (by omega) ?_
    exact k
  · refine A_aload_n hE 933 dL_law_932 rfl rfl ?_
    refine A_arg hE hX 938 1 j dL_law_933 dL_law_934 dL_law_935 dL_law_936 dL_law_937 rfl rfl rfl rfl (by omega) ?_
    refine A_arg hE hX 943 2 j dL_law_938 dL_law_939 dL_law_940 dL_law_941 dL_law_942 rfl rfl rfl rfl (by omega) ?_
    exact k
set_option maxRecDepth 100000 in
theorem lc_voice (hE : AGood E cL_law 4 RL (some .boolean) nm) (hX : LX E b L xs) (hcl : cells ≤ 600000) (hsl : slots ≤ 7302250) {j : Nat} {hx hm : List AE} (hj : 6 * j + 6 ≤ L) (hJ : JI j hx hm) (kk : ∀ hx' hm' : List AE, JI (j + 1) hx' hm' → AW E room_1 4 (QL E b) ad0 n0 cells slots 1320 [(3, .int (nI (6 * j))), (2, .ref 71), (1, .ref 0), (0, .retAddr 8)] [] (LW hx' hm')) : AW E room_1 4 (QL E b) ad0 n0 cells slots 951 [(3, .int (nI (6 * j))), (2, .ref 71), (1, .ref 0), (0, .retAddr 8)] [] (LW hx hm) := by
  have x7 := LX.le hX
  refine lw_call hE hX hcl hsl 967 986 989 (hJ.op (fun er im s t0 g0 h0 t1 g1 h1 tl tp wl wt wh mu J pt vK vk vm tn tr v1 vk2 pl ft rk rf K m0 f0 k0 m1 f1 k1 tl2 tp2 wl2 wt2 sb zs sn dn df dk dm dg dl KK be st na pi sz nu as' at' op sp us sk ip hC => op_voice j (by omega) er im s t0 g0 h0 t1 g1 h1 tl tp wl wt wh mu J pt vK vk vm tn tr v1 vk2 pl ft rk rf K m0 f0 k0 m1 f1 k1 tl2 tp2 wl2 wt2 sb zs sn dn df dk dm dg dl KK be st na pi sz nu as' at' op sp us sk ip hC (xs (6 * j + 1)) (xs (6 * j + 2)) (xs (6 * j + 3)))) mkL_112 mkL_115 dL_law_967 dL_law_986 dL_law_989 rfl rfl (fun _ _ => rfl) rfl rfl rfl (fun h2 k => ?_) (fun v h2 k => ?_) kk
  · refine A_aload_n hE 952 dL_law_951 rfl rfl ?_
    refine A_arg hE hX 957 1 j dL_law_952 dL_law_953 dL_law_954 dL_law_955 dL_law_956 rfl rfl rfl rfl (by omega) ?_
    refine A_arg hE hX 962 2 j dL_law_957 dL_law_958 dL_law_959 dL_law_960 dL_law_961 rfl rfl rfl rfl (by omega) ?_
    refine A_arg hE hX 967 3 j dL_law_962 dL_law_963 dL_law_964 dL_law_965 dL_law_966 rfl rfl rfl rfl (by omega) ?_
    exact k
  · refine A_aload_n hE 971 dL_law_970 rfl rfl ?_
    refine A_arg hE hX 976 1 j dL_law_971 dL_law_972 dL_law_973 dL_law_974 dL_law_975 rfl rfl rfl rfl (by omega) ?_
    refine A_arg hE hX 981 2 j dL_law_976 dL_law_977 dL_law_978 dL_law_979 dL_law_980 rfl rfl rfl rfl (by omega) ?_
    refine A_arg hE hX 986 3 j dL_law_981 dL_law_982 dL_law_983 dL_law_984 dL_law_985 rfl rfl rfl rfl (by omega) ?_
    exact k
set_option maxRecDepth 100000 in
theorem lc_body (hE : AGood E cL_law 4 RL (some .boolean) nm) (hX : LX E b L xs) (hcl : cells ≤ 600000) (hsl : slots ≤ 7302250) {j : Nat} {hx hm : List AE} (hj : 6 * j + 6 ≤ L) (hJ : JI j hx hm) (kk : ∀ hx' hm' : List AE, JI (j + 1) hx' hm' → AW E room_1 4 (QL E b) ad0 n0 cells slots 1320 [(3, .int (nI (6 * j))), (2, .ref 71), (1, .ref 0), (0, .retAddr 8)] [] (LW hx' hm')) : AW E room_1 4 (QL E b) ad0 n0 cells slots 994 [(3, .int (nI (6 * j))), (2, .ref 71), (1, .ref 0), (0, .retAddr 8)] [] (LW hx hm) := by
  have x7 := LX.le hX
  refine lw_call hE hX hcl hsl 1000 1009 1012 (hJ.op (fun er im s t0 g0 h0 t1 g1 h1 tl tp wl wt wh mu J pt vK vk vm tn tr v1 vk2 pl ft rk rf K m0 f0 k0 m1 f1 k1 tl2 tp2 wl2 wt2 sb zs sn dn df dk dm dg dl KK be st na pi sz nu as' at' op sp us sk ip hC => op_body j (by omega) er im s t0 g0 h0 t1 g1 h1 tl tp wl wt wh mu J pt vK vk vm tn tr v1 vk2 pl ft rk rf K m0 f0 k0 m1 f1 k1 tl2 tp2 wl2 wt2 sb zs sn dn df dk dm dg dl KK be st na pi sz nu as' at' op sp us sk ip hC (xs (6 * j + 1)))) mkL_116 mkL_119 dL_law_1000 dL_law_1009 dL_law_1012 rfl rfl (fun _ _ => rfl) rfl rfl rfl (fun h2 k => ?_) (fun v h2 k => ?_) kk
  · refine A_aload_n hE 995 dL_law_994 rfl rfl ?_
    refine A_arg hE hX 1000 1 j dL_law_995 dL_law_996 dL_law_997 dL_law_998 dL_law_999 rfl rfl rfl rfl (by omega) ?_
    exact k
  · refine A_aload_n hE 1004 dL_law_1003 rfl rfl ?_
    refine A_arg hE hX 1009 1 j dL_law_1004 dL_law_1005 dL_law_1006 dL_law_1007 dL_law_1008 rfl rfl rfl rfl (by omega) ?_
    exact k
set_option maxRecDepth 100000 in
theorem lc_sheet (hE : AGood E cL_law 4 RL (some .boolean) nm) (hX : LX E b L xs) (hcl : cells ≤ 600000) (hsl : slots ≤ 7302250) {j : Nat} {hx hm : List AE} (hj : 6 * j + 6 ≤ L) (hJ : JI j hx hm) (kk : ∀ hx' hm' : List AE, JI (j + 1) hx' hm' → AW E room_1 4 (QL E b) ad0 n0 cells slots 1320 [(3, .int (nI (6 * j))), (2, .ref 71), (1, .ref 0), (0, .retAddr 8)] [] (LW hx' hm')) : AW E room_1 4 (QL E b) ad0 n0 cells slots 1017 [(3, .int (nI (6 * j))), (2, .ref 71), (1, .ref 0), (0, .retAddr 8)] [] (LW hx hm) := by
  have x7 := LX.le hX
  refine lw_call hE hX hcl hsl 1033 1052 1055 (hJ.op (fun er im s t0 g0 h0 t1 g1 h1 tl tp wl wt wh mu J pt vK vk vm tn tr v1 vk2 pl ft rk rf K m0 f0 k0 m1 f1 k1 tl2 tp2 wl2 wt2 sb zs sn dn df dk dm dg dl KK be st na pi sz nu as' at' op sp us sk ip hC => op_sheet j (by omega) er im s t0 g0 h0 t1 g1 h1 tl tp wl wt wh mu J pt vK vk vm tn tr v1 vk2 pl ft rk rf K m0 f0 k0 m1 f1 k1 tl2 tp2 wl2 wt2 sb zs sn dn df dk dm dg dl KK be st na pi sz nu as' at' op sp us sk ip hC (xs (6 * j + 1)) (xs (6 * j + 2)) (xs (6 * j + 3)))) mkL_120 mkL_123 dL_law_1033 dL_law_1052 dL_law_1055 rfl rfl (fun _ _ => rfl) rfl rfl rfl (fun h2 k => ?_) (fun v h2 k => ?_) kk
  · refine A_aload_n hE 1018 dL_law_1017 rfl rfl ?_
    refine A_arg hE hX 1023 1 j dL_law_1018 dL_law_1019 dL_law_1020 dL_law_1021 dL_law_1022 rfl rfl rfl rfl (by omega) ?_
    refine A_arg hE hX 1028 2 j dL_law_1023 dL_law_1024 dL_law_1025 dL_law_1026 dL_law_1027 rfl rfl rfl rfl (by omega) ?_
    refine A_arg hE hX 1033 3 j dL_law_1028 dL_law_1029 dL_law_1030 dL_law_1031 dL_law_1032 rfl rfl rfl rfl (by omega) ?_
    exact k
  · refine A_aload_n hE 1037 dL_law_1036 rfl rfl ?_
    refine A_arg hE hX 1042 1 j dL_law_1037 dL_law_1038 dL_law_1039 dL_law_1040 dL_law_1041 rfl rfl rfl rfl (by omega) ?_
    refine A_arg hE hX 1047 2 j dL_law_1042 dL_law_1043 dL_law_1044 dL_law_1045 dL_law_1046 rfl rfl rfl rfl (by omega) ?_
    refine A_arg hE hX 1052 3 j dL_law_1047 dL_law_1048 dL_law_1049 dL_law_1050 dL_law_1051 rfl rfl rfl rfl (by omega) ?_
    exact k
set_option maxRecDepth 100000 in
theorem lc_put (hE : AGood E cL_law 4 RL (some .boolean) nm) (hX : LX E b L xs) (hcl : cells ≤ 600000) (hsl : slots ≤ 7302250) {j : Nat} {hx hm : List AE} (hj : 6 * j + 6 ≤ L) (hJ : JI j hx hm) (kk : ∀ hx' hm' : List AE, JI (j + 1) hx' hm' → AW E room_1 4 (QL E b) ad0 n0 cells slots 1320 [(3, .int (nI (6 * j))), (2, .ref 71), (1, .ref 0), (0, .retAddr 8)] [] (LW hx' hm')) : AW E room_1 4 (QL E b) ad0 n0 cells slots 1060 [(3, .int (nI (6 * j))), (2, .ref 71), (1, .ref 0), (0, .retAddr 8)] [] (LW hx hm) := by
  have x7 := LX.le hX
  refine lw_call hE hX hcl hsl 1076 1095 1098 (hJ.op (fun er im s t0 g0 h0 t1 g1 h1 tl tp wl wt wh mu J pt vK vk vm tn tr v1 vk2 pl ft rk rf K m0 f0 k0 m1 f1 k1 tl2 tp2 wl2 wt2 sb zs sn dn df dk dm dg dl KK be st na pi sz nu as' at' op sp us sk ip hC => op_put j (by omega) er im s t0 g0 h0 t1 g1 h1 tl tp wl wt wh mu J pt vK vk vm tn tr v1 vk2 pl ft rk rf K m0 f0 k0 m1 f1 k1 tl2 tp2 wl2 wt2 sb zs sn dn df dk dm dg dl KK be st na pi sz nu as' at' op sp us sk ip hC (xs (6 * j + 1)) (xs (6 * j + 2)) (xs (6 * j + 3)))) mkL_124 mkL_127 dL_law_1076 dL_law_1095 dL_law_1098 rfl rfl (fun _ _ => rfl) rfl rfl rfl (fun h2 k => ?_) (fun v h2 k => ?_) kk
  · refine A_aload_n hE 1061 dL_law_1060 rfl rfl ?_
    refine A_arg hE hX 1066 1 j dL_law_1061 dL_law_1062 dL_law_1063 dL_law_1064 dL_law_1065 rfl rfl rfl rfl (by omega) ?_
    refine A_arg hE hX 1071 2 j dL_law_1066 dL_law_1067 dL_law_1068 dL_law_1069 dL_law_1070 rfl rfl rfl rfl (by omega) ?_
    refine A_arg hE hX 1076 3 j dL_law_1071 dL_law_1072 dL_law_1073 dL_law_1074 dL_law_1075 rfl rfl rfl rfl (by omega) ?_
    exact k
  · refine A_aload_n hE 1080 dL_law_1079 rfl rfl ?_
    refine A_arg hE hX 1085 1 j dL_law_1080 dL_law_1081 dL_law_1082 dL_law_1083 dL_law_1084 rfl rfl rfl rfl (by omega) ?_
    refine A_arg hE hX 1090 2 j dL_law_1085 dL_law_1086 dL_law_1087 dL_law_1088 dL_law_1089 rfl rfl rfl rfl (by omega) ?_
    refine A_arg hE hX 1095 3 j dL_law_1090 dL_law_1091 dL_law_1092 dL_law_1093 dL_law_1094 rfl rfl rfl rfl (by omega) ?_
    exact k
set_option maxRecDepth 100000 in
theorem lc_move (hE : AGood E cL_law 4 RL (some .boolean) nm) (hX : LX E b L xs) (hcl : cells ≤ 600000) (hsl : slots ≤ 7302250) {j : Nat} {hx hm : List AE} (hj : 6 * j + 6 ≤ L) (hJ : JI j hx hm) (kk : ∀ hx' hm' : List AE, JI (j + 1) hx' hm' → AW E room_1 4 (QL E b) ad0 n0 cells slots 1320 [(3, .int (nI (6 * j))), (2, .ref 71), (1, .ref 0), (0, .retAddr 8)] [] (LW hx' hm')) : AW E room_1 4 (QL E b) ad0 n0 cells slots 1103 [(3, .int (nI (6 * j))), (2, .ref 71), (1, .ref 0), (0, .retAddr 8)] [] (LW hx hm) := by
  have x7 := LX.le hX
  refine lw_call hE hX hcl hsl 1129 1158 1161 (hJ.op (fun er im s t0 g0 h0 t1 g1 h1 tl tp wl wt wh mu J pt vK vk vm tn tr v1 vk2 pl ft rk rf K m0 f0 k0 m1 f1 k1 tl2 tp2 wl2 wt2 sb zs sn dn df dk dm dg dl KK be st na pi sz nu as' at' op sp us sk ip hC => op_move j (by omega) er im s t0 g0 h0 t1 g1 h1 tl tp wl wt wh mu J pt vK vk vm tn tr v1 vk2 pl ft rk rf K m0 f0 k0 m1 f1 k1 tl2 tp2 wl2 wt2 sb zs sn dn df dk dm dg dl KK be st na pi sz nu as' at' op sp us sk ip hC (xs (6 * j + 1)) (xs (6 * j + 2)) (xs (6 * j + 3)) (xs (6 * j + 4)) (xs (6 * j + 5)))) mkL_128 mkL_132 dL_law_1129 dL_law_1158 dL_law_1161 rfl rfl (fun _ _ => rfl) rfl rfl rfl (fun h2 k => ?_) (fun v h2 k => ?_) kk
  · refine A_aload_n hE 1104 dL_law_1103 rfl rfl ?_
    refine A_arg hE hX 1109 1 j dL_law_1104 dL_law_1105 dL_law_1106 dL_law_1107 dL_law_1108 rfl rfl rfl rfl (by omega) ?_
    refine A_arg hE hX 1114 2 j dL_law_1109 dL_law_1110 dL_law_1111 dL_law_1112 dL_law_1113 rfl rfl rfl rfl (by omega) ?_
    refine A_arg hE hX 1119 3 j dL_law_1114 dL_law_1115 dL_law_1116 dL_law_1117 dL_law_1118 rfl rfl rfl rfl (by omega) ?_
    refine A_arg hE hX 1124 4 j dL_law_1119 dL_law_1120 dL_law_1121 dL_law_1122 dL_law_1123 rfl rfl rfl rfl (by omega) ?_
    refine A_arg hE hX 1129 5 j dL_law_1124 dL_law_1125 dL_law_1126 dL_law_1127 dL_law_1128 rfl rfl rfl rfl (by omega) ?_
    exact k
  · refine A_aload_n hE 1133 dL_law_1132 rfl rfl ?_
    refine A_arg hE hX 1138 1 j dL_law_1133 dL_law_1134 dL_law_1135 dL_law_1136 dL_law_1137 rfl rfl rfl rfl (by omega) ?_
    refine A_arg hE hX 1143 2 j dL_law_1138 dL_law_1139 dL_law_1140 dL_law_1141 dL_law_1142 rfl rfl rfl rfl (by omega) ?_
    refine A_arg hE hX 1148 3 j dL_law_1143 dL_law_1144 dL_law_1145 dL_law_1146 dL_law_1147 rfl rfl rfl rfl (by omega) ?_
    refine A_arg hE hX 1153 4 j dL_law_1148 dL_law_1149 dL_law_1150 dL_law_1151 dL_law_1152 rfl rfl rfl rfl (by omega) ?_
    refine A_arg hE hX 1158 5 j dL_law_1153 dL_law_1154 dL_law_1155 dL_law_1156 dL_law_1157 rfl rfl rfl rfl (by omega) ?_
    exact k
set_option maxRecDepth 100000 in
theorem lc_hearAll (hE : AGood E cL_law 4 RL (some .boolean) nm) (hX : LX E b L xs) (hcl : cells ≤ 600000) (hsl : slots ≤ 7302250) {j : Nat} {hx hm : List AE} (hj : 6 * j + 6 ≤ L) (hJ : JI j hx hm) (kk : ∀ hx' hm' : List AE, JI (j + 1) hx' hm' → AW E room_1 4 (QL E b) ad0 n0 cells slots 1320 [(3, .int (nI (6 * j))), (2, .ref 71), (1, .ref 0), (0, .retAddr 8)] [] (LW hx' hm')) : AW E room_1 4 (QL E b) ad0 n0 cells slots 1166 [(3, .int (nI (6 * j))), (2, .ref 71), (1, .ref 0), (0, .retAddr 8)] [] (LW hx hm) := by
  have x7 := LX.le hX
  refine lw_call hE hX hcl hsl 1172 1181 1184 (hJ.op (fun er im s t0 g0 h0 t1 g1 h1 tl tp wl wt wh mu J pt vK vk vm tn tr v1 vk2 pl ft rk rf K m0 f0 k0 m1 f1 k1 tl2 tp2 wl2 wt2 sb zs sn dn df dk dm dg dl KK be st na pi sz nu as' at' op sp us sk ip hC => op_hearAll j (by omega) er im s t0 g0 h0 t1 g1 h1 tl tp wl wt wh mu J pt vK vk vm tn tr v1 vk2 pl ft rk rf K m0 f0 k0 m1 f1 k1 tl2 tp2 wl2 wt2 sb zs sn dn df dk dm dg dl KK be st na pi sz nu as' at' op sp us sk ip hC (xs (6 * j + 1)))) mkL_133 mkL_136 dL_law_1172 dL_law_1181 dL_law_1184 rfl rfl (fun _ _ => rfl) rfl rfl rfl (fun h2 k => ?_) (fun v h2 k => ?_) kk
  · refine A_aload_n hE 1167 dL_law_1166 rfl rfl ?_
    refine A_arg hE hX 1172 1 j dL_law_1167 dL_law_1168 dL_law_1169 dL_law_1170 dL_law_1171 rfl rfl rfl rfl (by omega) ?_
    exact k
  · refine A_aload_n hE 1176 dL_law_1175 rfl rfl ?_
    refine A_arg hE hX 1181 1 j dL_law_1176 dL_law_1177 dL_law_1178 dL_law_1179 dL_law_1180 rfl rfl rfl rfl (by omega) ?_
    exact k
set_option maxRecDepth 100000 in
theorem lc_judge (hE : AGood E cL_law 4 RL (some .boolean) nm) (hX : LX E b L xs) (hcl : cells ≤ 600000) (hsl : slots ≤ 7302250) {j : Nat} {hx hm : List AE} (hj : 6 * j + 6 ≤ L) (hJ : JI j hx hm) (kk : ∀ hx' hm' : List AE, JI (j + 1) hx' hm' → AW E room_1 4 (QL E b) ad0 n0 cells slots 1320 [(3, .int (nI (6 * j))), (2, .ref 71), (1, .ref 0), (0, .retAddr 8)] [] (LW hx' hm')) : AW E room_1 4 (QL E b) ad0 n0 cells slots 1189 [(3, .int (nI (6 * j))), (2, .ref 71), (1, .ref 0), (0, .retAddr 8)] [] (LW hx hm) := by
  have x7 := LX.le hX
  refine lw_call hE hX hcl hsl 1195 1204 1207 (hJ.op (fun er im s t0 g0 h0 t1 g1 h1 tl tp wl wt wh mu J pt vK vk vm tn tr v1 vk2 pl ft rk rf K m0 f0 k0 m1 f1 k1 tl2 tp2 wl2 wt2 sb zs sn dn df dk dm dg dl KK be st na pi sz nu as' at' op sp us sk ip hC => op_judge j (by omega) er im s t0 g0 h0 t1 g1 h1 tl tp wl wt wh mu J pt vK vk vm tn tr v1 vk2 pl ft rk rf K m0 f0 k0 m1 f1 k1 tl2 tp2 wl2 wt2 sb zs sn dn df dk dm dg dl KK be st na pi sz nu as' at' op sp us sk ip hC (xs (6 * j + 1)))) mkL_137 mkL_140 dL_law_1195 dL_law_1204 dL_law_1207 rfl rfl (fun _ _ => rfl) rfl rfl rfl (fun h2 k => ?_) (fun v h2 k => ?_) kk
  · refine A_aload_n hE 1190 dL_law_1189 rfl rfl ?_
    refine A_arg hE hX 1195 1 j dL_law_1190 dL_law_1191 dL_law_1192 dL_law_1193 dL_law_1194 rfl rfl rfl rfl (by omega) ?_
    exact k
  · refine A_aload_n hE 1199 dL_law_1198 rfl rfl ?_
    refine A_arg hE hX 1204 1 j dL_law_1199 dL_law_1200 dL_law_1201 dL_law_1202 dL_law_1203 rfl rfl rfl rfl (by omega) ?_
    exact k
set_option maxRecDepth 100000 in
theorem lc_image (hE : AGood E cL_law 4 RL (some .boolean) nm) (hX : LX E b L xs) (hcl : cells ≤ 600000) (hsl : slots ≤ 7302250) {j : Nat} {hx hm : List AE} (hj : 6 * j + 6 ≤ L) (hJ : JI j hx hm) (kk : ∀ hx' hm' : List AE, JI (j + 1) hx' hm' → AW E room_1 4 (QL E b) ad0 n0 cells slots 1320 [(3, .int (nI (6 * j))), (2, .ref 71), (1, .ref 0), (0, .retAddr 8)] [] (LW hx' hm')) : AW E room_1 4 (QL E b) ad0 n0 cells slots 1212 [(3, .int (nI (6 * j))), (2, .ref 71), (1, .ref 0), (0, .retAddr 8)] [] (LW hx hm) := by
  have x7 := LX.le hX
  refine lw_call hE hX hcl hsl 1213 1217 1220 (hJ.op (fun er im s t0 g0 h0 t1 g1 h1 tl tp wl wt wh mu J pt vK vk vm tn tr v1 vk2 pl ft rk rf K m0 f0 k0 m1 f1 k1 tl2 tp2 wl2 wt2 sb zs sn dn df dk dm dg dl KK be st na pi sz nu as' at' op sp us sk ip hC => op_image j (by omega) er im s t0 g0 h0 t1 g1 h1 tl tp wl wt wh mu J pt vK vk vm tn tr v1 vk2 pl ft rk rf K m0 f0 k0 m1 f1 k1 tl2 tp2 wl2 wt2 sb zs sn dn df dk dm dg dl KK be st na pi sz nu as' at' op sp us sk ip hC)) mkL_141 mkL_145 dL_law_1213 dL_law_1217 dL_law_1220 rfl rfl (fun _ _ => rfl) rfl rfl rfl (fun h2 k => ?_) (fun v h2 k => ?_) kk
  · refine A_aload_n hE 1213 dL_law_1212 rfl rfl ?_
    exact k
  · refine A_aload_n hE 1217 dL_law_1216 rfl rfl ?_
    exact k
set_option maxRecDepth 100000 in
theorem lc_restore (hE : AGood E cL_law 4 RL (some .boolean) nm) (hX : LX E b L xs) (hcl : cells ≤ 600000) (hsl : slots ≤ 7302250) {j : Nat} {hx hm : List AE} (hj : 6 * j + 6 ≤ L) (hJ : JI j hx hm) (kk : ∀ hx' hm' : List AE, JI (j + 1) hx' hm' → AW E room_1 4 (QL E b) ad0 n0 cells slots 1320 [(3, .int (nI (6 * j))), (2, .ref 71), (1, .ref 0), (0, .retAddr 8)] [] (LW hx' hm')) : AW E room_1 4 (QL E b) ad0 n0 cells slots 1225 [(3, .int (nI (6 * j))), (2, .ref 71), (1, .ref 0), (0, .retAddr 8)] [] (LW hx hm) := by
  have x7 := LX.le hX
  refine lw_call hE hX hcl hsl 1226 1230 1233 (hJ.op (fun er im s t0 g0 h0 t1 g1 h1 tl tp wl wt wh mu J pt vK vk vm tn tr v1 vk2 pl ft rk rf K m0 f0 k0 m1 f1 k1 tl2 tp2 wl2 wt2 sb zs sn dn df dk dm dg dl KK be st na pi sz nu as' at' op sp us sk ip hC => op_restore j (by omega) er im s t0 g0 h0 t1 g1 h1 tl tp wl wt wh mu J pt vK vk vm tn tr v1 vk2 pl ft rk rf K m0 f0 k0 m1 f1 k1 tl2 tp2 wl2 wt2 sb zs sn dn df dk dm dg dl KK be st na pi sz nu as' at' op sp us sk ip hC)) mkL_146 mkL_149 dL_law_1226 dL_law_1230 dL_law_1233 rfl rfl (fun _ _ => rfl) rfl rfl rfl (fun h2 k => ?_) (fun v h2 k => ?_) kk
  · refine A_aload_n hE 1226 dL_law_1225 rfl rfl ?_
    exact k
  · refine A_aload_n hE 1230 dL_law_1229 rfl rfl ?_
    exact k
set_option maxRecDepth 100000 in
theorem lc_tell (hE : AGood E cL_law 4 RL (some .boolean) nm) (hX : LX E b L xs) (hcl : cells ≤ 600000) (hsl : slots ≤ 7302250) {j : Nat} {hx hm : List AE} (hj : 6 * j + 6 ≤ L) (hJ : JI j hx hm) (kk : ∀ hx' hm' : List AE, JI (j + 1) hx' hm' → AW E room_1 4 (QL E b) ad0 n0 cells slots 1320 [(3, .int (nI (6 * j))), (2, .ref 71), (1, .ref 0), (0, .retAddr 8)] [] (LW hx' hm')) : AW E room_1 4 (QL E b) ad0 n0 cells slots 1238 [(3, .int (nI (6 * j))), (2, .ref 71), (1, .ref 0), (0, .retAddr 8)] [] (LW hx hm) := by
  have x7 := LX.le hX
  refine lw_call hE hX hcl hsl 1244 1253 1256 (hJ.op (fun er im s t0 g0 h0 t1 g1 h1 tl tp wl wt wh mu J pt vK vk vm tn tr v1 vk2 pl ft rk rf K m0 f0 k0 m1 f1 k1 tl2 tp2 wl2 wt2 sb zs sn dn df dk dm dg dl KK be st na pi sz nu as' at' op sp us sk ip hC => op_tell j (by omega) er im s t0 g0 h0 t1 g1 h1 tl tp wl wt wh mu J pt vK vk vm tn tr v1 vk2 pl ft rk rf K m0 f0 k0 m1 f1 k1 tl2 tp2 wl2 wt2 sb zs sn dn df dk dm dg dl KK be st na pi sz nu as' at' op sp us sk ip hC (xs (6 * j + 1)))) mkL_150 mkL_153 dL_law_1244 dL_law_1253 dL_law_1256 rfl rfl (fun _ _ => rfl) rfl rfl rfl (fun h2 k => ?_) (fun v h2 k => ?_) kk
  · refine A_aload_n hE 1239 dL_law_1238 rfl rfl ?_
    refine A_arg hE hX 1244 1 j dL_law_1239 dL_law_1240 dL_law_1241 dL_law_1242 dL_law_1243 rfl rfl rfl rfl (by omega) ?_
    exact k
  · refine A_aload_n hE 1248 dL_law_1247 rfl rfl ?_
    refine A_arg hE hX 1253 1 j dL_law_1248 dL_law_1249 dL_law_1250 dL_law_1251 dL_law_1252 rfl rfl rfl rfl (by omega) ?_
    exact k
set_option maxRecDepth 100000 in
theorem lc_check (hE : AGood E cL_law 4 RL (some .boolean) nm) (hX : LX E b L xs) (hcl : cells ≤ 600000) (hsl : slots ≤ 7302250) {j : Nat} {hx hm : List AE} (hj : 6 * j + 6 ≤ L) (hJ : JI j hx hm) (kk : ∀ hx' hm' : List AE, JI (j + 1) hx' hm' → AW E room_1 4 (QL E b) ad0 n0 cells slots 1320 [(3, .int (nI (6 * j))), (2, .ref 71), (1, .ref 0), (0, .retAddr 8)] [] (LW hx' hm')) : AW E room_1 4 (QL E b) ad0 n0 cells slots 1261 [(3, .int (nI (6 * j))), (2, .ref 71), (1, .ref 0), (0, .retAddr 8)] [] (LW hx hm) := by
  have x7 := LX.le hX
  refine lw_call hE hX hcl hsl 1262 1266 1269 (hJ.op (fun er im s t0 g0 h0 t1 g1 h1 tl tp wl wt wh mu J pt vK vk vm tn tr v1 vk2 pl ft rk rf K m0 f0 k0 m1 f1 k1 tl2 tp2 wl2 wt2 sb zs sn dn df dk dm dg dl KK be st na pi sz nu as' at' op sp us sk ip hC => op_check j (by omega) er im s t0 g0 h0 t1 g1 h1 tl tp wl wt wh mu J pt vK vk vm tn tr v1 vk2 pl ft rk rf K m0 f0 k0 m1 f1 k1 tl2 tp2 wl2 wt2 sb zs sn dn df dk dm dg dl KK be st na pi sz nu as' at' op sp us sk ip hC)) mkL_154 mkL_157 dL_law_1262 dL_law_1266 dL_law_1269 rfl rfl (fun _ _ => rfl) rfl rfl rfl (fun h2 k => ?_) (fun v h2 k => ?_) kk
  · refine A_aload_n hE 1262 dL_law_1261 rfl rfl ?_
    exact k
  · refine A_aload_n hE 1266 dL_law_1265 rfl rfl ?_
    exact k
set_option maxRecDepth 100000 in
theorem lc_count (hE : AGood E cL_law 4 RL (some .boolean) nm) (hX : LX E b L xs) (hcl : cells ≤ 600000) (hsl : slots ≤ 7302250) {j : Nat} {hx hm : List AE} (hj : 6 * j + 6 ≤ L) (hJ : JI j hx hm) (kk : ∀ hx' hm' : List AE, JI (j + 1) hx' hm' → AW E room_1 4 (QL E b) ad0 n0 cells slots 1320 [(3, .int (nI (6 * j))), (2, .ref 71), (1, .ref 0), (0, .retAddr 8)] [] (LW hx' hm')) : AW E room_1 4 (QL E b) ad0 n0 cells slots 1274 [(3, .int (nI (6 * j))), (2, .ref 71), (1, .ref 0), (0, .retAddr 8)] [] (LW hx hm) := by
  have x7 := LX.le hX
  refine lw_call hE hX hcl hsl 1280 1289 1292 (hJ.op (fun er im s t0 g0 h0 t1 g1 h1 tl tp wl wt wh mu J pt vK vk vm tn tr v1 vk2 pl ft rk rf K m0 f0 k0 m1 f1 k1 tl2 tp2 wl2 wt2 sb zs sn dn df dk dm dg dl KK be st na pi sz nu as' at' op sp us sk ip hC => op_count j (by omega) er im s t0 g0 h0 t1 g1 h1 tl tp wl wt wh mu J pt vK vk vm tn tr v1 vk2 pl ft rk rf K m0 f0 k0 m1 f1 k1 tl2 tp2 wl2 wt2 sb zs sn dn df dk dm dg dl KK be st na pi sz nu as' at' op sp us sk ip hC (xs (6 * j + 1)))) mkL_158 mkL_161 dL_law_1280 dL_law_1289 dL_law_1292 rfl rfl (fun _ _ => rfl) rfl rfl rfl (fun h2 k => ?_) (fun v h2 k => ?_) kk
  · refine A_aload_n hE 1275 dL_law_1274 rfl rfl ?_
    refine A_arg hE hX 1280 1 j dL_law_1275 dL_law_1276 dL_law_1277 dL_law_1278 dL_law_1279 rfl rfl rfl rfl (by omega) ?_
    exact k
  · refine A_aload_n hE 1284 dL_law_1283 rfl rfl ?_
    refine A_arg hE hX 1289 1 j dL_law_1284 dL_law_1285 dL_law_1286 dL_law_1287 dL_law_1288 rfl rfl rfl rfl (by omega) ?_
    exact k
set_option maxRecDepth 100000 in
theorem lc_told (hE : AGood E cL_law 4 RL (some .boolean) nm) (hX : LX E b L xs) (hcl : cells ≤ 600000) (hsl : slots ≤ 7302250) {j : Nat} {hx hm : List AE} (hj : 6 * j + 6 ≤ L) (hJ : JI j hx hm) (kk : ∀ hx' hm' : List AE, JI (j + 1) hx' hm' → AW E room_1 4 (QL E b) ad0 n0 cells slots 1320 [(3, .int (nI (6 * j))), (2, .ref 71), (1, .ref 0), (0, .retAddr 8)] [] (LW hx' hm')) : AW E room_1 4 (QL E b) ad0 n0 cells slots 1297 [(3, .int (nI (6 * j))), (2, .ref 71), (1, .ref 0), (0, .retAddr 8)] [] (LW hx hm) := by
  have x7 := LX.le hX
  refine lw_call hE hX hcl hsl 1303 1312 1315 (hJ.op (fun er im s t0 g0 h0 t1 g1 h1 tl tp wl wt wh mu J pt vK vk vm tn tr v1 vk2 pl ft rk rf K m0 f0 k0 m1 f1 k1 tl2 tp2 wl2 wt2 sb zs sn dn df dk dm dg dl KK be st na pi sz nu as' at' op sp us sk ip hC => op_told j (by omega) er im s t0 g0 h0 t1 g1 h1 tl tp wl wt wh mu J pt vK vk vm tn tr v1 vk2 pl ft rk rf K m0 f0 k0 m1 f1 k1 tl2 tp2 wl2 wt2 sb zs sn dn df dk dm dg dl KK be st na pi sz nu as' at' op sp us sk ip hC (xs (6 * j + 1)))) mkL_162 mkL_165 dL_law_1303 dL_law_1312 dL_law_1315 rfl rfl (fun _ _ => rfl) rfl rfl rfl (fun h2 k => ?_) (fun v h2 k => ?_) kk
  · refine A_aload_n hE 1298 dL_law_1297 rfl rfl ?_
    refine A_arg hE hX 1303 1 j dL_law_1298 dL_law_1299 dL_law_1300 dL_law_1301 dL_law_1302 rfl rfl rfl rfl (by omega) ?_
    exact k
  · refine A_aload_n hE 1307 dL_law_1306 rfl rfl ?_
    refine A_arg hE hX 1312 1 j dL_law_1307 dL_law_1308 dL_law_1309 dL_law_1310 dL_law_1311 rfl rfl rfl rfl (by omega) ?_
    exact k
set_option maxRecDepth 100000 in
theorem lw_loop (hE : AGood E cL_law 4 RL (some .boolean) nm) (hX : LX E b L xs) (hcl : cells ≤ 600000) (hsl : slots ≤ 7302250) : ∀ (f j : Nat) (hx hm : List AE), L < 6 * j + f → j ≤ 512 → JI j hx hm → AW E room_1 4 (QL E b) ad0 n0 cells slots 18 [(3, .int (nI (6 * j))), (2, .ref 71), (1, .ref 0), (0, .retAddr 8)] [] (LW hx hm)
  | 0, j, hx, hm, hf, hj, hJ => by
    have x7 := LX.le hX
    refine A_iload_n hE 19 dL_law_18 rfl rfl ?_
    refine A_aload_nS hE 20 dL_law_19 rfl rfl ?_
    refine A_slen hE hX 21 dL_law_20 rfl ?_
    refine A_bipush hE 23 dL_law_21 rfl (nI 6) (by decide) ?_
    refine A_isub hE 24 dL_law_23 rfl ?_
    refine A_icmp_gt hE 27 1326 dL_law_24 rfl rfl (fun _ => ?_) (fun hn => ?_)
    · refine A_iconst hE 1327 dL_law_1326 rfl (1) rfl ?_
      exact A_lawret hE hX dL_law_1327 hcl hsl
    · have := lw_le (p := 6 * j) (z := L) (by omega) x7 (Int32.not_lt.mp hn)
      omega
  | f + 1, j, hx, hm, hf, hj, hJ => by
    have x7 := LX.le hX
    refine A_iload_n hE 19 dL_law_18 rfl rfl ?_
    refine A_aload_nS hE 20 dL_law_19 rfl rfl ?_
    refine A_slen hE hX 21 dL_law_20 rfl ?_
    refine A_bipush hE 23 dL_law_21 rfl (nI 6) (by decide) ?_
    refine A_isub hE 24 dL_law_23 rfl ?_
    refine A_icmp_gt hE 27 1326 dL_law_24 rfl rfl (fun _ => ?_) (fun hn => ?_)
    · refine A_iconst hE 1327 dL_law_1326 rfl (1) rfl ?_
      exact A_lawret hE hX dL_law_1327 hcl hsl
    · have h6 := lw_le (p := 6 * j) (z := L) (by omega) x7 (Int32.not_lt.mp hn)
      have cont : ∀ hx' hm' : List AE, JI (j + 1) hx' hm' → AW E room_1 4 (QL E b) ad0 n0 cells slots 1320 [(3, .int (nI (6 * j))), (2, .ref 71), (1, .ref 0), (0, .retAddr 8)] [] (LW hx' hm') := by
        intro hx' hm' hJ'
        refine A_iinc hE 1323 dL_law_1320 rfl rfl (nI 6) rfl rfl rfl ?_
        refine A_goto hE 18 dL_law_1323 rfl ?_
        rw [nI_add, show 6 * j + 6 = 6 * (j + 1) by omega]
        exact lw_loop hE hX hcl hsl f (j + 1) hx' hm' (by omega) (by omega) hJ'
      refine A_aload_nS hE 28 dL_law_27 rfl rfl ?_
      refine A_iload_n hE 29 dL_law_28 rfl rfl ?_
      refine A_sld hE hX 30 (6 * j) dL_law_29 rfl (by omega) ?_
      refine A_bipush hE 32 dL_law_30 rfl (63) (by decide) ?_
      refine A_iand hE 33 dL_law_32 rfl ?_
      obtain ⟨k, hk, ek⟩ := pk_andE (xs (6 * j)) (m := 63) 6 (by decide)
      rw [ek]
      by_cases h36 : k < 36
      · rcases (show k = 0 ∨ k = 1 ∨ k = 2 ∨ k = 3 ∨ k = 4 ∨ k = 5 ∨ k = 6 ∨ k = 7 ∨ k = 8 ∨ k = 9 ∨ k = 10 ∨ k = 11 ∨ k = 12 ∨ k = 13 ∨ k = 14 ∨ k = 15 ∨ k = 16 ∨ k = 17 ∨ k = 18 ∨ k = 19 ∨ k = 20 ∨ k = 21 ∨ k = 22 ∨ k = 23 ∨ k = 24 ∨ k = 25 ∨ k = 26 ∨ k = 27 ∨ k = 28 ∨ k = 29 ∨ k = 30 ∨ k = 31 ∨ k = 32 ∨ k = 33 ∨ k = 34 ∨ k = 35 by omega) with rfl | rfl | rfl | rfl | rfl | rfl | rfl | rfl | rfl | rfl | rfl | rfl | rfl | rfl | rfl | rfl | rfl | rfl | rfl | rfl | rfl | rfl | rfl | rfl | rfl | rfl | rfl | rfl | rfl | rfl | rfl | rfl | rfl | rfl | rfl | rfl
        · exact A_tabIn hE 192 dL_law_33 (by decide) (by decide) rfl rfl (lc_home hE hX hcl hsl h6 hJ cont)
        · exact A_tabIn hE 215 dL_law_33 (by decide) (by decide) rfl rfl (lc_homeIs hE hX hcl hsl h6 hJ cont)
        · exact A_tabIn hE 248 dL_law_33 (by decide) (by decide) rfl rfl (lc_become hE hX hcl hsl h6 hJ cont)
        · exact A_tabIn hE 281 dL_law_33 (by decide) (by decide) rfl rfl (lc_as hE hX hcl hsl h6 hJ cont)
        · exact A_tabIn hE 314 dL_law_33 (by decide) (by decide) rfl rfl (lc_past hE hX hcl hsl h6 hJ cont)
        · exact A_tabIn hE 347 dL_law_33 (by decide) (by decide) rfl rfl (lc_goes hE hX hcl hsl h6 hJ cont)
        · exact A_tabIn hE 370 dL_law_33 (by decide) (by decide) rfl rfl (lc_set hE hX hcl hsl h6 hJ cont)
        · exact A_tabIn hE 403 dL_law_33 (by decide) (by decide) rfl rfl (lc_hears hE hX hcl hsl h6 hJ cont)
        · exact A_tabIn hE 436 dL_law_33 (by decide) (by decide) rfl rfl (lc_feed hE hX hcl hsl h6 hJ cont)
        · exact A_tabIn hE 499 dL_law_33 (by decide) (by decide) rfl rfl (lc_text hE hX hcl hsl h6 hJ cont)
        · exact A_tabIn hE 522 dL_law_33 (by decide) (by decide) rfl rfl (lc_untell hE hX hcl hsl h6 hJ cont)
        · exact A_tabIn hE 545 dL_law_33 (by decide) (by decide) rfl rfl (lc_law hE hX hcl hsl h6 hJ cont)
        · exact A_tabIn hE 598 dL_law_33 (by decide) (by decide) rfl rfl (lc_days hE hX hcl hsl h6 hJ cont)
        · exact A_tabIn hE 621 dL_law_33 (by decide) (by decide) rfl rfl (lc_loose hE hX hcl hsl h6 hJ cont)
        · exact A_tabIn hE 644 dL_law_33 (by decide) (by decide) rfl rfl (lc_day hE hX hcl hsl h6 hJ cont)
        · exact A_tabIn hE 667 dL_law_33 (by decide) (by decide) rfl rfl (lc_seed hE hX hcl hsl h6 hJ cont)
        · exact A_tabIn hE 690 dL_law_33 (by decide) (by decide) rfl rfl (lc_then hE hX hcl hsl h6 hJ cont)
        · exact A_tabIn hE 723 dL_law_33 (by decide) (by decide) rfl rfl (lc_soonest hE hX hcl hsl h6 hJ cont)
        · exact A_tabIn hE 756 dL_law_33 (by decide) (by decide) rfl rfl (lc_startFor hE hX hcl hsl h6 hJ cont)
        · exact A_tabIn hE 799 dL_law_33 (by decide) (by decide) rfl rfl (lc_swapFor hE hX hcl hsl h6 hJ cont)
        · exact A_tabIn hE 832 dL_law_33 (by decide) (by decide) rfl rfl (lc_spare hE hX hcl hsl h6 hJ cont)
        · exact A_tabIn hE 865 dL_law_33 (by decide) (by decide) rfl rfl (lc_odds hE hX hcl hsl h6 hJ cont)
        · exact A_tabIn hE 918 dL_law_33 (by decide) (by decide) rfl rfl (lc_fits hE hX hcl hsl h6 hJ cont)
        · exact A_tabIn hE 951 dL_law_33 (by decide) (by decide) rfl rfl (lc_voice hE hX hcl hsl h6 hJ cont)
        · exact A_tabIn hE 994 dL_law_33 (by decide) (by decide) rfl rfl (lc_body hE hX hcl hsl h6 hJ cont)
        · exact A_tabIn hE 1017 dL_law_33 (by decide) (by decide) rfl rfl (lc_sheet hE hX hcl hsl h6 hJ cont)
        · exact A_tabIn hE 1060 dL_law_33 (by decide) (by decide) rfl rfl (lc_put hE hX hcl hsl h6 hJ cont)
        · exact A_tabIn hE 1103 dL_law_33 (by decide) (by decide) rfl rfl (lc_move hE hX hcl hsl h6 hJ cont)
        · exact A_tabIn hE 1166 dL_law_33 (by decide) (by decide) rfl rfl (lc_hearAll hE hX hcl hsl h6 hJ cont)
        · exact A_tabIn hE 1189 dL_law_33 (by decide) (by decide) rfl rfl (lc_judge hE hX hcl hsl h6 hJ cont)
        · exact A_tabIn hE 1212 dL_law_33 (by decide) (by decide) rfl rfl (lc_image hE hX hcl hsl h6 hJ cont)
        · exact A_tabIn hE 1225 dL_law_33 (by decide) (by decide) rfl rfl (lc_restore hE hX hcl hsl h6 hJ cont)
        · exact A_tabIn hE 1238 dL_law_33 (by decide) (by decide) rfl rfl (lc_tell hE hX hcl hsl h6 hJ cont)
        · exact A_tabIn hE 1261 dL_law_33 (by decide) (by decide) rfl rfl (lc_check hE hX hcl hsl h6 hJ cont)
        · exact A_tabIn hE 1274 dL_law_33 (by decide) (by decide) rfl rfl (lc_count hE hX hcl hsl h6 hJ cont)
        · exact A_tabIn hE 1297 dL_law_33 (by decide) (by decide) rfl rfl (lc_told hE hX hcl hsl h6 hJ cont)
      · exact A_tabOut hE 1320 dL_law_33 (Or.inr (by rw [nI_toInt (by omega)]; omega)) rfl (cont _ _ hJ.up)
end LOOP
