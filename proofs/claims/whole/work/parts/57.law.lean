/-! THE CLAIM OUT OF ONE WALK OF THE LAW'S BODY. Your part is whole_start (and what it stands on); all else here is the same for every law, but numbers. -/
def R_law : String := "LoanedRoundLaw"
def lw_P (b : Addr) (xs : List Int32) (args : Array Value) (s : State) : Prop := args = #[.ref b] ∧ s.IntsAt b xs ∧ xs.length ≤ 3072 ∧ (Jvm.Cond.and given_1 narrow_1).before args s = true
def lw_Q (_ : Array Value) (s : State) (o : Outcome) (t : State) : Prop := o = .returned (some (.int 1)) ∧ Framed s o t [] 600000 7302250
def lw_Z (below : List Frame) (a : Array Value) (s : State) : State → Prop := fun t => ∃ o, t.status = .running ∧ Ended t below o ∧ lw_Q a s o t
/-- the law's own end, with 1 on the stack, nothing written that was there before, its room as the claim has it -/
theorem lw_ret {p : Program} {l : Launch} {e : Env} {s : State} {m : MethodId} {below : List Frame} {meth : Method} {c : Code} {b : Nat} (hx : p.tables.exec = Jvm.exec) (hb : c.code = code) (hr : meth.sig.returnType = ret) (hlocks : meth.locks = false) {pc : Nat} {H : Heap} {ls : Array Slot} (hdg : decode code pc = .ok (.ireturn, 1)) : W p l e room_1 s m #[Value.ref b] below meth c H [] 600000 7302250 (lw_Z below #[Value.ref b] s) (F0 m pc ls [.int 1]) := by
  intro T hT X
  obtain ⟨fs, hret, hrun, hended, hW, hframe⟩ := X.leave (v := some (.int 1)) (hlocks := hlocks) (fun h => by rw [hr] at h; cases h)
  have hmeth' : T.vm.method? m = some meth := X.method'
  refine ⟨T.setFrames fs, ?_, .returned (some (.int 1)), hrun, hended, rfl, ⟨_, rfl⟩, hW, hframe⟩
  jvm_step X.here [X.here.top, hx, hb, hdg, hmeth', hr, ret, narrow_b1]
  (try refine ⟨rfl, ?_⟩); (try refine ⟨rfl, ?_⟩)
  first | (intro acts; rw [hret _ acts rfl rfl rfl]) | rw [hret _ _ rfl rfl rfl]
  exact Steps.refl _
/-- what holds at the law's entry: the machine, the code, the tables' words (any of lw_tbl by 'hts w (by decide +kernel)'), the script of L ints xs at the cell b, what the Statement gives of the start (any of its parts by flat_of_before) -/
def lw_At (p : Program) (s : State) (m : MethodId) (meth : Method) (c : Code) (b L : Nat) (xs : Nat → Int32) : Prop :=
  p.tables.exec = Jvm.exec ∧ c.code = code ∧ meth.sig.returnType = ret ∧ c.maxLocals = 4 ∧ s.vm.findClass R_law = some m.cls ∧ (∀ w ∈ lw_tbl, w.before #[Value.ref b] s = true) ∧ va_X b L xs s s.heap ∧ b < s.heap.size ∧ meth.locks = false ∧ (Jvm.Cond.and given_1 narrow_1).before #[Value.ref b] s = true
/-! a stretch of places -/
def rg : Nat → Nat → List Nat
  | _, 0 => []
  | a, n + 1 => a :: rg (a + 1) n
theorem rg_len : ∀ (n a : Nat), (rg a n).length = n
  | 0, _ => rfl
  | n + 1, a => by
    show (rg (a + 1) n).length + 1 = n + 1
    rw [rg_len n (a + 1)]
theorem rg_get : ∀ (n a k : Nat), k < n → (rg a n)[k]? = some (a + k)
  | 0, _, _, h => absurd h (by omega)
  | n + 1, a, 0, _ => rfl
  | n + 1, a, k + 1, h => by
    show (a :: rg (a + 1) n)[k + 1]? = _
    rw [List.getElem?_cons_succ, rg_get n (a + 1) k (by omega)]
    congr 1
    omega
theorem rg_mem : ∀ (n a i : Nat), i ∈ rg a n → a ≤ i
  | 0, _, _, h => by cases h
  | n + 1, a, i, h => by
    rcases List.mem_cons.mp h with e | h
    · omega
    · have := rg_mem n (a + 1) i h
      omega
theorem rg_nd : ∀ (n a : Nat), va_nd (rg a n) = true
  | 0, _ => rfl
  | n + 1, a => by
    show va_nd (a :: rg (a + 1) n) = true
    simp only [va_nd, Bool.and_eq_true, decide_eq_true_eq]
    exact ⟨fun h => by have := rg_mem n (a + 1) a h; omega, rg_nd n (a + 1)⟩
theorem rn_rg {n a k : Nat} (h : k < n) : rn (rg a n) k = a + k := rn_eq (rg_get n a k h)
theorem rn_rg0 (n i : Nat) : rn (rg 0 n) i = i := by
  rcases Nat.lt_or_ge i n with h | h
  · rw [rn_rg h, Nat.zero_add]
  · have e : getO (rg 0 n) i = none := by
      rw [getO_eq, List.getElem?_eq_none_iff, rg_len]
      exact h
    unfold rn
    rw [e]
theorem rv_rg0 (n : Nat) (v : Value) : rv (rg 0 n) v = v := by
  cases v with
  | ref i => show Value.ref (rn (rg 0 n) i) = _; rw [rn_rg0]
  | _ => rfl
theorem re_rg0 (n : Nat) (e : AE) : re (rg 0 n) e = e := by
  cases e with
  | inl x =>
    obtain ⟨k, m, f | f | f | f | f⟩ := x
    · rfl
    · rfl
    · rfl
    · rfl
    · show (Sum.inl (k, m, Sum.inr (Sum.inr (Sum.inr (Sum.inr (fun j => (f j).map (rn (rg 0 n))))))) : AE) = Sum.inl (k, m, Sum.inr (Sum.inr (Sum.inr (Sum.inr f))))
      have e4 : (fun j => (f j).map (rn (rg 0 n))) = f := by
        funext j
        cases f j with
        | none => rfl
        | some i => show some (rn (rg 0 n) i) = some i; rw [rn_rg0]
      rw [e4]
  | inr x =>
    obtain ⟨c, fs⟩ := x
    show (Sum.inr (c, fs.map (rv (rg 0 n))) : AE) = Sum.inr (c, fs)
    have e4 : fs.map (rv (rg 0 n)) = fs.map id := List.map_congr_left fun v _ => rv_rg0 n v
    rw [e4, List.map_id]
theorem mre_rg0 (n : Nat) (h : List AE) : h.map (re (rg 0 n)) = h := by
  have e4 : h.map (re (rg 0 n)) = h.map id := List.map_congr_left fun v _ => re_rg0 n v
  rw [e4, List.map_id]
theorem gets_rg : ∀ (b a c : List AE), gets (a ++ b ++ c) (rg a.length b.length) = some b
  | [], _, _ => rfl
  | e :: b, a, c => by
    have h1 : getO (a ++ e :: b ++ c) a.length = some e := by
      rw [getO_eq, List.append_assoc, List.getElem?_append_right (Nat.le_refl _), Nat.sub_self]
      rfl
    have h2 := gets_rg b (a ++ [e]) c
    rw [List.length_append, show a ++ [e] ++ b ++ c = a ++ e :: b ++ c by simp] at h2
    have h2 : gets (a ++ e :: b ++ c) (rg (a.length + 1) b.length) = some b := h2
    show gets (a ++ e :: b ++ c) (a.length :: rg (a.length + 1) b.length) = some (e :: b)
    simp only [gets, h1, h2]
theorem setO_app : ∀ (a : List AE) (e e' : AE) (c : List AE), setO (a ++ e :: c) a.length e' = some (a ++ e' :: c)
  | [], _, _, _ => rfl
  | x :: a, e, e', c => by
    show setO (x :: (a ++ e :: c)) (a.length + 1) e' = some (x :: (a ++ e' :: c))
    simp only [setO, setO_app a e e' c]
theorem wbO_rg : ∀ (b b' a c : List AE), b'.length = b.length → wbO (rg a.length b.length) b' (a ++ b ++ c) = some (a ++ b' ++ c)
  | [], [], _, _, _ => rfl
  | [], _ :: _, _, _, h => by cases h
  | _ :: _, [], _, _, h => by cases h
  | e :: b, e' :: b', a, c, h => by
    have h1 : setO (a ++ e :: b ++ c) a.length e' = some (a ++ [e'] ++ b ++ c) := by
      rw [List.append_assoc]
      show setO (a ++ e :: (b ++ c)) a.length e' = _
      rw [setO_app]
      simp
    have h2 := wbO_rg b b' (a ++ [e']) c (by simpa using h)
    rw [List.length_append] at h2
    have h2 : wbO (rg (a.length + 1) b.length) b' (a ++ [e'] ++ b ++ c) = some (a ++ [e'] ++ b' ++ c) := h2
    show wbO (a.length :: rg (a.length + 1) b.length) (e' :: b') (a ++ e :: b ++ c) = some (a ++ e' :: b' ++ c)
    simp only [wbO, h1, h2]
    simp
section LAWCALL
variable {E : AV} {R : Room} {nL : Nat} {Q : State → Prop} {ad0 : Nat → Nat} {n0 cells slots pc : Nat} {lv : List (Nat × Value)} {st0 st : List Value} {h : List AE} {cc : ByteArray} {own : String} {ret : Option FieldType} {nm : String}
variable {y : MethodName} {cc2 : ByteArray} {nL2 d2 np ci idx r : Nat} {ret2 : Option FieldType} {as : List Value} {hc : List AE} {post : Option Value → List AE → Prop} {fs : List Value}
theorem A_callVL (hE : AGood E cc nL own ret nm) (q : Nat) (hM : AMet y cc2 nL2 ret2 d2 0 0 (.ref r :: as) hc post) (is : List Nat) (hd : decode cc pc = .ok (.invokevirtual idx, 3)) (hq : pc + 3 = q) (hk : MKV own idx y cc2 nL2 ret2 np ci) (hrc : getO hc r = some (.inr (ci, fs))) (hg : gets h is = some (hc.map (re is))) (hnd : va_nd is = true) (hst : st0 = (as.map (rv is)).reverse ++ .ref (rn is r) :: st) (hlen : as.length = np) (hfr : Nat.blt d2 R.frames = true) (hlo : Nat.ble (8 + (nL2 + 11) + (32 * d2 + 20)) R.locals = true) (hcl : cells ≤ R.cells) (hsl : slots ≤ R.slots) (hcat : Nat.ble (catS st) 8 = true)
    (kk : ∀ (v : Option Value) (h' h2 : List AE), post v h' → h'.length = hc.length → wbO is (h'.map (re is)) h = some h2 → AW E R nL Q ad0 n0 cells slots q lv ((v.map (rv is)).toList ++ st) h2) : AW E R nL Q ad0 n0 cells slots pc lv st0 h := by
  obtain ⟨p, l, e, s, m, args, below, meth, c, D, tc, sa, A⟩ := E
  subst hq
  obtain ⟨⟨hx, hb, hml, hown, hts⟩, hK, hT, hA, hr, hlk, hnm⟩ := hE
  intro ad H locs ls hP hD hS hl hn h0 h1
  obtain ⟨hB, hPc, hF⟩ := B0_of hP hD hS hA hK hT hg hnd
  obtain ⟨⟨k1, k2, k3, k4, k5, k6⟩, k7, k8, T, N, k9⟩ := hk
  have hstk : st0.map (cv ad sa) = (as.map (cv (fun i => ad (rn is i)) sa)).reverse ++ Value.ref (ad (rn is r)) :: st.map (cv ad sa) := stk_eq hst
  refine callA (va_runV (C := y.cls) (b := ad (rn is r)) (As := as.map (cv (fun i => ad (rn is i)) sa)) (rest := st.map (cv ad sa)) ⟨hx, hb, hml, hown, hts⟩ (hM l D tc sa (fun i => ad (rn is i)) H.size)
    ⟨callB_of np hts (lg_good k2) rfl rfl rfl (hts _ k3) (hts _ k1) ⟨k4, k5, k6⟩ ⟨Nat.le_of_ble_eq_true hfr, Nat.le_of_ble_eq_true hlo⟩, hts _ k7, hts _ k8⟩
    ⟨B0_blind, va_recv (q := (y.cls, T, N)) hK hPc k9 (cw_get hrc), fun U hU hW => ⟨rfl, hB U hU hW⟩⟩ rfl (by rw [List.length_map]; exact hlen) hl.1 hstk (by rw [catS_eq]; show 2 * 0 + _ ≤ _; rw [Nat.mul_zero, Nat.zero_add]; exact Nat.le_of_ble_eq_true hcat) hd ⟨hcl, hsl⟩) hS hF ?_
  intro v h' ad' H1 locs1 hp hlen' hx' hy' hP1 hD1 hz hk1 hS1
  have e0 := hy' rfl
  subst e0
  have hlw : ∃ h2, wbO is (h'.map (re is)) h = some h2 := by
    obtain ⟨g1, g2⟩ := gets_spec _ _ _ hg
    rw [List.length_map] at g1
    have key : ∀ (is : List Nat) (r : List AE) (h : List AE), is.length ≤ r.length → (∀ i ∈ is, i < h.length) → ∃ h2, wbO is r h = some h2 := by
      intro is
      induction is with
      | nil => intro r h _ _; exact ⟨h, rfl⟩
      | cons i is ih =>
        intro r h hr hi
        cases r with
        | nil => simp at hr
        | cons e r =>
          have hset : ∃ h', setO h i e = some h' := by
            have : ∀ (h : List AE) (i : Nat), i < h.length → ∃ h', setO h i e = some h' := by
              intro h
              induction h with
              | nil => intro i hi; simp at hi
              | cons a h ih2 =>
                intro i hi
                cases i with
                | zero => exact ⟨_, rfl⟩
                | succ i =>
                  obtain ⟨h', hh⟩ := ih2 i (by simpa using hi)
                  exact ⟨a :: h', by simp [setO, hh]⟩
            exact this h i (hi i List.mem_cons_self)
          obtain ⟨h', hh⟩ := hset
          obtain ⟨h2, hh2⟩ := ih r h' (by simpa using hr) (fun j hj => by rw [(setO_eq _ _ _ _ hh).1, List.length_set]; exact hi j (List.mem_cons_of_mem _ hj))
          exact ⟨h2, by simp only [wbO, hh]; exact hh2⟩
    refine key is _ h (by rw [List.length_map, hlen', ← g1]; omega) (fun i hi => ?_)
    obtain ⟨k, hk⟩ := List.getElem?_of_mem hi
    obtain ⟨e0, h3, -⟩ := g2 k i hk
    exact (List.getElem?_eq_some_iff.mp h3).1
  obtain ⟨h2, hw⟩ := hlw
  obtain ⟨b1, b2, b3⟩ := back0 hP hD hg hnd hw hP1 hk1
  rw [opt_rv]
  exact kk v h' h2 hp hlen' hw ad H1 locs1 ls b1 b2 hS1 hl (b3.trans hn) h0 h1
theorem A_callL {P : Int32 → List AE → Prop} (hE : AGood E cc nL own ret nm) (q n : Nat) (a t : List AE) (hM : AMet y cc2 nL2 (some .int) d2 0 0 (.ref 0 :: as) hc (pI P)) (hd : decode cc pc = .ok (.invokevirtual idx, 3)) (hq : pc + 3 = q) (hk : MKV own idx y cc2 nL2 (some .int) np ci) (hn : a.length = n) (hrc : getO hc 0 = some (.inr (ci, fs))) (has : as.map (rv (rg n hc.length)) = as) (hst : st0 = as.reverse ++ .ref n :: st) (hlen : as.length = np) (hd2 : d2 ≤ 50) (hnL : Nat.ble nL2 50 = true) (hcl : cells ≤ 600000) (hsl : slots ≤ 7302250) (hcat : Nat.ble (catS st) 8 = true)
    (kk : ∀ (x : Int32) (h' : List AE), P x h' → h'.length = hc.length → AW E room_1 nL Q ad0 n0 cells slots q lv (.int x :: st) (a ++ h'.map (re (rg n hc.length)) ++ t)) : AW E room_1 nL Q ad0 n0 cells slots pc lv st0 (a ++ hc.map (re (rg n hc.length)) ++ t) := by
  subst hn
  have hp0 : 0 < hc.length := by
    cases hc with
    | nil => cases hrc
    | cons => exact Nat.zero_lt_succ _
  have hnL' := Nat.le_of_ble_eq_true hnL
  refine A_callVL hE q hM (rg a.length hc.length) hd hq hk hrc ?_ (rg_nd _ _) (by rw [has, rn_rg hp0, Nat.add_zero]; exact hst) hlen (frN (by show d2 < 2048; omega)) (loB (by show 8 + (nL2 + 11) + (32 * d2 + 20) ≤ 84000; omega)) hcl hsl hcat (fun v h' h2 hp hl hw => ?_)
  · have e := gets_rg (hc.map (re (rg a.length hc.length))) a t
    rw [List.length_map] at e
    exact e
  · obtain ⟨x, rfl, hp⟩ := hp
    have e := wbO_rg (hc.map (re (rg a.length hc.length))) (h'.map (re (rg a.length hc.length))) a t (by rw [List.length_map, List.length_map, hl])
    rw [List.length_map] at e
    rw [e] at hw
    obtain rfl := Option.some.inj hw
    exact kk x h' hp hl
end LAWCALL
/-- the script -/
def LX (E : AV) (b L : Nat) (xs : Nat → Int32) : Prop := match E with
  | (_, _, _, s, _, args, _, _, _, _, _, sa, A) => va_X b L xs s s.heap ∧ b < s.heap.size ∧ ¬ A b ∧ sa 8 = b ∧ args = #[.ref b] ∧ (∀ q, A q → s.heap.size ≤ q) ∧ L ≤ 3072
def QL (E : AV) (b : Nat) : State → Prop := match E with
  | (_, _, _, s, _, _, below, _, _, _, _, _, _) => lw_Z below #[Value.ref b] s
section LAWROWS
variable {E : AV} {R : Room} {nL : Nat} {Q : State → Prop} {ad0 : Nat → Nat} {n0 cells slots pc : Nat} {lv : List (Nat × Value)} {st : List Value} {h : List AE} {cc : ByteArray} {own : String} {ret0 : Option FieldType} {nm : String} {b L : Nat} {xs : Nat → Int32}
theorem A_sld (hE : AGood E cc nL own ret0 nm) (hX : LX E b L xs) (q i : Nat) (hd : decode cc pc = .ok (.iaload, 1)) (hq : pc + 1 = q) (hi : i < L) (kk : AW E R nL Q ad0 n0 cells slots q lv (.int (xs i) :: st) h) : AW E R nL Q ad0 n0 cells slots pc lv (.int (nI i) :: .retAddr 8 :: st) h := by
  obtain ⟨p, l, e, s, m, args, below, meth, c, D, tc, sa, A⟩ := E
  subst hq
  obtain ⟨⟨hx, hb, hml, hown, hts⟩, hK, hT, hA, hr, hlk, hnm⟩ := hE
  obtain ⟨x1, x2, x3, rfl, x5, x6, x7⟩ := hX
  intro ad H locs ls hP hD hS hl hn h0 h1
  refine va_sld hx hb x1 x2 x3 hS (vp_in_nI hi (by omega)) hd ?_
  rw [nI_clamp (by omega)]
  exact kk ad H locs ls hP hD hS hl hn h0 h1
theorem A_slen (hE : AGood E cc nL own ret0 nm) (hX : LX E b L xs) (q : Nat) (hd : decode cc pc = .ok (.arraylength, 1)) (hq : pc + 1 = q) (kk : AW E R nL Q ad0 n0 cells slots q lv (.int (nI L) :: st) h) : AW E R nL Q ad0 n0 cells slots pc lv (.retAddr 8 :: st) h := by
  obtain ⟨p, l, e, s, m, args, below, meth, c, D, tc, sa, A⟩ := E
  subst hq
  obtain ⟨⟨hx, hb, hml, hown, hts⟩, hK, hT, hA, hr, hlk, hnm⟩ := hE
  obtain ⟨x1, x2, x3, rfl, x5, x6, x7⟩ := hX
  intro ad H locs ls hP hD hS hl hn h0 h1
  exact va_slen hx hb x1 x2 x3 hS hd (kk ad H locs ls hP hD hS hl hn h0 h1)
theorem A_arg (hE : AGood E cc nL own ret0 nm) (hX : LX E b L xs) (q k j : Nat) {v : Int} (d0 : decode cc pc = .ok (.aload_n 0, 1)) (d1 : decode cc (pc + 1) = .ok (.iload_n 3, 1)) (d2 : decode cc (pc + 2) = .ok (.iconst v, 1)) (d3 : decode cc (pc + 3) = .ok (.iadd, 1)) (d4 : decode cc (pc + 4) = .ok (.iaload, 1)) (hq : pc + 5 = q) (hv : Int32.ofInt v = nI k) (hl0 : lvG lv 0 = some (.retAddr 8)) (hl3 : lvG lv 3 = some (.int (nI (6 * j)))) (hk : 6 * j + k < L) (kk : AW E R nL Q ad0 n0 cells slots q lv (.int (xs (6 * j + k)) :: st) h) : AW E R nL Q ad0 n0 cells slots pc lv st h := by
  refine A_aload_nS hE (pc + 1) d0 rfl hl0 ?_
  refine A_iload_n hE (pc + 2) d1 rfl hl3 ?_
  refine A_iconst hE (pc + 3) d2 rfl (nI k) hv ?_
  refine A_iadd hE (pc + 4) d3 rfl ?_
  rw [nI_add]
  exact A_sld hE hX q (6 * j + k) d4 hq hk kk
theorem A_lawret (hE : AGood E cL_law nL own ret nm) (hX : LX E b L xs) (hd : decode cL_law pc = .ok (.ireturn, 1)) (hcl : cells ≤ 600000) (hsl : slots ≤ 7302250) : AW E room_1 nL (QL E b) ad0 n0 cells slots pc lv [.int 1] h := by
  obtain ⟨p, l, e, s, m, args, below, meth, c, D, tc, sa, A⟩ := E
  obtain ⟨⟨hx, hb, hml, hown, hts⟩, hK, hT, hA, hr, hlk, hnm⟩ := hE
  obtain ⟨x1, x2, x3, rfl, rfl, x6, x7⟩ := hX
  intro ad H locs ls hP hD hS hl hn h0 h1
  refine va_forget (fun z hz => x6 _ (hS.2.2 z hz)) ?_
  refine W.widen (k := 600000) (n := 7302250) hcl hsl ?_
  exact lw_ret hx hb hr hlk hd
end LAWROWS
theorem eqvH_app : ∀ {a b : List AE} (t : List AE), eqvH a b → eqvH (a ++ t) (b ++ t)
  | [], [], t, _ => eqvH_rf t
  | _ :: _, _ :: _, t, h => ⟨h.1, eqvH_app t h.2⟩
  | [], _ :: _, _, h => h.elim
  | _ :: _, [], _, h => h.elim
theorem lw_le {p z : Nat} (hp : p < 4000) (hz : z ≤ 3072) (h : nI p ≤ nI z - nI 6) : p + 6 ≤ z := by
  have h2 : (nI p).toInt ≤ (nI z - nI 6).toInt := Int32.le_iff_toInt_le.mp h
  have h3 : (nI z - nI 6).toInt = ((nI z).toInt - (nI 6).toInt).bmod 4294967296 := Int32.toInt_sub _ _
  rw [h3, nI_toInt (show p < 2 ^ 31 by omega), nI_toInt (show 6 < 2 ^ 31 by omega), nI_toInt (show z < 2 ^ 31 by omega), Int.bmod_def] at h2
  by_cases hc : ((z : Int) - (6 : Nat)) % ((4294967296 : Nat) : Int) < (((4294967296 : Nat) : Int) + 1) / 2
  · rw [if_pos hc] at h2
    omega
  · rw [if_neg hc] at h2
    omega
