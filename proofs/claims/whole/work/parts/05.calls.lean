/-! CONTRACTS over the abstract machine, their ends and calls -/
def rn (is : List Nat) (i : Nat) : Nat := match getO is i with
  | some j => j
  | none => i
def rv (is : List Nat) (v : Value) : Value := match v with
  | .ref i => .ref (rn is i)
  | .retAddr k => .retAddr k
  | .int x => .int x
  | .long x => .long x
  | .float x => .float x
  | .double x => .double x
  | .null => .null
def ra (is : List Nat) (a : vp_A) : vp_A := match a with
  | (n, .inl f) => (n, .inl f)
  | (n, .inr (.inl f)) => (n, .inr (.inl f))
  | (n, .inr (.inr (.inl f))) => (n, .inr (.inr (.inl f)))
  | (n, .inr (.inr (.inr (.inl f)))) => (n, .inr (.inr (.inr (.inl f))))
  | (n, .inr (.inr (.inr (.inr f)))) => (n, .inr (.inr (.inr (.inr (fun j => (f j).map (rn is))))))
def re (is : List Nat) (e : AE) : AE := match e with
  | .inl (k, a) => .inl (k, ra is a)
  | .inr (c, fs) => .inr (c, fs.map (rv is))
theorem cv_rn (ad sa : Nat → Nat) (is : List Nat) (v : Value) : cv (fun i => ad (rn is i)) sa v = cv ad sa (rv is v) := by cases v <;> rfl
theorem ce_rn (ad sa : Nat → Nat) (tc : Nat → ClassId) (is : List Nat) (e : AE) : ce (fun i => ad (rn is i)) sa tc e = ce ad sa tc (re is e) := by
  cases e with
  | inl x =>
    obtain ⟨k, n, f | f | f | f | f⟩ := x
    · rfl
    · rfl
    · rfl
    · rfl
    · show (Sum.inl (tc k, n, Sum.inr (Sum.inr (Sum.inr (Sum.inr (fun j => (f j).map (fun i => ad (rn is i))))))) : va_E) = Sum.inl (tc k, n, Sum.inr (Sum.inr (Sum.inr (Sum.inr (fun j => ((f j).map (rn is)).map ad)))))
      have e4 : (fun j => (f j).map (fun i => ad (rn is i))) = (fun j => ((f j).map (rn is)).map ad) := by
        funext j
        cases f j <;> rfl
      rw [e4]
  | inr x =>
    obtain ⟨c, fs⟩ := x
    show (Sum.inr (c, fs.map (cv (fun i => ad (rn is i)) sa)) : va_E) = Sum.inr (c, (fs.map (rv is)).map (cv ad sa))
    rw [List.map_map]
    congr 2
    exact List.map_congr_left fun v _ => cv_rn ad sa is v
theorem gets_spec : ∀ (h : List AE) (is : List Nat) (r : List AE), gets h is = some r → r.length = is.length ∧ ∀ k i : Nat, is[k]? = some i → ∃ e : AE, h[i]? = some e ∧ r[k]? = some e
  | _, [], r, hr => by
    simp only [gets, Option.some.injEq] at hr
    subst hr
    exact ⟨rfl, fun k i hk => by simp at hk⟩
  | h, j :: is, r, hr => by
    cases h1 : getO h j with
    | none => simp [gets, h1] at hr
    | some e =>
      cases h2 : gets h is with
      | none => simp [gets, h1, h2] at hr
      | some r2 =>
        simp only [gets, h1, h2, Option.some.injEq] at hr
        subst hr
        obtain ⟨g1, g2⟩ := gets_spec h is r2 h2
        refine ⟨by simp [g1], fun k i hk => ?_⟩
        cases k with
        | zero =>
          simp only [List.getElem?_cons_zero, Option.some.injEq] at hk
          subst hk
          rw [getO_eq] at h1
          exact ⟨e, h1, rfl⟩
        | succ k =>
          rw [List.getElem?_cons_succ] at hk
          rw [List.getElem?_cons_succ]
          exact g2 k i hk
theorem wbO_spec : ∀ (is : List Nat) (r h h2 : List AE), wbO is r h = some h2 → va_nd is = true → h2.length = h.length ∧ (∀ k : Nat, k ∉ is → h2[k]? = h[k]?) ∧ ∀ j i : Nat, is[j]? = some i → ∃ e : AE, r[j]? = some e ∧ h2[i]? = some e
  | [], _, h, h2, hw, _ => by
    simp only [wbO, Option.some.injEq] at hw
    subst hw
    exact ⟨rfl, fun _ _ => rfl, fun j i hj => by simp at hj⟩
  | _ :: _, [], _, _, hw, _ => by simp [wbO] at hw
  | i :: is, e :: r, h, h2, hw, hn => by
    simp only [va_nd, Bool.and_eq_true, decide_eq_true_eq] at hn
    cases h1 : setO h i e with
    | none => simp [wbO, h1] at hw
    | some h' =>
      simp only [wbO, h1] at hw
      obtain ⟨rfl, hl⟩ := setO_eq _ _ _ _ h1
      obtain ⟨g1, g2, g3⟩ := wbO_spec is r _ h2 hw hn.2
      refine ⟨by simpa using g1, fun k hk => ?_, fun j z hj => ?_⟩
      · rw [List.mem_cons, not_or] at hk
        rw [g2 k hk.2, List.getElem?_set_ne (Ne.symm hk.1)]
      · cases j with
        | zero =>
          simp only [List.getElem?_cons_zero, Option.some.injEq] at hj
          subst hj
          exact ⟨e, rfl, by rw [g2 _ hn.1, List.getElem?_set_self hl]⟩
        | succ j =>
          rw [List.getElem?_cons_succ] at hj
          rw [List.getElem?_cons_succ]
          exact g3 j z hj
theorem rn_eq {is : List Nat} {k i : Nat} (h : is[k]? = some i) : rn is k = i := by
  rw [← getO_eq] at h
  simp [rn, h]
theorem sub_world {ad sa : Nat → Nat} {tc : Nat → ClassId} {h hc : List AE} {is : List Nat} (hg : gets h is = some (hc.map (re is))) : is.map (fun i => (cw ad sa tc h)[i]?) = (cw (fun i => ad (rn is i)) sa tc hc).map some := by
  obtain ⟨g1, g2⟩ := gets_spec _ _ _ hg
  rw [List.length_map] at g1
  apply List.ext_getElem?
  intro k
  rw [List.getElem?_map, List.getElem?_map]
  cases hk : is[k]? with
  | none =>
    have h1 : is.length ≤ k := by simpa using hk
    have h2 : (cw (fun i => ad (rn is i)) sa tc hc)[k]? = none := by
      rw [List.getElem?_eq_none_iff, cw_len, g1]
      exact h1
    rw [h2]
    rfl
  | some i =>
    obtain ⟨e, h1, h2⟩ := g2 k i hk
    rw [List.getElem?_map] at h2
    cases h3 : hc[k]? with
    | none => rw [h3] at h2; cases h2
    | some e0 =>
      rw [h3] at h2
      cases h2
      have h4 : (cw ad sa tc h)[i]? = some (ad i, ce ad sa tc (re is e0)) := cw_get (by rw [getO_eq]; exact h1)
      have h5 : (cw (fun i => ad (rn is i)) sa tc hc)[k]? = some (ad (rn is k), ce (fun i => ad (rn is i)) sa tc e0) := cw_get (ad := fun i => ad (rn is i)) (by rw [getO_eq]; exact h3)
      rw [h5]
      simp only [Option.map_some, h4]
      rw [ce_rn, rn_eq hk]
/-- the end of a contract: its answer, its cells -/
def QAc (D : va_G) (tc : Nat → ClassId) (sa : Nat → Nat) (A : Nat → Prop) (ad0 : Nat → Nat) (n0 mc : Nat) (post : Option Value → List AE → Prop) : Array Value → State → Outcome → State → Prop := fun _ st oc t =>
  (∃ (v : Option Value) (h' : List AE) (ad' : Nat → Nat), oc = .returned (v.map (cv ad' sa)) ∧ post v h' ∧ h'.length = n0 + mc ∧ (∀ i, i < n0 → ad' i = ad0 i) ∧ (mc = 0 → ad' = ad0) ∧ va_P D vwCl (cw ad' sa tc h') t.heap ∧ va_D A (cw ad' sa tc h')) ∧ va_F A st t
def QM (E : AV) (ad0 : Nat → Nat) (n0 mc ms : Nat) (post : Option Value → List AE → Prop) : State → Prop := match E with
  | (_, _, _, s, _, args, below, _, _, D, tc, sa, A) => MQ below (QAc D tc sa A ad0 n0 mc post) args s mc ms A
def B0 (D : va_G) (tc : Nat → ClassId) (sa ad : Nat → Nat) (sz : Nat) (h : List AE) (U : State) : Prop :=
  U.heap.size = sz ∧ va_P D vwCl (cw ad sa tc h) U.heap ∧ va_K D vwCl (tysO tc) U ∧ va_D (fun _ => True) (cw ad sa tc h) ∧ TB sa (va_A (cw ad sa tc h) sz) U U.heap
/-- the room of a method below which d calls may stand open -/
def rmD (d mc ms : Nat) : Room := { frames := d, cells := mc, slots := ms, locals := 32 * d + 20 }
/-- A CONTRACT: from the cells h, with the arguments as, the method returns, and post holds of its answer and the cells behind it -/
def AMet (y : MethodName) (cc : ByteArray) (nL : Nat) (ret : Option FieldType) (d mc ms : Nat) (as : List Value) (h : List AE) (post : Option Value → List AE → Prop) : Prop :=
  ∀ (l : Launch) (D : va_G) (tc : Nat → ClassId) (sa ad : Nat → Nat) (sz : Nat), Met l y (.code y cc nL ret :: lw_g) (rmD d mc ms) (va_Pc (as.map (cv ad sa)) (B0 D tc sa ad sz h)) (QAc D tc sa (va_A (cw ad sa tc h) sz) ad h.length mc post) mc ms (va_A (cw ad sa tc h) sz)
theorem lv_args_cv (ad sa : Nat → Nat) : ∀ (i : Nat) (vs : List Value), lv_args i (vs.map (cv ad sa)) = (lv_args i vs).map (cl' ad sa)
  | _, [] => rfl
  | i, v :: vs => by
    have e : (cv ad sa v).category = v.category := by cases v <;> rfl
    simp only [List.map_cons, lv_args, e]
    rw [lv_args_cv ad sa _ vs]
    rfl
theorem lg_sl_cv (ad sa : Nat → Nat) : ∀ (vs : List Value), (lg_sl (vs.map (cv ad sa))).length = (lg_sl vs).length
  | [] => rfl
  | v :: vs => by
    have ih := lg_sl_cv ad sa vs
    have e : (cv ad sa v).category = v.category := by cases v <;> rfl
    simp only [lg_sl, List.map_cons, List.flatMap_cons, List.length_append, e] at ih ⊢
    rw [ih]
    split <;> rfl
theorem AMet.of {y : MethodName} {cc : ByteArray} {nL : Nat} {ret : Option FieldType} {d mc ms : Nat} {as : List Value} {h : List AE} {post : Option Value → List AE → Prop} (hy : plainFor y = true) (hn : Nat.ble (lg_sl as).length nL = true)
    (body : ∀ (E : AV) (ad0 : Nat → Nat), AGood E cc nL y.cls ret y.name → AW E (rmD d mc ms) nL (QM E ad0 h.length mc ms post) ad0 h.length 0 0 0 (lv_args 0 as) [] h) : AMet y cc nL ret d mc ms as h post := by
  intro l D tc sa ad sz
  refine va_MetF (cc := cc) (maxL := nL) (ret := ret) hy rfl ?_
  intro p e s m args below meth c s₁ B hml hv
  obtain ⟨rfl, hsz, hP, hK, hD0, hT⟩ := hv
  have hx := B.exec
  have hb := B.bytes
  have hr := B.returns
  have hts0 := atoms_spec (ws := .code y cc nL ret :: lw_g) B.pre
  have hts : ∀ w ∈ lw_g, w.before (as.map (cv ad sa)).toArray s = true := fun w hw => hts0 w (List.mem_cons_of_mem _ hw)
  have hown : s.vm.findClass y.cls = some m.cls := findClass_of_methodNamed B.named
  have hlocks := B.notSynchronized
  have hin : meth.name = y.name := (name_of_methodNamed B.named B.method).1
  subst hsz
  have hD := hD0.self (sz := s.heap.size)
  have hl := lv_entry (as.map (cv ad sa)) (n := nL) (by rw [lg_sl_cv]; exact Nat.le_of_ble_eq_true hn)
  rw [lg_entry_eq]
  rw [lv_args_cv] at hl
  exact body (p, l, e, s, m, (as.map (cv ad sa)).toArray, below, meth, c, D, tc, sa, va_A (cw ad sa tc h) s.heap.size) ad ⟨⟨hx, hb, hml, hown, hts⟩, hK, hT, fun q hq => Or.inr hq, hr, hlocks, hin⟩ ad s.heap [] _ hP hD va_S.rf hl rfl (fun _ _ => rfl) (fun _ => rfl)
/-- typed ends -/
def pI (P : Int32 → List AE → Prop) : Option Value → List AE → Prop := fun v h => ∃ x, v = some (.int x) ∧ P x h
def pV (P : List AE → Prop) : Option Value → List AE → Prop := fun v h => v = none ∧ P h
def pR (P : Nat → List AE → Prop) : Option Value → List AE → Prop := fun v h => ∃ i, v = some (.ref i) ∧ P i h
section RETS
variable {E : AV} {R : Room} {nL : Nat} {ad0 : Nat → Nat} {n0 cells slots pc mc ms : Nat} {lv : List (Nat × Value)} {h : List AE} {cc : ByteArray} {own : String} {ret : Option FieldType} {nm : String}
theorem A_iret {P : Int32 → List AE → Prop} {x : Int32} (hE : AGood E cc nL own (some .int) nm) (hd : decode cc pc = .ok (.ireturn, 1)) (hp : P x h) : AW E R nL (QM E ad0 n0 cells slots (pI P)) ad0 n0 cells slots pc lv [.int x] h := by
  obtain ⟨p, l, e, s, m, args, below, meth, c, D, tc, sa, A⟩ := E
  obtain ⟨⟨hx, hb, hml, hown, hts⟩, hK, hT, hA, hr, hlk, hnm⟩ := hE
  intro ad H locs ls hP hD hS hl hn h0 h1
  refine W.iret hx hb hr (fun t ht hW => ⟨⟨some (.int x), h, ad, rfl, ⟨x, rfl, hp⟩, hn, h0, h1, by rw [ht]; exact hP, hD⟩, hS.F ht⟩) hS.2.2 hd hlk
theorem A_zret {P : Int32 → List AE → Prop} {x : Int32} (hE : AGood E cc nL own (some .boolean) nm) (hd : decode cc pc = .ok (.ireturn, 1)) (hz : x = 0 ∨ x = 1) (hp : P x h) : AW E R nL (QM E ad0 n0 cells slots (pI P)) ad0 n0 cells slots pc lv [.int x] h := by
  obtain ⟨p, l, e, s, m, args, below, meth, c, D, tc, sa, A⟩ := E
  obtain ⟨⟨hx, hb, hml, hown, hts⟩, hK, hT, hA, hr, hlk, hnm⟩ := hE
  intro ad H locs ls hP hD hS hl hn h0 h1
  have hnr : narrow .boolean (.int x) = .int x := by rcases hz with rfl | rfl <;> decide
  refine W.zret hx hb hr hnr (fun t ht hW => ⟨⟨some (.int x), h, ad, rfl, ⟨x, rfl, hp⟩, hn, h0, h1, by rw [ht]; exact hP, hD⟩, hS.F ht⟩) hS.2.2 hd hlk
theorem A_cret {P : Int32 → List AE → Prop} {x : Int32} {ty : FieldType} (hE : AGood E cc nL own (some ty) nm) (hd : decode cc pc = .ok (.ireturn, 1)) (hnr : narrow ty (.int x) = .int x) (hp : P x h) : AW E R nL (QM E ad0 n0 cells slots (pI P)) ad0 n0 cells slots pc lv [.int x] h := by
  obtain ⟨p, l, e, s, m, args, below, meth, c, D, tc, sa, A⟩ := E
  obtain ⟨⟨hx, hb, hml, hown, hts⟩, hK, hT, hA, hr, hlk, hnm⟩ := hE
  intro ad H locs ls hP hD hS hl hn h0 h1
  refine W.zret hx hb hr hnr (fun t ht hW => ⟨⟨some (.int x), h, ad, rfl, ⟨x, rfl, hp⟩, hn, h0, h1, by rw [ht]; exact hP, hD⟩, hS.F ht⟩) hS.2.2 hd hlk
theorem A_vret {P : List AE → Prop} (hE : AGood E cc nL own none nm) (hd : decode cc pc = .ok (.return_, 1)) (hp : P h) : AW E R nL (QM E ad0 n0 cells slots (pV P)) ad0 n0 cells slots pc lv [] h := by
  obtain ⟨p, l, e, s, m, args, below, meth, c, D, tc, sa, A⟩ := E
  obtain ⟨⟨hx, hb, hml, hown, hts⟩, hK, hT, hA, hr, hlk, hnm⟩ := hE
  intro ad H locs ls hP hD hS hl hn h0 h1
  refine W.vret hx hb hr (fun t ht hW => ⟨⟨none, h, ad, rfl, ⟨rfl, hp⟩, hn, h0, h1, by rw [ht]; exact hP, hD⟩, hS.F ht⟩) hS.2.2 hd hlk
theorem A_aret {P : Nat → List AE → Prop} {i : Nat} {C : String} (hE : AGood E cc nL own (some (.object C)) nm) (hd : decode cc pc = .ok (.areturn, 1)) (hp : P i h) : AW E R nL (QM E ad0 n0 cells slots (pR P)) ad0 n0 cells slots pc lv [.ref i] h := by
  obtain ⟨p, l, e, s, m, args, below, meth, c, D, tc, sa, A⟩ := E
  obtain ⟨⟨hx, hb, hml, hown, hts⟩, hK, hT, hA, hr, hlk, hnm⟩ := hE
  intro ad H locs ls hP hD hS hl hn h0 h1
  exact W.aret hx hb hr (Or.inl ⟨C, rfl⟩) (Or.inr ⟨ad i, rfl⟩) (fun t ht hW => ⟨⟨some (.ref i), h, ad, rfl, ⟨i, rfl, hp⟩, hn, h0, h1, by rw [ht]; exact hP, hD⟩, hS.F ht⟩) hS.2.2 hd hlk
end RETS
section CALLS
variable {p : Program} {l : Launch} {e : Env} {R : Room} {s : State} {m : MethodId} {args : Array Value} {below : List Frame} {meth : Method} {c : Code} {H : Heap} {locs : List Loc} {cells slots : Nat} {Q : State → Prop}
variable {pc : Nat} {ls : Array Slot} {rest st0 : List Value} {a : Array Value} {A0 A1 : Nat → Prop} {H0 : Heap} {mc ms : Nat}
theorem callA {D : va_G} {tc : Nat → ClassId} {sa ad2 : Nat → Nat} {n2 : Nat} {post : Option Value → List AE → Prop} (hr : va_Run p l e R s m args below meth c H locs cells slots mc ms (F0 m pc ls st0) rest (QAc D tc sa A1 ad2 n2 mc post a) A1) (hS : va_S A0 H0 H locs) (hF : ∀ q, A1 q → A0 q)
    (kk : ∀ (v : Option Value) (h' : List AE) (ad' : Nat → Nat) (H1 : Heap) (locs1 : List Loc), post v h' → h'.length = n2 + mc → (∀ i, i < n2 → ad' i = ad2 i) → (mc = 0 → ad' = ad2) → va_P D vwCl (cw ad' sa tc h') H1 → va_D A1 (cw ad' sa tc h') → H.size ≤ H1.size → (∀ q : Nat, q < H.size → ¬ A1 q → H1[q]? = H[q]?) → va_S A0 H0 H1 locs1 → W p l e R s m args below meth c H1 locs1 (cells + mc) (slots + ms) Q (F0 m (pc + 3) ls ((v.map (cv ad' sa)).toList ++ rest))) : W p l e R s m args below meth c H locs cells slots Q (F0 m pc ls st0) := by
  intro T hT X
  obtain ⟨v0, st₀, t, T', L, h0, X', hL, e1, e2, ⟨⟨v, h', ad', hv, hp, g1, g2, g3, g4, g5⟩, hz, hk⟩, st⟩ := hr T hT X
  cases hv
  rw [h0] at hz hk
  obtain ⟨t2, a1, b1⟩ := kk v h' ad' T'.heap (locs ++ L) hp g1 g2 g3 (by rw [e1]; exact g4) g5 (by rw [e1]; exact hz) (fun q h1 h2 => by rw [e1]; exact hk q h1 h2)
    ⟨Nat.le_trans hS.1 (by rw [e1]; exact hz), fun q h1 h2 => by rw [e1, hk q (Nat.lt_of_lt_of_le h1 hS.1) (fun z => h2 (hF q z))]; exact hS.2.1 q h1 h2, fun q hq => by
      rcases List.mem_append.mp hq with h | h
      · exact hS.2.2 q h
      · exact hF _ (hL q h)⟩ T' rfl X'
  exact ⟨t2, st t2 a1, b1⟩
end CALLS
theorem B0_blind {av : List Value} {D : va_G} {tc : Nat → ClassId} {sa ad : Nat → Nat} {sz : Nat} {h : List AE} : FrameBlind (va_Pc av (B0 D tc sa ad sz h)) := by
  intro a U g mk hq
  obtain ⟨h1, h2, h3, h4, h5, h6⟩ := hq
  exact ⟨h1, h2, h3, va_K.moved (u := U) (U := U.calling g mk a) (Vm.Alike.refl U.vm) h4, h5, TB.same (s := U) (U := U.calling g mk a) h6 rfl⟩
/-- the callee's start, out of the caller's stand -/
theorem B0_of {D : va_G} {tc : Nat → ClassId} {sa ad : Nat → Nat} {h hc : List AE} {is : List Nat} {A : Nat → Prop} {s : State} {H : Heap} {locs : List Loc} (hP : va_P D vwCl (cw ad sa tc h) H) (hD : va_D A (cw ad sa tc h)) (hS : va_S A s.heap H locs) (hA : ∀ q : Nat, s.heap.size ≤ q → A q) (hK : va_K D vwCl (tysO tc) s) (hT : TB sa A s s.heap) (hg : gets h is = some (hc.map (re is))) (hnd : va_nd is = true) :
    (∀ U : State, U.heap = H → s.WarmedH U.vm → B0 D tc sa (fun i => ad (rn is i)) H.size hc U) ∧ va_P D vwCl (cw (fun i => ad (rn is i)) sa tc hc) H ∧ ∀ q, va_A (cw (fun i => ad (rn is i)) sa tc hc) H.size q → A q := by
  have hsub := sub_world (ad := ad) (sa := sa) (tc := tc) hg
  have hF := va_free hD hS hA is hsub
  have hDc := hD.sub is hnd hsub
  have hPc : va_P D vwCl (cw (fun i => ad (rn is i)) sa tc hc) H := by
    intro k q hk
    have h1 : (is.map (fun i => (cw ad sa tc h)[i]?))[k]? = some (some q) := by rw [hsub, List.getElem?_map, hk]; rfl
    rw [List.getElem?_map] at h1
    cases hi : is[k]? with
    | none => rw [hi] at h1; cases h1
    | some i => rw [hi] at h1; exact hP i q (Option.some.inj h1)
  refine ⟨fun U hU hW => ⟨by rw [hU], by rw [hU]; exact hPc, va_K.moved hW.alike hK, hDc.weaken (fun _ _ _ _ => trivial), ?_⟩, hPc, hF⟩
  rw [hU]
  exact ((hT.kept (fun a ha hn => hS.2.1 a ha hn)).narrow hF).warm hW
/-- the world behind a call that makes no cells -/
theorem back0 {D : va_G} {tc : Nat → ClassId} {sa ad : Nat → Nat} {h hc h' h2 : List AE} {is : List Nat} {A : Nat → Prop} {H H1 : Heap} (hP : va_P D vwCl (cw ad sa tc h) H) (hD : va_D A (cw ad sa tc h)) (hg : gets h is = some (hc.map (re is))) (hnd : va_nd is = true) (hw : wbO is (h'.map (re is)) h = some h2)
    (hP1 : va_P D vwCl (cw (fun i => ad (rn is i)) sa tc h') H1) (hk : ∀ q : Nat, q < H.size → ¬ va_A (cw (fun i => ad (rn is i)) sa tc hc) H.size q → H1[q]? = H[q]?) : va_P D vwCl (cw ad sa tc h2) H1 ∧ va_D A (cw ad sa tc h2) ∧ h2.length = h.length := by
  obtain ⟨w1, w2, w3⟩ := wbO_spec _ _ _ _ hw hnd
  obtain ⟨g1, g2⟩ := gets_spec _ _ _ hg
  rw [List.length_map] at g1
  have hadr : ∀ (k : Nat) (q : Nat × va_E), (cw ad sa tc h2)[k]? = some q → ∃ e0, (cw ad sa tc h)[k]? = some (ad k, e0) ∧ q.1 = ad k := by
    intro k q hq
    obtain ⟨e, h1, rfl⟩ := cw_inv hq
    have hlt : k < h.length := by rw [← w1]; exact (List.getElem?_eq_some_iff.mp h1).1
    exact ⟨_, cw_get (by rw [getO_eq]; exact List.getElem?_eq_getElem hlt), rfl⟩
  refine ⟨fun k q hq => ?_, ⟨fun i j x y hi hj hxy => ?_, fun k q hq => ?_⟩, w1⟩
  · obtain ⟨e, h1, rfl⟩ := cw_inv hq
    by_cases hin : k ∈ is
    · obtain ⟨j, hj⟩ := List.getElem?_of_mem hin
      obtain ⟨e', h3, h4⟩ := w3 j k hj
      rw [h1] at h4
      cases h4
      rw [List.getElem?_map] at h3
      cases h5 : h'[j]? with
      | none => rw [h5] at h3; cases h3
      | some e0 =>
        rw [h5] at h3
        cases h3
        have h6 := hP1 j _ (cw_get (ad := fun i => ad (rn is i)) (sa := sa) (tc := tc) (by rw [getO_eq]; exact h5))
        rw [ce_rn] at h6
        rw [← rn_eq hj]
        exact h6
    · rw [w2 k hin] at h1
      have h2 := hP k _ (cw_get (ad := ad) (sa := sa) (tc := tc) (by rw [getO_eq]; exact h1))
      refine h2.kept (hk _ h2.lt ?_)
      rintro (⟨k2, e2, hx⟩ | hx)
      · obtain ⟨e3, h3, h4⟩ := cw_inv hx
        have hk2 : k2 < is.length := by rw [← g1]; exact (List.getElem?_eq_some_iff.mp h3).1
        obtain ⟨i2, hi2⟩ : ∃ i2, is[k2]? = some i2 := ⟨_, List.getElem?_eq_getElem hk2⟩
        obtain ⟨e4, h5, -⟩ := g2 k2 i2 hi2
        have h7 := cw_get (ad := ad) (sa := sa) (tc := tc) (h := h) (k := i2) (by rw [getO_eq]; exact h5)
        have h8 := cw_get (ad := ad) (sa := sa) (tc := tc) (h := h) (k := k) (by rw [getO_eq]; exact h1)
        have h9 : ad k = ad i2 := by
          have := congrArg Prod.fst h4
          rw [← rn_eq hi2]
          exact this
        have h10 := hD.1 _ _ _ _ h8 h7 h9
        exact hin (h10 ▸ List.mem_of_getElem? hi2)
      · exact absurd h2.lt (Nat.not_lt.mpr hx)
  · obtain ⟨e1, h1, h2⟩ := hadr i x hi
    obtain ⟨e2, h3, h4⟩ := hadr j y hj
    exact hD.1 i j _ _ h1 h3 (h2.symm.trans (hxy.trans h4))
  · obtain ⟨e1, h1, h2⟩ := hadr k q hq
    rw [h2]
    exact hD.2 k _ h1
