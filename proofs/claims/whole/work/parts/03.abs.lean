/-! THE ABSTRACT MACHINE: the cells of a world are named by their places in a list (a reference to cell i is '.ref i'); constants of the class files, that nobody writes, are '.retAddr k'. -/
abbrev AE : Type := (Nat × vp_A) ⊕ (Nat × List Value)
abbrev AV : Type := Program × Launch × Env × State × MethodId × Array Value × List Frame × Method × Code × va_G × (Nat → ClassId) × (Nat → Nat) × (Nat → Prop)
def cv (ad sa : Nat → Nat) (v : Value) : Value := match v with
  | .ref i => .ref (ad i)
  | .retAddr k => .ref (sa k)
  | .int x => .int x
  | .long x => .long x
  | .float x => .float x
  | .double x => .double x
  | .null => .null
def ca (ad : Nat → Nat) (a : vp_A) : vp_A := match a with
  | (n, .inl f) => (n, .inl f)
  | (n, .inr (.inl f)) => (n, .inr (.inl f))
  | (n, .inr (.inr (.inl f))) => (n, .inr (.inr (.inl f)))
  | (n, .inr (.inr (.inr (.inl f)))) => (n, .inr (.inr (.inr (.inl f))))
  | (n, .inr (.inr (.inr (.inr f)))) => (n, .inr (.inr (.inr (.inr (fun j => (f j).map ad)))))
def ce (ad sa : Nat → Nat) (tc : Nat → ClassId) (e : AE) : va_E := match e with
  | .inl (k, a) => .inl (tc k, ca ad a)
  | .inr (c, fs) => .inr (c, fs.map (cv ad sa))
def cw (ad sa : Nat → Nat) (tc : Nat → ClassId) (h : List AE) : va_W := h.mapIdx (fun i e => (ad i, ce ad sa tc e))
def cl' (ad sa : Nat → Nat) (q : Nat × Value) : Nat × Value := (q.1, cv ad sa q.2)
def getO {α : Type} : List α → Nat → Option α
  | [], _ => none
  | a :: _, 0 => some a
  | _ :: l, k + 1 => getO l k
def setO {α : Type} : List α → Nat → α → Option (List α)
  | [], _, _ => none
  | _ :: l, 0, e => some (e :: l)
  | a :: l, k + 1, e => match setO l k e with
    | some l' => some (a :: l')
    | none => none
theorem getO_eq {α : Type} : ∀ (l : List α) (k : Nat), getO l k = l[k]?
  | [], _ => by simp [getO]
  | _ :: _, 0 => by simp [getO]
  | _ :: l, k + 1 => by simp [getO, getO_eq l k]
theorem setO_eq {α : Type} : ∀ (l : List α) (k : Nat) (e : α) (l' : List α), setO l k e = some l' → l' = l.set k e ∧ k < l.length
  | [], _, _, _, h => by simp [setO] at h
  | _ :: l, 0, e, l', h => by
    simp only [setO, Option.some.injEq] at h
    subst h
    exact ⟨rfl, Nat.zero_lt_succ _⟩
  | a :: l, k + 1, e, l', h => by
    cases h2 : setO l k e with
    | none => simp [setO, h2] at h
    | some l2 =>
      simp only [setO, h2, Option.some.injEq] at h
      obtain ⟨h3, h4⟩ := setO_eq l k e l2 h2
      subst h
      rw [h3]
      exact ⟨rfl, Nat.succ_lt_succ h4⟩
def gets (h : List AE) : List Nat → Option (List AE)
  | [] => some []
  | i :: is => match getO h i with
    | none => none
    | some e => match gets h is with
      | none => none
      | some r => some (e :: r)
/-- the callee's cells behind the call, written back at their places -/
def wbO : List Nat → List AE → List AE → Option (List AE)
  | [], _, h => some h
  | i :: is, e :: r, h => match setO h i e with
    | some h' => wbO is r h'
    | none => none
  | _ :: _, [], _ => none
def lvG : List (Nat × Value) → Nat → Option Value
  | [], _ => none
  | (k, v) :: l, i => match Nat.beq k i with
    | true => some v
    | false => lvG l i
def cat2 : Value → Bool
  | .long _ => true
  | .double _ => true
  | _ => false
def lvF : List (Nat × Value) → Nat → Option (List (Nat × Value))
  | [], _ => some []
  | (k, w) :: l, i => match lvF l i with
    | none => none
    | some l' => match Nat.beq k i || (Nat.beq (k + 1) i && cat2 w) with
      | true => some l'
      | false => some ((k, w) :: l')
def lvP (lv : List (Nat × Value)) : List Nat → Option (List (Nat × Value))
  | [] => some []
  | k :: ks => match lvG lv k with
    | none => none
    | some v => match lvP lv ks with
      | none => none
      | some r => some ((k, v) :: r)
theorem lvG_mem : ∀ (l : List (Nat × Value)) (i : Nat) (v : Value), lvG l i = some v → (i, v) ∈ l
  | [], _, _, h => by simp [lvG] at h
  | (k, w) :: l, i, v, h => by
    cases hb : Nat.beq k i with
    | true =>
      simp only [lvG, hb, Option.some.injEq] at h
      subst h
      rw [Nat.eq_of_beq_eq_true hb]
      exact List.mem_cons_self
    | false =>
      simp only [lvG, hb] at h
      exact List.mem_cons_of_mem _ (lvG_mem l i v h)
theorem cat2_eq (v : Value) : cat2 v = (v.category == 2) := by cases v <;> rfl
theorem lvF_mem : ∀ (l : List (Nat × Value)) (i : Nat) (l' : List (Nat × Value)), lvF l i = some l' → ∀ q ∈ l', q ∈ l ∧ (!(q.1 == i) && !(q.1 + 1 == i && q.2.category == 2)) = true
  | [], _, _, h, q, hq => by
    simp only [lvF, Option.some.injEq] at h
    subst h
    cases hq
  | (k, w) :: l, i, l', h, q, hq => by
    cases h2 : lvF l i with
    | none => simp [lvF, h2] at h
    | some l2 =>
      have ih := lvF_mem l i l2 h2
      cases hb : (Nat.beq k i || (Nat.beq (k + 1) i && cat2 w)) with
      | true =>
        simp only [lvF, h2, hb, Option.some.injEq] at h
        subst h
        obtain ⟨a, b⟩ := ih q hq
        exact ⟨List.mem_cons_of_mem _ a, b⟩
      | false =>
        simp only [lvF, h2, hb, Option.some.injEq] at h
        subst h
        rcases List.mem_cons.mp hq with rfl | hq
        · refine ⟨List.mem_cons_self, ?_⟩
          rw [cat2_eq] at hb
          simp only [Bool.or_eq_false_iff] at hb
          obtain ⟨h3, h4⟩ := hb
          have e1 : (k == i) = false := by rw [beq_eq_false_iff_ne]; exact Nat.ne_of_beq_eq_false h3
          have e2 : (k + 1 == i && w.category == 2) = false := by
            cases hz : (k + 1 == i) with
            | false => rfl
            | true =>
              have hz' : k + 1 = i := by simpa using hz
              rw [hz', Nat.beq_refl] at h4
              simpa using h4
          show (!(k == i) && !(k + 1 == i && w.category == 2)) = true
          rw [e1, e2]
          rfl
        · obtain ⟨a, b⟩ := ih q hq
          exact ⟨List.mem_cons_of_mem _ a, b⟩
theorem lvP_mem : ∀ (l : List (Nat × Value)) (ks : List Nat) (l' : List (Nat × Value)), lvP l ks = some l' → ∀ q ∈ l', q ∈ l
  | l, [], l', h, q, hq => by
    simp only [lvP, Option.some.injEq] at h
    subst h
    cases hq
  | l, k :: ks, l', h, q, hq => by
    cases h1 : lvG l k with
    | none => simp [lvP, h1] at h
    | some v =>
      cases h2 : lvP l ks with
      | none => simp [lvP, h1, h2] at h
      | some r =>
        simp only [lvP, h1, h2, Option.some.injEq] at h
        subst h
        rcases List.mem_cons.mp hq with rfl | hq
        · exact lvG_mem _ _ _ h1
        · exact lvP_mem l ks r h2 q hq
theorem cw_get {ad sa : Nat → Nat} {tc : Nat → ClassId} {h : List AE} {k : Nat} {e : AE} (hk : getO h k = some e) : (cw ad sa tc h)[k]? = some (ad k, ce ad sa tc e) := by
  rw [getO_eq] at hk
  simp [cw, List.getElem?_mapIdx, hk]
theorem cw_inv {ad sa : Nat → Nat} {tc : Nat → ClassId} {h : List AE} {k : Nat} {q : Nat × va_E} (hk : (cw ad sa tc h)[k]? = some q) : ∃ e, h[k]? = some e ∧ q = (ad k, ce ad sa tc e) := by
  simp only [cw, List.getElem?_mapIdx, Option.map_eq_some_iff] at hk
  obtain ⟨e, h1, h2⟩ := hk
  exact ⟨e, h1, h2.symm⟩
theorem cw_set {ad sa : Nat → Nat} {tc : Nat → ClassId} {h : List AE} {k : Nat} {e : AE} {h' : List AE} (hs : setO h k e = some h') : cw ad sa tc h' = (cw ad sa tc h).set k (ad k, ce ad sa tc e) ∧ h'.length = h.length := by
  obtain ⟨rfl, hl⟩ := setO_eq _ _ _ _ hs
  refine ⟨?_, by simp⟩
  apply List.ext_getElem?
  intro i
  by_cases hi : k = i
  · subst hi
    simp [cw, hl]
  · simp [cw, List.getElem?_mapIdx, List.getElem?_set, hi]
theorem cw_len {ad sa : Nat → Nat} {tc : Nat → ClassId} {h : List AE} : (cw ad sa tc h).length = h.length := by simp [cw]
def vok : FieldType → Value → Bool
  | .int, .int _ => true
  | .long, .long _ => true
  | .boolean, .int x => x == 0 || x == 1
  | .object _, .ref _ => true
  | .object _, .null => true
  | .object _, .retAddr _ => true
  | .array _, .ref _ => true
  | .array _, .null => true
  | _, _ => false
theorem vok_ok {ad sa : Nat → Nat} {ty : FieldType} {v : Value} (h : vok ty v = true) : narrow ty (cv ad sa v) = cv ad sa v ∧ fits ty (cv ad sa v) = true := by
  cases ty <;> cases v <;> simp only [vok] at h <;> first | (cases h; done) | exact ⟨rfl, rfl⟩ | (simp only [Bool.or_eq_true, beq_iff_eq] at h; rcases h with h | h <;> subst h <;> first | exact ⟨show narrow .boolean (.int 0) = .int 0 by decide, show fits .boolean (.int 0) = true by decide⟩ | exact ⟨show narrow .boolean (.int 1) = .int 1 by decide, show fits .boolean (.int 1) = true by decide⟩)
def aboveL : List Int32 := [0, 0, 0, 0, 1, 2, 0]
def bodiesL : List Int32 := [10, 11, 12, 13, 20, 0, 0, 21, 0, 30, 0, 0, 0, 0, 40, 0, 50, 0, 51, 0, 0, 60, 0, 0, 70, 71, 0, 0]
def strLen : List Nat := [0, 3, 3]
def strByt : List (List Int32) := [[], [115, 118, 100], [108, 115, 100]]
def nestF : Cond := .fieldLinkNest "LoanedRound$Voices" 60 "LoanedRound" "ABOVE" "[I" "LoanedRound"
def yX8_isWithin' : MethodName := ⟨"LoanedRound", "isWithin", "(III)Z"⟩
def nestM : Cond := .methodLinkNest "LoanedRound$Round" 130 yX8_isWithin' "LoanedRound"
/-- what the class files hold, outside of the worlds -/
def TB (sa : Nat → Nat) (A : Nat → Prop) (U : State) (H : Heap) : Prop :=
  (va_Z RX8 "ABOVE" "[I" (.ref (sa 0)) A U H ∧ va_T .int (sa 0) 7 (fun j => .int (aboveL.getD j 0)) A U H) ∧
  (va_Z RX7 "BODIES" "[I" (.ref (sa 1)) A U H ∧ va_T .int (sa 1) 28 (fun j => .int (bodiesL.getD j 0)) A U H) ∧
  va_Z "java/lang/String" "COMPACT_STRINGS" "Z" (.int 1) A U H ∧
  vk_S 3 strLen strByt (fun i => sa (2 + i)) (fun i => sa (5 + i)) A U H ∧
  (vk_R RX1 23 "" (sa 2) U ∧ vk_R RX1 36 "svd" (sa 3) U ∧ vk_R RX1 38 "lsd" (sa 4) U) ∧
  va_Nw nestF U ∧ va_Nw nestM U ∧ va_AO RX4 U
theorem TB.warm {sa : Nat → Nat} {A : Nat → Prop} {s U : State} {H : Heap} (h : TB sa A s H) (hW : s.WarmedH U.vm) : TB sa A U H := by
  obtain ⟨⟨a1, a2⟩, ⟨b1, b2⟩, c1, d1, ⟨e1, e2, e3⟩, f1, g1, i1⟩ := h
  exact ⟨⟨va_Z.moved hW.alike a1, va_T.moved hW.alike a2⟩, ⟨va_Z.moved hW.alike b1, va_T.moved hW.alike b2⟩, va_Z.moved hW.alike c1, vk_S.moved hW.alike d1, ⟨vk_R.warm hW e1, vk_R.warm hW e2, vk_R.warm hW e3⟩, va_Nw.warmF hW f1, va_Nw.warmM hW g1, va_AO.moved hW.alike i1⟩
theorem TB.kept {sa : Nat → Nat} {A : Nat → Prop} {U : State} {H H1 : Heap} (h : TB sa A U H) (hq : ∀ a : Nat, a < H.size → ¬ A a → H1[a]? = H[a]?) : TB sa A U H1 := by
  obtain ⟨⟨a1, a2⟩, ⟨b1, b2⟩, c1, d1, e, f1, g1, i1⟩ := h
  exact ⟨⟨a1.kept hq, a2.kept hq⟩, ⟨b1.kept hq, b2.kept hq⟩, c1.kept hq, d1.kept hq, e, f1, g1, i1⟩
theorem TB.narrow {sa : Nat → Nat} {A B : Nat → Prop} {U : State} {H : Heap} (h : TB sa A U H) (hAB : ∀ q, B q → A q) : TB sa B U H := by
  obtain ⟨⟨a1, a2⟩, ⟨b1, b2⟩, c1, d1, e, f1, g1, i1⟩ := h
  exact ⟨⟨a1.narrow hAB, a2.narrow hAB⟩, ⟨b1.narrow hAB, b2.narrow hAB⟩, c1.narrow hAB, d1.narrow hAB, e, f1, g1, i1⟩
theorem TB.same {sa : Nat → Nat} {A : Nat → Prop} {s U : State} {H : Heap} (h : TB sa A s H) (hv : U.vm = s.vm) : TB sa A U H := by
  have hA : s.vm.Alike U.vm := by rw [hv]; exact Vm.Alike.refl _
  obtain ⟨⟨a1, a2⟩, ⟨b1, b2⟩, c1, d1, ⟨e1, e2, e3⟩, f1, g1, i1⟩ := h
  exact ⟨⟨va_Z.moved hA a1, va_T.moved hA a2⟩, ⟨va_Z.moved hA b1, va_T.moved hA b2⟩, va_Z.moved hA c1, vk_S.moved hA d1, ⟨vk_R.same hv e1, vk_R.same hv e2, vk_R.same hv e3⟩, va_Nw.same rfl hv.symm f1, va_Nw.same rfl hv.symm g1, va_AO.moved hA i1⟩
def tysO (tc : Nat → ClassId) : List (ClassId × FieldType) := [(tc 0, .int), (tc 1, .object RX4)]
/-- where a walk stands: the machine, the method's code, its words, the classes, the constants -/
def AGood (E : AV) (cc : ByteArray) (nL : Nat) (own : String) (ret : Option FieldType) (nm : String) : Prop := match E with
  | (p, _, _, s, m, args, _, meth, c, D, tc, sa, A) => CallFix p m c cc nL s args lw_g own ∧ va_K D vwCl (tysO tc) s ∧ TB sa A s s.heap ∧ (∀ q : Nat, s.heap.size ≤ q → A q) ∧ meth.sig.returnType = ret ∧ meth.locks = false ∧ meth.name = nm
/-- from here the machine comes to a state with Q -/
def AW (E : AV) (R : Room) (nL : Nat) (Q : State → Prop) (ad0 : Nat → Nat) (n0 cells slots pc : Nat) (lv : List (Nat × Value)) (st : List Value) (h : List AE) : Prop := match E with
  | (p, l, e, s, m, args, below, meth, c, D, tc, sa, A) => ∀ (ad : Nat → Nat) (H : Heap) (locs : List Loc) (ls : Array Slot), va_P D vwCl (cw ad sa tc h) H → va_D A (cw ad sa tc h) → va_S A s.heap H locs → lv_has ls nL (lv.map (cl' ad sa)) → h.length = n0 + cells → (∀ i, i < n0 → ad i = ad0 i) → (cells = 0 → ad = ad0) →
      W p l e R s m args below meth c H locs cells slots Q (F0 m pc ls (st.map (cv ad sa)))
section ROWS
variable {E : AV} {R : Room} {nL : Nat} {Q : State → Prop} {ad0 : Nat → Nat} {n0 cells slots pc : Nat} {lv : List (Nat × Value)} {st : List Value} {h : List AE} {cc : ByteArray} {own : String} {ret : Option FieldType} {nm : String}
theorem A_iconst (hE : AGood E cc nL own ret nm) (q : Nat) {n : Int} (hd : decode cc pc = .ok (.iconst n, 1)) (hq : pc + 1 = q) (v : Int32) (hv : Int32.ofInt n = v) (kk : AW E R nL Q ad0 n0 cells slots q lv (.int v :: st) h) : AW E R nL Q ad0 n0 cells slots pc lv st h := by
  obtain ⟨p, l, e, s, m, args, below, meth, c, D, tc, sa, A⟩ := E
  subst hq
  obtain ⟨⟨hx, hb, hml, hown, hts⟩, hK, hT, hA, hr, hlk, hnm⟩ := hE
  intro ad H locs ls hP hD hS hl hn h0 h1
  exact lv_iconst hx hb hd hv (kk ad H locs ls hP hD hS hl hn h0 h1)
theorem A_iload_n (hE : AGood E cc nL own ret nm) (q : Nat) {k : Fin 4} {x : Int32} (hd : decode cc pc = .ok (.iload_n k, 1)) (hq : pc + 1 = q) (hv : lvG lv k = some (.int x)) (kk : AW E R nL Q ad0 n0 cells slots q lv (.int x :: st) h) : AW E R nL Q ad0 n0 cells slots pc lv st h := by
  obtain ⟨p, l, e, s, m, args, below, meth, c, D, tc, sa, A⟩ := E
  subst hq
  obtain ⟨⟨hx, hb, hml, hown, hts⟩, hK, hT, hA, hr, hlk, hnm⟩ := hE
  intro ad H locs ls hP hD hS hl hn h0 h1
  exact lv_iload_n hx hb hd rfl (hl.2.2 (cl' ad sa ((k : Nat), Value.int x)) (List.mem_map_of_mem (lvG_mem _ _ _ hv))) (kk ad H locs ls hP hD hS hl hn h0 h1)
theorem A_iadd (hE : AGood E cc nL own ret nm) (q : Nat) {x y : Int32} (hd : decode cc pc = .ok (.iadd, 1)) (hq : pc + 1 = q) (kk : AW E R nL Q ad0 n0 cells slots q lv (.int (x + y) :: st) h) : AW E R nL Q ad0 n0 cells slots pc lv (.int y :: .int x :: st) h := by
  obtain ⟨p, l, e, s, m, args, below, meth, c, D, tc, sa, A⟩ := E
  subst hq
  obtain ⟨⟨hx, hb, hml, hown, hts⟩, hK, hT, hA, hr, hlk, hnm⟩ := hE
  intro ad H locs ls hP hD hS hl hn h0 h1
  exact lv_iadd hx hb hd (kk ad H locs ls hP hD hS hl hn h0 h1)
theorem A_istore_n (hE : AGood E cc nL own ret nm) (q : Nat) {k : Fin 4} {x : Int32} {lv' : List (Nat × Value)} (hd : decode cc pc = .ok (.istore_n k, 1)) (hq : pc + 1 = q) (hk : Nat.blt k nL = true) (hf : lvF lv k = some lv') (kk : AW E R nL Q ad0 n0 cells slots q (((k : Nat), .int x) :: lv') st h) : AW E R nL Q ad0 n0 cells slots pc lv (.int x :: st) h := by
  obtain ⟨p, l, e, s, m, args, below, meth, c, D, tc, sa, A⟩ := E
  subst hq
  obtain ⟨⟨hx, hb, hml, hown, hts⟩, hK, hT, hA, hr, hlk, hnm⟩ := hE
  intro ad H locs ls hP hD hS hl hn h0 h1
  refine lv_istore_n hx hb hd rfl hl (Nat.le_of_ble_eq_true hk) rfl fun ls' hl' => kk ad H locs ls' hP hD hS ⟨hl'.1, hl'.2.1, fun z hz => hl'.2.2 z ?_⟩ hn h0 h1
  rcases List.mem_cons.mp hz with rfl | hz
  · exact List.mem_cons_self
  · obtain ⟨w, hw, rfl⟩ := List.mem_map.mp hz
    obtain ⟨g1, g2⟩ := lvF_mem _ _ _ hf w hw
    refine List.mem_cons_of_mem _ (List.mem_filter.mpr ⟨List.mem_map_of_mem g1, ?_⟩)
    obtain ⟨w1, w2⟩ := w
    cases w2 <;> exact g2
theorem A_get (hE : AGood E cc nL own ret nm) (q : Nat) {idx ci k i : Nat} {fin : Bool} {ty : FieldType} {fs : List Value} {v : Value} (hd : decode cc pc = .ok (.getfield idx, 3)) (hq : pc + 3 = q) (hf : FK own idx ci k fin ty) (hh : getO h i = some (.inr (ci, fs))) (hv : getO fs k = some v) (kk : AW E R nL Q ad0 n0 cells slots q lv (v :: st) h) : AW E R nL Q ad0 n0 cells slots pc lv (.ref i :: st) h := by
  obtain ⟨p, l, e, s, m, args, below, meth, c, D, tc, sa, A⟩ := E
  subst hq
  obtain ⟨⟨hx, hb, hml, hown, hts⟩, hK, hT, hA, hr, hlk, hnm⟩ := hE
  intro ad H locs ls hP hD hS hl hn h0 h1
  obtain ⟨C, T, N, ⟨hc, hin, -, -⟩, hk, hlink, hdecl, -, -⟩ := hf
  rw [getO_eq] at hv
  exact va_get hx hb hts hin hown hK hP i (cw_get hh) hc k hk (hts _ hlink) (fun x hx => hdecl ▸ hx) (v := cv ad sa v) (by rw [List.getElem?_map, hv]; rfl) hd (kk ad H locs ls hP hD hS hl hn h0 h1)
theorem A_put (hE : AGood E cc nL own ret nm) (q : Nat) {idx ci k i : Nat} {ty : FieldType} {fs fs' : List Value} {h' : List AE} {v : Value} (hd : decode cc pc = .ok (.putfield idx, 3)) (hq : pc + 3 = q) (hf : FK own idx ci k false ty) (hh : getO h i = some (.inr (ci, fs))) (hs : setO fs k v = some fs') (hs2 : setO h i (.inr (ci, fs')) = some h') (hok : vok ty v = true) (kk : AW E R nL Q ad0 n0 cells slots q lv st h') : AW E R nL Q ad0 n0 cells slots pc lv (v :: .ref i :: st) h := by
  obtain ⟨p, l, e, s, m, args, below, meth, c, D, tc, sa, A⟩ := E
  subst hq
  obtain ⟨⟨hx, hb, hml, hown, hts⟩, hK, hT, hA, hr, hlk, hnm⟩ := hE
  intro ad H locs ls hP hD hS hl hn h0 h1
  obtain ⟨C, T, N, ⟨hc, hin, ⟨ty0, hty⟩, hap⟩, hk, hlink, hdecl, hfin, hpd⟩ := hf
  obtain ⟨rfl, hkl⟩ := setO_eq _ _ _ _ hs
  obtain ⟨e1, e2⟩ := cw_set (ad := ad) (sa := sa) (tc := tc) hs2
  obtain ⟨k1, k2⟩ := vok_ok (ad := ad) (sa := sa) hok
  refine va_put hx hb hts hin ty0 hty hap hown hK hP hD hS i (cw_get hh) hc k hk (hts _ hlink) (fun x hx => hdecl ▸ hx) hfin hpd (v := cv ad sa v) k1 k2 (by rw [List.length_map]; exact hkl) hd fun H1 locs1 hP1 hD1 hS1 => ?_
  have e3 : (ce ad sa tc (.inr (ci, fs.set k v))) = .inr (ci, (fs.map (cv ad sa)).set k (cv ad sa v)) := by
    show (Sum.inr (ci, (fs.set k v).map (cv ad sa)) : va_E) = _
    rw [List.map_set]
  rw [e3] at e1
  rw [← e1] at hP1 hD1
  exact kk ad H1 locs1 ls hP1 hD1 hS1 hl (e2.trans hn) h0 h1
theorem A_putF (hE : AGood E cc nL own ret "<init>") (q : Nat) {idx ci k i : Nat} {ty : FieldType} {fs fs' : List Value} {h' : List AE} {v : Value} (hd : decode cc pc = .ok (.putfield idx, 3)) (hq : pc + 3 = q) (hf : FK own idx ci k true ty) (hci : (vwCl[ci]?).map (fun z => z.1) = some own) (hh : getO h i = some (.inr (ci, fs))) (hs : setO fs k v = some fs') (hs2 : setO h i (.inr (ci, fs')) = some h') (hok : vok ty v = true) (kk : AW E R nL Q ad0 n0 cells slots q lv st h') : AW E R nL Q ad0 n0 cells slots pc lv (v :: .ref i :: st) h := by
  obtain ⟨p, l, e, s, m, args, below, meth, c, D, tc, sa, A⟩ := E
  subst hq
  obtain ⟨⟨hx, hb, hml, hown, hts⟩, hK, hT, hA, hr, hlk, hnm⟩ := hE
  intro ad H locs ls hP hD hS hl hn h0 h1
  obtain ⟨C, T, N, ⟨hc, hin, ⟨ty0, hty⟩, hap⟩, hk, hlink, hdecl, hfin, hpd⟩ := hf
  have hCo : C = own := by
    rw [hc] at hci
    exact Option.some.inj hci
  obtain ⟨rfl, hkl⟩ := setO_eq _ _ _ _ hs
  obtain ⟨e1, e2⟩ := cw_set (ad := ad) (sa := sa) (tc := tc) hs2
  obtain ⟨k1, k2⟩ := vok_ok (ad := ad) (sa := sa) hok
  refine va_putF hx hb hts hin ty0 hty hap hown hK hP hD hS i (cw_get hh) hc k hk (hts _ hlink) (fun x hx => hdecl ▸ hx) hfin hnm (hdecl.trans hCo) hpd (v := cv ad sa v) k1 k2 (by rw [List.length_map]; exact hkl) hd fun H1 locs1 hP1 hD1 hS1 => ?_
  have e3 : (ce ad sa tc (.inr (ci, fs.set k v))) = .inr (ci, (fs.map (cv ad sa)).set k (cv ad sa v)) := by
    show (Sum.inr (ci, (fs.set k v).map (cv ad sa)) : va_E) = _
    rw [List.map_set]
  rw [e3] at e1
  rw [← e1] at hP1 hD1
  exact kk ad H1 locs1 ls hP1 hD1 hS1 hl (e2.trans hn) h0 h1
theorem A_iaload (hE : AGood E cc nL own ret nm) (q : Nat) {i n : Nat} {f : Nat → Int32} {x : Int32} (hd : decode cc pc = .ok (.iaload, 1)) (hq : pc + 1 = q) (hh : getO h i = some (.inl (0, n, .inl f))) (hin : vp_in x n) (kk : AW E R nL Q ad0 n0 cells slots q lv (.int (f x.toNatClampNeg) :: st) h) : AW E R nL Q ad0 n0 cells slots pc lv (.int x :: .ref i :: st) h := by
  obtain ⟨p, l, e, s, m, args, below, meth, c, D, tc, sa, A⟩ := E
  subst hq
  obtain ⟨⟨hx, hb, hml, hown, hts⟩, hK, hT, hA, hr, hlk, hnm⟩ := hE
  intro ad H locs ls hP hD hS hl hn h0 h1
  exact va_iald hx hb hK hP i 0 (cw_get hh) rfl hin hd (kk ad H locs ls hP hD hS hl hn h0 h1)
theorem A_iastore (hE : AGood E cc nL own ret nm) (q : Nat) {i n : Nat} {f : Nat → Int32} {x y : Int32} {h' : List AE} (hd : decode cc pc = .ok (.iastore, 1)) (hq : pc + 1 = q) (hh : getO h i = some (.inl (0, n, .inl f))) (hin : vp_in x n) (hs : setO h i (.inl (0, n, .inl (upd f x.toNatClampNeg y))) = some h') (kk : AW E R nL Q ad0 n0 cells slots q lv st h') : AW E R nL Q ad0 n0 cells slots pc lv (.int y :: .int x :: .ref i :: st) h := by
  obtain ⟨p, l, e, s, m, args, below, meth, c, D, tc, sa, A⟩ := E
  subst hq
  obtain ⟨⟨hx, hb, hml, hown, hts⟩, hK, hT, hA, hr, hlk, hnm⟩ := hE
  intro ad H locs ls hP hD hS hl hn h0 h1
  obtain ⟨e1, e2⟩ := cw_set (ad := ad) (sa := sa) (tc := tc) hs
  refine va_iast hx hb hK hP hD hS i 0 (cw_get hh) rfl hin hd fun H1 locs1 hP1 hD1 hS1 => ?_
  have hP1 : va_P D vwCl ((cw ad sa tc h).set i (ad i, ce ad sa tc (.inl (0, n, .inl (upd f x.toNatClampNeg y))))) H1 := hP1
  have hD1 : va_D A ((cw ad sa tc h).set i (ad i, ce ad sa tc (.inl (0, n, .inl (upd f x.toNatClampNeg y))))) := hD1
  rw [← e1] at hP1 hD1
  exact kk ad H1 locs1 ls hP1 hD1 hS1 hl (e2.trans hn) h0 h1
theorem A_lv (ks : List Nat) {lv' : List (Nat × Value)} (hp : lvP lv ks = some lv') (kk : AW E R nL Q ad0 n0 cells slots pc lv' st h) : AW E R nL Q ad0 n0 cells slots pc lv st h := by
  obtain ⟨p, l, e, s, m, args, below, meth, c, D, tc, sa, A⟩ := E
  intro ad H locs ls hP hD hS hl hn h0 h1
  refine kk ad H locs ls hP hD hS ⟨hl.1, hl.2.1, fun z hz => hl.2.2 z ?_⟩ hn h0 h1
  obtain ⟨w, hw, rfl⟩ := List.mem_map.mp hz
  exact List.mem_map_of_mem (lvP_mem _ _ _ hp w hw)
end ROWS
