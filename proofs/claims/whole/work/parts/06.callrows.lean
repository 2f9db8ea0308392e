/-! calls, an instruction a row -/
def catS : List Value → Nat
  | [] => 0
  | v :: l => (match cat2 v with
    | true => 2
    | false => 1) + catS l
theorem catS_eq (ad sa : Nat → Nat) : ∀ st : List Value, ((st.map (cv ad sa)).map fun v => v.category).sum = catS st
  | [] => rfl
  | v :: l => by
    have ih := catS_eq ad sa l
    simp only [List.map_cons, List.sum_cons, catS, ih]
    cases v <;> rfl
theorem stk_eq {ad sa : Nat → Nat} {is : List Nat} {st0 st as : List Value} (h : st0 = (as.map (rv is)).reverse ++ st) : st0.map (cv ad sa) = (as.map (cv (fun i => ad (rn is i)) sa)).reverse ++ st.map (cv ad sa) := by
  subst h
  rw [List.map_append, List.map_reverse, List.map_map]
  congr 2
  exact List.map_congr_left fun v _ => (cv_rn ad sa is v).symm
theorem opt_rv (ad sa : Nat → Nat) (is : List Nat) (v : Option Value) (st : List Value) : (v.map (cv (fun i => ad (rn is i)) sa)).toList ++ st.map (cv ad sa) = ((v.map (rv is)).toList ++ st).map (cv ad sa) := by
  cases v with
  | none => rfl
  | some v =>
    show cv (fun i => ad (rn is i)) sa v :: _ = _
    rw [cv_rn]
    rfl
section CROWS
variable {E : AV} {R : Room} {nL : Nat} {Q : State → Prop} {ad0 : Nat → Nat} {n0 cells slots pc : Nat} {lv : List (Nat × Value)} {st0 st : List Value} {h : List AE} {cc : ByteArray} {own : String} {ret : Option FieldType} {nm : String}
variable {y : MethodName} {cc2 : ByteArray} {nL2 d2 np ci idx r : Nat} {ret2 : Option FieldType} {as : List Value} {hc : List AE} {post : Option Value → List AE → Prop} {fs : List Value}
theorem A_callV (hE : AGood E cc nL own ret nm) (q : Nat) (hM : AMet y cc2 nL2 ret2 d2 0 0 (.ref r :: as) hc post) (is : List Nat) (hd : decode cc pc = .ok (.invokevirtual idx, 3)) (hq : pc + 3 = q) (hk : MKV own idx y cc2 nL2 ret2 np ci) (hrc : getO hc r = some (.inr (ci, fs))) (hg : gets h is = some (hc.map (re is))) (hnd : va_nd is = true) (hst : st0 = (as.map (rv is)).reverse ++ .ref (rn is r) :: st) (hlen : as.length = np) (hfr : Nat.blt d2 R.frames = true) (hlo : Nat.ble (8 + (nL2 + 11) + (32 * d2 + 20)) R.locals = true) (hcl : cells ≤ R.cells) (hsl : slots ≤ R.slots) (hcat : Nat.ble (catS st) 8 = true)
    (kk : ∀ (v : Option Value) (h' h2 : List AE), post v h' → wbO is (h'.map (re is)) h = some h2 → AW E R nL Q ad0 n0 cells slots q lv ((v.map (rv is)).toList ++ st) h2) : AW E R nL Q ad0 n0 cells slots pc lv st0 h := by
  obtain ⟨p, l, e, s, m, args, below, meth, c, D, tc, sa, A⟩ := E
  subst hq
  obtain ⟨⟨hx, hb, hml, hown, hts⟩, hK, hT, hA, hr, hlk, hnm⟩ := hE
  intro ad H locs ls hP hD hS hl hn h0 h1
  obtain ⟨hB, hPc, hF⟩ := B0_of hP hD hS hA hK hT hg hnd
  obtain ⟨⟨k1, k2, k3, k4, k5, k6⟩, k7, k8, T, N, k9⟩ := hk
  have hstk : st0.map (cv ad sa) = (as.map (cv (fun i => ad (rn is i)) sa)).reverse ++ Value.ref (ad (rn is r)) :: st.map (cv ad sa) := stk_eq hst
  refine callA (va_runV (C := y.cls) (b := ad (rn is r)) (As := as.map (cv (fun i => ad (rn is i)) sa)) (rest := st.map (cv ad sa)) ⟨hx, hb, hml, hown, hts⟩ (hM l D tc sa (fun i => ad (rn is i)) H.size)
    ⟨callB_of np hts (lg_good k2) rfl rfl rfl (hts _ k3) (hts _ k1) ⟨k4, k5, k6⟩ ⟨Nat.le_of_ble_eq_true hfr, Nat.le_of_ble_eq_true hlo⟩, hts _ k7, hts _ k8⟩
    ⟨B0_blind, va_recv (q := (y.cls, T, N)) hK hPc k9 (cw_get hrc), fun U hU hW => ⟨rfl, hB U hU hW⟩⟩ rfl (by rw [List.length_map]; exact hlen) hl.1 hstk (by rw [catS_eq]; show 2 * 0 + _ ≤ _; rw [Nat.mul_zero, Nat.zero_add]; exact Nat.le_of_ble_eq_true hcat) hd ⟨hcl, hsl⟩) hS hF ?_
  intro v h' ad' H1 locs1 hp hlen' hx' hy' hP1 hD1 hz hk1 hS1
  have e0 := hy' rfl
  subst e0
  have hlw : ∃ h2, wbO is (h'.map (re is)) h = some h2 := by
    obtain ⟨g1, g2⟩ := gets_spec _ _ _ hg
    rw [List.length_map] at g1
    have key : ∀ (is : List Nat) (r : List AE) (h : List AE), is.length ≤ r.length → (∀ i ∈ is, i < h.length) → ∃ h2, wbO is r h = some h2 := by
      intro is
      induction is with
      | nil => intro r h _ _; exact ⟨h, rfl⟩
      | cons i is ih =>
        intro r h hr hi
        cases r with
        | nil => simp at hr
        | cons e r =>
          have hset : ∃ h', setO h i e = some h' := by
            have : ∀ (h : List AE) (i : Nat), i < h.length → ∃ h', setO h i e = some h' := by
              intro h
              induction h with
              | nil => intro i hi; simp at hi
              | cons a h ih2 =>
                intro i hi
                cases i with
                | zero => exact ⟨_, rfl⟩
                | succ i =>
                  obtain ⟨h', hh⟩ := ih2 i (by simpa using hi)
                  exact ⟨a :: h', by simp [setO, hh]⟩
            exact this h i (hi i List.mem_cons_self)
          obtain ⟨h', hh⟩ := hset
          obtain ⟨h2, hh2⟩ := ih r h' (by simpa using hr) (fun j hj => by rw [(setO_eq _ _ _ _ hh).1, List.length_set]; exact hi j (List.mem_cons_of_mem _ hj))
          exact ⟨h2, by simp only [wbO, hh]; exact hh2⟩
    refine key is _ h (by rw [List.length_map, hlen', ← g1]; omega) (fun i hi => ?_)
    obtain ⟨k, hk⟩ := List.getElem?_of_mem hi
    obtain ⟨e0, h3, -⟩ := g2 k i hk
    exact (List.getElem?_eq_some_iff.mp h3).1
  obtain ⟨h2, hw⟩ := hlw
  obtain ⟨b1, b2, b3⟩ := back0 hP hD hg hnd hw hP1 hk1
  rw [opt_rv]
  exact kk v h' h2 hp hw ad H1 locs1 ls b1 b2 hS1 hl (b3.trans hn) h0 h1
theorem A_callS (hE : AGood E cc nL own ret nm) (q : Nat) (hM : AMet y cc2 nL2 ret2 d2 0 0 as hc post) (is : List Nat) (hd : decode cc pc = .ok (.invokestatic idx, 3)) (hq : pc + 3 = q) (hk : MKS own idx y cc2 nL2 ret2 np) (hg : gets h is = some (hc.map (re is))) (hnd : va_nd is = true) (hst : st0 = (as.map (rv is)).reverse ++ st) (hlen : as.length = np) (hfr : Nat.blt d2 R.frames = true) (hlo : Nat.ble (8 + (nL2 + 11) + (32 * d2 + 20)) R.locals = true) (hcl : cells ≤ R.cells) (hsl : slots ≤ R.slots) (hcat : Nat.ble (catS st) 8 = true)
    (kk : ∀ (v : Option Value) (h' h2 : List AE), post v h' → wbO is (h'.map (re is)) h = some h2 → AW E R nL Q ad0 n0 cells slots q lv ((v.map (rv is)).toList ++ st) h2) : AW E R nL Q ad0 n0 cells slots pc lv st0 h := by
  obtain ⟨p, l, e, s, m, args, below, meth, c, D, tc, sa, A⟩ := E
  subst hq
  obtain ⟨⟨hx, hb, hml, hown, hts⟩, hK, hT, hA, hr, hlk, hnm⟩ := hE
  intro ad H locs ls hP hD hS hl hn h0 h1
  obtain ⟨hB, hPc, hF⟩ := B0_of hP hD hS hA hK hT hg hnd
  obtain ⟨⟨k1, k2, k3, k4, k5, k6⟩, k7⟩ := hk
  refine callA (va_runS (As := as.map (cv (fun i => ad (rn is i)) sa)) (rest := st.map (cv ad sa)) ⟨hx, hb, hml, hown, hts⟩ (hM l D tc sa (fun i => ad (rn is i)) H.size)
    ⟨callB_of np hts (lg_good k2) rfl rfl rfl (hts _ k3) (hts _ k1) ⟨k4, k5, k6⟩ ⟨Nat.le_of_ble_eq_true hfr, Nat.le_of_ble_eq_true hlo⟩, hts _ k7⟩
    ⟨B0_blind, fun U hU hW => ⟨rfl, hB U hU hW⟩⟩ rfl (by rw [List.length_map]; exact hlen) hl.1 (stk_eq hst) (by rw [catS_eq]; show 2 * 0 + _ ≤ _; rw [Nat.mul_zero, Nat.zero_add]; exact Nat.le_of_ble_eq_true hcat) hd ⟨hcl, hsl⟩) hS hF ?_
  intro v h' ad' H1 locs1 hp hlen' hx' hy' hP1 hD1 hz hk1 hS1
  have e0 := hy' rfl
  subst e0
  have hlw : ∃ h2, wbO is (h'.map (re is)) h = some h2 := by
    obtain ⟨g1, g2⟩ := gets_spec _ _ _ hg
    rw [List.length_map] at g1
    have key : ∀ (is : List Nat) (r : List AE) (h : List AE), is.length ≤ r.length → (∀ i ∈ is, i < h.length) → ∃ h2, wbO is r h = some h2 := by
      intro is
      induction is with
      | nil => intro r h _ _; exact ⟨h, rfl⟩
      | cons i is ih =>
        intro r h hr hi
        cases r with
        | nil => simp at hr
        | cons e r =>
          have hset : ∃ h', setO h i e = some h' := by
            have : ∀ (h : List AE) (i : Nat), i < h.length → ∃ h', setO h i e = some h' := by
              intro h
              induction h with
              | nil => intro i hi; simp at hi
              | cons a h ih2 =>
                intro i hi
                cases i with
                | zero => exact ⟨_, rfl⟩
                | succ i =>
                  obtain ⟨h', hh⟩ := ih2 i (by simpa using hi)
                  exact ⟨a :: h', by simp [setO, hh]⟩
            exact this h i (hi i List.mem_cons_self)
          obtain ⟨h', hh⟩ := hset
          obtain ⟨h2, hh2⟩ := ih r h' (by simpa using hr) (fun j hj => by rw [(setO_eq _ _ _ _ hh).1, List.length_set]; exact hi j (List.mem_cons_of_mem _ hj))
          exact ⟨h2, by simp only [wbO, hh]; exact hh2⟩
    refine key is _ h (by rw [List.length_map, hlen', ← g1]; omega) (fun i hi => ?_)
    obtain ⟨k, hk⟩ := List.getElem?_of_mem hi
    obtain ⟨e0, h3, -⟩ := g2 k i hk
    exact (List.getElem?_eq_some_iff.mp h3).1
  obtain ⟨h2, hw⟩ := hlw
  obtain ⟨b1, b2, b3⟩ := back0 hP hD hg hnd hw hP1 hk1
  rw [opt_rv]
  exact kk v h' h2 hp hw ad H1 locs1 ls b1 b2 hS1 hl (b3.trans hn) h0 h1
theorem A_callVi {P : Int32 → List AE → Prop} (hE : AGood E cc nL own ret nm) (q : Nat) (hM : AMet y cc2 nL2 ret2 d2 0 0 (.ref r :: as) hc (pI P)) (is : List Nat) (hd : decode cc pc = .ok (.invokevirtual idx, 3)) (hq : pc + 3 = q) (hk : MKV own idx y cc2 nL2 ret2 np ci) (hrc : getO hc r = some (.inr (ci, fs))) (hg : gets h is = some (hc.map (re is))) (hnd : va_nd is = true) (hst : st0 = (as.map (rv is)).reverse ++ .ref (rn is r) :: st) (hlen : as.length = np) (hfr : Nat.blt d2 R.frames = true) (hlo : Nat.ble (8 + (nL2 + 11) + (32 * d2 + 20)) R.locals = true) (hcl : cells ≤ R.cells) (hsl : slots ≤ R.slots) (hcat : Nat.ble (catS st) 8 = true)
    (kk : ∀ (x : Int32) (h' h2 : List AE), P x h' → wbO is (h'.map (re is)) h = some h2 → AW E R nL Q ad0 n0 cells slots q lv (.int x :: st) h2) : AW E R nL Q ad0 n0 cells slots pc lv st0 h :=
  A_callV hE q hM is hd hq hk hrc hg hnd hst hlen hfr hlo hcl hsl hcat fun v h' h2 hp hw => by
    obtain ⟨x, rfl, hp⟩ := hp
    exact kk x h' h2 hp hw
theorem A_callVv {P : List AE → Prop} (hE : AGood E cc nL own ret nm) (q : Nat) (hM : AMet y cc2 nL2 ret2 d2 0 0 (.ref r :: as) hc (pV P)) (is : List Nat) (hd : decode cc pc = .ok (.invokevirtual idx, 3)) (hq : pc + 3 = q) (hk : MKV own idx y cc2 nL2 ret2 np ci) (hrc : getO hc r = some (.inr (ci, fs))) (hg : gets h is = some (hc.map (re is))) (hnd : va_nd is = true) (hst : st0 = (as.map (rv is)).reverse ++ .ref (rn is r) :: st) (hlen : as.length = np) (hfr : Nat.blt d2 R.frames = true) (hlo : Nat.ble (8 + (nL2 + 11) + (32 * d2 + 20)) R.locals = true) (hcl : cells ≤ R.cells) (hsl : slots ≤ R.slots) (hcat : Nat.ble (catS st) 8 = true)
    (kk : ∀ (h' h2 : List AE), P h' → wbO is (h'.map (re is)) h = some h2 → AW E R nL Q ad0 n0 cells slots q lv st h2) : AW E R nL Q ad0 n0 cells slots pc lv st0 h :=
  A_callV hE q hM is hd hq hk hrc hg hnd hst hlen hfr hlo hcl hsl hcat fun v h' h2 hp hw => by
    obtain ⟨rfl, hp⟩ := hp
    exact kk h' h2 hp hw
theorem A_callVr {P : Nat → List AE → Prop} (hE : AGood E cc nL own ret nm) (q : Nat) (hM : AMet y cc2 nL2 ret2 d2 0 0 (.ref r :: as) hc (pR P)) (is : List Nat) (hd : decode cc pc = .ok (.invokevirtual idx, 3)) (hq : pc + 3 = q) (hk : MKV own idx y cc2 nL2 ret2 np ci) (hrc : getO hc r = some (.inr (ci, fs))) (hg : gets h is = some (hc.map (re is))) (hnd : va_nd is = true) (hst : st0 = (as.map (rv is)).reverse ++ .ref (rn is r) :: st) (hlen : as.length = np) (hfr : Nat.blt d2 R.frames = true) (hlo : Nat.ble (8 + (nL2 + 11) + (32 * d2 + 20)) R.locals = true) (hcl : cells ≤ R.cells) (hsl : slots ≤ R.slots) (hcat : Nat.ble (catS st) 8 = true)
    (kk : ∀ (i : Nat) (h' h2 : List AE), P i h' → wbO is (h'.map (re is)) h = some h2 → AW E R nL Q ad0 n0 cells slots q lv (.ref (rn is i) :: st) h2) : AW E R nL Q ad0 n0 cells slots pc lv st0 h :=
  A_callV hE q hM is hd hq hk hrc hg hnd hst hlen hfr hlo hcl hsl hcat fun v h' h2 hp hw => by
    obtain ⟨i, rfl, hp⟩ := hp
    exact kk i h' h2 hp hw
theorem A_callSi {P : Int32 → List AE → Prop} (hE : AGood E cc nL own ret nm) (q : Nat) (hM : AMet y cc2 nL2 ret2 d2 0 0 as hc (pI P)) (is : List Nat) (hd : decode cc pc = .ok (.invokestatic idx, 3)) (hq : pc + 3 = q) (hk : MKS own idx y cc2 nL2 ret2 np) (hg : gets h is = some (hc.map (re is))) (hnd : va_nd is = true) (hst : st0 = (as.map (rv is)).reverse ++ st) (hlen : as.length = np) (hfr : Nat.blt d2 R.frames = true) (hlo : Nat.ble (8 + (nL2 + 11) + (32 * d2 + 20)) R.locals = true) (hcl : cells ≤ R.cells) (hsl : slots ≤ R.slots) (hcat : Nat.ble (catS st) 8 = true)
    (kk : ∀ (x : Int32) (h' h2 : List AE), P x h' → wbO is (h'.map (re is)) h = some h2 → AW E R nL Q ad0 n0 cells slots q lv (.int x :: st) h2) : AW E R nL Q ad0 n0 cells slots pc lv st0 h :=
  A_callS hE q hM is hd hq hk hg hnd hst hlen hfr hlo hcl hsl hcat fun v h' h2 hp hw => by
    obtain ⟨x, rfl, hp⟩ := hp
    exact kk x h' h2 hp hw
theorem A_callSv {P : List AE → Prop} (hE : AGood E cc nL own ret nm) (q : Nat) (hM : AMet y cc2 nL2 ret2 d2 0 0 as hc (pV P)) (is : List Nat) (hd : decode cc pc = .ok (.invokestatic idx, 3)) (hq : pc + 3 = q) (hk : MKS own idx y cc2 nL2 ret2 np) (hg : gets h is = some (hc.map (re is))) (hnd : va_nd is = true) (hst : st0 = (as.map (rv is)).reverse ++ st) (hlen : as.length = np) (hfr : Nat.blt d2 R.frames = true) (hlo : Nat.ble (8 + (nL2 + 11) + (32 * d2 + 20)) R.locals = true) (hcl : cells ≤ R.cells) (hsl : slots ≤ R.slots) (hcat : Nat.ble (catS st) 8 = true)
    (kk : ∀ (h' h2 : List AE), P h' → wbO is (h'.map (re is)) h = some h2 → AW E R nL Q ad0 n0 cells slots q lv st h2) : AW E R nL Q ad0 n0 cells slots pc lv st0 h :=
  A_callS hE q hM is hd hq hk hg hnd hst hlen hfr hlo hcl hsl hcat fun v h' h2 hp hw => by
    obtain ⟨rfl, hp⟩ := hp
    exact kk h' h2 hp hw
end CROWS
