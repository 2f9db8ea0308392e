/-! ROWS THAT MAKE CELLS: new places come at the end of the list -/
def vR (L : Nat) : Value → Bool
  | .ref i => Nat.blt i L
  | _ => true
def v0 : Value → Bool
  | .null => true
  | .int _ => true
  | _ => false
def refE (L : Nat) : AE → Prop
  | .inl (_, _, .inr (.inr (.inr (.inr f)))) => ∀ j i : Nat, f j = some i → i < L
  | .inl (_, _, _) => True
  | .inr (_, fs) => fs.all (vR L) = true
def refH (L : Nat) (h : List AE) : Prop := ∀ e ∈ h, refE L e
theorem refH_nil {L : Nat} : refH L [] := fun _ h => by cases h
theorem refH_cons {L : Nat} {e : AE} {l : List AE} (h1 : refE L e) (h2 : refH L l) : refH L (e :: l) := fun x hx => by
  rcases List.mem_cons.mp hx with rfl | h
  · exact h1
  · exact h2 x h
theorem cv_cg {ad ad' sa : Nat → Nat} {L : Nat} (ha : ∀ i, i < L → ad i = ad' i) {v : Value} (h : vR L v = true) : cv ad sa v = cv ad' sa v := by
  cases v with
  | ref i =>
    show Value.ref (ad i) = Value.ref (ad' i)
    rw [ha i (Nat.le_of_ble_eq_true h)]
  | _ => rfl
theorem ce_cg {ad ad' sa : Nat → Nat} {tc : Nat → ClassId} {L : Nat} (ha : ∀ i, i < L → ad i = ad' i) {e : AE} (h : refE L e) : ce ad sa tc e = ce ad' sa tc e := by
  cases e with
  | inl x =>
    obtain ⟨k, n, f | f | f | f | f⟩ := x
    · rfl
    · rfl
    · rfl
    · rfl
    · show (Sum.inl (tc k, n, Sum.inr (Sum.inr (Sum.inr (Sum.inr (fun j => (f j).map ad))))) : va_E) = Sum.inl (tc k, n, Sum.inr (Sum.inr (Sum.inr (Sum.inr (fun j => (f j).map ad')))))
      have e4 : (fun j => (f j).map ad) = (fun j => (f j).map ad') := by
        funext j
        cases hf : f j with
        | none => rfl
        | some i => show some (ad i) = some (ad' i); rw [ha i (h j i hf)]
      rw [e4]
  | inr x =>
    obtain ⟨c, fs⟩ := x
    show (Sum.inr (c, fs.map (cv ad sa)) : va_E) = Sum.inr (c, fs.map (cv ad' sa))
    rw [List.map_congr_left (fun v hv => cv_cg ha (List.all_eq_true.mp h v hv))]
theorem mv_cg {ad ad' sa : Nat → Nat} {L : Nat} (ha : ∀ i, i < L → ad i = ad' i) {st : List Value} (h : st.all (vR L) = true) : st.map (cv ad sa) = st.map (cv ad' sa) := List.map_congr_left (fun v hv => cv_cg ha (List.all_eq_true.mp h v hv))
theorem ml_cg {ad ad' sa : Nat → Nat} {L : Nat} (ha : ∀ i, i < L → ad i = ad' i) {lv : List (Nat × Value)} (h : lv.all (fun q => vR L q.2) = true) : lv.map (cl' ad sa) = lv.map (cl' ad' sa) := List.map_congr_left (fun v hv => by
  have h2 := List.all_eq_true.mp h v hv
  show (v.1, cv ad sa v.2) = (v.1, cv ad' sa v.2)
  rw [cv_cg ha h2])
theorem cw_push {ad ad' sa : Nat → Nat} {tc : Nat → ClassId} {h : List AE} {e : AE} {q : Nat} (ha : ∀ i, i < h.length → ad i = ad' i) (hq : ad' h.length = q) (hr : refH h.length h) : cw ad' sa tc (h ++ [e]) = cw ad sa tc h ++ [(q, ce ad' sa tc e)] := by
  apply List.ext_getElem?
  intro k
  by_cases hk : k < h.length
  · have h1 : (h ++ [e])[k]? = h[k]? := List.getElem?_append_left hk
    rw [List.getElem?_append_left (by rw [cw_len]; exact hk)]
    unfold cw
    rw [List.getElem?_mapIdx, List.getElem?_mapIdx, h1, List.getElem?_eq_getElem hk]
    show some (ad' k, ce ad' sa tc h[k]) = some (ad k, ce ad sa tc h[k])
    rw [ha k hk, ce_cg ha (hr _ (List.getElem_mem hk))]
  · by_cases hk2 : k = h.length
    · subst hk2
      rw [List.getElem?_append_right (by rw [cw_len]; exact Nat.le_refl _), cw_len, Nat.sub_self]
      unfold cw
      rw [List.getElem?_mapIdx, List.getElem?_append_right (Nat.le_refl _), Nat.sub_self]
      show some (ad' h.length, ce ad' sa tc e) = some (q, ce ad' sa tc e)
      rw [hq]
    · rw [List.getElem?_eq_none_iff.mpr (by rw [cw_len, List.length_append]; show h.length + 1 ≤ k; omega), List.getElem?_eq_none_iff.mpr (by rw [List.length_append, cw_len]; show h.length + 1 ≤ k; omega)]
section NEWS
variable {E : AV} {R : Room} {nL : Nat} {Q : State → Prop} {ad0 : Nat → Nat} {n0 cells slots pc : Nat} {lv : List (Nat × Value)} {st0 st : List Value} {h : List AE} {cc : ByteArray} {own : String} {ret : Option FieldType} {nm : String}
theorem A_new (hE : AGood E cc nL own ret nm) (q : Nat) {idx ci N : Nat} {C : String} {T : u_T} (hd : decode cc pc = .ok (.new idx, 3)) (hq : pc + 3 = q) (hc : vwCl[ci]? = some (C, T, N)) (hlay : ∀ w ∈ u_ws C T N, w ∈ lw_g) (ty : Nat → FieldType) (hty : ∀ k, k < N → parseFieldDescriptor (T k).2.2.1 = some (ty k)) (hcl : Cond.classLink own idx C ∈ lw_g) (hins : Cond.instantiable C N ∈ lw_g) (hini : Cond.initialized C ∈ lw_g) (fs : List Value) (hfs : ∀ j, j < N → defaultValue (ty j) = vp_V fs j) (hf0 : fs.all v0 = true) (L : Nat) (hL : h.length = L) (hrh : refH L h) (hrl : lv.all (fun q => vR L q.2) = true) (hrs : st.all (vR L) = true) (hcells : cells + 1 ≤ R.cells) (hslots : slots + N ≤ R.slots) (kk : AW E R nL Q ad0 n0 (cells + 1) (slots + N) q lv (.ref L :: st) (h ++ [.inr (ci, fs)])) : AW E R nL Q ad0 n0 cells slots pc lv st h := by
  subst hL
  obtain ⟨p, l, e, s, m, args, below, meth, c, D, tc, sa, A⟩ := E
  subst hq
  obtain ⟨⟨hx, hb, hml, hown, hts⟩, hK, hT, hA, hr, hlk, hnm⟩ := hE
  intro ad H locs ls hP hD hS hl hn h0 h1
  refine va_new (ci := ci) (fs := fs) hx hb hts hlay ty hty hown (hts _ hcl) (hts _ hins) (hts _ hini) hK hP hD hS hA hc hfs hcells hslots hd fun qa H1 hP1 hD1 hS1 => ?_
  obtain ⟨ad2, had, haq⟩ : ∃ ad2 : Nat → Nat, (∀ i, i < h.length → ad i = ad2 i) ∧ ad2 h.length = qa := ⟨fun i => if i = h.length then qa else ad i, fun i hi => (if_neg (by omega)).symm, if_pos rfl⟩
  have ef : fs.map (cv ad2 sa) = fs := by
    have : fs.map (cv ad2 sa) = fs.map id := List.map_congr_left (fun v hv => by
      have h2 := List.all_eq_true.mp hf0 v hv
      cases v <;> first | rfl | cases h2)
    rw [this, List.map_id]
  have e1 : cw ad2 sa tc (h ++ [.inr (ci, fs)]) = cw ad sa tc h ++ [(qa, .inr (ci, fs))] := by
    rw [cw_push had haq hrh]
    show _ ++ [(qa, (Sum.inr (ci, fs.map (cv ad2 sa)) : va_E))] = _
    rw [ef]
  rw [← e1] at hP1 hD1
  have k2 := kk ad2 H1 locs ls hP1 hD1 hS1 (by rw [← ml_cg had hrl]; exact hl) (by rw [List.length_append, hn]; rfl) (fun i hi => by rw [← had i (by omega)]; exact h0 i hi) (fun z => absurd z (by omega))
  have e2 : (.ref h.length :: st : List Value).map (cv ad2 sa) = .ref qa :: st.map (cv ad sa) := by
    show Value.ref (ad2 h.length) :: _ = _
    rw [haq, mv_cg had hrs]
  rw [e2] at k2
  exact k2
theorem A_newa (hE : AGood E cc nL own ret nm) (q N : Nat) {x : Int32} (hd : decode cc pc = .ok (.newarray .int, 2)) (hq : pc + 2 = q) (hx0 : x = nI N) (hN : Nat.ble N 1000 = true) (L : Nat) (hL : h.length = L) (hrh : refH L h) (hrl : lv.all (fun q => vR L q.2) = true) (hrs : st.all (vR L) = true) (hcells : cells + 1 ≤ R.cells) (hslots : slots + N ≤ R.slots) (kk : AW E R nL Q ad0 n0 (cells + 1) (slots + N) q lv (.ref L :: st) (h ++ [cI N (fun _ => 0)])) : AW E R nL Q ad0 n0 cells slots pc lv (.int x :: st) h := by
  subst hL
  subst hx0
  have hN' : N ≤ 1000 := Nat.le_of_ble_eq_true hN
  obtain ⟨p, l, e, s, m, args, below, meth, c, D, tc, sa, A⟩ := E
  subst hq
  obtain ⟨⟨hx, hb, hml, hown, hts⟩, hK, hT, hA, hr, hlk, hnm⟩ := hE
  intro ad H locs ls hP hD hS hl hn h0 h1
  refine va_newa (atype := .int) (ty := .int) (a0 := (N, .inl (fun _ => 0))) hx hb (hts _ arrC_70) rfl hK hP hD hS hA (fun _ => rfl) (nI_pos (by omega)) (nI_clamp (by omega)) (by show N * 4 ≤ _; omega) hcells hslots hd fun qa cA H1 hK1 hP1 hD1 hS1 => ?_
  have hcA : cA = tc 0 := by
    have h2 := (hK1.2 2 (cA, .int) rfl).2
    have h3 := (hK.2 0 (tc 0, .int) rfl).2
    have h2 : s.vm.findClass ("[" ++ FieldType.int.toString) = some cA := h2
    have h3 : s.vm.findClass ("[" ++ FieldType.int.toString) = some (tc 0) := h3
    rw [h2] at h3
    exact Option.some.inj h3
  subst hcA
  obtain ⟨ad2, had, haq⟩ : ∃ ad2 : Nat → Nat, (∀ i, i < h.length → ad i = ad2 i) ∧ ad2 h.length = qa := ⟨fun i => if i = h.length then qa else ad i, fun i hi => (if_neg (by omega)).symm, if_pos rfl⟩
  have e1 : cw ad2 sa tc (h ++ [cI N (fun _ => 0)]) = cw ad sa tc h ++ [(qa, .inl (tc 0, N, .inl (fun _ => 0)))] := cw_push had haq hrh
  rw [← e1] at hP1 hD1
  have k2 := kk ad2 H1 locs ls hP1 hD1 hS1 (by rw [← ml_cg had hrl]; exact hl) (by rw [List.length_append, hn]; rfl) (fun i hi => by rw [← had i (by omega)]; exact h0 i hi) (fun z => absurd z (by omega))
  have e2 : (.ref h.length :: st : List Value).map (cv ad2 sa) = .ref qa :: st.map (cv ad sa) := by
    show Value.ref (ad2 h.length) :: _ = _
    rw [haq, mv_cg had hrs]
  rw [e2] at k2
  exact k2
theorem A_anewa (hE : AGood E cc nL own ret nm) (q N : Nat) {idx : Nat} {x : Int32} (hd : decode cc pc = .ok (.anewarray idx, 3)) (hq : pc + 3 = q) (hx0 : x = nI N) (hN : Nat.ble N 1000 = true) (hcl : Cond.classLink own idx RX4 ∈ lw_g) (L : Nat) (hL : h.length = L) (hrh : refH L h) (hrl : lv.all (fun q => vR L q.2) = true) (hrs : st.all (vR L) = true) (hcells : cells + 1 ≤ R.cells) (hslots : slots + N ≤ R.slots) (kk : AW E R nL Q ad0 n0 (cells + 1) (slots + N) q lv (.ref L :: st) (h ++ [.inl (1, N, .inr (.inr (.inr (.inr (fun _ => none)))))])) : AW E R nL Q ad0 n0 cells slots pc lv (.int x :: st) h := by
  subst hL
  subst hx0
  have hN' : N ≤ 1000 := Nat.le_of_ble_eq_true hN
  obtain ⟨p, l, e, s, m, args, below, meth, c, D, tc, sa, A⟩ := E
  subst hq
  obtain ⟨⟨hx, hb, hml, hown, hts⟩, hK, hT, hA, hr, hlk, hnm⟩ := hE
  intro ad H locs ls hP hD hS hl hn h0 h1
  refine va_newq (C := RX4) hx hb hown (hts _ hcl) hT.2.2.2.2.2.2.2 hK hP hD hS hA (nI_pos (by omega)) (nI_clamp (by omega)) (by omega) hcells hslots hd fun qa cA H1 hK1 hP1 hD1 hS1 => ?_
  have hcA : cA = tc 1 := by
    obtain ⟨k1, c1, -, -, -, h2⟩ := (hK1.2 2 (cA, .object RX4) rfl).2
    obtain ⟨k2, c2, -, -, -, h3⟩ := (hK.2 1 (tc 1, .object RX4) rfl).2
    rw [h2] at h3
    exact Option.some.inj h3
  subst hcA
  obtain ⟨ad2, had, haq⟩ : ∃ ad2 : Nat → Nat, (∀ i, i < h.length → ad i = ad2 i) ∧ ad2 h.length = qa := ⟨fun i => if i = h.length then qa else ad i, fun i hi => (if_neg (by omega)).symm, if_pos rfl⟩
  have e1 : cw ad2 sa tc (h ++ [.inl (1, N, .inr (.inr (.inr (.inr (fun _ => none)))))]) = cw ad sa tc h ++ [(qa, .inl (tc 1, N, .inr (.inr (.inr (.inr (fun _ => none))))))] := cw_push had haq hrh
  rw [← e1] at hP1 hD1
  have k2 := kk ad2 H1 locs ls hP1 hD1 hS1 (by rw [← ml_cg had hrl]; exact hl) (by rw [List.length_append, hn]; rfl) (fun i hi => by rw [← had i (by omega)]; exact h0 i hi) (fun z => absurd z (by omega))
  have e2 : (.ref h.length :: st : List Value).map (cv ad2 sa) = .ref qa :: st.map (cv ad sa) := by
    show Value.ref (ad2 h.length) :: _ = _
    rw [haq, mv_cg had hrs]
  rw [e2] at k2
  exact k2
end NEWS
theorem wbO_ex : ∀ (is : List Nat) (r h : List AE), is.length ≤ r.length → (∀ i ∈ is, i < h.length) → ∃ h2, wbO is r h = some h2
  | [], _, h, _, _ => ⟨h, rfl⟩
  | i :: is, [], _, hr, _ => by simp at hr
  | i :: is, e :: r, h, hr, hi => by
    have hset : ∀ (h : List AE) (i : Nat), i < h.length → ∃ h', setO h i e = some h' := by
      intro h
      induction h with
      | nil => intro i hi; simp at hi
      | cons a h ih2 =>
        intro i hi
        cases i with
        | zero => exact ⟨_, rfl⟩
        | succ i =>
          obtain ⟨h', hh⟩ := ih2 i (by simpa using hi)
          exact ⟨a :: h', by simp [setO, hh]⟩
    obtain ⟨h', hh⟩ := hset h i (hi i List.mem_cons_self)
    obtain ⟨h2, hh2⟩ := wbO_ex is r h' (by simpa using hr) (fun j hj => by rw [(setO_eq _ _ _ _ hh).1, List.length_set]; exact hi j (List.mem_cons_of_mem _ hj))
    exact ⟨h2, by simp only [wbO, hh]; exact hh2⟩
def z0 : AE := .inr (0, [])
/-- the world behind a call that makes cells -/
theorem backN {D : va_G} {tc : Nat → ClassId} {sa ad ad' : Nat → Nat} {h hc h' h2 : List AE} {is is2 : List Nat} {mc : Nat} {A : Nat → Prop} {H H1 : Heap} (hP : va_P D vwCl (cw ad sa tc h) H) (hD : va_D A (cw ad sa tc h)) (hAH : ∀ q : Nat, H.size ≤ q → A q) (hg : gets h is = some (hc.map (re is))) (his : is2 = is ++ (List.range mc).map (fun j => h.length + j)) (hnd : va_nd is2 = true) (hlen : h'.length = hc.length + mc) (hw : wbO is2 (h'.map (re is2)) (h ++ List.replicate mc z0) = some h2) (hrh : refH h.length h) (hrp : refH (hc.length + mc) h')
    (hx' : ∀ i, i < hc.length → ad' i = ad (rn is i)) (hP1 : va_P D vwCl (cw ad' sa tc h') H1) (hD1 : va_D (va_A (cw (fun i => ad (rn is i)) sa tc hc) H.size) (cw ad' sa tc h')) (hk : ∀ q : Nat, q < H.size → ¬ va_A (cw (fun i => ad (rn is i)) sa tc hc) H.size q → H1[q]? = H[q]?) :
    ∃ adN : Nat → Nat, (∀ i, i < h.length → ad i = adN i) ∧ va_P D vwCl (cw adN sa tc h2) H1 ∧ va_D A (cw adN sa tc h2) ∧ h2.length = h.length + mc := by
  obtain ⟨g1, g2⟩ := gets_spec _ _ _ hg
  rw [List.length_map] at g1
  obtain ⟨w1, w2, w3⟩ := wbO_spec _ _ _ _ hw hnd
  rw [List.length_append, List.length_replicate] at w1
  have hisl : is2.length = hc.length + mc := by rw [his, List.length_append, List.length_map, List.length_range, g1]
  have hlo : ∀ k, k < hc.length → ∃ i, is2[k]? = some i ∧ is[k]? = some i ∧ i < h.length := by
    intro k hk2
    have h1 : k < is.length := by omega
    obtain ⟨e, h3, -⟩ := g2 k _ (List.getElem?_eq_getElem h1)
    exact ⟨is[k], by rw [his, List.getElem?_append_left h1, List.getElem?_eq_getElem h1], List.getElem?_eq_getElem h1, (List.getElem?_eq_some_iff.mp h3).1⟩
  have hhi : ∀ j, j < mc → is2[hc.length + j]? = some (h.length + j) := by
    intro j hj
    rw [his, List.getElem?_append_right (by omega), List.getElem?_map, g1, show is.length + j - is.length = j by omega, List.getElem?_range hj]
    rfl
  have hall : ∀ p, h.length ≤ p → p < h.length + mc → p ∈ is2 := by
    intro p h1 h3
    have := hhi (p - h.length) (by omega)
    rw [show h.length + (p - h.length) = p by omega] at this
    exact List.mem_of_getElem? this
  obtain ⟨adN, hN1, hN2⟩ : ∃ adN : Nat → Nat, (∀ i, i < h.length → ad i = adN i) ∧ ∀ j, adN (h.length + j) = ad' (hc.length + j) := ⟨fun i => if i < h.length then ad i else ad' (hc.length + (i - h.length)), fun i hi => (if_pos hi).symm, fun j => by
    show (if h.length + j < h.length then _ else _) = _
    rw [if_neg (by omega), show h.length + j - h.length = j by omega]⟩
  have hrn : ∀ k, k < hc.length + mc → ad' k = adN (rn is2 k) := by
    intro k hk2
    by_cases h1 : k < hc.length
    · obtain ⟨i, i1, i2, i3⟩ := hlo k h1
      rw [hx' k h1, rn_eq i1, rn_eq i2, hN1 i i3]
    · have h3 := hhi (k - hc.length) (by omega)
      rw [show hc.length + (k - hc.length) = k by omega] at h3
      rw [rn_eq h3, hN2, show hc.length + (k - hc.length) = k by omega]
  have hcell : ∀ (k p : Nat) (e0 : AE), is2[k]? = some p → h'[k]? = some e0 → (adN p, ce adN sa tc (re is2 e0)) = (ad' k, ce ad' sa tc e0) := by
    intro k p e0 h1 h3
    have hk2 : k < hc.length + mc := by rw [← hlen]; exact (List.getElem?_eq_some_iff.mp h3).1
    rw [← ce_rn, ← ce_cg (ad := ad') (ad' := fun i => adN (rn is2 i)) (L := hc.length + mc) hrn (hrp _ (List.mem_of_getElem? h3)), hrn k hk2, rn_eq h1]
  have hout : ∀ (p : Nat) (e : AE), p ∉ is2 → h2[p]? = some e → p < h.length ∧ h[p]? = some e := by
    intro p e hp he
    have h1 : p < h.length := by
      rcases Nat.lt_or_ge p h.length with q | q
      · exact q
      · have : p < h.length + mc := by rw [← w1]; exact (List.getElem?_eq_some_iff.mp he).1
        exact absurd (hall p q this) hp
    rw [w2 p hp, List.getElem?_append_left h1] at he
    exact ⟨h1, he⟩
  have hadr : ∀ (p : Nat) (q : Nat × va_E), (cw adN sa tc h2)[p]? = some q → q.1 = adN p ∧ ((p < h.length ∧ ∃ e0, (cw ad sa tc h)[p]? = some (ad p, e0)) ∨ (h.length ≤ p ∧ p < h.length + mc)) := by
    intro p q hq
    obtain ⟨e, h1, rfl⟩ := cw_inv hq
    have hlt : p < h.length + mc := by rw [← w1]; exact (List.getElem?_eq_some_iff.mp h1).1
    refine ⟨rfl, ?_⟩
    rcases Nat.lt_or_ge p h.length with z | z
    · exact Or.inl ⟨z, _, cw_get (by rw [getO_eq]; exact List.getElem?_eq_getElem z)⟩
    · exact Or.inr ⟨z, hlt⟩
  have hnew : ∀ j, j < mc → ∃ e0, (cw ad' sa tc h')[hc.length + j]? = some (ad' (hc.length + j), e0) := fun j hj => ⟨_, cw_get (by rw [getO_eq]; exact List.getElem?_eq_getElem (by omega))⟩
  have hold : ∀ k, k < hc.length → ∃ e0, (cw ad' sa tc h')[k]? = some (ad' k, e0) := fun k hk2 => ⟨_, cw_get (by rw [getO_eq]; exact List.getElem?_eq_getElem (by omega))⟩
  have hbig : ∀ j, j < mc → H.size ≤ ad' (hc.length + j) := by
    intro j hj
    obtain ⟨e0, h1⟩ := hnew j hj
    rcases hD1.2 _ _ h1 with ⟨k, e1, h3⟩ | h3
    · obtain ⟨e3, h4, h5⟩ := cw_inv h3
      have hk2 : k < hc.length := (List.getElem?_eq_some_iff.mp h4).1
      obtain ⟨e4, h6⟩ := hold k hk2
      have h7 : ad' (hc.length + j) = ad' k := by
        have := congrArg Prod.fst h5
        rw [hx' k hk2]
        exact this
      have := hD1.1 _ _ _ _ h1 h6 h7
      omega
    · exact h3
  have hsm : ∀ p e0, (cw ad sa tc h)[p]? = some (ad p, e0) → ad p < H.size := fun p e0 h1 => (hP p _ h1).lt
  refine ⟨adN, hN1, fun p q hq => ?_, ⟨fun i j x y hi hj hxy => ?_, fun p q hq => ?_⟩, w1⟩
  · obtain ⟨e, h1, rfl⟩ := cw_inv hq
    by_cases hin : p ∈ is2
    · obtain ⟨k, hk2⟩ := List.getElem?_of_mem hin
      obtain ⟨e', h3, h4⟩ := w3 k p hk2
      rw [h1] at h4
      cases h4
      rw [List.getElem?_map] at h3
      cases h5 : h'[k]? with
      | none => rw [h5] at h3; cases h3
      | some e0 =>
        rw [h5] at h3
        cases h3
        rw [hcell k p e0 hk2 h5]
        exact hP1 k _ (cw_get (by rw [getO_eq]; exact h5))
    · obtain ⟨h3, h4⟩ := hout p e hin h1
      have h5 := hP p _ (cw_get (ad := ad) (sa := sa) (tc := tc) (by rw [getO_eq]; exact h4))
      rw [← hN1 p h3, ← ce_cg hN1 (hrh _ (List.mem_of_getElem? h4))]
      refine h5.kept (hk _ h5.lt ?_)
      rintro (⟨k2, e2, hx⟩ | hx)
      · obtain ⟨e3, h6, h7⟩ := cw_inv hx
        have hk2 : k2 < hc.length := (List.getElem?_eq_some_iff.mp h6).1
        obtain ⟨i, i1, i2, i3⟩ := hlo k2 hk2
        have h8 := cw_get (ad := ad) (sa := sa) (tc := tc) (h := h) (k := i) (by rw [getO_eq]; exact List.getElem?_eq_getElem i3)
        have h9 := cw_get (ad := ad) (sa := sa) (tc := tc) (h := h) (k := p) (by rw [getO_eq]; exact h4)
        have h10 : ad p = ad i := by
          have := congrArg Prod.fst h7
          rw [← rn_eq i2]
          exact this
        have h11 := hD.1 _ _ _ _ h9 h8 h10
        exact hin (h11 ▸ List.mem_of_getElem? i1)
      · exact absurd h5.lt (Nat.not_lt.mpr hx)
  · obtain ⟨a1, a2⟩ := hadr i x hi
    obtain ⟨b1, b2⟩ := hadr j y hj
    have hij : adN i = adN j := a1.symm.trans (hxy.trans b1)
    rcases a2 with ⟨a3, e3, a4⟩ | ⟨a3, a4⟩
    · rcases b2 with ⟨b3, e4, b4⟩ | ⟨b3, b4⟩
      · exact hD.1 i j _ _ a4 b4 (by rw [hN1 i a3, hN1 j b3]; exact hij)
      · have h3 := hbig (j - h.length) (by omega)
        rw [← hN2, show h.length + (j - h.length) = j by omega] at h3
        have h4 := hsm i _ a4
        rw [hN1 i a3] at h4
        omega
    · rcases b2 with ⟨b3, e4, b4⟩ | ⟨b3, b4⟩
      · have h3 := hbig (i - h.length) (by omega)
        rw [← hN2, show h.length + (i - h.length) = i by omega] at h3
        have h4 := hsm j _ b4
        rw [hN1 j b3] at h4
        omega
      · have c1 := hN2 (i - h.length)
        have c2 := hN2 (j - h.length)
        rw [show h.length + (i - h.length) = i by omega] at c1
        rw [show h.length + (j - h.length) = j by omega] at c2
        obtain ⟨e5, h5⟩ := hnew (i - h.length) (by omega)
        obtain ⟨e6, h6⟩ := hnew (j - h.length) (by omega)
        have := hD1.1 _ _ _ _ h5 h6 (by show ad' _ = ad' _; rw [← c1, ← c2]; exact hij)
        omega
  · obtain ⟨a1, a2⟩ := hadr p q hq
    rw [a1]
    rcases a2 with ⟨a3, e3, a4⟩ | ⟨a3, a4⟩
    · rw [← hN1 p a3]
      exact hD.2 p _ a4
    · have h3 := hbig (p - h.length) (by omega)
      rw [← hN2, show h.length + (p - h.length) = p by omega] at h3
      exact hAH _ h3
section CALLI
variable {E : AV} {R : Room} {nL : Nat} {Q : State → Prop} {ad0 : Nat → Nat} {n0 cells slots pc : Nat} {lv : List (Nat × Value)} {st0 st : List Value} {h : List AE} {cc : ByteArray} {own : String} {ret : Option FieldType} {nm : String}
variable {y : MethodName} {cc2 : ByteArray} {nL2 d2 np ci idx r mc ms : Nat} {as : List Value} {hc : List AE}
theorem A_callI {P : List AE → Prop} (hE : AGood E cc nL own ret nm) (q : Nat) (hM : AMet y cc2 nL2 none d2 mc ms (.ref r :: as) hc (pV P)) (is is2 : List Nat) (hd : decode cc pc = .ok (.invokespecial idx, 3)) (hq : pc + 3 = q) (hk : MKI own idx y cc2 nL2 np) (hg : gets h is = some (hc.map (re is))) (his : is2 = is ++ (List.range mc).map (fun j => h.length + j)) (hnd1 : va_nd is = true) (hnd : va_nd is2 = true) (hst : st0 = (as.map (rv is)).reverse ++ .ref (rn is r) :: st) (hlen : as.length = np) (L : Nat) (hL : h.length = L) (hrh : refH L h) (hrl : lv.all (fun q => vR L q.2) = true) (hrs : st.all (vR L) = true) (hrp : ∀ h', P h' → refH (hc.length + mc) h') (hfr : Nat.blt d2 R.frames = true) (hlo : Nat.ble (8 + (nL2 + 11) + (32 * d2 + 20)) R.locals = true) (hcl : cells + mc ≤ R.cells) (hsl : slots + ms ≤ R.slots) (hcat : Nat.ble (catS st) 8 = true)
    (kk : ∀ h' h2 : List AE, P h' → wbO is2 (h'.map (re is2)) (h ++ List.replicate mc z0) = some h2 → AW E R nL Q ad0 n0 (cells + mc) (slots + ms) q lv st h2) (hmc : 0 < mc) : AW E R nL Q ad0 n0 cells slots pc lv st0 h := by
  subst hL
  obtain ⟨p, l, e, s, m, args, below, meth, c, D, tc, sa, A⟩ := E
  subst hq
  obtain ⟨⟨hx, hb, hml, hown, hts⟩, hK, hT, hA, hr, hlk, hnm⟩ := hE
  intro ad H locs ls hP hD hS hl hn h0 h1
  obtain ⟨hB, hPc, hF⟩ := B0_of hP hD hS hA hK hT hg hnd1
  obtain ⟨⟨k1, k2, k3, k4, k5, k6⟩, k7, k8⟩ := hk
  have hstk : st0.map (cv ad sa) = (as.map (cv (fun i => ad (rn is i)) sa)).reverse ++ Value.ref (ad (rn is r)) :: st.map (cv ad sa) := stk_eq hst
  refine callA (va_runI (b := ad (rn is r)) (As := as.map (cv (fun i => ad (rn is i)) sa)) (rest := st.map (cv ad sa)) ⟨hx, hb, hml, hown, hts⟩ (hM l D tc sa (fun i => ad (rn is i)) H.size)
    ⟨callB_of np hts (lg_good k2) rfl rfl rfl (hts _ k3) (hts _ k1) ⟨k4, k5, k6⟩ ⟨Nat.le_of_ble_eq_true hfr, Nat.le_of_ble_eq_true hlo⟩, k8, hts _ k7⟩
    ⟨B0_blind, fun U hU hW => ⟨rfl, hB U hU hW⟩⟩ rfl (by rw [List.length_map]; exact hlen) hl.1 hstk (by rw [catS_eq]; show 2 * 0 + _ ≤ _; rw [Nat.mul_zero, Nat.zero_add]; exact Nat.le_of_ble_eq_true hcat) hd ⟨hcl, hsl⟩) hS hF ?_
  intro v h' ad' H1 locs1 hp hlen' hx' hy' hP1 hD1 hz hk1 hS1
  obtain ⟨rfl, hp⟩ := hp
  obtain ⟨g1, g2⟩ := gets_spec _ _ _ hg
  rw [List.length_map] at g1
  have hlw : ∃ h2, wbO is2 (h'.map (re is2)) (h ++ List.replicate mc z0) = some h2 := by
    refine wbO_ex _ _ _ (by rw [his, List.length_append, List.length_map, List.length_map, List.length_range, hlen', g1]; exact Nat.le_refl _) (fun i hi => ?_)
    rw [List.length_append, List.length_replicate]
    rw [his] at hi
    rcases List.mem_append.mp hi with hi | hi
    · obtain ⟨k, hk⟩ := List.getElem?_of_mem hi
      obtain ⟨e0, h3, -⟩ := g2 k i hk
      have := (List.getElem?_eq_some_iff.mp h3).1
      omega
    · obtain ⟨j, hj, rfl⟩ := List.mem_map.mp hi
      have := List.mem_range.mp hj
      omega
  obtain ⟨h2, hw⟩ := hlw
  obtain ⟨adN, n1, n2, n3, n4⟩ := backN hP hD (fun q hq => hA q (Nat.le_trans hS.1 hq)) hg his hnd hlen' hw hrh (hrp h' hp) hx' hP1 hD1 hk1
  have k2 := kk h' h2 hp hw adN H1 locs1 ls n2 n3 hS1 (by rw [← ml_cg n1 hrl]; exact hl) (by rw [n4, hn]; omega) (fun i hi => by rw [← n1 i (by omega)]; exact h0 i hi) (fun z => absurd z (by omega))
  rw [← mv_cg n1 hrs] at k2
  exact k2
/-- the cells laid in another order -/
theorem A_perm (is : List Nat) (h2 : List AE) (lv2 : List (Nat × Value)) (st2 : List Value) (hg : gets h is = some (h2.map (re is))) (hnd : va_nd is = true) (hl2 : is.length = h.length) (hfix : ∀ i, i < n0 → rn is i = i) (hc : 0 < cells) (hlv : lv = lv2.map (fun q => (q.1, rv is q.2))) (hst : st = st2.map (rv is)) (kk : AW E R nL Q ad0 n0 cells slots pc lv2 st2 h2) : AW E R nL Q ad0 n0 cells slots pc lv st h := by
  obtain ⟨p, l, e, s, m, args, below, meth, c, D, tc, sa, A⟩ := E
  subst hlv
  subst hst
  intro ad H locs ls hP hD hS hl hn h0 h1
  have hsub := sub_world (ad := ad) (sa := sa) (tc := tc) hg
  obtain ⟨g1, g2⟩ := gets_spec _ _ _ hg
  rw [List.length_map] at g1
  have hP2 : va_P D vwCl (cw (fun i => ad (rn is i)) sa tc h2) H := by
    intro k q hk
    have h1 : (is.map (fun i => (cw ad sa tc h)[i]?))[k]? = some (some q) := by rw [hsub, List.getElem?_map, hk]; rfl
    rw [List.getElem?_map] at h1
    cases hi : is[k]? with
    | none => rw [hi] at h1; cases h1
    | some i => rw [hi] at h1; exact hP i q (Option.some.inj h1)
  have k2 := kk (fun i => ad (rn is i)) H locs ls hP2 (hD.sub is hnd hsub) hS (by
    have e1 : (lv2.map (fun q => (q.1, rv is q.2))).map (cl' ad sa) = lv2.map (cl' (fun i => ad (rn is i)) sa) := by
      rw [List.map_map]
      exact List.map_congr_left (fun v _ => by show (v.1, cv ad sa (rv is v.2)) = (v.1, cv _ sa v.2); rw [cv_rn])
    rw [← e1]
    exact hl) (by rw [g1, hl2, hn]) (fun i hi => by show ad (rn is i) = _; rw [hfix i hi]; exact h0 i hi) (fun z => absurd z (by omega))
  have e2 : (st2.map (rv is)).map (cv ad sa) = st2.map (cv (fun i => ad (rn is i)) sa) := by
    rw [List.map_map]
    exact List.map_congr_left (fun v _ => (cv_rn ad sa is v).symm)
  rw [e2]
  exact k2
/-- rows of ints told by other functions -/
def eqvE (a b : AE) : Prop := a = b ∨ ∃ (n : Nat) (f g : Nat → Int32), a = .inl (0, n, .inl f) ∧ b = .inl (0, n, .inl g) ∧ ∀ j, j < n → f j = g j
def eqvH : List AE → List AE → Prop
  | [], [] => True
  | a :: l, b :: r => eqvE a b ∧ eqvH l r
  | _, _ => False
theorem eqvH_get : ∀ {h h2 : List AE}, eqvH h h2 → h.length = h2.length ∧ ∀ (k : Nat) (e2 : AE), h2[k]? = some e2 → ∃ e1, h[k]? = some e1 ∧ eqvE e1 e2
  | [], [], _ => ⟨rfl, fun k e2 hk => by simp at hk⟩
  | a :: l, b :: r, he => by
    obtain ⟨h1, h2⟩ := eqvH_get he.2
    refine ⟨by simp [h1], fun k e2 hk => ?_⟩
    cases k with
    | zero =>
      simp only [List.getElem?_cons_zero, Option.some.injEq] at hk
      subst hk
      exact ⟨a, rfl, he.1⟩
    | succ k =>
      rw [List.getElem?_cons_succ] at hk ⊢
      exact h2 k e2 hk
  | [], _ :: _, he => he.elim
  | _ :: _, [], he => he.elim
theorem A_eqv {h2 : List AE} (he : eqvH h h2) (kk : AW E R nL Q ad0 n0 cells slots pc lv st h2) : AW E R nL Q ad0 n0 cells slots pc lv st h := by
  obtain ⟨hlen, key⟩ := eqvH_get he
  obtain ⟨p, l, e, s, m, args, below, meth, c, D, tc, sa, A⟩ := E
  intro ad H locs ls hP hD hS hl hn h0 h1
  refine kk ad H locs ls (fun k q hq => ?_) ⟨fun i j x y hi hj hxy => ?_, fun k q hq => ?_⟩ hS hl (hlen.symm.trans hn) h0 h1
  · obtain ⟨e2, h3, rfl⟩ := cw_inv hq
    obtain ⟨e1, h4, h5⟩ := key k e2 h3
    have h6 := hP k _ (cw_get (ad := ad) (sa := sa) (tc := tc) (by rw [getO_eq]; exact h4))
    rcases h5 with rfl | ⟨n, f, g, rfl, rfl, h5⟩
    · exact h6
    · have h7 : H[ad k]? = some (vp_cell (tc 0) (n, .inl f)) := h6
      show H[ad k]? = some (vp_cell (tc 0) (n, .inl g))
      rw [h7, vp_cell_i, vp_cell_i, arrV_ext (g := fun j => .int (g j)) (fun j hj => by rw [h5 j hj])]
  · obtain ⟨e2, h3, rfl⟩ := cw_inv hi
    obtain ⟨e3, h4, rfl⟩ := cw_inv hj
    obtain ⟨f2, h5, -⟩ := key i e2 h3
    obtain ⟨f3, h6, -⟩ := key j e3 h4
    exact hD.1 i j (ad i, ce ad sa tc f2) (ad j, ce ad sa tc f3) (cw_get (by rw [getO_eq]; exact h5)) (cw_get (by rw [getO_eq]; exact h6)) hxy
  · obtain ⟨e2, h3, rfl⟩ := cw_inv hq
    obtain ⟨f2, h5, -⟩ := key k e2 h3
    exact hD.2 k (ad k, ce ad sa tc f2) (cw_get (by rw [getO_eq]; exact h5))
end CALLI
