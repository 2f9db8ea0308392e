/-- the rest of a division -/
def rm (x y : Int32) : Int32 := x - x / y * y
section ROWS2
variable {E : AV} {R : Room} {nL : Nat} {Q : State → Prop} {ad0 : Nat → Nat} {n0 cells slots pc : Nat} {lv : List (Nat × Value)} {st : List Value} {h : List AE} {cc : ByteArray} {own : String} {ret : Option FieldType} {nm : String}

theorem A_bipush (hE : AGood E cc nL own ret nm) (q : Nat) {n : Int} (hd : decode cc pc = .ok (.bipush n, 2)) (hq : pc + 2 = q) (v : Int32) (hv : (Int8.ofInt n).toInt32 = v) (kk : AW E R nL Q ad0 n0 cells slots q lv (.int v :: st) h) : AW E R nL Q ad0 n0 cells slots pc lv st h := by
  obtain ⟨p, l, e, s, m, args, below, meth, c, D, tc, sa, A⟩ := E
  subst hq
  obtain ⟨⟨hx, hb, hml, hown, hts⟩, hK, hT, hA, hr, hlk, hnm⟩ := hE
  intro ad H locs ls hP hD hS hl hn h0 h1
  exact lv_bipush hx hb hd hv (kk ad H locs ls hP hD hS hl hn h0 h1)

theorem A_sipush (hE : AGood E cc nL own ret nm) (q : Nat) {n : Int} (hd : decode cc pc = .ok (.sipush n, 3)) (hq : pc + 3 = q) (v : Int32) (hv : (Int16.ofInt n).toInt32 = v) (kk : AW E R nL Q ad0 n0 cells slots q lv (.int v :: st) h) : AW E R nL Q ad0 n0 cells slots pc lv st h := by
  obtain ⟨p, l, e, s, m, args, below, meth, c, D, tc, sa, A⟩ := E
  subst hq
  obtain ⟨⟨hx, hb, hml, hown, hts⟩, hK, hT, hA, hr, hlk, hnm⟩ := hE
  intro ad H locs ls hP hD hS hl hn h0 h1
  exact lv_sipush hx hb hd hv (kk ad H locs ls hP hD hS hl hn h0 h1)

theorem A_ldc (hE : AGood E cc nL own ret nm) (q : Nat) {idx : Nat} {v : Int32} (hd : decode cc pc = .ok (.ldc idx, 2)) (hq : pc + 2 = q) (hc : Cond.constant own idx v ∈ lw_g) (kk : AW E R nL Q ad0 n0 cells slots q lv (.int v :: st) h) : AW E R nL Q ad0 n0 cells slots pc lv st h := by
  obtain ⟨p, l, e, s, m, args, below, meth, c, D, tc, sa, A⟩ := E
  subst hq
  obtain ⟨⟨hx, hb, hml, hown, hts⟩, hK, hT, hA, hr, hlk, hnm⟩ := hE
  intro ad H locs ls hP hD hS hl hn h0 h1
  exact lv_ldc hx hb hown (hts _ hc) hd (kk ad H locs ls hP hD hS hl hn h0 h1)

theorem A_ldcw (hE : AGood E cc nL own ret nm) (q : Nat) {idx : Nat} {v : Int32} (hd : decode cc pc = .ok (.ldc_w idx, 3)) (hq : pc + 3 = q) (hc : Cond.constant own idx v ∈ lw_g) (kk : AW E R nL Q ad0 n0 cells slots q lv (.int v :: st) h) : AW E R nL Q ad0 n0 cells slots pc lv st h := by
  obtain ⟨p, l, e, s, m, args, below, meth, c, D, tc, sa, A⟩ := E
  subst hq
  obtain ⟨⟨hx, hb, hml, hown, hts⟩, hK, hT, hA, hr, hlk, hnm⟩ := hE
  intro ad H locs ls hP hD hS hl hn h0 h1
  exact lv_ldcw hx hb hown (hts _ hc) hd (kk ad H locs ls hP hD hS hl hn h0 h1)

theorem A_ldc2 (hE : AGood E cc nL own ret nm) (q : Nat) {idx : Nat} {v : Int64} (hd : decode cc pc = .ok (.ldc2_w idx, 3)) (hq : pc + 3 = q) (hc : Cond.constantLong own idx v ∈ lw_g) (kk : AW E R nL Q ad0 n0 cells slots q lv (.long v :: st) h) : AW E R nL Q ad0 n0 cells slots pc lv st h := by
  obtain ⟨p, l, e, s, m, args, below, meth, c, D, tc, sa, A⟩ := E
  subst hq
  obtain ⟨⟨hx, hb, hml, hown, hts⟩, hK, hT, hA, hr, hlk, hnm⟩ := hE
  intro ad H locs ls hP hD hS hl hn h0 h1
  exact lv_ldc2 hx hb hown (hts _ hc) hd (kk ad H locs ls hP hD hS hl hn h0 h1)

theorem A_iload (hE : AGood E cc nL own ret nm) (q : Nat) {k : Nat} {x : Int32} (hd : decode cc pc = .ok (.iload k, 2)) (hq : pc + 2 = q) (hv : lvG lv k = some (.int x)) (kk : AW E R nL Q ad0 n0 cells slots q lv (.int x :: st) h) : AW E R nL Q ad0 n0 cells slots pc lv st h := by
  obtain ⟨p, l, e, s, m, args, below, meth, c, D, tc, sa, A⟩ := E
  subst hq
  obtain ⟨⟨hx, hb, hml, hown, hts⟩, hK, hT, hA, hr, hlk, hnm⟩ := hE
  intro ad H locs ls hP hD hS hl hn h0 h1
  exact lv_iload hx hb hd (hl.2.2 (cl' ad sa ((k : Nat), .int x)) (List.mem_map_of_mem (lvG_mem _ _ _ hv))) (kk ad H locs ls hP hD hS hl hn h0 h1)

theorem A_aload_n (hE : AGood E cc nL own ret nm) (q : Nat) {k : Fin 4} {x : Nat} (hd : decode cc pc = .ok (.aload_n k, 1)) (hq : pc + 1 = q) (hv : lvG lv k = some (.ref x)) (kk : AW E R nL Q ad0 n0 cells slots q lv (.ref x :: st) h) : AW E R nL Q ad0 n0 cells slots pc lv st h := by
  obtain ⟨p, l, e, s, m, args, below, meth, c, D, tc, sa, A⟩ := E
  subst hq
  obtain ⟨⟨hx, hb, hml, hown, hts⟩, hK, hT, hA, hr, hlk, hnm⟩ := hE
  intro ad H locs ls hP hD hS hl hn h0 h1
  exact lv_aload_n hx hb hd rfl (hl.2.2 (cl' ad sa ((k : Nat), .ref x)) (List.mem_map_of_mem (lvG_mem _ _ _ hv))) (kk ad H locs ls hP hD hS hl hn h0 h1)

theorem A_aload (hE : AGood E cc nL own ret nm) (q : Nat) {k : Nat} {x : Nat} (hd : decode cc pc = .ok (.aload k, 2)) (hq : pc + 2 = q) (hv : lvG lv k = some (.ref x)) (kk : AW E R nL Q ad0 n0 cells slots q lv (.ref x :: st) h) : AW E R nL Q ad0 n0 cells slots pc lv st h := by
  obtain ⟨p, l, e, s, m, args, below, meth, c, D, tc, sa, A⟩ := E
  subst hq
  obtain ⟨⟨hx, hb, hml, hown, hts⟩, hK, hT, hA, hr, hlk, hnm⟩ := hE
  intro ad H locs ls hP hD hS hl hn h0 h1
  exact lv_aload hx hb hd (hl.2.2 (cl' ad sa ((k : Nat), .ref x)) (List.mem_map_of_mem (lvG_mem _ _ _ hv))) (kk ad H locs ls hP hD hS hl hn h0 h1)

theorem A_aload_nS (hE : AGood E cc nL own ret nm) (q : Nat) {k : Fin 4} {x : Nat} (hd : decode cc pc = .ok (.aload_n k, 1)) (hq : pc + 1 = q) (hv : lvG lv k = some (.retAddr x)) (kk : AW E R nL Q ad0 n0 cells slots q lv (.retAddr x :: st) h) : AW E R nL Q ad0 n0 cells slots pc lv st h := by
  obtain ⟨p, l, e, s, m, args, below, meth, c, D, tc, sa, A⟩ := E
  subst hq
  obtain ⟨⟨hx, hb, hml, hown, hts⟩, hK, hT, hA, hr, hlk, hnm⟩ := hE
  intro ad H locs ls hP hD hS hl hn h0 h1
  exact lv_aload_n hx hb hd rfl (hl.2.2 (cl' ad sa ((k : Nat), .retAddr x)) (List.mem_map_of_mem (lvG_mem _ _ _ hv))) (kk ad H locs ls hP hD hS hl hn h0 h1)

theorem A_aloadS (hE : AGood E cc nL own ret nm) (q : Nat) {k : Nat} {x : Nat} (hd : decode cc pc = .ok (.aload k, 2)) (hq : pc + 2 = q) (hv : lvG lv k = some (.retAddr x)) (kk : AW E R nL Q ad0 n0 cells slots q lv (.retAddr x :: st) h) : AW E R nL Q ad0 n0 cells slots pc lv st h := by
  obtain ⟨p, l, e, s, m, args, below, meth, c, D, tc, sa, A⟩ := E
  subst hq
  obtain ⟨⟨hx, hb, hml, hown, hts⟩, hK, hT, hA, hr, hlk, hnm⟩ := hE
  intro ad H locs ls hP hD hS hl hn h0 h1
  exact lv_aload hx hb hd (hl.2.2 (cl' ad sa ((k : Nat), .retAddr x)) (List.mem_map_of_mem (lvG_mem _ _ _ hv))) (kk ad H locs ls hP hD hS hl hn h0 h1)

theorem A_lload_n (hE : AGood E cc nL own ret nm) (q : Nat) {k : Fin 4} {x : Int64} (hd : decode cc pc = .ok (.lload_n k, 1)) (hq : pc + 1 = q) (hv : lvG lv k = some (.long x)) (kk : AW E R nL Q ad0 n0 cells slots q lv (.long x :: st) h) : AW E R nL Q ad0 n0 cells slots pc lv st h := by
  obtain ⟨p, l, e, s, m, args, below, meth, c, D, tc, sa, A⟩ := E
  subst hq
  obtain ⟨⟨hx, hb, hml, hown, hts⟩, hK, hT, hA, hr, hlk, hnm⟩ := hE
  intro ad H locs ls hP hD hS hl hn h0 h1
  exact lv_lload_n hx hb hd rfl (hl.2.2 (cl' ad sa ((k : Nat), .long x)) (List.mem_map_of_mem (lvG_mem _ _ _ hv))) (kk ad H locs ls hP hD hS hl hn h0 h1)

theorem A_istore (hE : AGood E cc nL own ret nm) (q : Nat) {k : Nat} {x : Int32} {lv' : List (Nat × Value)} (hd : decode cc pc = .ok (.istore k, 2)) (hq : pc + 2 = q) (hk : Nat.blt k nL = true) (hf : lvF lv k = some lv') (kk : AW E R nL Q ad0 n0 cells slots q (((k : Nat), .int x) :: lv') st h) : AW E R nL Q ad0 n0 cells slots pc lv (.int x :: st) h := by
  obtain ⟨p, l, e, s, m, args, below, meth, c, D, tc, sa, A⟩ := E
  subst hq
  obtain ⟨⟨hx, hb, hml, hown, hts⟩, hK, hT, hA, hr, hlk, hnm⟩ := hE
  intro ad H locs ls hP hD hS hl hn h0 h1
  refine lv_istore hx hb hd hl (Nat.le_of_ble_eq_true hk) rfl fun ls' hl' => kk ad H locs ls' hP hD hS ⟨hl'.1, hl'.2.1, fun z hz => hl'.2.2 z ?_⟩ hn h0 h1
  rcases List.mem_cons.mp hz with rfl | hz
  · exact List.mem_cons_self
  · obtain ⟨w, hw, rfl⟩ := List.mem_map.mp hz
    obtain ⟨g1, g2⟩ := lvF_mem _ _ _ hf w hw
    refine List.mem_cons_of_mem _ (List.mem_filter.mpr ⟨List.mem_map_of_mem g1, ?_⟩)
    obtain ⟨w1, w2⟩ := w
    cases w2 <;> exact g2

theorem A_astore_n (hE : AGood E cc nL own ret nm) (q : Nat) {k : Fin 4} {x : Nat} {lv' : List (Nat × Value)} (hd : decode cc pc = .ok (.astore_n k, 1)) (hq : pc + 1 = q) (hk : Nat.blt k nL = true) (hf : lvF lv k = some lv') (kk : AW E R nL Q ad0 n0 cells slots q (((k : Nat), .ref x) :: lv') st h) : AW E R nL Q ad0 n0 cells slots pc lv (.ref x :: st) h := by
  obtain ⟨p, l, e, s, m, args, below, meth, c, D, tc, sa, A⟩ := E
  subst hq
  obtain ⟨⟨hx, hb, hml, hown, hts⟩, hK, hT, hA, hr, hlk, hnm⟩ := hE
  intro ad H locs ls hP hD hS hl hn h0 h1
  refine lv_astore_n hx hb hd rfl hl (Nat.le_of_ble_eq_true hk) rfl fun ls' hl' => kk ad H locs ls' hP hD hS ⟨hl'.1, hl'.2.1, fun z hz => hl'.2.2 z ?_⟩ hn h0 h1
  rcases List.mem_cons.mp hz with rfl | hz
  · exact List.mem_cons_self
  · obtain ⟨w, hw, rfl⟩ := List.mem_map.mp hz
    obtain ⟨g1, g2⟩ := lvF_mem _ _ _ hf w hw
    refine List.mem_cons_of_mem _ (List.mem_filter.mpr ⟨List.mem_map_of_mem g1, ?_⟩)
    obtain ⟨w1, w2⟩ := w
    cases w2 <;> exact g2

theorem A_astore (hE : AGood E cc nL own ret nm) (q : Nat) {k : Nat} {x : Nat} {lv' : List (Nat × Value)} (hd : decode cc pc = .ok (.astore k, 2)) (hq : pc + 2 = q) (hk : Nat.blt k nL = true) (hf : lvF lv k = some lv') (kk : AW E R nL Q ad0 n0 cells slots q (((k : Nat), .ref x) :: lv') st h) : AW E R nL Q ad0 n0 cells slots pc lv (.ref x :: st) h := by
  obtain ⟨p, l, e, s, m, args, below, meth, c, D, tc, sa, A⟩ := E
  subst hq
  obtain ⟨⟨hx, hb, hml, hown, hts⟩, hK, hT, hA, hr, hlk, hnm⟩ := hE
  intro ad H locs ls hP hD hS hl hn h0 h1
  refine lv_astore hx hb hd hl (Nat.le_of_ble_eq_true hk) rfl fun ls' hl' => kk ad H locs ls' hP hD hS ⟨hl'.1, hl'.2.1, fun z hz => hl'.2.2 z ?_⟩ hn h0 h1
  rcases List.mem_cons.mp hz with rfl | hz
  · exact List.mem_cons_self
  · obtain ⟨w, hw, rfl⟩ := List.mem_map.mp hz
    obtain ⟨g1, g2⟩ := lvF_mem _ _ _ hf w hw
    refine List.mem_cons_of_mem _ (List.mem_filter.mpr ⟨List.mem_map_of_mem g1, ?_⟩)
    obtain ⟨w1, w2⟩ := w
    cases w2 <;> exact g2

theorem A_iinc (hE : AGood E cc nL own ret nm) (q : Nat) {k : Nat} {n : Int} {x : Int32} {lv' : List (Nat × Value)} (hd : decode cc pc = .ok (.iinc k n, 3)) (hq : pc + 3 = q) (hk : Nat.blt k nL = true) (v : Int32) (hv : Int32.ofInt n = v) (hg : lvG lv k = some (.int x)) (hf : lvF lv k = some lv') (kk : AW E R nL Q ad0 n0 cells slots q ((k, .int (x + v)) :: lv') st h) : AW E R nL Q ad0 n0 cells slots pc lv st h := by
  obtain ⟨p, l, e, s, m, args, below, meth, c, D, tc, sa, A⟩ := E
  subst hq
  obtain ⟨⟨hx, hb, hml, hown, hts⟩, hK, hT, hA, hr, hlk, hnm⟩ := hE
  intro ad H locs ls hP hD hS hl hn h0 h1
  subst hv
  obtain ⟨j, hj⟩ := List.getElem?_of_mem (List.mem_map_of_mem (f := cl' ad sa) (lvG_mem _ _ _ hg))
  refine lv_iinc hx hb hd hl (k := j) hj rfl (Nat.le_of_ble_eq_true hk) rfl fun ls' hl' => kk ad H locs ls' hP hD hS ⟨hl'.1, hl'.2.1, fun z hz => hl'.2.2 z ?_⟩ hn h0 h1
  rcases List.mem_cons.mp hz with rfl | hz
  · exact List.mem_cons_self
  · obtain ⟨w, hw, rfl⟩ := List.mem_map.mp hz
    obtain ⟨g1, g2⟩ := lvF_mem _ _ _ hf w hw
    refine List.mem_cons_of_mem _ (List.mem_filter.mpr ⟨List.mem_map_of_mem g1, ?_⟩)
    obtain ⟨w1, w2⟩ := w
    cases w2 <;> exact g2

theorem A_isub (hE : AGood E cc nL own ret nm) (q : Nat) {x y : Int32} (hd : decode cc pc = .ok (.isub, 1)) (hq : pc + 1 = q)  (kk : AW E R nL Q ad0 n0 cells slots q lv (.int (x - y) :: st) h) : AW E R nL Q ad0 n0 cells slots pc lv (.int y :: .int x :: st) h := by
  obtain ⟨p, l, e, s, m, args, below, meth, c, D, tc, sa, A⟩ := E
  subst hq
  obtain ⟨⟨hx, hb, hml, hown, hts⟩, hK, hT, hA, hr, hlk, hnm⟩ := hE
  intro ad H locs ls hP hD hS hl hn h0 h1
  exact lv_isub hx hb hd (kk ad H locs ls hP hD hS hl hn h0 h1)

theorem A_imul (hE : AGood E cc nL own ret nm) (q : Nat) {x y : Int32} (hd : decode cc pc = .ok (.imul, 1)) (hq : pc + 1 = q)  (kk : AW E R nL Q ad0 n0 cells slots q lv (.int (x * y) :: st) h) : AW E R nL Q ad0 n0 cells slots pc lv (.int y :: .int x :: st) h := by
  obtain ⟨p, l, e, s, m, args, below, meth, c, D, tc, sa, A⟩ := E
  subst hq
  obtain ⟨⟨hx, hb, hml, hown, hts⟩, hK, hT, hA, hr, hlk, hnm⟩ := hE
  intro ad H locs ls hP hD hS hl hn h0 h1
  exact lv_imul hx hb hd (kk ad H locs ls hP hD hS hl hn h0 h1)

theorem A_iand (hE : AGood E cc nL own ret nm) (q : Nat) {x y : Int32} (hd : decode cc pc = .ok (.iand, 1)) (hq : pc + 1 = q)  (kk : AW E R nL Q ad0 n0 cells slots q lv (.int (x &&& y) :: st) h) : AW E R nL Q ad0 n0 cells slots pc lv (.int y :: .int x :: st) h := by
  obtain ⟨p, l, e, s, m, args, below, meth, c, D, tc, sa, A⟩ := E
  subst hq
  obtain ⟨⟨hx, hb, hml, hown, hts⟩, hK, hT, hA, hr, hlk, hnm⟩ := hE
  intro ad H locs ls hP hD hS hl hn h0 h1
  exact lv_iand hx hb hd (kk ad H locs ls hP hD hS hl hn h0 h1)

theorem A_ior (hE : AGood E cc nL own ret nm) (q : Nat) {x y : Int32} (hd : decode cc pc = .ok (.ior, 1)) (hq : pc + 1 = q)  (kk : AW E R nL Q ad0 n0 cells slots q lv (.int (x ||| y) :: st) h) : AW E R nL Q ad0 n0 cells slots pc lv (.int y :: .int x :: st) h := by
  obtain ⟨p, l, e, s, m, args, below, meth, c, D, tc, sa, A⟩ := E
  subst hq
  obtain ⟨⟨hx, hb, hml, hown, hts⟩, hK, hT, hA, hr, hlk, hnm⟩ := hE
  intro ad H locs ls hP hD hS hl hn h0 h1
  exact lv_ior hx hb hd (kk ad H locs ls hP hD hS hl hn h0 h1)

theorem A_ixor (hE : AGood E cc nL own ret nm) (q : Nat) {x y : Int32} (hd : decode cc pc = .ok (.ixor, 1)) (hq : pc + 1 = q)  (kk : AW E R nL Q ad0 n0 cells slots q lv (.int (x ^^^ y) :: st) h) : AW E R nL Q ad0 n0 cells slots pc lv (.int y :: .int x :: st) h := by
  obtain ⟨p, l, e, s, m, args, below, meth, c, D, tc, sa, A⟩ := E
  subst hq
  obtain ⟨⟨hx, hb, hml, hown, hts⟩, hK, hT, hA, hr, hlk, hnm⟩ := hE
  intro ad H locs ls hP hD hS hl hn h0 h1
  exact lv_ixor hx hb hd (kk ad H locs ls hP hD hS hl hn h0 h1)

theorem A_ishl (hE : AGood E cc nL own ret nm) (q : Nat) {x y : Int32} (hd : decode cc pc = .ok (.ishl, 1)) (hq : pc + 1 = q)  (kk : AW E R nL Q ad0 n0 cells slots q lv (.int (x <<< (y &&& 31)) :: st) h) : AW E R nL Q ad0 n0 cells slots pc lv (.int y :: .int x :: st) h := by
  obtain ⟨p, l, e, s, m, args, below, meth, c, D, tc, sa, A⟩ := E
  subst hq
  obtain ⟨⟨hx, hb, hml, hown, hts⟩, hK, hT, hA, hr, hlk, hnm⟩ := hE
  intro ad H locs ls hP hD hS hl hn h0 h1
  exact lv_ishl hx hb hd (kk ad H locs ls hP hD hS hl hn h0 h1)

theorem A_ishr (hE : AGood E cc nL own ret nm) (q : Nat) {x y : Int32} (hd : decode cc pc = .ok (.ishr, 1)) (hq : pc + 1 = q)  (kk : AW E R nL Q ad0 n0 cells slots q lv (.int (x >>> (y &&& 31)) :: st) h) : AW E R nL Q ad0 n0 cells slots pc lv (.int y :: .int x :: st) h := by
  obtain ⟨p, l, e, s, m, args, below, meth, c, D, tc, sa, A⟩ := E
  subst hq
  obtain ⟨⟨hx, hb, hml, hown, hts⟩, hK, hT, hA, hr, hlk, hnm⟩ := hE
  intro ad H locs ls hP hD hS hl hn h0 h1
  exact lv_ishr hx hb hd (kk ad H locs ls hP hD hS hl hn h0 h1)

theorem A_iushr (hE : AGood E cc nL own ret nm) (q : Nat) {x y : Int32} (hd : decode cc pc = .ok (.iushr, 1)) (hq : pc + 1 = q)  (kk : AW E R nL Q ad0 n0 cells slots q lv (.int ((x.toUInt32 >>> (y.toUInt32 &&& Int32.toUInt32 31)).toInt32) :: st) h) : AW E R nL Q ad0 n0 cells slots pc lv (.int y :: .int x :: st) h := by
  obtain ⟨p, l, e, s, m, args, below, meth, c, D, tc, sa, A⟩ := E
  subst hq
  obtain ⟨⟨hx, hb, hml, hown, hts⟩, hK, hT, hA, hr, hlk, hnm⟩ := hE
  intro ad H locs ls hP hD hS hl hn h0 h1
  exact lv_iushr hx hb hd rfl (kk ad H locs ls hP hD hS hl hn h0 h1)

theorem A_idiv (hE : AGood E cc nL own ret nm) (q : Nat) {x y : Int32} (hd : decode cc pc = .ok (.idiv, 1)) (hq : pc + 1 = q) (hne : ¬ y = 0) (kk : AW E R nL Q ad0 n0 cells slots q lv (.int (x / y) :: st) h) : AW E R nL Q ad0 n0 cells slots pc lv (.int y :: .int x :: st) h := by
  obtain ⟨p, l, e, s, m, args, below, meth, c, D, tc, sa, A⟩ := E
  subst hq
  obtain ⟨⟨hx, hb, hml, hown, hts⟩, hK, hT, hA, hr, hlk, hnm⟩ := hE
  intro ad H locs ls hP hD hS hl hn h0 h1
  exact lv_idiv hx hb hd hne (kk ad H locs ls hP hD hS hl hn h0 h1)

theorem A_irem (hE : AGood E cc nL own ret nm) (q : Nat) {x y : Int32} (hd : decode cc pc = .ok (.irem, 1)) (hq : pc + 1 = q) (hne : ¬ y = 0) (kk : AW E R nL Q ad0 n0 cells slots q lv (.int (rm x y) :: st) h) : AW E R nL Q ad0 n0 cells slots pc lv (.int y :: .int x :: st) h := by
  obtain ⟨p, l, e, s, m, args, below, meth, c, D, tc, sa, A⟩ := E
  subst hq
  obtain ⟨⟨hx, hb, hml, hown, hts⟩, hK, hT, hA, hr, hlk, hnm⟩ := hE
  intro ad H locs ls hP hD hS hl hn h0 h1
  exact lv_irem hx hb hd hne (kk ad H locs ls hP hD hS hl hn h0 h1)

theorem A_ineg (hE : AGood E cc nL own ret nm) (q : Nat) {x : Int32} (hd : decode cc pc = .ok (.ineg, 1)) (hq : pc + 1 = q)  (kk : AW E R nL Q ad0 n0 cells slots q lv (.int (-x) :: st) h) : AW E R nL Q ad0 n0 cells slots pc lv (.int x :: st) h := by
  obtain ⟨p, l, e, s, m, args, below, meth, c, D, tc, sa, A⟩ := E
  subst hq
  obtain ⟨⟨hx, hb, hml, hown, hts⟩, hK, hT, hA, hr, hlk, hnm⟩ := hE
  intro ad H locs ls hP hD hS hl hn h0 h1
  exact lv_ineg hx hb hd (kk ad H locs ls hP hD hS hl hn h0 h1)

theorem A_i2l (hE : AGood E cc nL own ret nm) (q : Nat) {x : Int32} (hd : decode cc pc = .ok (.i2l, 1)) (hq : pc + 1 = q)  (kk : AW E R nL Q ad0 n0 cells slots q lv (.long (x.toInt64) :: st) h) : AW E R nL Q ad0 n0 cells slots pc lv (.int x :: st) h := by
  obtain ⟨p, l, e, s, m, args, below, meth, c, D, tc, sa, A⟩ := E
  subst hq
  obtain ⟨⟨hx, hb, hml, hown, hts⟩, hK, hT, hA, hr, hlk, hnm⟩ := hE
  intro ad H locs ls hP hD hS hl hn h0 h1
  exact lv_i2l hx hb hd rfl (kk ad H locs ls hP hD hS hl hn h0 h1)

theorem A_l2i (hE : AGood E cc nL own ret nm) (q : Nat) {x : Int64} (hd : decode cc pc = .ok (.l2i, 1)) (hq : pc + 1 = q)  (kk : AW E R nL Q ad0 n0 cells slots q lv (.int (x.toInt32) :: st) h) : AW E R nL Q ad0 n0 cells slots pc lv (.long x :: st) h := by
  obtain ⟨p, l, e, s, m, args, below, meth, c, D, tc, sa, A⟩ := E
  subst hq
  obtain ⟨⟨hx, hb, hml, hown, hts⟩, hK, hT, hA, hr, hlk, hnm⟩ := hE
  intro ad H locs ls hP hD hS hl hn h0 h1
  exact lv_l2i hx hb hd rfl (kk ad H locs ls hP hD hS hl hn h0 h1)

theorem A_i2c (hE : AGood E cc nL own ret nm) (q : Nat) {x : Int32} (hd : decode cc pc = .ok (.i2c, 1)) (hq : pc + 1 = q)  (kk : AW E R nL Q ad0 n0 cells slots q lv (.int ((x.toUInt32 % 65536).toInt32) :: st) h) : AW E R nL Q ad0 n0 cells slots pc lv (.int x :: st) h := by
  obtain ⟨p, l, e, s, m, args, below, meth, c, D, tc, sa, A⟩ := E
  subst hq
  obtain ⟨⟨hx, hb, hml, hown, hts⟩, hK, hT, hA, hr, hlk, hnm⟩ := hE
  intro ad H locs ls hP hD hS hl hn h0 h1
  exact lv_i2c hx hb hd rfl (kk ad H locs ls hP hD hS hl hn h0 h1)

theorem A_i2b (hE : AGood E cc nL own ret nm) (q : Nat) {x : Int32} (hd : decode cc pc = .ok (.i2b, 1)) (hq : pc + 1 = q)  (kk : AW E R nL Q ad0 n0 cells slots q lv (.int (x.toInt8.toInt32) :: st) h) : AW E R nL Q ad0 n0 cells slots pc lv (.int x :: st) h := by
  obtain ⟨p, l, e, s, m, args, below, meth, c, D, tc, sa, A⟩ := E
  subst hq
  obtain ⟨⟨hx, hb, hml, hown, hts⟩, hK, hT, hA, hr, hlk, hnm⟩ := hE
  intro ad H locs ls hP hD hS hl hn h0 h1
  exact lv_i2b hx hb hd rfl (kk ad H locs ls hP hD hS hl hn h0 h1)

theorem A_i2s (hE : AGood E cc nL own ret nm) (q : Nat) {x : Int32} (hd : decode cc pc = .ok (.i2s, 1)) (hq : pc + 1 = q)  (kk : AW E R nL Q ad0 n0 cells slots q lv (.int (x.toInt16.toInt32) :: st) h) : AW E R nL Q ad0 n0 cells slots pc lv (.int x :: st) h := by
  obtain ⟨p, l, e, s, m, args, below, meth, c, D, tc, sa, A⟩ := E
  subst hq
  obtain ⟨⟨hx, hb, hml, hown, hts⟩, hK, hT, hA, hr, hlk, hnm⟩ := hE
  intro ad H locs ls hP hD hS hl hn h0 h1
  exact lv_i2s hx hb hd rfl (kk ad H locs ls hP hD hS hl hn h0 h1)

theorem A_land (hE : AGood E cc nL own ret nm) (q : Nat) {x y : Int64} (hd : decode cc pc = .ok (.land, 1)) (hq : pc + 1 = q)  (kk : AW E R nL Q ad0 n0 cells slots q lv (.long (x &&& y) :: st) h) : AW E R nL Q ad0 n0 cells slots pc lv (.long y :: .long x :: st) h := by
  obtain ⟨p, l, e, s, m, args, below, meth, c, D, tc, sa, A⟩ := E
  subst hq
  obtain ⟨⟨hx, hb, hml, hown, hts⟩, hK, hT, hA, hr, hlk, hnm⟩ := hE
  intro ad H locs ls hP hD hS hl hn h0 h1
  exact lv_land hx hb hd (kk ad H locs ls hP hD hS hl hn h0 h1)

theorem A_lor (hE : AGood E cc nL own ret nm) (q : Nat) {x y : Int64} (hd : decode cc pc = .ok (.lor, 1)) (hq : pc + 1 = q)  (kk : AW E R nL Q ad0 n0 cells slots q lv (.long (x ||| y) :: st) h) : AW E R nL Q ad0 n0 cells slots pc lv (.long y :: .long x :: st) h := by
  obtain ⟨p, l, e, s, m, args, below, meth, c, D, tc, sa, A⟩ := E
  subst hq
  obtain ⟨⟨hx, hb, hml, hown, hts⟩, hK, hT, hA, hr, hlk, hnm⟩ := hE
  intro ad H locs ls hP hD hS hl hn h0 h1
  exact lv_lor hx hb hd (kk ad H locs ls hP hD hS hl hn h0 h1)

theorem A_lshl (hE : AGood E cc nL own ret nm) (q : Nat) {x : Int64} {y : Int32} (hd : decode cc pc = .ok (.lshl, 1)) (hq : pc + 1 = q)  (kk : AW E R nL Q ad0 n0 cells slots q lv (.long (x <<< (y.toInt64 &&& 63)) :: st) h) : AW E R nL Q ad0 n0 cells slots pc lv (.int y :: .long x :: st) h := by
  obtain ⟨p, l, e, s, m, args, below, meth, c, D, tc, sa, A⟩ := E
  subst hq
  obtain ⟨⟨hx, hb, hml, hown, hts⟩, hK, hT, hA, hr, hlk, hnm⟩ := hE
  intro ad H locs ls hP hD hS hl hn h0 h1
  exact lv_lshl hx hb hd rfl (kk ad H locs ls hP hD hS hl hn h0 h1)

theorem A_lshr (hE : AGood E cc nL own ret nm) (q : Nat) {x : Int64} {y : Int32} (hd : decode cc pc = .ok (.lshr, 1)) (hq : pc + 1 = q)  (kk : AW E R nL Q ad0 n0 cells slots q lv (.long (x >>> (y.toInt64 &&& 63)) :: st) h) : AW E R nL Q ad0 n0 cells slots pc lv (.int y :: .long x :: st) h := by
  obtain ⟨p, l, e, s, m, args, below, meth, c, D, tc, sa, A⟩ := E
  subst hq
  obtain ⟨⟨hx, hb, hml, hown, hts⟩, hK, hT, hA, hr, hlk, hnm⟩ := hE
  intro ad H locs ls hP hD hS hl hn h0 h1
  exact lv_lshr hx hb hd rfl (kk ad H locs ls hP hD hS hl hn h0 h1)

theorem A_lushr (hE : AGood E cc nL own ret nm) (q : Nat) {x : Int64} {y : Int32} (hd : decode cc pc = .ok (.lushr, 1)) (hq : pc + 1 = q)  (kk : AW E R nL Q ad0 n0 cells slots q lv (.long ((x.toUInt64 >>> (y.toInt64.toUInt64 &&& Int64.toUInt64 63)).toInt64) :: st) h) : AW E R nL Q ad0 n0 cells slots pc lv (.int y :: .long x :: st) h := by
  obtain ⟨p, l, e, s, m, args, below, meth, c, D, tc, sa, A⟩ := E
  subst hq
  obtain ⟨⟨hx, hb, hml, hown, hts⟩, hK, hT, hA, hr, hlk, hnm⟩ := hE
  intro ad H locs ls hP hD hS hl hn h0 h1
  exact lv_lushr hx hb hd rfl (kk ad H locs ls hP hD hS hl hn h0 h1)

theorem A_dup (hE : AGood E cc nL own ret nm) (q : Nat) {v : Value} (hd : decode cc pc = .ok (.dup, 1)) (hq : pc + 1 = q) (hc : (cat2 v) = false) (kk : AW E R nL Q ad0 n0 cells slots q lv (v :: v :: st) h) : AW E R nL Q ad0 n0 cells slots pc lv (v :: st) h := by
  obtain ⟨p, l, e, s, m, args, below, meth, c, D, tc, sa, A⟩ := E
  subst hq
  obtain ⟨⟨hx, hb, hml, hown, hts⟩, hK, hT, hA, hr, hlk, hnm⟩ := hE
  intro ad H locs ls hP hD hS hl hn h0 h1
  exact lv_dup hx hb hd (by cases v <;> first | rfl | (cases hc)) (kk ad H locs ls hP hD hS hl hn h0 h1)

theorem A_dup2 (hE : AGood E cc nL own ret nm) (q : Nat) {v w : Value} (hd : decode cc pc = .ok (.dup2, 1)) (hq : pc + 1 = q) (hc : (cat2 v) = false) (hc2 : (cat2 w) = false) (kk : AW E R nL Q ad0 n0 cells slots q lv (v :: w :: v :: w :: st) h) : AW E R nL Q ad0 n0 cells slots pc lv (v :: w :: st) h := by
  obtain ⟨p, l, e, s, m, args, below, meth, c, D, tc, sa, A⟩ := E
  subst hq
  obtain ⟨⟨hx, hb, hml, hown, hts⟩, hK, hT, hA, hr, hlk, hnm⟩ := hE
  intro ad H locs ls hP hD hS hl hn h0 h1
  exact lv_dup2_11 hx hb hd (by cases v <;> first | rfl | (cases hc)) (by cases w <;> first | rfl | (cases hc2)) (kk ad H locs ls hP hD hS hl hn h0 h1)

theorem A_pop (hE : AGood E cc nL own ret nm) (q : Nat) {v : Value} (hd : decode cc pc = .ok (.pop, 1)) (hq : pc + 1 = q) (hc : (cat2 v) = false) (kk : AW E R nL Q ad0 n0 cells slots q lv st h) : AW E R nL Q ad0 n0 cells slots pc lv (v :: st) h := by
  obtain ⟨p, l, e, s, m, args, below, meth, c, D, tc, sa, A⟩ := E
  subst hq
  obtain ⟨⟨hx, hb, hml, hown, hts⟩, hK, hT, hA, hr, hlk, hnm⟩ := hE
  intro ad H locs ls hP hD hS hl hn h0 h1
  exact lv_pop hx hb hd (by cases v <;> first | rfl | (cases hc)) (kk ad H locs ls hP hD hS hl hn h0 h1)

theorem A_if_eq (hE : AGood E cc nL own ret nm) (q tgt : Nat) {x  : Int32} {off : Int} (hd : decode cc pc = .ok (.ifCond .eq off, 3)) (hq : pc + 3 = q) (ht : (pc : Int) + off = (tgt : Int)) (kt : x = 0 → AW E R nL Q ad0 n0 cells slots tgt lv st h) (kf : ¬ x = 0 → AW E R nL Q ad0 n0 cells slots q lv st h) : AW E R nL Q ad0 n0 cells slots pc lv (.int x :: st) h := by
  obtain ⟨p, l, e, s, m, args, below, meth, c, D, tc, sa, A⟩ := E
  subst hq
  obtain ⟨⟨hx, hb, hml, hown, hts⟩, hK, hT, hA, hr, hlk, hnm⟩ := hE
  intro ad H locs ls hP hD hS hl hn h0 h1
  exact lv_if_eq hx hb hd ht (fun z => kt z ad H locs ls hP hD hS hl hn h0 h1) (fun z => kf z ad H locs ls hP hD hS hl hn h0 h1)

theorem A_icmp_eq (hE : AGood E cc nL own ret nm) (q tgt : Nat) {x y : Int32} {off : Int} (hd : decode cc pc = .ok (.if_icmp .eq off, 3)) (hq : pc + 3 = q) (ht : (pc : Int) + off = (tgt : Int)) (kt : x = y → AW E R nL Q ad0 n0 cells slots tgt lv st h) (kf : ¬ x = y → AW E R nL Q ad0 n0 cells slots q lv st h) : AW E R nL Q ad0 n0 cells slots pc lv (.int y :: .int x :: st) h := by
  obtain ⟨p, l, e, s, m, args, below, meth, c, D, tc, sa, A⟩ := E
  subst hq
  obtain ⟨⟨hx, hb, hml, hown, hts⟩, hK, hT, hA, hr, hlk, hnm⟩ := hE
  intro ad H locs ls hP hD hS hl hn h0 h1
  exact lv_icmp_eq hx hb hd ht (fun z => kt z ad H locs ls hP hD hS hl hn h0 h1) (fun z => kf z ad H locs ls hP hD hS hl hn h0 h1)

theorem A_if_ne (hE : AGood E cc nL own ret nm) (q tgt : Nat) {x  : Int32} {off : Int} (hd : decode cc pc = .ok (.ifCond .ne off, 3)) (hq : pc + 3 = q) (ht : (pc : Int) + off = (tgt : Int)) (kt : ¬ x = 0 → AW E R nL Q ad0 n0 cells slots tgt lv st h) (kf : x = 0 → AW E R nL Q ad0 n0 cells slots q lv st h) : AW E R nL Q ad0 n0 cells slots pc lv (.int x :: st) h := by
  obtain ⟨p, l, e, s, m, args, below, meth, c, D, tc, sa, A⟩ := E
  subst hq
  obtain ⟨⟨hx, hb, hml, hown, hts⟩, hK, hT, hA, hr, hlk, hnm⟩ := hE
  intro ad H locs ls hP hD hS hl hn h0 h1
  exact lv_if_ne hx hb hd ht (fun z => kt z ad H locs ls hP hD hS hl hn h0 h1) (fun z => kf z ad H locs ls hP hD hS hl hn h0 h1)

theorem A_icmp_ne (hE : AGood E cc nL own ret nm) (q tgt : Nat) {x y : Int32} {off : Int} (hd : decode cc pc = .ok (.if_icmp .ne off, 3)) (hq : pc + 3 = q) (ht : (pc : Int) + off = (tgt : Int)) (kt : ¬ x = y → AW E R nL Q ad0 n0 cells slots tgt lv st h) (kf : x = y → AW E R nL Q ad0 n0 cells slots q lv st h) : AW E R nL Q ad0 n0 cells slots pc lv (.int y :: .int x :: st) h := by
  obtain ⟨p, l, e, s, m, args, below, meth, c, D, tc, sa, A⟩ := E
  subst hq
  obtain ⟨⟨hx, hb, hml, hown, hts⟩, hK, hT, hA, hr, hlk, hnm⟩ := hE
  intro ad H locs ls hP hD hS hl hn h0 h1
  exact lv_icmp_ne hx hb hd ht (fun z => kt z ad H locs ls hP hD hS hl hn h0 h1) (fun z => kf z ad H locs ls hP hD hS hl hn h0 h1)

theorem A_if_lt (hE : AGood E cc nL own ret nm) (q tgt : Nat) {x  : Int32} {off : Int} (hd : decode cc pc = .ok (.ifCond .lt off, 3)) (hq : pc + 3 = q) (ht : (pc : Int) + off = (tgt : Int)) (kt : x < 0 → AW E R nL Q ad0 n0 cells slots tgt lv st h) (kf : ¬ x < 0 → AW E R nL Q ad0 n0 cells slots q lv st h) : AW E R nL Q ad0 n0 cells slots pc lv (.int x :: st) h := by
  obtain ⟨p, l, e, s, m, args, below, meth, c, D, tc, sa, A⟩ := E
  subst hq
  obtain ⟨⟨hx, hb, hml, hown, hts⟩, hK, hT, hA, hr, hlk, hnm⟩ := hE
  intro ad H locs ls hP hD hS hl hn h0 h1
  exact lv_if_lt hx hb hd ht (fun z => kt z ad H locs ls hP hD hS hl hn h0 h1) (fun z => kf z ad H locs ls hP hD hS hl hn h0 h1)

theorem A_icmp_lt (hE : AGood E cc nL own ret nm) (q tgt : Nat) {x y : Int32} {off : Int} (hd : decode cc pc = .ok (.if_icmp .lt off, 3)) (hq : pc + 3 = q) (ht : (pc : Int) + off = (tgt : Int)) (kt : x < y → AW E R nL Q ad0 n0 cells slots tgt lv st h) (kf : ¬ x < y → AW E R nL Q ad0 n0 cells slots q lv st h) : AW E R nL Q ad0 n0 cells slots pc lv (.int y :: .int x :: st) h := by
  obtain ⟨p, l, e, s, m, args, below, meth, c, D, tc, sa, A⟩ := E
  subst hq
  obtain ⟨⟨hx, hb, hml, hown, hts⟩, hK, hT, hA, hr, hlk, hnm⟩ := hE
  intro ad H locs ls hP hD hS hl hn h0 h1
  exact lv_icmp_lt hx hb hd ht (fun z => kt z ad H locs ls hP hD hS hl hn h0 h1) (fun z => kf z ad H locs ls hP hD hS hl hn h0 h1)

theorem A_if_ge (hE : AGood E cc nL own ret nm) (q tgt : Nat) {x  : Int32} {off : Int} (hd : decode cc pc = .ok (.ifCond .ge off, 3)) (hq : pc + 3 = q) (ht : (pc : Int) + off = (tgt : Int)) (kt : 0 ≤ x → AW E R nL Q ad0 n0 cells slots tgt lv st h) (kf : ¬ 0 ≤ x → AW E R nL Q ad0 n0 cells slots q lv st h) : AW E R nL Q ad0 n0 cells slots pc lv (.int x :: st) h := by
  obtain ⟨p, l, e, s, m, args, below, meth, c, D, tc, sa, A⟩ := E
  subst hq
  obtain ⟨⟨hx, hb, hml, hown, hts⟩, hK, hT, hA, hr, hlk, hnm⟩ := hE
  intro ad H locs ls hP hD hS hl hn h0 h1
  exact lv_if_ge hx hb hd ht (fun z => kt z ad H locs ls hP hD hS hl hn h0 h1) (fun z => kf z ad H locs ls hP hD hS hl hn h0 h1)

theorem A_icmp_ge (hE : AGood E cc nL own ret nm) (q tgt : Nat) {x y : Int32} {off : Int} (hd : decode cc pc = .ok (.if_icmp .ge off, 3)) (hq : pc + 3 = q) (ht : (pc : Int) + off = (tgt : Int)) (kt : y ≤ x → AW E R nL Q ad0 n0 cells slots tgt lv st h) (kf : ¬ y ≤ x → AW E R nL Q ad0 n0 cells slots q lv st h) : AW E R nL Q ad0 n0 cells slots pc lv (.int y :: .int x :: st) h := by
  obtain ⟨p, l, e, s, m, args, below, meth, c, D, tc, sa, A⟩ := E
  subst hq
  obtain ⟨⟨hx, hb, hml, hown, hts⟩, hK, hT, hA, hr, hlk, hnm⟩ := hE
  intro ad H locs ls hP hD hS hl hn h0 h1
  exact lv_icmp_ge hx hb hd ht (fun z => kt z ad H locs ls hP hD hS hl hn h0 h1) (fun z => kf z ad H locs ls hP hD hS hl hn h0 h1)

theorem A_if_gt (hE : AGood E cc nL own ret nm) (q tgt : Nat) {x  : Int32} {off : Int} (hd : decode cc pc = .ok (.ifCond .gt off, 3)) (hq : pc + 3 = q) (ht : (pc : Int) + off = (tgt : Int)) (kt : 0 < x → AW E R nL Q ad0 n0 cells slots tgt lv st h) (kf : ¬ 0 < x → AW E R nL Q ad0 n0 cells slots q lv st h) : AW E R nL Q ad0 n0 cells slots pc lv (.int x :: st) h := by
  obtain ⟨p, l, e, s, m, args, below, meth, c, D, tc, sa, A⟩ := E
  subst hq
  obtain ⟨⟨hx, hb, hml, hown, hts⟩, hK, hT, hA, hr, hlk, hnm⟩ := hE
  intro ad H locs ls hP hD hS hl hn h0 h1
  exact lv_if_gt hx hb hd ht (fun z => kt z ad H locs ls hP hD hS hl hn h0 h1) (fun z => kf z ad H locs ls hP hD hS hl hn h0 h1)

theorem A_icmp_gt (hE : AGood E cc nL own ret nm) (q tgt : Nat) {x y : Int32} {off : Int} (hd : decode cc pc = .ok (.if_icmp .gt off, 3)) (hq : pc + 3 = q) (ht : (pc : Int) + off = (tgt : Int)) (kt : y < x → AW E R nL Q ad0 n0 cells slots tgt lv st h) (kf : ¬ y < x → AW E R nL Q ad0 n0 cells slots q lv st h) : AW E R nL Q ad0 n0 cells slots pc lv (.int y :: .int x :: st) h := by
  obtain ⟨p, l, e, s, m, args, below, meth, c, D, tc, sa, A⟩ := E
  subst hq
  obtain ⟨⟨hx, hb, hml, hown, hts⟩, hK, hT, hA, hr, hlk, hnm⟩ := hE
  intro ad H locs ls hP hD hS hl hn h0 h1
  exact lv_icmp_gt hx hb hd ht (fun z => kt z ad H locs ls hP hD hS hl hn h0 h1) (fun z => kf z ad H locs ls hP hD hS hl hn h0 h1)

theorem A_if_le (hE : AGood E cc nL own ret nm) (q tgt : Nat) {x  : Int32} {off : Int} (hd : decode cc pc = .ok (.ifCond .le off, 3)) (hq : pc + 3 = q) (ht : (pc : Int) + off = (tgt : Int)) (kt : x ≤ 0 → AW E R nL Q ad0 n0 cells slots tgt lv st h) (kf : ¬ x ≤ 0 → AW E R nL Q ad0 n0 cells slots q lv st h) : AW E R nL Q ad0 n0 cells slots pc lv (.int x :: st) h := by
  obtain ⟨p, l, e, s, m, args, below, meth, c, D, tc, sa, A⟩ := E
  subst hq
  obtain ⟨⟨hx, hb, hml, hown, hts⟩, hK, hT, hA, hr, hlk, hnm⟩ := hE
  intro ad H locs ls hP hD hS hl hn h0 h1
  exact lv_if_le hx hb hd ht (fun z => kt z ad H locs ls hP hD hS hl hn h0 h1) (fun z => kf z ad H locs ls hP hD hS hl hn h0 h1)

theorem A_icmp_le (hE : AGood E cc nL own ret nm) (q tgt : Nat) {x y : Int32} {off : Int} (hd : decode cc pc = .ok (.if_icmp .le off, 3)) (hq : pc + 3 = q) (ht : (pc : Int) + off = (tgt : Int)) (kt : x ≤ y → AW E R nL Q ad0 n0 cells slots tgt lv st h) (kf : ¬ x ≤ y → AW E R nL Q ad0 n0 cells slots q lv st h) : AW E R nL Q ad0 n0 cells slots pc lv (.int y :: .int x :: st) h := by
  obtain ⟨p, l, e, s, m, args, below, meth, c, D, tc, sa, A⟩ := E
  subst hq
  obtain ⟨⟨hx, hb, hml, hown, hts⟩, hK, hT, hA, hr, hlk, hnm⟩ := hE
  intro ad H locs ls hP hD hS hl hn h0 h1
  exact lv_icmp_le hx hb hd ht (fun z => kt z ad H locs ls hP hD hS hl hn h0 h1) (fun z => kf z ad H locs ls hP hD hS hl hn h0 h1)

theorem A_goto (hE : AGood E cc nL own ret nm) (tgt : Nat) {off : Int} (hd : decode cc pc = .ok (.goto off, 3)) (ht : (pc : Int) + off = (tgt : Int)) (kk : AW E R nL Q ad0 n0 cells slots tgt lv st h) : AW E R nL Q ad0 n0 cells slots pc lv st h := by
  obtain ⟨p, l, e, s, m, args, below, meth, c, D, tc, sa, A⟩ := E
  obtain ⟨⟨hx, hb, hml, hown, hts⟩, hK, hT, hA, hr, hlk, hnm⟩ := hE
  intro ad H locs ls hP hD hS hl hn h0 h1
  exact lv_goto hx hb hd ht (kk ad H locs ls hP hD hS hl hn h0 h1)
theorem A_tabIn (hE : AGood E cc nL own ret nm) (tgt : Nat) {x : Int32} {dflt lo hi off : Int} {offs : Array Int} {len : Nat} (hd : decode cc pc = .ok (.tableswitch dflt lo hi offs, len)) (h1 : ¬ x.toInt < lo) (h2 : ¬ hi < x.toInt) (ho : offs[(x.toInt - lo).toNat]? = some off) (ht : (pc : Int) + off = (tgt : Int)) (kk : AW E R nL Q ad0 n0 cells slots tgt lv st h) : AW E R nL Q ad0 n0 cells slots pc lv (.int x :: st) h := by
  obtain ⟨p, l, e, s, m, args, below, meth, c, D, tc, sa, A⟩ := E
  obtain ⟨⟨hx, hb, hml, hown, hts⟩, hK, hT, hA, hr, hlk, hnm⟩ := hE
  intro ad H locs ls hP hD hS hl hn h0 h1'
  exact lv_tableIn hx hb hd h1 h2 ho ht (kk ad H locs ls hP hD hS hl hn h0 h1')
theorem A_tabOut (hE : AGood E cc nL own ret nm) (tgt : Nat) {x : Int32} {dflt lo hi : Int} {offs : Array Int} {len : Nat} (hd : decode cc pc = .ok (.tableswitch dflt lo hi offs, len)) (h1 : x.toInt < lo ∨ hi < x.toInt) (ht : (pc : Int) + dflt = (tgt : Int)) (kk : AW E R nL Q ad0 n0 cells slots tgt lv st h) : AW E R nL Q ad0 n0 cells slots pc lv (.int x :: st) h := by
  obtain ⟨p, l, e, s, m, args, below, meth, c, D, tc, sa, A⟩ := E
  obtain ⟨⟨hx, hb, hml, hown, hts⟩, hK, hT, hA, hr, hlk, hnm⟩ := hE
  intro ad H locs ls hP hD hS hl hn h0 h1'
  exact lv_tableOut hx hb hd h1 ht (kk ad H locs ls hP hD hS hl hn h0 h1')
theorem A_lookup (hE : AGood E cc nL own ret nm) (tgt : Nat) {x : Int32} {dflt off : Int} {ps : Array (Int × Int)} {len : Nat} (hd : decode cc pc = .ok (.lookupswitch dflt ps, len)) (hp : (ps.toList.zip (ps.toList.drop 1)).all (fun (a, next) => a.1 < next.1) = true) (ho : Op.lookupswitch.offset ps.toList dflt x.toInt = off) (ht : (pc : Int) + off = (tgt : Int)) (kk : AW E R nL Q ad0 n0 cells slots tgt lv st h) : AW E R nL Q ad0 n0 cells slots pc lv (.int x :: st) h := by
  obtain ⟨p, l, e, s, m, args, below, meth, c, D, tc, sa, A⟩ := E
  obtain ⟨⟨hx, hb, hml, hown, hts⟩, hK, hT, hA, hr, hlk, hnm⟩ := hE
  intro ad H locs ls hP hD hS hl hn h0 h1
  exact lv_lookup hx hb hd hp ho ht (kk ad H locs ls hP hD hS hl hn h0 h1)

theorem A_alen (hE : AGood E cc nL own ret nm) (q : Nat) {i : Nat} {n : Nat} {f : Nat → Int32} (hd : decode cc pc = .ok (.arraylength, 1)) (hq : pc + 1 = q) (hh : getO h i = some (.inl (0, n, .inl f))) (kk : AW E R nL Q ad0 n0 cells slots q lv (.int (nI n) :: st) h) : AW E R nL Q ad0 n0 cells slots pc lv (.ref i :: st) h := by
  obtain ⟨p, l, e, s, m, args, below, meth, c, D, tc, sa, A⟩ := E
  subst hq
  obtain ⟨⟨hx, hb, hml, hown, hts⟩, hK, hT, hA, hr, hlk, hnm⟩ := hE
  intro ad H locs ls hP hD hS hl hn h0 h1
  exact va_alen hx hb hK hP i 0 (cw_get hh) rfl rfl hd (kk ad H locs ls hP hD hS hl hn h0 h1)
/-- an element at a place that is a small number -/
theorem A_iald (hE : AGood E cc nL own ret nm) (q k : Nat) {i n : Nat} {f : Nat → Int32} {x : Int32} (hd : decode cc pc = .ok (.iaload, 1)) (hq : pc + 1 = q) (hh : getO h i = some (.inl (0, n, .inl f))) (hx : x = nI k) (hk : k < n) (hn : Nat.ble n 1000 = true) (kk : AW E R nL Q ad0 n0 cells slots q lv (.int (f k) :: st) h) : AW E R nL Q ad0 n0 cells slots pc lv (.int x :: .ref i :: st) h := by
  have hn' : n ≤ 1000 := Nat.le_of_ble_eq_true hn
  subst hx
  refine A_iaload hE q hd hq hh (vp_in_nI hk (by omega)) ?_
  rw [nI_clamp (by omega)]
  exact kk
theorem A_iast (hE : AGood E cc nL own ret nm) (q k : Nat) {i n : Nat} {f : Nat → Int32} {x y : Int32} {h' : List AE} (hd : decode cc pc = .ok (.iastore, 1)) (hq : pc + 1 = q) (hh : getO h i = some (.inl (0, n, .inl f))) (hx : x = nI k) (hk : k < n) (hn : Nat.ble n 1000 = true) (hs : setO h i (.inl (0, n, .inl (upd f k y))) = some h') (kk : AW E R nL Q ad0 n0 cells slots q lv st h') : AW E R nL Q ad0 n0 cells slots pc lv (.int y :: .int x :: .ref i :: st) h := by
  have hn' : n ≤ 1000 := Nat.le_of_ble_eq_true hn
  subst hx
  refine A_iastore hE q hd hq hh (vp_in_nI hk (by omega)) ?_ kk
  rw [nI_clamp (by omega)]
  exact hs
theorem A_aald (hE : AGood E cc nL own ret nm) (q k : Nat) {i n j : Nat} {f : Nat → Option Nat} {x : Int32} (hd : decode cc pc = .ok (.aaload, 1)) (hq : pc + 1 = q) (hh : getO h i = some (.inl (1, n, .inr (.inr (.inr (.inr f)))))) (hx : x = nI k) (hk : k < n) (hn : Nat.ble n 1000 = true) (hj : f k = some j) (kk : AW E R nL Q ad0 n0 cells slots q lv (.ref j :: st) h) : AW E R nL Q ad0 n0 cells slots pc lv (.int x :: .ref i :: st) h := by
  have hn' : n ≤ 1000 := Nat.le_of_ble_eq_true hn
  subst hx
  obtain ⟨p, l, e, s, m, args, below, meth, c, D, tc, sa, A⟩ := E
  subst hq
  obtain ⟨⟨hx, hb, hml, hown, hts⟩, hK, hT, hA, hr, hlk, hnm⟩ := hE
  intro ad H locs ls hP hD hS hl hn h0 h1
  refine va_aldq hx hb hK hP i 1 (cw_get hh) rfl (vp_in_nI hk (by omega)) hd ?_
  rw [nI_clamp (by omega), hj]
  exact kk ad H locs ls hP hD hS hl hn h0 h1
theorem A_aast (hE : AGood E cc nL own ret nm) (q k : Nat) {i n j : Nat} {f : Nat → Option Nat} {fs : List Value} {x : Int32} {h' : List AE} (hd : decode cc pc = .ok (.aastore, 1)) (hq : pc + 1 = q) (hh : getO h i = some (.inl (1, n, .inr (.inr (.inr (.inr f)))))) (hj : getO h j = some (.inr (4, fs))) (hx : x = nI k) (hk : k < n) (hn : Nat.ble n 1000 = true) (hs : setO h i (.inl (1, n, .inr (.inr (.inr (.inr (va_up f k (some j))))))) = some h') (kk : AW E R nL Q ad0 n0 cells slots q lv st h') : AW E R nL Q ad0 n0 cells slots pc lv (.ref j :: .int x :: .ref i :: st) h := by
  have hn' : n ≤ 1000 := Nat.le_of_ble_eq_true hn
  subst hx
  obtain ⟨p, l, e, s, m, args, below, meth, c, D, tc, sa, A⟩ := E
  subst hq
  obtain ⟨⟨hx, hb, hml, hown, hts⟩, hK, hT, hA, hr, hlk, hnm⟩ := hE
  intro ad H locs ls hP hD hS hl hn h0 h1
  obtain ⟨e1, e2⟩ := cw_set (ad := ad) (sa := sa) (tc := tc) hs
  refine va_astq hx hb hK hP hD hS i 1 j 4 (cw_get hh) rfl (cw_get hj) rfl (vp_in_nI hk (by omega)) hd fun H1 locs1 hP1 hD1 hS1 => ?_
  rw [nI_clamp (by omega)] at hP1 hD1
  have e3 : (ce ad sa tc (.inl (1, n, .inr (.inr (.inr (.inr (va_up f k (some j)))))))) = .inl (tc 1, n, .inr (.inr (.inr (.inr (va_up (fun z => (f z).map ad) k (some (ad j))))))) := by
    show (Sum.inl (tc 1, n, .inr (.inr (.inr (.inr (fun z => (va_up f k (some j) z).map ad))))) : va_E) = _
    have e4 : (fun z => (va_up f k (some j) z).map ad) = va_up (fun z => (f z).map ad) k (some (ad j)) := by
      funext z
      by_cases hz : z = k
      · simp [va_up, hz]
      · simp [va_up, hz]
    rw [e4]
  rw [e3] at e1
  rw [← e1] at hP1 hD1
  exact kk ad H1 locs1 ls hP1 hD1 hS1 hl (e2.trans hn) h0 h1

theorem A_gsAbove (hE : AGood E cc nL own ret nm) (q : Nat) {idx : Nat} (hd : decode cc pc = .ok (.getstatic idx, 3)) (hq : pc + 3 = q) (hf : Cond.fieldLink own idx "LoanedRound" "ABOVE" "[I" ∈ lw_g) (kk : AW E R nL Q ad0 n0 cells slots q lv (.retAddr 0 :: st) h) : AW E R nL Q ad0 n0 cells slots pc lv st h := by
  obtain ⟨p, l, e, s, m, args, below, meth, c, D, tc, sa, A⟩ := E
  subst hq
  obtain ⟨⟨hx, hb, hml, hown, hts⟩, hK, hT, hA, hr, hlk, hnm⟩ := hE
  intro ad H locs ls hP hD hS hl hn h0 h1
  exact va_gets hx hb hT.1.1 hS hown (hts _ hf) (fun _ z => z) hd (kk ad H locs ls hP hD hS hl hn h0 h1)
theorem A_gsAboveN (hE : AGood E cc nL "LoanedRound$Voices" ret nm) (q : Nat) (hd : decode cc pc = .ok (.getstatic 60, 3)) (hq : pc + 3 = q) (kk : AW E R nL Q ad0 n0 cells slots q lv (.retAddr 0 :: st) h) : AW E R nL Q ad0 n0 cells slots pc lv st h := by
  obtain ⟨p, l, e, s, m, args, below, meth, c, D, tc, sa, A⟩ := E
  subst hq
  obtain ⟨⟨hx, hb, hml, hown, hts⟩, hK, hT, hA, hr, hlk, hnm⟩ := hE
  intro ad H locs ls hP hD hS hl hn h0 h1
  exact va_getsN hx hb hT.1.1 hS hown (va_Nw.use rfl hT.2.2.2.2.2.1) (fun _ z => z) hd (kk ad H locs ls hP hD hS hl hn h0 h1)
theorem A_gsBodies (hE : AGood E cc nL own ret nm) (q : Nat) {idx : Nat} (hd : decode cc pc = .ok (.getstatic idx, 3)) (hq : pc + 3 = q) (hf : Cond.fieldLink own idx "LoanedRound$Voices" "BODIES" "[I" ∈ lw_g) (kk : AW E R nL Q ad0 n0 cells slots q lv (.retAddr 1 :: st) h) : AW E R nL Q ad0 n0 cells slots pc lv st h := by
  obtain ⟨p, l, e, s, m, args, below, meth, c, D, tc, sa, A⟩ := E
  subst hq
  obtain ⟨⟨hx, hb, hml, hown, hts⟩, hK, hT, hA, hr, hlk, hnm⟩ := hE
  intro ad H locs ls hP hD hS hl hn h0 h1
  exact va_gets hx hb hT.2.1.1 hS hown (hts _ hf) (fun _ z => z) hd (kk ad H locs ls hP hD hS hl hn h0 h1)
theorem A_tabA (hE : AGood E cc nL own ret nm) (q k : Nat) {x : Int32} (hd : decode cc pc = .ok (.iaload, 1)) (hq : pc + 1 = q) (hx : x = nI k) (hk : k < 7) (v : Int32) (hv : aboveL.getD k 0 = v) (kk : AW E R nL Q ad0 n0 cells slots q lv (.int v :: st) h) : AW E R nL Q ad0 n0 cells slots pc lv (.int x :: .retAddr 0 :: st) h := by
  subst hx
  obtain ⟨p, l, e, s, m, args, below, meth, c, D, tc, sa, A⟩ := E
  subst hq
  obtain ⟨⟨hx, hb, hml, hown, hts⟩, hK, hT, hA, hr, hlk, hnm⟩ := hE
  intro ad H locs ls hP hD hS hl hn h0 h1
  exact va_ti hx hb hT.1.2 hS (vp_in_nI hk (by omega)) (by rw [nI_clamp (by omega), hv]; rfl) hd (kk ad H locs ls hP hD hS hl hn h0 h1)
theorem A_tabB (hE : AGood E cc nL own ret nm) (q k : Nat) {x : Int32} (hd : decode cc pc = .ok (.iaload, 1)) (hq : pc + 1 = q) (hx : x = nI k) (hk : k < 28) (v : Int32) (hv : bodiesL.getD k 0 = v) (kk : AW E R nL Q ad0 n0 cells slots q lv (.int v :: st) h) : AW E R nL Q ad0 n0 cells slots pc lv (.int x :: .retAddr 1 :: st) h := by
  subst hx
  obtain ⟨p, l, e, s, m, args, below, meth, c, D, tc, sa, A⟩ := E
  subst hq
  obtain ⟨⟨hx, hb, hml, hown, hts⟩, hK, hT, hA, hr, hlk, hnm⟩ := hE
  intro ad H locs ls hP hD hS hl hn h0 h1
  exact va_ti hx hb hT.2.1.2 hS (vp_in_nI hk (by omega)) (by rw [nI_clamp (by omega), hv]; rfl) hd (kk ad H locs ls hP hD hS hl hn h0 h1)
theorem A_ldcE (hE : AGood E cc nL RX1 ret nm) (q : Nat) (hd : decode cc pc = .ok (.ldc 23, 2)) (hq : pc + 2 = q) (kk : AW E R nL Q ad0 n0 cells slots q lv (.retAddr 2 :: st) h) : AW E R nL Q ad0 n0 cells slots pc lv st h := by
  obtain ⟨p, l, e, s, m, args, below, meth, c, D, tc, sa, A⟩ := E
  subst hq
  obtain ⟨⟨hx, hb, hml, hown, hts⟩, hK, hT, hA, hr, hlk, hnm⟩ := hE
  intro ad H locs ls hP hD hS hl hn h0 h1
  exact va_ldcS hx hb hown hT.2.2.2.2.1.1 hd (kk ad H locs ls hP hD hS hl hn h0 h1)
theorem A_ldcV (hE : AGood E cc nL RX1 ret nm) (q : Nat) (hd : decode cc pc = .ok (.ldc 36, 2)) (hq : pc + 2 = q) (kk : AW E R nL Q ad0 n0 cells slots q lv (.retAddr 3 :: st) h) : AW E R nL Q ad0 n0 cells slots pc lv st h := by
  obtain ⟨p, l, e, s, m, args, below, meth, c, D, tc, sa, A⟩ := E
  subst hq
  obtain ⟨⟨hx, hb, hml, hown, hts⟩, hK, hT, hA, hr, hlk, hnm⟩ := hE
  intro ad H locs ls hP hD hS hl hn h0 h1
  exact va_ldcS hx hb hown hT.2.2.2.2.1.2.1 hd (kk ad H locs ls hP hD hS hl hn h0 h1)
theorem A_ldcL (hE : AGood E cc nL RX1 ret nm) (q : Nat) (hd : decode cc pc = .ok (.ldc 38, 2)) (hq : pc + 2 = q) (kk : AW E R nL Q ad0 n0 cells slots q lv (.retAddr 4 :: st) h) : AW E R nL Q ad0 n0 cells slots pc lv st h := by
  obtain ⟨p, l, e, s, m, args, below, meth, c, D, tc, sa, A⟩ := E
  subst hq
  obtain ⟨⟨hx, hb, hml, hown, hts⟩, hK, hT, hA, hr, hlk, hnm⟩ := hE
  intro ad H locs ls hP hD hS hl hn h0 h1
  exact va_ldcS hx hb hown hT.2.2.2.2.1.2.2 hd (kk ad H locs ls hP hD hS hl hn h0 h1)

theorem A_mmax (hE : AGood E cc nL own ret nm) (q : Nat) {idx : Nat} {x y : Int32} (hd : decode cc pc = .ok (.invokestatic idx, 3)) (hq : pc + 3 = q) (hlkk : Cond.methodLink own idx Lib.Math.max.name ∈ lw_g) (hst : Cond.static Lib.Math.max.name ∈ lw_g) (hcd : Cond.code Lib.Math.max.name Lib.Math.max.code 2 (some .int) ∈ lw_g) (hin : Cond.initialized "java/lang/Math" ∈ lw_g) (hfr : Nat.ble 1 R.frames = true) (hlo : ((st.map (cv (fun _ => 0) (fun _ => 0))).map fun v => v.category).sum + 13 ≤ R.locals) (hc : cells ≤ R.cells) (hs : slots ≤ R.slots) (kk : AW E R nL Q ad0 n0 cells slots q lv (.int (if x < y then y else x) :: st) h) : AW E R nL Q ad0 n0 cells slots pc lv (.int y :: .int x :: st) h := by
  obtain ⟨p, l, e, s, m, args, below, meth, c, D, tc, sa, A⟩ := E
  subst hq
  obtain ⟨⟨hx, hb, hml, hown, hts⟩, hK, hT, hA, hr, hlk, hnm⟩ := hE
  intro ad H locs ls hP hD hS hl hn h0 h1
  have hcat : ((st.map (cv ad sa)).map fun v => v.category) = ((st.map (cv (fun _ => 0) (fun _ => 0))).map fun v => v.category) := by
    rw [List.map_map, List.map_map]
    refine List.map_congr_left fun v _ => ?_
    cases v <;> rfl
  exact va_mmax hx hb (hml.trans hl.1.symm) hown (hts _ hlkk) (hts _ hst) (hts _ hin) (hts _ hcd) (Nat.le_of_ble_eq_true hfr) (by rw [hcat]; exact hlo) hc hs hd (kk ad H locs ls hP hD hS hl hn h0 h1)
theorem A_mmin (hE : AGood E cc nL own ret nm) (q : Nat) {idx : Nat} {x y : Int32} (hd : decode cc pc = .ok (.invokestatic idx, 3)) (hq : pc + 3 = q) (hlkk : Cond.methodLink own idx Lib.Math.min.name ∈ lw_g) (hst : Cond.static Lib.Math.min.name ∈ lw_g) (hcd : Cond.code Lib.Math.min.name Lib.Math.min.code 2 (some .int) ∈ lw_g) (hin : Cond.initialized "java/lang/Math" ∈ lw_g) (hfr : Nat.ble 1 R.frames = true) (hlo : ((st.map (cv (fun _ => 0) (fun _ => 0))).map fun v => v.category).sum + 13 ≤ R.locals) (hc : cells ≤ R.cells) (hs : slots ≤ R.slots) (kk : AW E R nL Q ad0 n0 cells slots q lv (.int (if y < x then y else x) :: st) h) : AW E R nL Q ad0 n0 cells slots pc lv (.int y :: .int x :: st) h := by
  obtain ⟨p, l, e, s, m, args, below, meth, c, D, tc, sa, A⟩ := E
  subst hq
  obtain ⟨⟨hx, hb, hml, hown, hts⟩, hK, hT, hA, hr, hlk, hnm⟩ := hE
  intro ad H locs ls hP hD hS hl hn h0 h1
  have hcat : ((st.map (cv ad sa)).map fun v => v.category) = ((st.map (cv (fun _ => 0) (fun _ => 0))).map fun v => v.category) := by
    rw [List.map_map, List.map_map]
    refine List.map_congr_left fun v _ => ?_
    cases v <;> rfl
  exact va_mmin hx hb (hml.trans hl.1.symm) hown (hts _ hlkk) (hts _ hst) (hts _ hin) (hts _ hcd) (Nat.le_of_ble_eq_true hfr) (by rw [hcat]; exact hlo) hc hs hd (kk ad H locs ls hP hD hS hl hn h0 h1)
theorem A_objInit (hE : AGood E cc nL own ret nm) (q : Nat) {idx i : Nat} (hd : decode cc pc = .ok (.invokespecial idx, 3)) (hq : pc + 3 = q) (hlkk : Cond.methodLink own idx Lib.objectInit ∈ lw_g) (hin : Cond.instanceMethod Lib.objectInit ∈ lw_g) (hcd : Cond.code Lib.objectInit ⟨#[0xb1]⟩ 1 none ∈ lw_g) (hfr : Nat.ble 1 R.frames = true) (hlo : ((st.map (cv (fun _ => 0) (fun _ => 0))).map fun v => v.category).sum + 12 ≤ R.locals) (kk : AW E R nL Q ad0 n0 cells slots q lv st h) : AW E R nL Q ad0 n0 cells slots pc lv (.ref i :: st) h := by
  obtain ⟨p, l, e, s, m, args, below, meth, c, D, tc, sa, A⟩ := E
  subst hq
  obtain ⟨⟨hx, hb, hml, hown, hts⟩, hK, hT, hA, hr, hlk, hnm⟩ := hE
  intro ad H locs ls hP hD hS hl hn h0 h1
  have hcat : ((st.map (cv ad sa)).map fun v => v.category) = ((st.map (cv (fun _ => 0) (fun _ => 0))).map fun v => v.category) := by
    rw [List.map_map, List.map_map]
    refine List.map_congr_left fun v _ => ?_
    cases v <;> rfl
  refine W.objInit hx hb hown (hts _ hlkk) (hts _ hin) (hts _ hcd) rfl (hl.1.trans hml.symm) rfl hd (Nat.le_of_ble_eq_true hfr) ?_ (kk ad H locs ls hP hD hS hl hn h0 h1)
  rw [hcat]
  show 2 * 0 + _ + 12 ≤ _
  omega

theorem A_copyi (hE : AGood E cc nL own ret nm) (q : Nat) {idx i j n0' n1 : Nat} {f g : Nat → Int32} {sp dp n : Int32} {h' : List AE} (hd : decode cc pc = .ok (.invokestatic idx, 3)) (hq : pc + 3 = q) (hlkk : Cond.methodLink own idx arraycopyName ∈ lw_g) (hnt : Cond.native arraycopyName ∈ lw_g) (hst : Cond.static arraycopyName ∈ lw_g) (hin : Cond.initialized "java/lang/System" ∈ lw_g) (hf : getO h i = some (.inl (0, n0', .inl f))) (hg : getO h j = some (.inl (0, n1, .inl g))) (a1 : ¬ sp < 0) (a2 : ¬ dp < 0) (a3 : ¬ n < 0) (a4 : sp.toNatClampNeg + n.toNatClampNeg ≤ n0') (a5 : dp.toNatClampNeg + n.toNatClampNeg ≤ n1) (hfr : Nat.ble 1 R.frames = true) (hlo : ((st.map (cv (fun _ => 0) (fun _ => 0))).map fun v => v.category).sum + (nativeFrameWords "java/lang/System" "arraycopy" 5 + 11) ≤ R.locals) (hs : setO h j (.inl (0, n1, .inl (va_cpy f g sp.toNatClampNeg dp.toNatClampNeg n.toNatClampNeg))) = some h') (kk : AW E R nL Q ad0 n0 cells slots q lv st h') : AW E R nL Q ad0 n0 cells slots pc lv (.int n :: .int dp :: .ref j :: .int sp :: .ref i :: st) h := by
  obtain ⟨p, l, e, s, m, args, below, meth, c, D, tc, sa, A⟩ := E
  subst hq
  obtain ⟨⟨hx, hb, hml, hown, hts⟩, hK, hT, hA, hr, hlk, hnm⟩ := hE
  intro ad H locs ls hP hD hS hl hn h0 h1
  have hcat : ((st.map (cv ad sa)).map fun v => v.category) = ((st.map (cv (fun _ => 0) (fun _ => 0))).map fun v => v.category) := by
    rw [List.map_map, List.map_map]
    refine List.map_congr_left fun v _ => ?_
    cases v <;> rfl
  obtain ⟨e1, e2⟩ := cw_set (ad := ad) (sa := sa) (tc := tc) hs
  refine va_copyi hx hb (hml.trans hl.1.symm) hown (hts _ hlkk) (hts _ hnt) (hts _ hst) (hts _ hin) hK hP hD hS i j 0 0 (cw_get hf) (cw_get hg) rfl rfl rfl a1 a2 a3 a4 a5 (fun _ _ => rfl) (Nat.le_of_ble_eq_true hfr) (by rw [hcat]; exact hlo) hd fun H1 locs1 hP1 hD1 hS1 => ?_
  have hP1 : va_P D vwCl ((cw ad sa tc h).set j (ad j, ce ad sa tc (.inl (0, n1, .inl (va_cpy f g sp.toNatClampNeg dp.toNatClampNeg n.toNatClampNeg))))) H1 := hP1
  have hD1 : va_D A ((cw ad sa tc h).set j (ad j, ce ad sa tc (.inl (0, n1, .inl (va_cpy f g sp.toNatClampNeg dp.toNatClampNeg n.toNatClampNeg))))) := hD1
  rw [← e1] at hP1 hD1
  exact kk ad H1 locs1 ls hP1 hD1 hS1 hl (e2.trans hn) h0 h1
end ROWS2
