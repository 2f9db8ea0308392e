theorem dfX9 : ∀ j, j < 20 → defaultValue (tyX9 j) = vp_V [.null, .null, .null, .int 0, .null, .int 0, .int 0, .int 0, .int 0, .null, .null, .null, .int 0, .null, .int 0, .int 0, .null, .null, .null, .null] j := fun j hj => match j, hj with
  | 0, _ => rfl
  | 1, _ => rfl
  | 2, _ => rfl
  | 3, _ => rfl
  | 4, _ => rfl
  | 5, _ => rfl
  | 6, _ => rfl
  | 7, _ => rfl
  | 8, _ => rfl
  | 9, _ => rfl
  | 10, _ => rfl
  | 11, _ => rfl
  | 12, _ => rfl
  | 13, _ => rfl
  | 14, _ => rfl
  | 15, _ => rfl
  | 16, _ => rfl
  | 17, _ => rfl
  | 18, _ => rfl
  | 19, _ => rfl
  | j + 20, h => absurd h (by omega)
theorem wf_s0 : wf s0 := by
  have e8 : s0 8 = 0 := rfl
  have e4 : s0 4 = 0 := rfl
  have eh : hn s0 = 0 := by unfold hn; rw [e8]; rfl
  have ea : atN s0 = 0 := by unfold atN; rw [e4]; rfl
  unfold wf
  rw [eh, ea, e8, e4]
  refine ⟨Nat.zero_le _, rfl, rfl, Or.inr ⟨rfl, rfl⟩, fun h _ => ?_, ⟨99, by omega, rfl⟩, ⟨7, by omega, by omega, rfl⟩⟩
  unfold wfH
  rw [its0, its0, its0, its0, its0]
  exact ⟨⟨0, by omega, rfl⟩, ⟨0, by omega, rfl⟩, ⟨0, by omega, rfl⟩, ⟨0, by omega, rfl⟩, Or.inl rfl, fun _ => ⟨rfl, rfl, rfl⟩⟩
theorem MT0 (u : Nat) : MText s0 u [] := ⟨(LawC.nil u (fun _ => 0)).1, by
  show s0 (49 + 125 * u) = 0
  unfold s0
  rw [upd_n (by omega), upd_n (by omega), upd_n (by omega)], fun i hi => absurd hi (Nat.not_lt_zero i)⟩
theorem JI0 : JI 0 (Y71 (fun _ => 0) 0 s0 [] (fun _ => 0) (fun _ => 0) [] (fun _ => 0) (fun _ => 0) 0 (fun _ => 0) 0 (fun _ => 0) (-1) 0 s0 0 0 0 0 0 (fun _ => 0) (.ref 30) (.retAddr 2) 0 (-1) 0 (fun _ => 0) s0 0 (fun _ => 0) (fun _ => 0) 0 (fun _ => 0) (fun _ => 0) 0 (fun _ => 0) 0 (fun _ => 0) (fun _ => 0) (fun _ => 0) (fun _ _ => 0) 0 (fun _ => 0) (fun _ => 0) 0 (fun _ => 0) (fun _ => 0)) (MW s0 (fun _ => 0) (fun _ => 0) (fun _ => 0) (fun _ => 0) (fun _ => 0) (fun _ => 0) (fun _ => 0) (fun _ => 0) (fun _ => 0) (fun _ => 0) (fun _ => 0) 0 0 0 0 0 0 0 0) :=
  ⟨(fun _ => 0), 0, s0, [], (fun _ => 0), (fun _ => 0), [], (fun _ => 0), (fun _ => 0), 0, (fun _ => 0), 0, (fun _ => 0), (-1), 0, s0, 0, 0, 0, 0, 0, (fun _ => 0), (.ref 30), 2, 0, (-1), 0, (fun _ => 0), s0, 0, (fun _ => 0), (fun _ => 0), 0, (fun _ => 0), (fun _ => 0), 0, (fun _ => 0), 0, (fun _ => 0), (fun _ => 0), (fun _ => 0), (fun _ _ => 0), 0, (fun _ => 0), (fun _ => 0), 0, (fun _ => 0), (fun _ => 0), (fun _ => 0), (fun _ => 0), (fun _ => 0), (fun _ => 0), (fun _ => 0), (fun _ => 0), (fun _ => 0), (fun _ => 0), 0, 0, 0, 0, 0, 0, eqvH_rf _, rfl, ⟨wf_s0, ⟨MT0 0, MT0 1⟩, ⟨LawC.nil 0 _, LawC.nil 1 _⟩, ⟨rfl, Nat.zero_le _, fun i hi => absurd hi (Nat.not_lt_zero i)⟩, ⟨rfl, Nat.zero_le _, fun i hi => absurd hi (Nat.not_lt_zero i)⟩⟩, Nat.zero_le _, Or.inl rfl, ⟨0, Nat.le_refl _, rfl⟩, ⟨Nat.zero_le _, Nat.zero_le _⟩, Or.inl rfl, fun k _ => ⟨Nat.zero_le _, rfl, fun i hi => absurd hi (Nat.not_lt_zero i)⟩, fun k _ => Or.inl rfl⟩
def flL : List Cond := flatC (Jvm.Cond.and given_1 narrow_1)
def tA : Term := .static "LoanedRound" "ABOVE" "[I"
def tB : Term := .static "LoanedRound$Voices" "BODIES" "[I"
def tS (i : Nat) : Term := .string "LoanedRound$Reader" ([23, 36, 38].getD i 0)
theorem tb_start {args : Array Value} {s : State} (hts : ∀ w ∈ lw_tbl, w.before args s = true) (hgv : (Jvm.Cond.and given_1 narrow_1).before args s = true) {A : Nat → Prop} (hA : ∀ a : Nat, a < s.heap.size → ¬ A a) (b : Nat) : ∃ sa : Nat → Nat, sa 8 = b ∧ TB sa A s s.heap := by
  have hs : ∀ w ∈ flL, w.before args s = true := flat_of_before _ hgv
  have kA : ∀ j, j < 7 → Cond.eq (.elem tA (.int (Int32.ofNat j))) (.int (aboveL.getD j 0)) ∈ flL := by decide +kernel
  have kB : ∀ j, j < 28 → Cond.eq (.elem tB (.int (Int32.ofNat j))) (.int (bodiesL.getD j 0)) ∈ flL := by decide +kernel
  obtain ⟨t0, e0, T0⟩ := va_Tof (args := args) (s := s) (tm := tA) (ty := .int) (N := 7) (f := fun j => .int (aboveL.getD j 0)) (A := A) (by decide) (hs (.arrayOf tA .int) (by decide +kernel)) (va_eqt (hs (.eq (.length tA) (.int 7)) (by decide +kernel))) (fun j hj => va_eqt (hs _ (kA j hj))) hA
  obtain ⟨t1, e1, T1⟩ := va_Tof (args := args) (s := s) (tm := tB) (ty := .int) (N := 28) (f := fun j => .int (bodiesL.getD j 0)) (A := A) (by decide) (hs (.arrayOf tB .int) (by decide +kernel)) (va_eqt (hs (.eq (.length tB) (.int 28)) (by decide +kernel))) (fun j hj => va_eqt (hs _ (kB j hj))) hA
  have q1 : ∀ i, i < 3 → Cond.exactly (tS i) "java/lang/String" ∈ flL := by decide +kernel
  have q2 : ∀ i, i < 3 → Cond.eq (.field (tS i) "java/lang/String" "coder" "B") (.int 0) ∈ flL := by decide +kernel
  have q3 : ∀ i, i < 3 → Cond.arrayOf (.field (tS i) "java/lang/String" "value" "[B") .byte ∈ flL := by decide +kernel
  have q4 : ∀ i, i < 3 → Cond.eq (.length (.field (tS i) "java/lang/String" "value" "[B")) (.int (Int32.ofNat (strLen.getD i 0))) ∈ flL := by decide +kernel
  have q5 : ∀ i, i < 3 → ∀ j, j < strLen.getD i 0 → Cond.eq (.elem (.field (tS i) "java/lang/String" "value" "[B") (.int (Int32.ofNat j))) (.int ((strByt.getD i []).getD j 0)) ∈ flL := by decide +kernel
  have q6 : ∀ i, i < 3 → ∀ j, j < 3 → i ≠ j → Cond.not (Cond.eq (tS i) (tS j)) ∈ flL ∨ Cond.not (Cond.eq (tS j) (tS i)) ∈ flL := by decide +kernel
  obtain ⟨adK, adV, hS, hE⟩ := vk_Sof (args := args) (s := s) (N := 3) (tm := tS) (len := strLen) (byt := strByt) (A := A) (by decide) (fun i hi => hs _ (q1 i hi)) (fun i hi => hs _ (q2 i hi)) (fun i hi => hs _ (q3 i hi)) (fun i hi => hs _ (q4 i hi)) (fun i hi j hj => hs _ (q5 i hi j hj)) (fun i j hi hj hn => (q6 i hi j hj hn).imp (hs _) (hs _)) hA
  obtain ⟨sa, h0, h1, h8, hK, hV⟩ : ∃ sa : Nat → Nat, sa 0 = t0 ∧ sa 1 = t1 ∧ sa 8 = b ∧ (∀ i, i < 3 → sa (2 + i) = adK i) ∧ ∀ i, i < 3 → sa (5 + i) = adV i := by
    refine ⟨fun i => if i = 0 then t0 else if i = 1 then t1 else if i < 5 then adK (i - 2) else if i < 8 then adV (i - 5) else b, rfl, rfl, rfl, fun i hi => ?_, fun i hi => ?_⟩
    · rcases (show i = 0 ∨ i = 1 ∨ i = 2 by omega) with rfl | rfl | rfl <;> rfl
    · rcases (show i = 0 ∨ i = 1 ∨ i = 2 by omega) with rfl | rfl | rfl <;> rfl
  subst h0
  subst h1
  refine ⟨sa, h8, ⟨va_Zref (hts (.laysStatic "LoanedRound" "ABOVE" "[I") (by decide +kernel)) (hts (.initialized "LoanedRound") (by decide +kernel)) e0 hA, T0⟩, ⟨va_Zref (hts (.laysStatic "LoanedRound$Voices" "BODIES" "[I") (by decide +kernel)) (hts (.initialized "LoanedRound$Voices") (by decide +kernel)) e1 hA, T1⟩, va_Zof (hts (.laysStatic "java/lang/String" "COMPACT_STRINGS" "Z") (by decide +kernel)) (hts (.initialized "java/lang/String") (by decide +kernel)) (va_eqt (hs (.eq (.static "java/lang/String" "COMPACT_STRINGS" "Z") (.int 1)) (by decide +kernel))) hA, ⟨fun i hi => ?_, fun i j hi hj e => ?_⟩, ⟨?_, ?_, ?_⟩, va_Nw.of (by decide +kernel) (hts nestF (by decide +kernel)), va_Nw.of (by decide +kernel) (hts nestM (by decide +kernel)), va_AO.of (hts (.arrayOver (.object RX4)) (by decide +kernel))⟩
  · have h2 := hS.1 i hi
    rw [← hK i hi, ← hV i hi] at h2
    exact h2
  · exact hS.2 i j hi hj (by rw [← hK i hi, ← hK j hj]; exact e)
  · exact vk_R.of (hts (.stringRef RX1 23 "") (by decide +kernel)) (by have h2 := hE 0 (by omega); rw [← hK 0 (by omega)] at h2; exact h2)
  · exact vk_R.of (hts (.stringRef RX1 36 "svd") (by decide +kernel)) (by have h2 := hE 1 (by omega); rw [← hK 1 (by omega)] at h2; exact h2)
  · exact vk_R.of (hts (.stringRef RX1 38 "lsd") (by decide +kernel)) (by have h2 := hE 2 (by omega); rw [← hK 2 (by omega)] at h2; exact h2)
theorem vk_start {args : Array Value} {s : State} (hts : ∀ w ∈ lw_tbl, w.before args s = true) (htg : ∀ w ∈ lw_g, w.before args s = true) : ∃ (D : va_G) (tc : Nat → ClassId), va_K D vwCl (tysO tc) s := by
  have h : ∀ (k : Nat) (q : vw_C), vwCl[k]? = some q → ∃ (cC : ClassId) (iS : Nat → Nat), u_Kn s q.1 q.2.1 q.2.2 cC iS := by
    intro k q hq
    match k, hq with
    | 0, hq => cases hq; exact u_known htg layX0 (htg _ insX0)
    | 1, hq => cases hq; exact u_known htg layX1 (htg _ insX1)
    | 2, hq => cases hq; exact u_known htg layX2 (htg _ insX2)
    | 3, hq => cases hq; exact u_known htg layX3 (htg _ insX3)
    | 4, hq => cases hq; exact u_known htg layX4 (htg _ insX4)
    | 5, hq => cases hq; exact u_known htg layX5 (htg _ insX5)
    | 6, hq => cases hq; exact u_known htg layX6 (htg _ insX6)
    | 7, hq => cases hq; exact u_known htg layX7 (htg _ insX7)
    | 8, hq => cases hq; exact u_known htg layX8 (htg _ insX8)
    | 9, hq => cases hq; exact u_known htg layX9 (htg _ insX9)
    | k + 10, hq => simp [vwCl] at hq
  have h2 : ∀ k : Nat, ∃ z : ClassId × (Nat → Nat), ∀ q : vw_C, vwCl[k]? = some q → u_Kn s q.1 q.2.1 q.2.2 z.1 z.2 := by
    intro k
    cases hq : vwCl[k]? with
    | none =>
      obtain ⟨c0, i0, -⟩ := h 0 _ rfl
      exact ⟨(c0, i0), fun q h => by cases h⟩
    | some q0 =>
      obtain ⟨c0, i0, h3⟩ := h k q0 hq
      exact ⟨(c0, i0), fun q hq2 => by cases hq2; exact h3⟩
  obtain ⟨z, hz⟩ := Classical.axiomOfChoice h2
  obtain ⟨c1, k1, p1, f1, f2, f3⟩ := Cond.arrayClass_spec (htg _ arrC_70)
  obtain ⟨p2, c2, k2, g1, -, g2, g3, g4⟩ := Cond.arrayOver_spec (hts (.arrayOver (.object RX4)) (by decide +kernel))
  refine ⟨(fun k => (z k).1, fun k => (z k).2), fun k => if k = 0 then c1 else c2, fun c q hq => hz c q hq, fun k q hk => ?_⟩
  match k, hk with
  | 0, hk => cases hk; exact ⟨fun n y => ⟨fun k h => (by cases h), k1, f2, p1, f3⟩, f1⟩
  | 1, hk => cases hk; exact ⟨fun n y => ⟨fun k h => (by cases h), k2, g2, p2, g3⟩, k2, p2, g2, g3, g1, g4⟩
  | k + 2, hk => simp [tysO] at hk
theorem shF_lt {j i L : Nat} (h : shF j = some i) (hL : 60 < L) : i < L := by
  unfold shF at h
  repeat' split at h
  all_goals first | (cases h; done) | (cases h; omega)
theorem refH_app {L : Nat} {a b : List AE} (h1 : refH L a) (h2 : refH L b) : refH L (a ++ b) := fun e he => (List.mem_append.mp he).elim (h1 e) (h2 e)
set_option maxRecDepth 100000 in
theorem y0_71 : refH 71 (Y71 (fun _ => 0) 0 s0 [] (fun _ => 0) (fun _ => 0) [] (fun _ => 0) (fun _ => 0) 0 (fun _ => 0) 0 (fun _ => 0) (-1) 0 s0 0 0 0 0 0 (fun _ => 0) (.ref 30) (.retAddr 2) 0 (-1) 0 (fun _ => 0) s0 0 (fun _ => 0) (fun _ => 0) 0 (fun _ => 0) (fun _ => 0) 0 (fun _ => 0) 0 (fun _ => 0) (fun _ => 0) (fun _ => 0) (fun _ _ => 0) 0 (fun _ => 0) (fun _ => 0) 0 (fun _ => 0) (fun _ => 0)) := refH_cons rfl (refH_cons trivial (refH_cons rfl (refH_cons rfl (refH_cons rfl (refH_cons trivial (refH_cons trivial (refH_cons rfl (refH_cons rfl (refH_cons trivial (refH_cons trivial (refH_cons rfl (refH_cons trivial (refH_cons trivial (refH_cons trivial (refH_cons trivial (refH_cons rfl (refH_cons trivial (refH_cons rfl (refH_cons trivial (refH_cons rfl (refH_cons rfl (refH_cons trivial (refH_cons trivial (refH_cons trivial (refH_cons trivial (refH_cons rfl (refH_cons rfl (refH_cons trivial (refH_cons rfl (refH_cons rfl (refH_cons trivial (refH_cons rfl (refH_cons rfl (refH_cons rfl (refH_cons trivial (refH_cons trivial (refH_cons rfl (refH_cons rfl (refH_cons trivial (refH_cons trivial (refH_cons rfl (refH_cons trivial (refH_cons trivial (refH_cons trivial (refH_cons trivial (refH_cons rfl (refH_cons trivial (refH_cons rfl (refH_cons trivial (refH_cons (fun j i hj => shF_lt hj (by decide)) (refH_cons rfl (refH_cons rfl (refH_cons trivial (refH_cons rfl (refH_cons rfl (refH_cons trivial (refH_cons rfl (refH_cons rfl (refH_cons trivial (refH_cons rfl (refH_cons rfl (refH_cons trivial (refH_cons rfl (refH_cons rfl (refH_cons trivial (refH_cons trivial (refH_cons rfl (refH_cons rfl (refH_cons trivial (refH_cons trivial (refH_nil)))))))))))))))))))))))))))))))))))))))))))))))))))))))))))))))))))))))
set_option maxRecDepth 100000 in
theorem y0_72 : refH 72 (Y71 (fun _ => 0) 0 s0 [] (fun _ => 0) (fun _ => 0) [] (fun _ => 0) (fun _ => 0) 0 (fun _ => 0) 0 (fun _ => 0) (-1) 0 s0 0 0 0 0 0 (fun _ => 0) (.ref 30) (.retAddr 2) 0 (-1) 0 (fun _ => 0) s0 0 (fun _ => 0) (fun _ => 0) 0 (fun _ => 0) (fun _ => 0) 0 (fun _ => 0) 0 (fun _ => 0) (fun _ => 0) (fun _ => 0) (fun _ _ => 0) 0 (fun _ => 0) (fun _ => 0) 0 (fun _ => 0) (fun _ => 0)) := refH_cons rfl (refH_cons trivial (refH_cons rfl (refH_cons rfl (refH_cons rfl (refH_cons trivial (refH_cons trivial (refH_cons rfl (refH_cons rfl (refH_cons trivial (refH_cons trivial (refH_cons rfl (refH_cons trivial (refH_cons trivial (refH_cons trivial (refH_cons trivial (refH_cons rfl (refH_cons trivial (refH_cons rfl (refH_cons trivial (refH_cons rfl (refH_cons rfl (refH_cons trivial (refH_cons trivial (refH_cons trivial (refH_cons trivial (refH_cons rfl (refH_cons rfl (refH_cons trivial (refH_cons rfl (refH_cons rfl (refH_cons trivial (refH_cons rfl (refH_cons rfl (refH_cons rfl (refH_cons trivial (refH_cons trivial (refH_cons rfl (refH_cons rfl (refH_cons trivial (refH_cons trivial (refH_cons rfl (refH_cons trivial (refH_cons trivial (refH_cons trivial (refH_cons trivial (refH_cons rfl (refH_cons trivial (refH_cons rfl (refH_cons trivial (refH_cons (fun j i hj => shF_lt hj (by decide)) (refH_cons rfl (refH_cons rfl (refH_cons trivial (refH_cons rfl (refH_cons rfl (refH_cons trivial (refH_cons rfl (refH_cons rfl (refH_cons trivial (refH_cons rfl (refH_cons rfl (refH_cons trivial (refH_cons rfl (refH_cons rfl (refH_cons trivial (refH_cons trivial (refH_cons rfl (refH_cons rfl (refH_cons trivial (refH_cons trivial (refH_nil)))))))))))))))))))))))))))))))))))))))))))))))))))))))))))))))))))))))
set_option maxRecDepth 100000 in
theorem whole_start {p : Program} {e : Env} {s : State} {m : MethodId} {below : List Frame} {meth : Method} {c : Code} (l : Launch) (hflags : l.flags = flags0) {b L : Nat} {xs : Nat → Int32} (hL : L ≤ 3072) (C0 : lw_At p s m meth c b L xs) : W p l e room_1 s m #[Value.ref b] below meth c s.heap [] 0 0 (lw_Z below #[Value.ref b] s) (entryFrame m ([Value.ref b] : List Value).toArray 4) := by
  obtain ⟨hx, hb, hr, hml, hown, hts, hX, hbl, hlocks, hgv⟩ := id C0
  have hA : ∀ q : Nat, s.heap.size ≤ q → (fun q : Nat => s.heap.size ≤ q) q := fun _ h => h
  have hnA : ∀ a : Nat, a < s.heap.size → ¬ (fun q : Nat => s.heap.size ≤ q) a := fun a h => Nat.not_le.mpr h
  obtain ⟨sa, s8, hT⟩ := tb_start hts hgv hnA b
  have htg : ∀ w ∈ lw_g, w.before #[Value.ref b] s = true := fun w hw => hts w (List.mem_filter.mp hw).1
  obtain ⟨D, tc, hK⟩ := vk_start hts htg
  obtain ⟨E, hEe⟩ : ∃ E : AV, E = (p, l, e, s, m, #[Value.ref b], below, meth, c, D, tc, sa, fun q : Nat => s.heap.size ≤ q) := ⟨_, rfl⟩
  have hE : AGood E cL_law 4 RL (some .boolean) meth.name := by
    rw [hEe]
    exact ⟨⟨hx, hb, hml, hown, htg⟩, hK, hT, hA, hr, hlocks, rfl⟩
  have hXE : LX E b L xs := by
    rw [hEe]
    exact ⟨hX, hbl, hnA b hbl, s8, rfl, fun q h => h, hL⟩
  have key : AW E room_1 4 (QL E b) (fun _ => 0) 0 0 0 0 [(0, .retAddr 8)] [] [] := by
    refine A_new (ci := 8) hE 3 dL_law_0 rfl rfl layX8 tyX8 tyX8_ok clL_7 insX8 iniX8 [.null, .null, .null, .null, .null, .null, .null, .int 0] dfX8 rfl 0 rfl refH_nil rfl rfl (Nat.le_of_ble_eq_true rfl) (Nat.le_of_ble_eq_true rfl) ?_
    refine A_h ([.inr (8, [.null, .null, .null, .null, .null, .null, .null, .int 0])]) rfl ?_
    refine A_dup hE 4 dL_law_3 rfl rfl ?_
    refine A_callI hE 7 c_X8_init [0] [0, 1, 2, 3, 4, 5, 6, 7, 8, 9, 10, 11, 12, 13, 14, 15, 16, 17, 18, 19, 20, 21, 22, 23, 24, 25, 26, 27, 28, 29, 30, 31, 32, 33, 34, 35, 36, 37, 38, 39, 40, 41, 42, 43, 44, 45, 46, 47, 48, 49, 50, 51, 52, 53, 54, 55, 56, 57, 58, 59, 60, 61, 62, 63, 64, 65, 66, 67, 68, 69, 70] dL_law_4 rfl mkL_9 rfl rfl rfl rfl rfl rfl 1 rfl (refH_cons rfl refH_nil) rfl rfl (fun h' e => by subst e; exact y0_71) rfl rfl (Nat.le_of_ble_eq_true rfl) (Nat.le_of_ble_eq_true rfl) rfl (fun h4 g4 hp4 hw4 => ?_) (by decide)
    subst hp4
    refine A_h (Y71 (fun _ => 0) 0 s0 [] (fun _ => 0) (fun _ => 0) [] (fun _ => 0) (fun _ => 0) 0 (fun _ => 0) 0 (fun _ => 0) (-1) 0 s0 0 0 0 0 0 (fun _ => 0) (.ref 30) (.retAddr 2) 0 (-1) 0 (fun _ => 0) s0 0 (fun _ => 0) (fun _ => 0) 0 (fun _ => 0) (fun _ => 0) 0 (fun _ => 0) 0 (fun _ => 0) (fun _ => 0) (fun _ => 0) (fun _ _ => 0) 0 (fun _ => 0) (fun _ => 0) 0 (fun _ => 0) (fun _ => 0)) (by
      have e := wbO_rg ([.inr (8, [.null, .null, .null, .null, .null, .null, .null, .int 0])] ++ List.replicate 70 z0) ((Y71 (fun _ => 0) 0 s0 [] (fun _ => 0) (fun _ => 0) [] (fun _ => 0) (fun _ => 0) 0 (fun _ => 0) 0 (fun _ => 0) (-1) 0 s0 0 0 0 0 0 (fun _ => 0) (.ref 30) (.retAddr 2) 0 (-1) 0 (fun _ => 0) s0 0 (fun _ => 0) (fun _ => 0) 0 (fun _ => 0) (fun _ => 0) 0 (fun _ => 0) 0 (fun _ => 0) (fun _ => 0) (fun _ => 0) (fun _ _ => 0) 0 (fun _ => 0) (fun _ => 0) 0 (fun _ => 0) (fun _ => 0)).map (re (rg 0 71))) [] [] rfl
      rw [mre_rg0, List.append_nil, List.append_nil] at e
      have e2 : wbO (rg 0 71) ((Y71 (fun _ => 0) 0 s0 [] (fun _ => 0) (fun _ => 0) [] (fun _ => 0) (fun _ => 0) 0 (fun _ => 0) 0 (fun _ => 0) (-1) 0 s0 0 0 0 0 0 (fun _ => 0) (.ref 30) (.retAddr 2) 0 (-1) 0 (fun _ => 0) s0 0 (fun _ => 0) (fun _ => 0) 0 (fun _ => 0) (fun _ => 0) 0 (fun _ => 0) 0 (fun _ => 0) (fun _ => 0) (fun _ => 0) (fun _ _ => 0) 0 (fun _ => 0) (fun _ => 0) 0 (fun _ => 0) (fun _ => 0)).map (re (rg 0 71))) ([.inr (8, [.null, .null, .null, .null, .null, .null, .null, .int 0])] ++ List.replicate 70 z0) = some g4 := hw4
      rw [mre_rg0] at e2
      exact (Option.some.inj (e.symm.trans e2)).symm) ?_
    refine A_astore_n hE 8 dL_law_7 rfl rfl rfl ?_
    refine A_new (ci := 9) hE 11 dL_law_8 rfl rfl layX9 tyX9 tyX9_ok clL_10 insX9 iniX9 [.null, .null, .null, .int 0, .null, .int 0, .int 0, .int 0, .int 0, .null, .null, .null, .int 0, .null, .int 0, .int 0, .null, .null, .null, .null] dfX9 rfl 71 rfl y0_71 rfl rfl (Nat.le_of_ble_eq_true rfl) (Nat.le_of_ble_eq_true rfl) ?_
    refine A_dup hE 12 dL_law_11 rfl rfl ?_
    refine A_callI hE 15 c_X9_init [71] [71, 72, 73, 74, 75, 76, 77, 78, 79, 80, 81, 82, 83] dL_law_12 rfl mkL_12 rfl rfl rfl rfl rfl rfl 72 rfl (refH_app y0_72 (refH_cons rfl refH_nil)) rfl rfl (fun h' e => by subst e; exact (refH_cons rfl (refH_cons trivial (refH_cons trivial (refH_cons trivial (refH_cons trivial (refH_cons trivial (refH_cons trivial (refH_cons trivial (refH_cons trivial (refH_cons trivial (refH_cons trivial (refH_cons trivial (refH_cons trivial (refH_nil))))))))))))))) rfl rfl (Nat.le_of_ble_eq_true rfl) (Nat.le_of_ble_eq_true rfl) rfl (fun h5 g5 hp5 hw5 => ?_) (by decide)
    subst hp5
    refine A_h (LW (Y71 (fun _ => 0) 0 s0 [] (fun _ => 0) (fun _ => 0) [] (fun _ => 0) (fun _ => 0) 0 (fun _ => 0) 0 (fun _ => 0) (-1) 0 s0 0 0 0 0 0 (fun _ => 0) (.ref 30) (.retAddr 2) 0 (-1) 0 (fun _ => 0) s0 0 (fun _ => 0) (fun _ => 0) 0 (fun _ => 0) (fun _ => 0) 0 (fun _ => 0) 0 (fun _ => 0) (fun _ => 0) (fun _ => 0) (fun _ _ => 0) 0 (fun _ => 0) (fun _ => 0) 0 (fun _ => 0) (fun _ => 0)) (MW s0 (fun _ => 0) (fun _ => 0) (fun _ => 0) (fun _ => 0) (fun _ => 0) (fun _ => 0) (fun _ => 0) (fun _ => 0) (fun _ => 0) (fun _ => 0) (fun _ => 0) 0 0 0 0 0 0 0 0)) (by
      have e := wbO_rg ([.inr (9, [.null, .null, .null, .int 0, .null, .int 0, .int 0, .int 0, .int 0, .null, .null, .null, .int 0, .null, .int 0, .int 0, .null, .null, .null, .null])] ++ List.replicate 12 z0) ((MW s0 (fun _ => 0) (fun _ => 0) (fun _ => 0) (fun _ => 0) (fun _ => 0) (fun _ => 0) (fun _ => 0) (fun _ => 0) (fun _ => 0) (fun _ => 0) (fun _ => 0) 0 0 0 0 0 0 0 0).map (re (rg 71 13))) (Y71 (fun _ => 0) 0 s0 [] (fun _ => 0) (fun _ => 0) [] (fun _ => 0) (fun _ => 0) 0 (fun _ => 0) 0 (fun _ => 0) (-1) 0 s0 0 0 0 0 0 (fun _ => 0) (.ref 30) (.retAddr 2) 0 (-1) 0 (fun _ => 0) s0 0 (fun _ => 0) (fun _ => 0) 0 (fun _ => 0) (fun _ => 0) 0 (fun _ => 0) 0 (fun _ => 0) (fun _ => 0) (fun _ => 0) (fun _ _ => 0) 0 (fun _ => 0) (fun _ => 0) 0 (fun _ => 0) (fun _ => 0)) [] rfl
      rw [List.append_nil, List.append_nil] at e
      rw [List.append_assoc] at hw5
      exact (Option.some.inj (e.symm.trans hw5)).symm) ?_
    refine A_astore_n hE 16 dL_law_15 rfl rfl rfl ?_
    refine A_iconst hE 17 dL_law_16 rfl (nI 0) rfl ?_
    refine A_istore_n hE 18 dL_law_17 rfl rfl rfl ?_
    exact lw_loop hE hXE (by decide) (by decide) (L + 1) 0 _ _ (by omega) (by omega) JI0
  have hl := lv_entry ([.ref b]) (n := 4) (Nat.le_of_ble_eq_true rfl)
  rw [lg_entry_eq]
  generalize (lg_sl ([.ref b]) ++ List.replicate (4 - (lg_sl ([.ref b])).length) Slot.unset).toArray = ls at hl ⊢
  have hl : lv_has ls 4 [(0, .ref b)] := hl
  rw [hEe] at key
  exact key (fun _ => 0) s.heap [] ls (fun k q h => by simp [cw] at h) ⟨fun i j p q h => by simp [cw] at h, fun k q h => by simp [cw] at h⟩ va_S.rf (by rw [← s8] at hl; exact hl) rfl (fun _ _ => rfl) (fun _ => rfl)
