def ftM (t0 t1 : Sp) (v : Nat → Int32) : Nat → Nat → St → Bool
  | 0, _, _ => true
  | m + 1, i, J => if v i = J 1 then ftM t0 t1 v m (i + 1) (day1 t0 t1 J) else false
def ptM (t0 t1 : Sp) (s : St) (v : Nat → Int32) (z : Nat) : Nat → Nat → Nat → Nat
  | 0, _, c => c
  | m + 1, a, c => ptM t0 t1 s v z m (a + 1) (if ftM t0 t1 v z 0 (upd s 4 (nI a)) = true then c + 2 ^ a else c)
theorem ptM_lt {t0 t1 : Sp} {s : St} {v : Nat → Int32} {z : Nat} : ∀ (m a c : Nat), c < 2 ^ a → ptM t0 t1 s v z m a c < 2 ^ (a + m)
  | 0, _, _, h => h
  | m + 1, a, c, h => by
    rw [ptM, show a + (m + 1) = (a + 1) + m by omega]
    refine ptM_lt m (a + 1) _ ?_
    rw [Nat.pow_succ]
    split <;> omega
noncomputable def fitsF (t0 t1 : Sp) (s : St) (er bi sz nu : Nat → Int32) (h what : Int32) : Rs := if (0 ≤ h ∧ h ≤ 3) ∧ (0 ≤ what ∧ what ≤ 1) then (if bi h.toNatClampNeg = 0 then bad 2 s er else (nI (if what = 0 then ptM t0 t1 s (vn h.toNatClampNeg nu) (sz h.toNatClampNeg).toNatClampNeg (hn s) 0 0 else pop (ptM t0 t1 s (vn h.toNatClampNeg nu) (sz h.toNatClampNeg).toNatClampNeg (hn s) 0 0)), s, er)) else bad 1 s er
theorem or_1 {a c : Nat} (ha : a < 8) (hc : c < 2 ^ a) : nI c ||| ((1 : Int32) <<< (nI a &&& 31)) = nI (c + 2 ^ a) := by
  have h := or_step a ha c hc 1 (by omega)
  rw [Nat.one_mul] at h
  exact h
def mvN (nu : Nat → Int32) (a b n : Nat) : Nat → Int32 := fun z => if b ≤ z ∧ z < b + n then nu (a + (z - b)) else nu z
theorem mvN_0 {nu : Nat → Int32} {a b : Nat} : mvN nu a b 0 = nu := by
  funext z
  exact if_neg (fun q => by omega)
theorem mvN_step {nu : Nat → Int32} {a b t : Nat} : upd (mvN nu a b t) (b + t) (nu (a + t)) = mvN nu a b (t + 1) := by
  funext z
  by_cases hz : z = b + t
  · rw [hz, upd_s]
    unfold mvN
    rw [if_pos ⟨by omega, by omega⟩]
    congr 1
    omega
  · rw [upd_n hz]
    unfold mvN
    by_cases hb : b ≤ z ∧ z < b + t
    · rw [if_pos hb, if_pos ⟨hb.1, by omega⟩]
    · rw [if_neg hb, if_neg (fun q => hb ⟨q.1, by omega⟩)]
theorem mv_le {p z a : Nat} (hp : p < 2 ^ 31) (hz : z ≤ 24) (ha : a < 2 ^ 31) (h : nI p ≤ nI z - nI a) : p + a ≤ z := by
  have h2 : (nI p).toInt ≤ (nI z - nI a).toInt := Int32.le_iff_toInt_le.mp h
  have h3 : (nI z - nI a).toInt = ((nI z).toInt - (nI a).toInt).bmod 4294967296 := Int32.toInt_sub _ _
  rw [h3, nI_toInt hp, nI_toInt ha, nI_toInt (show z < 2 ^ 31 by omega), Int.bmod_def] at h2
  have ha' : a < 2147483648 := ha
  by_cases hc : ((z : Int) - a) % ((4294967296 : Nat) : Int) < (((4294967296 : Nat) : Int) + 1) / 2
  · rw [if_pos hc] at h2
    omega
  · rw [if_neg hc] at h2
    omega
def moveF (er bi sz nu : Nat → Int32) (h i q j n : Int32) : Sr := if (0 ≤ h ∧ h ≤ 3) ∧ (0 ≤ q ∧ q ≤ 3) then (if bi h.toNatClampNeg = 0 ∨ bi q.toNatClampNeg = 0 then sbad 2 er bi sz nu else if ¬ bi h.toNatClampNeg = bi q.toNatClampNeg then sbad 5 er bi sz nu else if 0 ≤ n ∧ 0 ≤ i ∧ 0 ≤ j ∧ i ≤ sz h.toNatClampNeg - n ∧ j ≤ sz q.toNatClampNeg - n then (n, er, bi, sz, mvN nu (24 * h.toNatClampNeg + i.toNatClampNeg) (24 * q.toNatClampNeg + j.toNatClampNeg) n.toNatClampNeg) else sbad 1 er bi sz nu) else sbad 1 er bi sz nu
theorem ix3 (k p t : Nat) : (24 : Int32) * nI k + nI p + nI t = nI (24 * k + p + t) := by rw [ix24, nI_add]

set_option maxRecDepth 100000 in
theorem c_X9_move (s K be er st na pi tr bi sz nu as' : Nat → Int32) (im at' op sp us tn sk ip : Int32) (h i q j n : Int32) (hS : wfSh bi sz) : AMet yX9_move cX9_move 7 (some (.int)) 2 0 0 [.ref 0, .int h, .int i, .int q, .int j, .int n] (MW s K be er st na pi tr bi sz nu as' im at' op sp us tn sk ip) (pI fun x0 hz0 => x0 = (moveF er bi sz nu h i q j n).1 ∧ ∃ as2 : Nat → Int32, hz0 = MW s K be (moveF er bi sz nu h i q j n).2.1 st na pi tr (moveF er bi sz nu h i q j n).2.2.1 (moveF er bi sz nu h i q j n).2.2.2.1 (moveF er bi sz nu h i q j n).2.2.2.2 as2 im at' op sp us tn sk ip) := by
  refine AMet.of (by decide +kernel) rfl (fun E ad0 hE => ?_)
  refine A_iload_n hE 1 dX9_move_0 rfl rfl ?_
  refine A_callSi hE 4 (c_X9_isSheet h) [] dX9_move_1 rfl mkX9_195 rfl rfl rfl rfl rfl rfl (Nat.le_of_ble_eq_true rfl) (Nat.le_of_ble_eq_true rfl) rfl (fun x1 h1 g1 hp1 hw1 => ?_)
  obtain ⟨rfl, rfl⟩ := hp1
  obtain rfl := Option.some.inj hw1
  refine A_if_eq hE 7 14 dX9_move_4 rfl rfl (fun c4 => ?_) (fun c4 => ?_)
  · have hh := bI_0 c4
    refine A_aload_n hE 15 dX9_move_14 rfl rfl ?_
    refine A_iconst hE 16 dX9_move_15 rfl (1) rfl ?_
    refine A_callVi hE 19 (c_X9_error s K be er st na pi tr bi sz nu as' im at' op sp us tn sk ip 1 (by omega)) [0, 1, 2, 3, 4, 5, 6, 7, 8, 9, 10, 11, 12] dX9_move_16 rfl mkX9_51 rfl rfl rfl rfl rfl rfl rfl (Nat.le_of_ble_eq_true rfl) (Nat.le_of_ble_eq_true rfl) rfl (fun x16 h16 g16 hp16 hw16 => ?_)
    obtain ⟨rfl, rfl⟩ := hp16
    obtain rfl := Option.some.inj hw16
    refine A_h (MW s K be (upd er 1 (er 1 + 1)) st na pi tr bi sz nu as' im at' op sp us tn sk ip) rfl ?_
    refine A_iret hE dX9_move_19 ?_
    rw [moveF, if_neg (fun z => hh z.1)]
    exact ⟨rfl, as', rfl⟩
  · have hh := bI_1 c4
    obtain ⟨k, hkk, rfl⟩ := iK2 (n := 3) hh.1 hh.2 (by omega)
    have ek : (nI k).toNatClampNeg = k := nI_clamp (by omega)
    obtain ⟨-, z0, hz24, hz⟩ := hS k (by omega)
    refine A_iload_n hE 8 dX9_move_7 rfl rfl ?_
    refine A_callSi hE 11 (c_X9_isSheet q) [] dX9_move_8 rfl mkX9_195 rfl rfl rfl rfl rfl rfl (Nat.le_of_ble_eq_true rfl) (Nat.le_of_ble_eq_true rfl) rfl (fun x8 h8 g8 hp8 hw8 => ?_)
    obtain ⟨rfl, rfl⟩ := hp8
    obtain rfl := Option.some.inj hw8
    refine A_if_ne hE 14 20 dX9_move_11 rfl rfl (fun c11 => ?_) (fun c11 => ?_)
    · have hq := bI_1 c11
      obtain ⟨l, hkl, rfl⟩ := iK2 (n := 3) hq.1 hq.2 (by omega)
      have el : (nI l).toNatClampNeg = l := nI_clamp (by omega)
      obtain ⟨-, y0, hy24, hy⟩ := hS l (by omega)
      refine A_aload_n hE 21 dX9_move_20 rfl rfl ?_
      refine A_get hE 24 dX9_move_21 rfl fkX9_34 rfl rfl ?_
      refine A_iload_n hE 25 dX9_move_24 rfl rfl ?_
      refine A_iald hE 26 k dX9_move_25 rfl rfl rfl (by omega) rfl ?_
      refine A_if_eq hE 29 38 dX9_move_26 rfl rfl (fun c26 => ?_) (fun c26 => ?_)
      · refine A_aload_n hE 39 dX9_move_38 rfl rfl ?_
        refine A_iconst hE 40 dX9_move_39 rfl (2) rfl ?_
        refine A_callVi hE 43 (c_X9_error s K be er st na pi tr bi sz nu as' im at' op sp us tn sk ip 2 (by omega)) [0, 1, 2, 3, 4, 5, 6, 7, 8, 9, 10, 11, 12] dX9_move_40 rfl mkX9_51 rfl rfl rfl rfl rfl rfl rfl (Nat.le_of_ble_eq_true rfl) (Nat.le_of_ble_eq_true rfl) rfl (fun x40 h40 g40 hp40 hw40 => ?_)
        obtain ⟨rfl, rfl⟩ := hp40
        obtain rfl := Option.some.inj hw40
        refine A_h (MW s K be (upd er 2 (er 2 + 1)) st na pi tr bi sz nu as' im at' op sp us tn sk ip) rfl ?_
        refine A_iret hE dX9_move_43 ?_
        rw [moveF, if_pos ⟨hh, hq⟩, ek, el, if_pos (Or.inl c26)]
        exact ⟨rfl, as', rfl⟩
      · refine A_aload_n hE 30 dX9_move_29 rfl rfl ?_
        refine A_get hE 33 dX9_move_30 rfl fkX9_34 rfl rfl ?_
        refine A_iload_n hE 34 dX9_move_33 rfl rfl ?_
        refine A_iald hE 35 l dX9_move_34 rfl rfl rfl (by omega) rfl ?_
        refine A_if_ne hE 38 44 dX9_move_35 rfl rfl (fun c35 => ?_) (fun c35 => ?_)
        · refine A_aload_n hE 45 dX9_move_44 rfl rfl ?_
          refine A_get hE 48 dX9_move_45 rfl fkX9_34 rfl rfl ?_
          refine A_iload_n hE 49 dX9_move_48 rfl rfl ?_
          refine A_iald hE 50 k dX9_move_49 rfl rfl rfl (by omega) rfl ?_
          refine A_aload_n hE 51 dX9_move_50 rfl rfl ?_
          refine A_get hE 54 dX9_move_51 rfl fkX9_34 rfl rfl ?_
          refine A_iload_n hE 55 dX9_move_54 rfl rfl ?_
          refine A_iald hE 56 l dX9_move_55 rfl rfl rfl (by omega) rfl ?_
          refine A_icmp_eq hE 59 65 dX9_move_56 rfl rfl (fun c56 => ?_) (fun c56 => ?_)
          · refine A_iload hE 67 dX9_move_65 rfl rfl ?_
            refine A_if_lt hE 70 106 dX9_move_67 rfl rfl (fun c67 => ?_) (fun c67 => ?_)
            · have c67' : ¬ 0 ≤ n := Int32.not_le.mpr c67
              refine A_aload_n hE 107 dX9_move_106 rfl rfl ?_
              refine A_iconst hE 108 dX9_move_107 rfl (1) rfl ?_
              refine A_callVi hE 111 (c_X9_error s K be er st na pi tr bi sz nu as' im at' op sp us tn sk ip 1 (by omega)) [0, 1, 2, 3, 4, 5, 6, 7, 8, 9, 10, 11, 12] dX9_move_108 rfl mkX9_51 rfl rfl rfl rfl rfl rfl rfl (Nat.le_of_ble_eq_true rfl) (Nat.le_of_ble_eq_true rfl) rfl (fun x108 h108 g108 hp108 hw108 => ?_)
              obtain ⟨rfl, rfl⟩ := hp108
              obtain rfl := Option.some.inj hw108
              refine A_h (MW s K be (upd er 1 (er 1 + 1)) st na pi tr bi sz nu as' im at' op sp us tn sk ip) rfl ?_
              refine A_iret hE dX9_move_111 ?_
              rw [moveF, if_pos ⟨hh, hq⟩, ek, el, if_neg (fun z => z.elim c26 c35), if_neg (fun z => z c56), if_neg (fun z => c67' z.1)]
              exact ⟨rfl, as', rfl⟩
            · refine A_iload_n hE 71 dX9_move_70 rfl rfl ?_
              refine A_if_lt hE 74 106 dX9_move_71 rfl rfl (fun c71 => ?_) (fun c71 => ?_)
              · have c71' : ¬ 0 ≤ i := Int32.not_le.mpr c71
                refine A_aload_n hE 107 dX9_move_106 rfl rfl ?_
                refine A_iconst hE 108 dX9_move_107 rfl (1) rfl ?_
                refine A_callVi hE 111 (c_X9_error s K be er st na pi tr bi sz nu as' im at' op sp us tn sk ip 1 (by omega)) [0, 1, 2, 3, 4, 5, 6, 7, 8, 9, 10, 11, 12] dX9_move_108 rfl mkX9_51 rfl rfl rfl rfl rfl rfl rfl (Nat.le_of_ble_eq_true rfl) (Nat.le_of_ble_eq_true rfl) rfl (fun x108 h108 g108 hp108 hw108 => ?_)
                obtain ⟨rfl, rfl⟩ := hp108
                obtain rfl := Option.some.inj hw108
                refine A_h (MW s K be (upd er 1 (er 1 + 1)) st na pi tr bi sz nu as' im at' op sp us tn sk ip) rfl ?_
                refine A_iret hE dX9_move_111 ?_
                rw [moveF, if_pos ⟨hh, hq⟩, ek, el, if_neg (fun z => z.elim c26 c35), if_neg (fun z => z c56), if_neg (fun z => c71' z.2.1)]
                exact ⟨rfl, as', rfl⟩
              · refine A_iload hE 76 dX9_move_74 rfl rfl ?_
                refine A_if_lt hE 79 106 dX9_move_76 rfl rfl (fun c76 => ?_) (fun c76 => ?_)
                · have c76' : ¬ 0 ≤ j := Int32.not_le.mpr c76
                  refine A_aload_n hE 107 dX9_move_106 rfl rfl ?_
                  refine A_iconst hE 108 dX9_move_107 rfl (1) rfl ?_
                  refine A_callVi hE 111 (c_X9_error s K be er st na pi tr bi sz nu as' im at' op sp us tn sk ip 1 (by omega)) [0, 1, 2, 3, 4, 5, 6, 7, 8, 9, 10, 11, 12] dX9_move_108 rfl mkX9_51 rfl rfl rfl rfl rfl rfl rfl (Nat.le_of_ble_eq_true rfl) (Nat.le_of_ble_eq_true rfl) rfl (fun x108 h108 g108 hp108 hw108 => ?_)
                  obtain ⟨rfl, rfl⟩ := hp108
                  obtain rfl := Option.some.inj hw108
                  refine A_h (MW s K be (upd er 1 (er 1 + 1)) st na pi tr bi sz nu as' im at' op sp us tn sk ip) rfl ?_
                  refine A_iret hE dX9_move_111 ?_
                  rw [moveF, if_pos ⟨hh, hq⟩, ek, el, if_neg (fun z => z.elim c26 c35), if_neg (fun z => z c56), if_neg (fun z => c76' z.2.2.1)]
                  exact ⟨rfl, as', rfl⟩
                · refine A_iload_n hE 80 dX9_move_79 rfl rfl ?_
                  refine A_aload_n hE 81 dX9_move_80 rfl rfl ?_
                  refine A_get hE 84 dX9_move_81 rfl fkX9_37 rfl rfl ?_
                  refine A_iload_n hE 85 dX9_move_84 rfl rfl ?_
                  refine A_iald hE 86 k dX9_move_85 rfl rfl rfl (by omega) rfl ?_
                  refine A_iload hE 88 dX9_move_86 rfl rfl ?_
                  refine A_isub hE 89 dX9_move_88 rfl ?_
                  refine A_icmp_gt hE 92 106 dX9_move_89 rfl rfl (fun c89 => ?_) (fun c89 => ?_)
                  · have n89 : ¬ i ≤ sz k - n := iM c89
                    refine A_aload_n hE 107 dX9_move_106 rfl rfl ?_
                    refine A_iconst hE 108 dX9_move_107 rfl (1) rfl ?_
                    refine A_callVi hE 111 (c_X9_error s K be er st na pi tr bi sz nu as' im at' op sp us tn sk ip 1 (by omega)) [0, 1, 2, 3, 4, 5, 6, 7, 8, 9, 10, 11, 12] dX9_move_108 rfl mkX9_51 rfl rfl rfl rfl rfl rfl rfl (Nat.le_of_ble_eq_true rfl) (Nat.le_of_ble_eq_true rfl) rfl (fun x108 h108 g108 hp108 hw108 => ?_)
                    obtain ⟨rfl, rfl⟩ := hp108
                    obtain rfl := Option.some.inj hw108
                    refine A_h (MW s K be (upd er 1 (er 1 + 1)) st na pi tr bi sz nu as' im at' op sp us tn sk ip) rfl ?_
                    refine A_iret hE dX9_move_111 ?_
                    rw [moveF, if_pos ⟨hh, hq⟩, ek, el, if_neg (fun z => z.elim c26 c35), if_neg (fun z => z c56), if_neg (fun z => n89 z.2.2.2.1)]
                    exact ⟨rfl, as', rfl⟩
                  · have c89 : i ≤ sz k - n := iL c89
                    refine A_iload hE 94 dX9_move_92 rfl rfl ?_
                    refine A_aload_n hE 95 dX9_move_94 rfl rfl ?_
                    refine A_get hE 98 dX9_move_95 rfl fkX9_37 rfl rfl ?_
                    refine A_iload_n hE 99 dX9_move_98 rfl rfl ?_
                    refine A_iald hE 100 l dX9_move_99 rfl rfl rfl (by omega) rfl ?_
                    refine A_iload hE 102 dX9_move_100 rfl rfl ?_
                    refine A_isub hE 103 dX9_move_102 rfl ?_
                    refine A_icmp_le hE 106 112 dX9_move_103 rfl rfl (fun c103 => ?_) (fun c103 => ?_)
                    · refine A_iconst hE 113 dX9_move_112 rfl (0) rfl ?_
                      refine A_istore hE 115 dX9_move_113 rfl rfl rfl ?_
                      obtain ⟨p, hp, rfl⟩ := nI_of c71
                      obtain ⟨r, hr, rfl⟩ := nI_of c76
                      obtain ⟨a, ha, rfl⟩ := nI_of c67
                      have hfin : (moveF er bi sz nu (nI k) (nI p) (nI l) (nI r) (nI a)) = (nI a, er, bi, sz, mvN nu (24 * k + p) (24 * l + r) a) := by
                        rw [moveF, if_pos ⟨hh, hq⟩, ek, el, if_neg (fun z => z.elim c26 c35), if_neg (fun z => z c56), if_pos ⟨iL c67, iL c71, iL c76, c89, c103⟩, nI_clamp hp, nI_clamp hr, nI_clamp ha]
                      rw [hz] at c89
                      rw [hy] at c103
                      have b1 := mv_le hp hz24 ha c89
                      have b2 := mv_le hr hy24 ha c103
                      have loop2 : ∀ (m t : Nat), t + m = a → AW E (rmD 2 0 0) 7 (QM E ad0 13 0 0 (pI fun x0 hz0 => x0 = (moveF er bi sz nu (nI k) (nI p) (nI l) (nI r) (nI a)).1 ∧ ∃ as2 : Nat → Int32, hz0 = MW s K be (moveF er bi sz nu (nI k) (nI p) (nI l) (nI r) (nI a)).2.1 st na pi tr (moveF er bi sz nu (nI k) (nI p) (nI l) (nI r) (nI a)).2.2.1 (moveF er bi sz nu (nI k) (nI p) (nI l) (nI r) (nI a)).2.2.2.1 (moveF er bi sz nu (nI k) (nI p) (nI l) (nI r) (nI a)).2.2.2.2 as2 im at' op sp us tn sk ip)) ad0 13 0 0 152 [(0, .ref 0), (1, .int (nI k)), (2, .int (nI p)), (3, .int (nI l)), (4, .int (nI r)), (5, .int (nI a)), (6, .int (nI t))] [] (MW s K be er st na pi tr bi sz (mvN nu (24 * k + p) (24 * l + r) t) (ovr a (fun z => nu (24 * k + p + z)) as') im at' op sp us tn sk ip) := by
                        intro m
                        induction m with
                        | zero =>
                          intro t ht
                          obtain rfl : t = a := by omega
                          refine A_iload hE 154 dX9_move_152 rfl rfl ?_
                          refine A_iload hE 156 dX9_move_154 rfl rfl ?_
                          refine A_icmp_ge hE 159 187 dX9_move_156 rfl rfl (fun c156 => ?_) (fun c156 => absurd (nI_le (Nat.le_refl _) (by omega)) c156)
                          refine A_iload hE 189 dX9_move_187 rfl rfl ?_
                          refine A_iret hE dX9_move_189 ?_
                          rw [hfin]
                          exact ⟨rfl, _, rfl⟩
                        | succ m ih =>
                          intro t ht
                          refine A_iload hE 154 dX9_move_152 rfl rfl ?_
                          refine A_iload hE 156 dX9_move_154 rfl rfl ?_
                          refine A_icmp_ge hE 159 187 dX9_move_156 rfl rfl (fun c156 => absurd c156 (nI_ge (a := t) (b := a) (by omega) (by omega))) (fun c156 => ?_)
                          refine A_aload_n hE 160 dX9_move_159 rfl rfl ?_
                          refine A_get hE 163 dX9_move_160 rfl fkX9_40 rfl rfl ?_
                          refine A_bipush hE 165 dX9_move_163 rfl (24) (by decide) ?_
                          refine A_iload_n hE 166 dX9_move_165 rfl rfl ?_
                          refine A_imul hE 167 dX9_move_166 rfl ?_
                          refine A_iload hE 169 dX9_move_167 rfl rfl ?_
                          refine A_iadd hE 170 dX9_move_169 rfl ?_
                          refine A_iload hE 172 dX9_move_170 rfl rfl ?_
                          refine A_iadd hE 173 dX9_move_172 rfl ?_
                          refine A_aload_n hE 174 dX9_move_173 rfl rfl ?_
                          refine A_get hE 177 dX9_move_174 rfl fkX9_43 rfl rfl ?_
                          refine A_iload hE 179 dX9_move_177 rfl rfl ?_
                          refine A_iald hE 180 t dX9_move_179 rfl rfl rfl (by omega) rfl ?_
                          rw [show ovr a (fun z => nu (24 * k + p + z)) as' t = nu (24 * k + p + t) from if_pos (by omega)]
                          refine A_iast hE 181 (24 * l + r + t) dX9_move_180 rfl rfl (ix3 l r t) (by omega) rfl rfl ?_
                          refine A_iinc hE 184 dX9_move_181 rfl rfl (1) rfl rfl rfl ?_
                          rw [nI_1]
                          refine A_lv [0, 1, 2, 3, 4, 5, 6] rfl ?_
                          refine A_goto hE 152 dX9_move_184 rfl ?_
                          exact A_h (MW s K be er st na pi tr bi sz (mvN nu (24 * k + p) (24 * l + r) (t + 1)) (ovr a (fun z => nu (24 * k + p + z)) as') im at' op sp us tn sk ip) (by rw [mvN_step]) (ih (t + 1) (by omega))
                      have loop1 : ∀ (m t : Nat), t + m = a → AW E (rmD 2 0 0) 7 (QM E ad0 13 0 0 (pI fun x0 hz0 => x0 = (moveF er bi sz nu (nI k) (nI p) (nI l) (nI r) (nI a)).1 ∧ ∃ as2 : Nat → Int32, hz0 = MW s K be (moveF er bi sz nu (nI k) (nI p) (nI l) (nI r) (nI a)).2.1 st na pi tr (moveF er bi sz nu (nI k) (nI p) (nI l) (nI r) (nI a)).2.2.1 (moveF er bi sz nu (nI k) (nI p) (nI l) (nI r) (nI a)).2.2.2.1 (moveF er bi sz nu (nI k) (nI p) (nI l) (nI r) (nI a)).2.2.2.2 as2 im at' op sp us tn sk ip)) ad0 13 0 0 115 [(0, .ref 0), (1, .int (nI k)), (2, .int (nI p)), (3, .int (nI l)), (4, .int (nI r)), (5, .int (nI a)), (6, .int (nI t))] [] (MW s K be er st na pi tr bi sz nu (ovr t (fun z => nu (24 * k + p + z)) as') im at' op sp us tn sk ip) := by
                        intro m
                        induction m with
                        | zero =>
                          intro t ht
                          obtain rfl : t = a := by omega
                          refine A_iload hE 117 dX9_move_115 rfl rfl ?_
                          refine A_iload hE 119 dX9_move_117 rfl rfl ?_
                          refine A_icmp_ge hE 122 149 dX9_move_119 rfl rfl (fun c119 => ?_) (fun c119 => absurd (nI_le (Nat.le_refl _) (by omega)) c119)
                          refine A_iconst hE 150 dX9_move_149 rfl (0) rfl ?_
                          refine A_istore hE 152 dX9_move_150 rfl rfl rfl ?_
                          refine A_lv [0, 1, 2, 3, 4, 5, 6] rfl ?_
                          exact A_h (MW s K be er st na pi tr bi sz (mvN nu (24 * k + p) (24 * l + r) 0) (ovr t (fun z => nu (24 * k + p + z)) as') im at' op sp us tn sk ip) (by rw [mvN_0]) (loop2 t 0 (Nat.zero_add _))
                        | succ m ih =>
                          intro t ht
                          refine A_iload hE 117 dX9_move_115 rfl rfl ?_
                          refine A_iload hE 119 dX9_move_117 rfl rfl ?_
                          refine A_icmp_ge hE 122 149 dX9_move_119 rfl rfl (fun c119 => absurd c119 (nI_ge (a := t) (b := a) (by omega) (by omega))) (fun c119 => ?_)
                          refine A_aload_n hE 123 dX9_move_122 rfl rfl ?_
                          refine A_get hE 126 dX9_move_123 rfl fkX9_43 rfl rfl ?_
                          refine A_iload hE 128 dX9_move_126 rfl rfl ?_
                          refine A_aload_n hE 129 dX9_move_128 rfl rfl ?_
                          refine A_get hE 132 dX9_move_129 rfl fkX9_40 rfl rfl ?_
                          refine A_bipush hE 134 dX9_move_132 rfl (24) (by decide) ?_
                          refine A_iload_n hE 135 dX9_move_134 rfl rfl ?_
                          refine A_imul hE 136 dX9_move_135 rfl ?_
                          refine A_iload_n hE 137 dX9_move_136 rfl rfl ?_
                          refine A_iadd hE 138 dX9_move_137 rfl ?_
                          refine A_iload hE 140 dX9_move_138 rfl rfl ?_
                          refine A_iadd hE 141 dX9_move_140 rfl ?_
                          refine A_iald hE 142 (24 * k + p + t) dX9_move_141 rfl rfl (ix3 k p t) (by omega) rfl ?_
                          refine A_iast hE 143 t dX9_move_142 rfl rfl rfl (by omega) rfl rfl ?_
                          refine A_iinc hE 146 dX9_move_143 rfl rfl (1) rfl rfl rfl ?_
                          rw [nI_1]
                          refine A_lv [0, 1, 2, 3, 4, 5, 6] rfl ?_
                          refine A_goto hE 115 dX9_move_146 rfl ?_
                          exact A_h (MW s K be er st na pi tr bi sz nu (ovr (t + 1) (fun z => nu (24 * k + p + z)) as') im at' op sp us tn sk ip) (by rw [ovr_step]) (ih (t + 1) (by omega))
                      refine A_lv [0, 1, 2, 3, 4, 5, 6] rfl ?_
                      exact A_h (MW s K be er st na pi tr bi sz nu (ovr 0 (fun z => nu (24 * k + p + z)) as') im at' op sp us tn sk ip) (by rw [ovr_0]) (loop1 a 0 (Nat.zero_add _))
                    · have n103 : ¬ j ≤ sz l - n := c103
                      refine A_aload_n hE 107 dX9_move_106 rfl rfl ?_
                      refine A_iconst hE 108 dX9_move_107 rfl (1) rfl ?_
                      refine A_callVi hE 111 (c_X9_error s K be er st na pi tr bi sz nu as' im at' op sp us tn sk ip 1 (by omega)) [0, 1, 2, 3, 4, 5, 6, 7, 8, 9, 10, 11, 12] dX9_move_108 rfl mkX9_51 rfl rfl rfl rfl rfl rfl rfl (Nat.le_of_ble_eq_true rfl) (Nat.le_of_ble_eq_true rfl) rfl (fun x108 h108 g108 hp108 hw108 => ?_)
                      obtain ⟨rfl, rfl⟩ := hp108
                      obtain rfl := Option.some.inj hw108
                      refine A_h (MW s K be (upd er 1 (er 1 + 1)) st na pi tr bi sz nu as' im at' op sp us tn sk ip) rfl ?_
                      refine A_iret hE dX9_move_111 ?_
                      rw [moveF, if_pos ⟨hh, hq⟩, ek, el, if_neg (fun z => z.elim c26 c35), if_neg (fun z => z c56), if_neg (fun z => n103 z.2.2.2.2)]
                      exact ⟨rfl, as', rfl⟩
          · refine A_aload_n hE 60 dX9_move_59 rfl rfl ?_
            refine A_iconst hE 61 dX9_move_60 rfl (5) rfl ?_
            refine A_callVi hE 64 (c_X9_error s K be er st na pi tr bi sz nu as' im at' op sp us tn sk ip 5 (by omega)) [0, 1, 2, 3, 4, 5, 6, 7, 8, 9, 10, 11, 12] dX9_move_61 rfl mkX9_51 rfl rfl rfl rfl rfl rfl rfl (Nat.le_of_ble_eq_true rfl) (Nat.le_of_ble_eq_true rfl) rfl (fun x61 h61 g61 hp61 hw61 => ?_)
            obtain ⟨rfl, rfl⟩ := hp61
            obtain rfl := Option.some.inj hw61
            refine A_h (MW s K be (upd er 5 (er 5 + 1)) st na pi tr bi sz nu as' im at' op sp us tn sk ip) rfl ?_
            refine A_iret hE dX9_move_64 ?_
            rw [moveF, if_pos ⟨hh, hq⟩, ek, el, if_neg (fun z => z.elim c26 c35), if_pos c56]
            exact ⟨rfl, as', rfl⟩
        · refine A_aload_n hE 39 dX9_move_38 rfl rfl ?_
          refine A_iconst hE 40 dX9_move_39 rfl (2) rfl ?_
          refine A_callVi hE 43 (c_X9_error s K be er st na pi tr bi sz nu as' im at' op sp us tn sk ip 2 (by omega)) [0, 1, 2, 3, 4, 5, 6, 7, 8, 9, 10, 11, 12] dX9_move_40 rfl mkX9_51 rfl rfl rfl rfl rfl rfl rfl (Nat.le_of_ble_eq_true rfl) (Nat.le_of_ble_eq_true rfl) rfl (fun x40 h40 g40 hp40 hw40 => ?_)
          obtain ⟨rfl, rfl⟩ := hp40
          obtain rfl := Option.some.inj hw40
          refine A_h (MW s K be (upd er 2 (er 2 + 1)) st na pi tr bi sz nu as' im at' op sp us tn sk ip) rfl ?_
          refine A_iret hE dX9_move_43 ?_
          rw [moveF, if_pos ⟨hh, hq⟩, ek, el, if_pos (Or.inr c35)]
          exact ⟨rfl, as', rfl⟩
    · have hq := bI_0 c11
      refine A_aload_n hE 15 dX9_move_14 rfl rfl ?_
      refine A_iconst hE 16 dX9_move_15 rfl (1) rfl ?_
      refine A_callVi hE 19 (c_X9_error s K be er st na pi tr bi sz nu as' im at' op sp us tn sk ip 1 (by omega)) [0, 1, 2, 3, 4, 5, 6, 7, 8, 9, 10, 11, 12] dX9_move_16 rfl mkX9_51 rfl rfl rfl rfl rfl rfl rfl (Nat.le_of_ble_eq_true rfl) (Nat.le_of_ble_eq_true rfl) rfl (fun x16 h16 g16 hp16 hw16 => ?_)
      obtain ⟨rfl, rfl⟩ := hp16
      obtain rfl := Option.some.inj hw16
      refine A_h (MW s K be (upd er 1 (er 1 + 1)) st na pi tr bi sz nu as' im at' op sp us tn sk ip) rfl ?_
      refine A_iret hE dX9_move_19 ?_
      rw [moveF, if_neg (fun z => hq z.2)]
      exact ⟨rfl, as', rfl⟩
