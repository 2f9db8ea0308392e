abbrev Sr : Type := Int32 × (Nat → Int32) × (Nat → Int32) × (Nat → Int32) × (Nat → Int32)
def sbad (k : Nat) (er bi sz nu : Nat → Int32) : Sr := (-1000000000 - nI k, upd er k (er k + 1), bi, sz, nu)
def wfSh (bi sz : Nat → Int32) : Prop := ∀ k, k < 4 → widB (bi k) ∧ ∃ n : Nat, n ≤ 24 ∧ sz k = nI n
def vn (k : Nat) (nu : Nat → Int32) : Nat → Int32 := fun i => nu (24 * k + i)
def zroK (j k : Nat) (nu : Nat → Int32) : Nat → Int32 := fun z => if 24 * k ≤ z ∧ z < 24 * k + j then 0 else nu z
theorem zroK_0 {k : Nat} {nu : Nat → Int32} : zroK 0 k nu = nu := by
  funext z
  exact if_neg (fun q => by omega)
theorem zroK_step {j k : Nat} {nu : Nat → Int32} : upd (zroK j k nu) (24 * k + j) 0 = zroK (j + 1) k nu := by
  funext z
  by_cases hz : z = 24 * k + j
  · rw [hz, upd_s]
    exact (if_pos ⟨by omega, by omega⟩).symm
  · rw [upd_n hz]
    unfold zroK
    by_cases hb : 24 * k ≤ z ∧ z < 24 * k + j
    · rw [if_pos hb, if_pos ⟨hb.1, by omega⟩]
    · rw [if_neg hb, if_neg (fun q => hb ⟨q.1, by omega⟩)]
theorem ix24 (k j : Nat) : (24 : Int32) * nI k + nI j = nI (24 * k + j) := by
  show nI 24 * nI k + nI j = _
  rw [pk_mul, nI_add]
def sheetF (er bi sz nu : Nat → Int32) (h w n : Int32) : Sr := if (0 ≤ h ∧ h ≤ 3) ∧ (w = 0 ∨ w = 8 ∨ w = 16 ∨ w = 32) then (if w = 0 then (1, er, upd bi h.toNatClampNeg 0, upd sz h.toNatClampNeg 0, zroK 24 h.toNatClampNeg nu) else if n < 0 then sbad 3 er bi sz nu else if 24 < n then sbad 1 er bi sz nu else (1, er, upd bi h.toNatClampNeg w, upd sz h.toNatClampNeg n, zroK 24 h.toNatClampNeg nu)) else sbad 1 er bi sz nu
def putF (er bi sz nu : Nat → Int32) (h i v : Int32) : Sr := if 0 ≤ h ∧ h ≤ 3 then (if bi h.toNatClampNeg = 0 then sbad 2 er bi sz nu else if 0 ≤ i ∧ i < sz h.toNatClampNeg then (1, er, bi, sz, upd nu (24 * h.toNatClampNeg + i.toNatClampNeg) (lowB (bi h.toNatClampNeg) v)) else sbad 1 er bi sz nu) else sbad 1 er bi sz nu
def lacksV (bi : Nat → Int32) (h : Int32) : Int32 := if 0 ≤ h ∧ h ≤ 3 then (if bi h.toNatClampNeg = 0 then 2 else 0) else 1

set_option maxRecDepth 100000 in
theorem c_X9_isSheet (h : Int32) : AMet yX9_isSheet cX9_isSheet 1 (some (.boolean)) 1 0 0 [.int h] [] (pI fun r hz => r = bI (decide (0 ≤ h ∧ h ≤ 3)) ∧ hz = []) := by
  refine AMet.of (by decide +kernel) rfl (fun E ad0 hE => ?_)
  refine A_iload_n hE 1 dX9_isSheet_0 rfl rfl ?_
  refine A_iconst hE 2 dX9_isSheet_1 rfl (0) rfl ?_
  refine A_iconst hE 3 dX9_isSheet_2 rfl (3) rfl ?_
  refine A_callSi hE 6 (c_X9_in h 0 3) [] dX9_isSheet_3 rfl mkX9_47 rfl rfl rfl rfl rfl rfl (Nat.le_of_ble_eq_true rfl) (Nat.le_of_ble_eq_true rfl) rfl (fun x3 h3 g3 hp3 hw3 => ?_)
  obtain ⟨rfl, rfl⟩ := hp3
  obtain rfl := Option.some.inj hw3
  refine A_zret hE dX9_isSheet_6 (bI_or _) ⟨rfl, rfl⟩
set_option maxRecDepth 100000 in
theorem c_X9_sheet (s K be er st na pi tr bi sz nu as' : Nat → Int32) (im at' op sp us tn sk ip : Int32) (h w n : Int32) : AMet yX9_sheet cX9_sheet 5 (some (.int)) 2 0 0 [.ref 0, .int h, .int w, .int n] (MW s K be er st na pi tr bi sz nu as' im at' op sp us tn sk ip) (pI fun x0 hz0 => x0 = (sheetF er bi sz nu h w n).1 ∧ hz0 = MW s K be (sheetF er bi sz nu h w n).2.1 st na pi tr (sheetF er bi sz nu h w n).2.2.1 (sheetF er bi sz nu h w n).2.2.2.1 (sheetF er bi sz nu h w n).2.2.2.2 as' im at' op sp us tn sk ip) := by
  refine AMet.of (by decide +kernel) rfl (fun E ad0 hE => ?_)
  refine A_iload_n hE 1 dX9_sheet_0 rfl rfl ?_
  refine A_callSi hE 4 (c_X9_isSheet h) [] dX9_sheet_1 rfl mkX9_195 rfl rfl rfl rfl rfl rfl (Nat.le_of_ble_eq_true rfl) (Nat.le_of_ble_eq_true rfl) rfl (fun x1 h1 g1 hp1 hw1 => ?_)
  obtain ⟨rfl, rfl⟩ := hp1
  obtain rfl := Option.some.inj hw1
  refine A_if_eq hE 7 29 dX9_sheet_4 rfl rfl (fun c4 => ?_) (fun c4 => ?_)
  · have hh := bI_0 c4
    refine A_aload_n hE 30 dX9_sheet_29 rfl rfl ?_
    refine A_iconst hE 31 dX9_sheet_30 rfl (1) rfl ?_
    refine A_callVi hE 34 (c_X9_error s K be er st na pi tr bi sz nu as' im at' op sp us tn sk ip 1 (by omega)) [0, 1, 2, 3, 4, 5, 6, 7, 8, 9, 10, 11, 12] dX9_sheet_31 rfl mkX9_51 rfl rfl rfl rfl rfl rfl rfl (Nat.le_of_ble_eq_true rfl) (Nat.le_of_ble_eq_true rfl) rfl (fun x31 h31 g31 hp31 hw31 => ?_)
    obtain ⟨rfl, rfl⟩ := hp31
    obtain rfl := Option.some.inj hw31
    refine A_h (MW s K be (upd er 1 (er 1 + 1)) st na pi tr bi sz nu as' im at' op sp us tn sk ip) rfl ?_
    refine A_iret hE dX9_sheet_34 ?_
    rw [sheetF, if_neg (fun z => hh z.1)]
    exact ⟨rfl, rfl⟩
  · have hh := bI_1 c4
    obtain ⟨k, hkk, rfl⟩ := iK2 (n := 3) hh.1 hh.2 (by omega)
    have ek : (nI k).toNatClampNeg = k := nI_clamp (by omega)
    have loop : ∀ (m j : Nat) (bi' sz' : Nat → Int32), j + m = 24 → (sheetF er bi sz nu (nI k) w n) = (1, er, bi', sz', zroK 24 k nu) → AW E (rmD 2 0 0) 5 (QM E ad0 13 0 0 (pI fun x0 hz0 => x0 = (sheetF er bi sz nu (nI k) w n).1 ∧ hz0 = MW s K be (sheetF er bi sz nu (nI k) w n).2.1 st na pi tr (sheetF er bi sz nu (nI k) w n).2.2.1 (sheetF er bi sz nu (nI k) w n).2.2.2.1 (sheetF er bi sz nu (nI k) w n).2.2.2.2 as' im at' op sp us tn sk ip)) ad0 13 0 0 90 [(0, .ref 0), (1, .int (nI k)), (2, .int w), (3, .int n), (4, .int (nI j))] [] (MW s K be er st na pi tr bi' sz' (zroK j k nu) as' im at' op sp us tn sk ip) := by
      intro m
      induction m with
      | zero =>
        intro j bi' sz' hj hf
        obtain rfl : j = 24 := by omega
        refine A_iload hE 92 dX9_sheet_90 rfl rfl ?_
        refine A_bipush hE 94 dX9_sheet_92 rfl (24) (by decide) ?_
        refine A_icmp_ge hE 97 116 dX9_sheet_94 rfl rfl (fun c94 => ?_) (fun c94 => absurd (nI_le (a := 24) (b := 24) (by omega) (by omega)) c94)
        refine A_iconst hE 117 dX9_sheet_116 rfl (1) rfl ?_
        refine A_iret hE dX9_sheet_117 ?_
        rw [hf]
        exact ⟨rfl, rfl⟩
      | succ m ih =>
        intro j bi' sz' hj hf
        refine A_iload hE 92 dX9_sheet_90 rfl rfl ?_
        refine A_bipush hE 94 dX9_sheet_92 rfl (24) (by decide) ?_
        refine A_icmp_ge hE 97 116 dX9_sheet_94 rfl rfl (fun c94 => absurd c94 (nI_ge (a := j) (b := 24) (by omega) (by omega))) (fun c94 => ?_)
        refine A_aload_n hE 98 dX9_sheet_97 rfl rfl ?_
        refine A_get hE 101 dX9_sheet_98 rfl fkX9_40 rfl rfl ?_
        refine A_bipush hE 103 dX9_sheet_101 rfl (24) (by decide) ?_
        refine A_iload_n hE 104 dX9_sheet_103 rfl rfl ?_
        refine A_imul hE 105 dX9_sheet_104 rfl ?_
        refine A_iload hE 107 dX9_sheet_105 rfl rfl ?_
        refine A_iadd hE 108 dX9_sheet_107 rfl ?_
        refine A_iconst hE 109 dX9_sheet_108 rfl (0) rfl ?_
        refine A_iast hE 110 (24 * k + j) dX9_sheet_109 rfl rfl (ix24 k j) (by omega) rfl rfl ?_
        refine A_iinc hE 113 dX9_sheet_110 rfl rfl (1) rfl rfl rfl ?_
        rw [nI_1]
        refine A_lv [0, 1, 2, 3, 4] rfl ?_
        refine A_goto hE 90 dX9_sheet_113 rfl ?_
        exact A_h (MW s K be er st na pi tr bi' sz' (zroK (j + 1) k nu) as' im at' op sp us tn sk ip) (by rw [zroK_step]) (ih (j + 1) bi' sz' (by omega) hf)
    refine A_iload_n hE 8 dX9_sheet_7 rfl rfl ?_
    refine A_if_eq hE 11 35 dX9_sheet_8 rfl rfl (fun c8 => ?_) (fun c8 => ?_)
    · have hv : (0 ≤ nI k ∧ nI k ≤ 3) ∧ (w = 0 ∨ w = 8 ∨ w = 16 ∨ w = 32) := ⟨hh, Or.inl c8⟩
      subst c8
      refine A_iload_n hE 36 dX9_sheet_35 rfl rfl ?_
      refine A_if_eq hE 39 49 dX9_sheet_36 rfl rfl (fun c36 => ?_) (fun c36 => absurd rfl c36)
      refine A_iload_n hE 50 dX9_sheet_49 rfl rfl ?_
      refine A_if_eq hE 53 65 dX9_sheet_50 rfl rfl (fun c50 => ?_) (fun c50 => absurd rfl c50)
      refine A_aload_n hE 66 dX9_sheet_65 rfl rfl ?_
      refine A_get hE 69 dX9_sheet_66 rfl fkX9_34 rfl rfl ?_
      refine A_iload_n hE 70 dX9_sheet_69 rfl rfl ?_
      refine A_iload_n hE 71 dX9_sheet_70 rfl rfl ?_
      refine A_iast hE 72 k dX9_sheet_71 rfl rfl rfl (by omega) rfl rfl ?_
      refine A_aload_n hE 73 dX9_sheet_72 rfl rfl ?_
      refine A_get hE 76 dX9_sheet_73 rfl fkX9_37 rfl rfl ?_
      refine A_iload_n hE 77 dX9_sheet_76 rfl rfl ?_
      refine A_iload_n hE 78 dX9_sheet_77 rfl rfl ?_
      refine A_if_ne hE 81 85 dX9_sheet_78 rfl rfl (fun c78 => absurd rfl c78) (fun c78 => ?_)
      refine A_iconst hE 82 dX9_sheet_81 rfl (0) rfl ?_
      refine A_goto hE 86 dX9_sheet_82 rfl ?_
      refine A_iast hE 87 k dX9_sheet_86 rfl rfl rfl (by omega) rfl rfl ?_
      refine A_iconst hE 88 dX9_sheet_87 rfl (0) rfl ?_
      refine A_istore hE 90 dX9_sheet_88 rfl rfl rfl ?_
      refine A_lv [0, 1, 2, 3, 4] rfl ?_
      exact A_h (MW s K be er st na pi tr (upd bi k 0) (upd sz k 0) (zroK 0 k nu) as' im at' op sp us tn sk ip) (by rw [zroK_0]) (loop 24 0 _ _ rfl (by rw [sheetF, if_pos hv, ek, if_pos (show (0 : Int32) = 0 from rfl)]))
    · refine A_iload_n hE 12 dX9_sheet_11 rfl rfl ?_
      refine A_bipush hE 14 dX9_sheet_12 rfl (8) (by decide) ?_
      refine A_icmp_eq hE 17 35 dX9_sheet_14 rfl rfl (fun c14 => ?_) (fun c14 => ?_)
      · have hv : (0 ≤ nI k ∧ nI k ≤ 3) ∧ (w = 0 ∨ w = 8 ∨ w = 16 ∨ w = 32) := ⟨hh, Or.inr (Or.inl c14)⟩
        have hw0 : ¬ w = 0 := c8
        refine A_iload_n hE 36 dX9_sheet_35 rfl rfl ?_
        refine A_if_eq hE 39 49 dX9_sheet_36 rfl rfl (fun c36 => absurd c36 hw0) (fun c36 => ?_)
        refine A_iload_n hE 40 dX9_sheet_39 rfl rfl ?_
        refine A_if_ge hE 43 49 dX9_sheet_40 rfl rfl (fun c40 => ?_) (fun c40 => ?_)
        · refine A_iload_n hE 50 dX9_sheet_49 rfl rfl ?_
          refine A_if_eq hE 53 65 dX9_sheet_50 rfl rfl (fun c50 => absurd c50 hw0) (fun c50 => ?_)
          refine A_iload_n hE 54 dX9_sheet_53 rfl rfl ?_
          refine A_bipush hE 56 dX9_sheet_54 rfl (24) (by decide) ?_
          refine A_icmp_le hE 59 65 dX9_sheet_56 rfl rfl (fun c56 => ?_) (fun c56 => ?_)
          · refine A_aload_n hE 66 dX9_sheet_65 rfl rfl ?_
            refine A_get hE 69 dX9_sheet_66 rfl fkX9_34 rfl rfl ?_
            refine A_iload_n hE 70 dX9_sheet_69 rfl rfl ?_
            refine A_iload_n hE 71 dX9_sheet_70 rfl rfl ?_
            refine A_iast hE 72 k dX9_sheet_71 rfl rfl rfl (by omega) rfl rfl ?_
            refine A_aload_n hE 73 dX9_sheet_72 rfl rfl ?_
            refine A_get hE 76 dX9_sheet_73 rfl fkX9_37 rfl rfl ?_
            refine A_iload_n hE 77 dX9_sheet_76 rfl rfl ?_
            refine A_iload_n hE 78 dX9_sheet_77 rfl rfl ?_
            refine A_if_ne hE 81 85 dX9_sheet_78 rfl rfl (fun c78 => ?_) (fun c78 => absurd c78 hw0)
            refine A_iload_n hE 86 dX9_sheet_85 rfl rfl ?_
            refine A_iast hE 87 k dX9_sheet_86 rfl rfl rfl (by omega) rfl rfl ?_
            refine A_iconst hE 88 dX9_sheet_87 rfl (0) rfl ?_
            refine A_istore hE 90 dX9_sheet_88 rfl rfl rfl ?_
            refine A_lv [0, 1, 2, 3, 4] rfl ?_
            exact A_h (MW s K be er st na pi tr (upd bi k w) (upd sz k n) (zroK 0 k nu) as' im at' op sp us tn sk ip) (by rw [zroK_0]) (loop 24 0 _ _ rfl (by rw [sheetF, if_pos hv, ek, if_neg hw0, if_neg (iN c40), if_neg (iN c56)]))
          · refine A_aload_n hE 60 dX9_sheet_59 rfl rfl ?_
            refine A_iconst hE 61 dX9_sheet_60 rfl (1) rfl ?_
            refine A_callVi hE 64 (c_X9_error s K be er st na pi tr bi sz nu as' im at' op sp us tn sk ip 1 (by omega)) [0, 1, 2, 3, 4, 5, 6, 7, 8, 9, 10, 11, 12] dX9_sheet_61 rfl mkX9_51 rfl rfl rfl rfl rfl rfl rfl (Nat.le_of_ble_eq_true rfl) (Nat.le_of_ble_eq_true rfl) rfl (fun x61 h61 g61 hp61 hw61 => ?_)
            obtain ⟨rfl, rfl⟩ := hp61
            obtain rfl := Option.some.inj hw61
            refine A_h (MW s K be (upd er 1 (er 1 + 1)) st na pi tr bi sz nu as' im at' op sp us tn sk ip) rfl ?_
            refine A_iret hE dX9_sheet_64 ?_
            rw [sheetF, if_pos hv, ek, if_neg hw0, if_neg (iN c40), if_pos (iG c56)]
            exact ⟨rfl, rfl⟩
        · refine A_aload_n hE 44 dX9_sheet_43 rfl rfl ?_
          refine A_iconst hE 45 dX9_sheet_44 rfl (3) rfl ?_
          refine A_callVi hE 48 (c_X9_error s K be er st na pi tr bi sz nu as' im at' op sp us tn sk ip 3 (by omega)) [0, 1, 2, 3, 4, 5, 6, 7, 8, 9, 10, 11, 12] dX9_sheet_45 rfl mkX9_51 rfl rfl rfl rfl rfl rfl rfl (Nat.le_of_ble_eq_true rfl) (Nat.le_of_ble_eq_true rfl) rfl (fun x45 h45 g45 hp45 hw45 => ?_)
          obtain ⟨rfl, rfl⟩ := hp45
          obtain rfl := Option.some.inj hw45
          refine A_h (MW s K be (upd er 3 (er 3 + 1)) st na pi tr bi sz nu as' im at' op sp us tn sk ip) rfl ?_
          refine A_iret hE dX9_sheet_48 ?_
          rw [sheetF, if_pos hv, ek, if_neg hw0, if_pos (iG c40)]
          exact ⟨rfl, rfl⟩
      · refine A_iload_n hE 18 dX9_sheet_17 rfl rfl ?_
        refine A_bipush hE 20 dX9_sheet_18 rfl (16) (by decide) ?_
        refine A_icmp_eq hE 23 35 dX9_sheet_20 rfl rfl (fun c20 => ?_) (fun c20 => ?_)
        · have hv : (0 ≤ nI k ∧ nI k ≤ 3) ∧ (w = 0 ∨ w = 8 ∨ w = 16 ∨ w = 32) := ⟨hh, Or.inr (Or.inr (Or.inl c20))⟩
          have hw0 : ¬ w = 0 := c8
          refine A_iload_n hE 36 dX9_sheet_35 rfl rfl ?_
          refine A_if_eq hE 39 49 dX9_sheet_36 rfl rfl (fun c36 => absurd c36 hw0) (fun c36 => ?_)
          refine A_iload_n hE 40 dX9_sheet_39 rfl rfl ?_
          refine A_if_ge hE 43 49 dX9_sheet_40 rfl rfl (fun c40 => ?_) (fun c40 => ?_)
          · refine A_iload_n hE 50 dX9_sheet_49 rfl rfl ?_
            refine A_if_eq hE 53 65 dX9_sheet_50 rfl rfl (fun c50 => absurd c50 hw0) (fun c50 => ?_)
            refine A_iload_n hE 54 dX9_sheet_53 rfl rfl ?_
            refine A_bipush hE 56 dX9_sheet_54 rfl (24) (by decide) ?_
            refine A_icmp_le hE 59 65 dX9_sheet_56 rfl rfl (fun c56 => ?_) (fun c56 => ?_)
            · refine A_aload_n hE 66 dX9_sheet_65 rfl rfl ?_
              refine A_get hE 69 dX9_sheet_66 rfl fkX9_34 rfl rfl ?_
              refine A_iload_n hE 70 dX9_sheet_69 rfl rfl ?_
              refine A_iload_n hE 71 dX9_sheet_70 rfl rfl ?_
              refine A_iast hE 72 k dX9_sheet_71 rfl rfl rfl (by omega) rfl rfl ?_
              refine A_aload_n hE 73 dX9_sheet_72 rfl rfl ?_
              refine A_get hE 76 dX9_sheet_73 rfl fkX9_37 rfl rfl ?_
              refine A_iload_n hE 77 dX9_sheet_76 rfl rfl ?_
              refine A_iload_n hE 78 dX9_sheet_77 rfl rfl ?_
              refine A_if_ne hE 81 85 dX9_sheet_78 rfl rfl (fun c78 => ?_) (fun c78 => absurd c78 hw0)
              refine A_iload_n hE 86 dX9_sheet_85 rfl rfl ?_
              refine A_iast hE 87 k dX9_sheet_86 rfl rfl rfl (by omega) rfl rfl ?_
              refine A_iconst hE 88 dX9_sheet_87 rfl (0) rfl ?_
              refine A_istore hE 90 dX9_sheet_88 rfl rfl rfl ?_
              refine A_lv [0, 1, 2, 3, 4] rfl ?_
              exact A_h (MW s K be er st na pi tr (upd bi k w) (upd sz k n) (zroK 0 k nu) as' im at' op sp us tn sk ip) (by rw [zroK_0]) (loop 24 0 _ _ rfl (by rw [sheetF, if_pos hv, ek, if_neg hw0, if_neg (iN c40), if_neg (iN c56)]))
            · refine A_aload_n hE 60 dX9_sheet_59 rfl rfl ?_
              refine A_iconst hE 61 dX9_sheet_60 rfl (1) rfl ?_
              refine A_callVi hE 64 (c_X9_error s K be er st na pi tr bi sz nu as' im at' op sp us tn sk ip 1 (by omega)) [0, 1, 2, 3, 4, 5, 6, 7, 8, 9, 10, 11, 12] dX9_sheet_61 rfl mkX9_51 rfl rfl rfl rfl rfl rfl rfl (Nat.le_of_ble_eq_true rfl) (Nat.le_of_ble_eq_true rfl) rfl (fun x61 h61 g61 hp61 hw61 => ?_)
              obtain ⟨rfl, rfl⟩ := hp61
              obtain rfl := Option.some.inj hw61
              refine A_h (MW s K be (upd er 1 (er 1 + 1)) st na pi tr bi sz nu as' im at' op sp us tn sk ip) rfl ?_
              refine A_iret hE dX9_sheet_64 ?_
              rw [sheetF, if_pos hv, ek, if_neg hw0, if_neg (iN c40), if_pos (iG c56)]
              exact ⟨rfl, rfl⟩
          · refine A_aload_n hE 44 dX9_sheet_43 rfl rfl ?_
            refine A_iconst hE 45 dX9_sheet_44 rfl (3) rfl ?_
            refine A_callVi hE 48 (c_X9_error s K be er st na pi tr bi sz nu as' im at' op sp us tn sk ip 3 (by omega)) [0, 1, 2, 3, 4, 5, 6, 7, 8, 9, 10, 11, 12] dX9_sheet_45 rfl mkX9_51 rfl rfl rfl rfl rfl rfl rfl (Nat.le_of_ble_eq_true rfl) (Nat.le_of_ble_eq_true rfl) rfl (fun x45 h45 g45 hp45 hw45 => ?_)
            obtain ⟨rfl, rfl⟩ := hp45
            obtain rfl := Option.some.inj hw45
            refine A_h (MW s K be (upd er 3 (er 3 + 1)) st na pi tr bi sz nu as' im at' op sp us tn sk ip) rfl ?_
            refine A_iret hE dX9_sheet_48 ?_
            rw [sheetF, if_pos hv, ek, if_neg hw0, if_pos (iG c40)]
            exact ⟨rfl, rfl⟩
        · refine A_iload_n hE 24 dX9_sheet_23 rfl rfl ?_
          refine A_bipush hE 26 dX9_sheet_24 rfl (32) (by decide) ?_
          refine A_icmp_eq hE 29 35 dX9_sheet_26 rfl rfl (fun c26 => ?_) (fun c26 => ?_)
          · have hv : (0 ≤ nI k ∧ nI k ≤ 3) ∧ (w = 0 ∨ w = 8 ∨ w = 16 ∨ w = 32) := ⟨hh, Or.inr (Or.inr (Or.inr c26))⟩
            have hw0 : ¬ w = 0 := c8
            refine A_iload_n hE 36 dX9_sheet_35 rfl rfl ?_
            refine A_if_eq hE 39 49 dX9_sheet_36 rfl rfl (fun c36 => absurd c36 hw0) (fun c36 => ?_)
            refine A_iload_n hE 40 dX9_sheet_39 rfl rfl ?_
            refine A_if_ge hE 43 49 dX9_sheet_40 rfl rfl (fun c40 => ?_) (fun c40 => ?_)
            · refine A_iload_n hE 50 dX9_sheet_49 rfl rfl ?_
              refine A_if_eq hE 53 65 dX9_sheet_50 rfl rfl (fun c50 => absurd c50 hw0) (fun c50 => ?_)
              refine A_iload_n hE 54 dX9_sheet_53 rfl rfl ?_
              refine A_bipush hE 56 dX9_sheet_54 rfl (24) (by decide) ?_
              refine A_icmp_le hE 59 65 dX9_sheet_56 rfl rfl (fun c56 => ?_) (fun c56 => ?_)
              · refine A_aload_n hE 66 dX9_sheet_65 rfl rfl ?_
                refine A_get hE 69 dX9_sheet_66 rfl fkX9_34 rfl rfl ?_
                refine A_iload_n hE 70 dX9_sheet_69 rfl rfl ?_
                refine A_iload_n hE 71 dX9_sheet_70 rfl rfl ?_
                refine A_iast hE 72 k dX9_sheet_71 rfl rfl rfl (by omega) rfl rfl ?_
                refine A_aload_n hE 73 dX9_sheet_72 rfl rfl ?_
                refine A_get hE 76 dX9_sheet_73 rfl fkX9_37 rfl rfl ?_
                refine A_iload_n hE 77 dX9_sheet_76 rfl rfl ?_
                refine A_iload_n hE 78 dX9_sheet_77 rfl rfl ?_
                refine A_if_ne hE 81 85 dX9_sheet_78 rfl rfl (fun c78 => ?_) (fun c78 => absurd c78 hw0)
                refine A_iload_n hE 86 dX9_sheet_85 rfl rfl ?_
                refine A_iast hE 87 k dX9_sheet_86 rfl rfl rfl (by omega) rfl rfl ?_
                refine A_iconst hE 88 dX9_sheet_87 rfl (0) rfl ?_
                refine A_istore hE 90 dX9_sheet_88 rfl rfl rfl ?_
                refine A_lv [0, 1, 2, 3, 4] rfl ?_
                exact A_h (MW s K be er st na pi tr (upd bi k w) (upd sz k n) (zroK 0 k nu) as' im at' op sp us tn sk ip) (by rw [zroK_0]) (loop 24 0 _ _ rfl (by rw [sheetF, if_pos hv, ek, if_neg hw0, if_neg (iN c40), if_neg (iN c56)]))
              · refine A_aload_n hE 60 dX9_sheet_59 rfl rfl ?_
                refine A_iconst hE 61 dX9_sheet_60 rfl (1) rfl ?_
                refine A_callVi hE 64 (c_X9_error s K be er st na pi tr bi sz nu as' im at' op sp us tn sk ip 1 (by omega)) [0, 1, 2, 3, 4, 5, 6, 7, 8, 9, 10, 11, 12] dX9_sheet_61 rfl mkX9_51 rfl rfl rfl rfl rfl rfl rfl (Nat.le_of_ble_eq_true rfl) (Nat.le_of_ble_eq_true rfl) rfl (fun x61 h61 g61 hp61 hw61 => ?_)
                obtain ⟨rfl, rfl⟩ := hp61
                obtain rfl := Option.some.inj hw61
                refine A_h (MW s K be (upd er 1 (er 1 + 1)) st na pi tr bi sz nu as' im at' op sp us tn sk ip) rfl ?_
                refine A_iret hE dX9_sheet_64 ?_
                rw [sheetF, if_pos hv, ek, if_neg hw0, if_neg (iN c40), if_pos (iG c56)]
                exact ⟨rfl, rfl⟩
            · refine A_aload_n hE 44 dX9_sheet_43 rfl rfl ?_
              refine A_iconst hE 45 dX9_sheet_44 rfl (3) rfl ?_
              refine A_callVi hE 48 (c_X9_error s K be er st na pi tr bi sz nu as' im at' op sp us tn sk ip 3 (by omega)) [0, 1, 2, 3, 4, 5, 6, 7, 8, 9, 10, 11, 12] dX9_sheet_45 rfl mkX9_51 rfl rfl rfl rfl rfl rfl rfl (Nat.le_of_ble_eq_true rfl) (Nat.le_of_ble_eq_true rfl) rfl (fun x45 h45 g45 hp45 hw45 => ?_)
              obtain ⟨rfl, rfl⟩ := hp45
              obtain rfl := Option.some.inj hw45
              refine A_h (MW s K be (upd er 3 (er 3 + 1)) st na pi tr bi sz nu as' im at' op sp us tn sk ip) rfl ?_
              refine A_iret hE dX9_sheet_48 ?_
              rw [sheetF, if_pos hv, ek, if_neg hw0, if_pos (iG c40)]
              exact ⟨rfl, rfl⟩
          · refine A_aload_n hE 30 dX9_sheet_29 rfl rfl ?_
            refine A_iconst hE 31 dX9_sheet_30 rfl (1) rfl ?_
            refine A_callVi hE 34 (c_X9_error s K be er st na pi tr bi sz nu as' im at' op sp us tn sk ip 1 (by omega)) [0, 1, 2, 3, 4, 5, 6, 7, 8, 9, 10, 11, 12] dX9_sheet_31 rfl mkX9_51 rfl rfl rfl rfl rfl rfl rfl (Nat.le_of_ble_eq_true rfl) (Nat.le_of_ble_eq_true rfl) rfl (fun x31 h31 g31 hp31 hw31 => ?_)
            obtain ⟨rfl, rfl⟩ := hp31
            obtain rfl := Option.some.inj hw31
            refine A_h (MW s K be (upd er 1 (er 1 + 1)) st na pi tr bi sz nu as' im at' op sp us tn sk ip) rfl ?_
            refine A_iret hE dX9_sheet_34 ?_
            rw [sheetF, if_neg (fun z => z.2.elim c8 (fun z => z.elim c14 (fun z => z.elim c20 c26)))]
            exact ⟨rfl, rfl⟩
set_option maxRecDepth 100000 in
theorem c_X9_lacks (s K be er st na pi tr bi sz nu as' : Nat → Int32) (im at' op sp us tn sk ip : Int32) (h : Int32) : AMet yX9_lacks cX9_lacks 2 (some (.int)) 2 0 0 [.ref 0, .int h] (MW s K be er st na pi tr bi sz nu as' im at' op sp us tn sk ip) (pI fun r hz => r = lacksV bi h ∧ hz = MW s K be er st na pi tr bi sz nu as' im at' op sp us tn sk ip) := by
  refine AMet.of (by decide +kernel) rfl (fun E ad0 hE => ?_)
  refine A_iload_n hE 1 dX9_lacks_0 rfl rfl ?_
  refine A_callSi hE 4 (c_X9_isSheet h) [] dX9_lacks_1 rfl mkX9_195 rfl rfl rfl rfl rfl rfl (Nat.le_of_ble_eq_true rfl) (Nat.le_of_ble_eq_true rfl) rfl (fun x1 h1 g1 hp1 hw1 => ?_)
  obtain ⟨rfl, rfl⟩ := hp1
  obtain rfl := Option.some.inj hw1
  refine A_if_ne hE 7 11 dX9_lacks_4 rfl rfl (fun c4 => ?_) (fun c4 => ?_)
  · have hh := bI_1 c4
    obtain ⟨k, hkk, rfl⟩ := iK2 (n := 3) hh.1 hh.2 (by omega)
    have ek : (nI k).toNatClampNeg = k := nI_clamp (by omega)
    refine A_aload_n hE 12 dX9_lacks_11 rfl rfl ?_
    refine A_get hE 15 dX9_lacks_12 rfl fkX9_34 rfl rfl ?_
    refine A_iload_n hE 16 dX9_lacks_15 rfl rfl ?_
    refine A_iald hE 17 k dX9_lacks_16 rfl rfl rfl (by omega) rfl ?_
    refine A_if_ne hE 20 24 dX9_lacks_17 rfl rfl (fun c17 => ?_) (fun c17 => ?_)
    · refine A_iconst hE 25 dX9_lacks_24 rfl (0) rfl ?_
      refine A_iret hE dX9_lacks_25 ?_
      rw [lacksV, if_pos hh, ek, if_neg c17]
      exact ⟨rfl, rfl⟩
    · refine A_iconst hE 21 dX9_lacks_20 rfl (2) rfl ?_
      refine A_goto hE 25 dX9_lacks_21 rfl ?_
      refine A_iret hE dX9_lacks_25 ?_
      rw [lacksV, if_pos hh, ek, if_pos c17]
      exact ⟨rfl, rfl⟩
  · have hh := bI_0 c4
    refine A_iconst hE 8 dX9_lacks_7 rfl (1) rfl ?_
    refine A_goto hE 25 dX9_lacks_8 rfl ?_
    refine A_iret hE dX9_lacks_25 ?_
    rw [lacksV, if_neg hh]
    exact ⟨rfl, rfl⟩
