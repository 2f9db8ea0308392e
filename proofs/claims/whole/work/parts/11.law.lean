theorem i32_of {x : Int32} {k : Int} {v : Int32} (h : x.toInt = k) (hv : Int32.ofInt k = v) : x = v := by
  subst h
  rw [Int32.ofInt_toInt] at hv
  exact hv
theorem mnV (x y : Int32) : (if y < x then y else x) = if x ≤ y then x else y := by
  by_cases h : y < x
  · rw [if_pos h, if_neg (iM h)]
  · rw [if_neg h, if_pos (iL h)]
theorem clampV_eq (x : Int32) : (if 0 < (if x < 99 then x else 99) then (if x < 99 then x else 99) else (0 : Int32)) = clampV x := by
  unfold clampV
  by_cases h : x < 99
  · rw [if_pos h]
    by_cases h2 : 0 < x
    · rw [if_pos h2, if_neg (fun z => Int32.lt_irrefl (Int32.lt_trans h2 z)), if_neg (fun z => Int32.lt_irrefl (Int32.lt_trans h z))]
    · rw [if_neg h2]
      by_cases h3 : x < 0
      · rw [if_pos h3]
      · rw [if_neg h3, if_neg (fun z => Int32.lt_irrefl (Int32.lt_trans h z))]
        exact Int32.le_antisymm (iL h3) (iL h2)
  · rw [if_neg h, if_pos (by decide)]
    have h4 : ¬ x < 0 := fun z => h (Int32.lt_trans z (by decide))
    rw [if_neg h4]
    by_cases h3 : 99 < x
    · rw [if_pos h3]
    · rw [if_neg h3]
      exact Int32.le_antisymm (iL h) (iL h3)

set_option maxRecDepth 100000 in
theorem c_J9_min_7cf53 (x y : Int32) : AMet yJ9_min_7cf53 cJ9_min_7cf53 2 (some (.int)) 0 0 0 [.int x, .int y] [] (pI fun r h => r = (if y < x then y else x) ∧ h = []) := by
  refine AMet.of (by decide +kernel) rfl (fun E ad0 hE => ?_)
  refine A_iload_n hE 1 dJ9_min_7cf53_0 rfl rfl ?_
  refine A_iload_n hE 2 dJ9_min_7cf53_1 rfl rfl ?_
  refine A_icmp_gt hE 5 9 dJ9_min_7cf53_2 rfl rfl (fun c2 => ?_) (fun c2 => ?_)
  · refine A_iload_n hE 10 dJ9_min_7cf53_9 rfl rfl ?_
    refine A_iret hE dJ9_min_7cf53_10 ⟨?_, rfl⟩
    rw [if_pos c2]
  · refine A_iload_n hE 6 dJ9_min_7cf53_5 rfl rfl ?_
    refine A_goto hE 10 dJ9_min_7cf53_6 rfl ?_
    refine A_iret hE dJ9_min_7cf53_10 ⟨?_, rfl⟩
    rw [if_neg (Int32.not_lt.mpr (Int32.not_lt.mp c2))]
set_option maxRecDepth 100000 in
theorem c_J9_max_7cf53 (x y : Int32) : AMet yJ9_max_7cf53 cJ9_max_7cf53 2 (some (.int)) 0 0 0 [.int x, .int y] [] (pI fun r h => r = (if x < y then y else x) ∧ h = []) := by
  refine AMet.of (by decide +kernel) rfl (fun E ad0 hE => ?_)
  refine A_iload_n hE 1 dJ9_max_7cf53_0 rfl rfl ?_
  refine A_iload_n hE 2 dJ9_max_7cf53_1 rfl rfl ?_
  refine A_icmp_lt hE 5 9 dJ9_max_7cf53_2 rfl rfl (fun c2 => ?_) (fun c2 => ?_)
  · refine A_iload_n hE 10 dJ9_max_7cf53_9 rfl rfl ?_
    refine A_iret hE dJ9_max_7cf53_10 ⟨?_, rfl⟩
    rw [if_pos c2]
  · refine A_iload_n hE 6 dJ9_max_7cf53_5 rfl rfl ?_
    refine A_goto hE 10 dJ9_max_7cf53_6 rfl ?_
    refine A_iret hE dJ9_max_7cf53_10 ⟨?_, rfl⟩
    rw [if_neg c2]

theorem rm_toInt (x : Int32) : (rm x 100).toInt = x.toInt.tmod 100 := rem_toInt x 100
theorem rm_sign {x : Int32} (h : x < 0) : rm x 100 ≤ 0 := by
  have h1 : x.toInt < 0 := by
    rw [Int32.lt_iff_toInt_lt, Int32.toInt_zero] at h
    exact h
  rw [Int32.le_iff_toInt_le, rm_toInt, Int32.toInt_zero]
  have e : x.toInt.tmod 100 = -((-x.toInt) % 100) := by
    rw [← Int.tmod_eq_emod_of_nonneg (by omega), Int.neg_tmod, Int.neg_neg]
  rw [e]
  omega
theorem rm_sign' {x : Int32} (h : 0 ≤ x) : 0 ≤ rm x 100 := by
  obtain ⟨j, hj, rfl⟩ := nI_of (iN h)
  have e : rm (nI j) 100 = nI (j % 100) := pk_rem (d := 100) hj (by omega) (by omega)
  rw [e]
  exact nI_pos' (by omega)
theorem xor100 (x : Int32) : (0 : Int32) ≤ x ^^^ 100 ↔ 0 ≤ x := by
  rw [Int32.le_iff_toBitVec_sle, Int32.le_iff_toBitVec_sle]
  have e0 : (0 : Int32).toBitVec = 0#32 := rfl
  have e1 : (100 : Int32).toBitVec.msb = false := by decide
  rw [e0, BitVec.zero_sle_iff_msb_eq_false, BitVec.zero_sle_iff_msb_eq_false, Int32.toBitVec_xor, BitVec.msb_xor, e1, Bool.xor_false]

set_option maxRecDepth 100000 in
theorem c_J9_floorMod_7cf53 (x : Int32) : AMet yJ9_floorMod_7cf53 cJ9_floorMod_7cf53 3 (some (.int)) 0 0 0 [.int x, .int 100] [] (pI fun r h => r = restV x ∧ h = []) := by
  refine AMet.of (by decide +kernel) rfl (fun E ad0 hE => ?_)
  refine A_iload_n hE 1 dJ9_floorMod_7cf53_0 rfl rfl ?_
  refine A_iload_n hE 2 dJ9_floorMod_7cf53_1 rfl rfl ?_
  refine A_irem hE 3 dJ9_floorMod_7cf53_2 rfl (by decide) ?_
  refine A_istore_n hE 4 dJ9_floorMod_7cf53_3 rfl rfl rfl ?_
  refine A_iload_n hE 5 dJ9_floorMod_7cf53_4 rfl rfl ?_
  refine A_iload_n hE 6 dJ9_floorMod_7cf53_5 rfl rfl ?_
  refine A_ixor hE 7 dJ9_floorMod_7cf53_6 rfl ?_
  refine A_if_ge hE 10 18 dJ9_floorMod_7cf53_7 rfl rfl (fun c7 => ?_) (fun c7 => ?_)
  · refine A_iload_n hE 19 dJ9_floorMod_7cf53_18 rfl rfl ?_
    refine A_iret hE dJ9_floorMod_7cf53_19 ⟨?_, rfl⟩
    unfold restV
    rw [if_neg (iN (rm_sign' ((xor100 x).mp c7)))]
  · refine A_iload_n hE 11 dJ9_floorMod_7cf53_10 rfl rfl ?_
    refine A_if_eq hE 14 18 dJ9_floorMod_7cf53_11 rfl rfl (fun c11 => ?_) (fun c11 => ?_)
    · refine A_iload_n hE 19 dJ9_floorMod_7cf53_18 rfl rfl ?_
      refine A_iret hE dJ9_floorMod_7cf53_19 ⟨?_, rfl⟩
      unfold restV
      rw [c11, if_neg (by decide)]
    · refine A_iload_n hE 15 dJ9_floorMod_7cf53_14 rfl rfl ?_
      refine A_iload_n hE 16 dJ9_floorMod_7cf53_15 rfl rfl ?_
      refine A_iadd hE 17 dJ9_floorMod_7cf53_16 rfl ?_
      refine A_iret hE dJ9_floorMod_7cf53_17 ⟨?_, rfl⟩
      unfold restV
      have hx : x < 0 := iG (fun z => c7 ((xor100 x).mpr z))
      rw [if_pos (Int32.lt_of_le_of_ne (rm_sign hx) c11)]
set_option maxRecDepth 100000 in
theorem c_X0_worth (st a b c : Int32) : AMet yX0_worth cX0_worth 4 (some (.int)) 0 0 0 [.int st, .int a, .int b, .int c] [] (pI fun x h => x = (if st = 10000 then a else if st = 10001 then b else if st = 10002 then c else st) ∧ h = []) := by
  refine AMet.of (by decide +kernel) rfl (fun E ad0 hE => ?_)
  rcases (show st.toInt < 10000 ∨ 10002 < st.toInt ∨ st.toInt = 10000 ∨ st.toInt = 10001 ∨ st.toInt = 10002 by omega) with hs | hs | hs | hs | hs
  · refine A_iload_n hE 1 dX0_worth_0 rfl rfl ?_
    refine A_tabOut hE 34 dX0_worth_1 (Or.inl hs) rfl ?_
    refine A_iload_n hE 35 dX0_worth_34 rfl rfl ?_
    refine A_iret hE dX0_worth_35 ⟨?_, rfl⟩
    have n0 : st ≠ 10000 := fun z => by subst z; revert hs; decide
    have n1 : st ≠ 10001 := fun z => by subst z; revert hs; decide
    have n2 : st ≠ 10002 := fun z => by subst z; revert hs; decide
    rw [if_neg n0, if_neg n1, if_neg n2]
  · refine A_iload_n hE 1 dX0_worth_0 rfl rfl ?_
    refine A_tabOut hE 34 dX0_worth_1 (Or.inr hs) rfl ?_
    refine A_iload_n hE 35 dX0_worth_34 rfl rfl ?_
    refine A_iret hE dX0_worth_35 ⟨?_, rfl⟩
    have n0 : st ≠ 10000 := fun z => by subst z; revert hs; decide
    have n1 : st ≠ 10001 := fun z => by subst z; revert hs; decide
    have n2 : st ≠ 10002 := fun z => by subst z; revert hs; decide
    rw [if_neg n0, if_neg n1, if_neg n2]
  · obtain rfl : st = 10000 := i32_of hs (by decide)
    refine A_iload_n hE 1 dX0_worth_0 rfl rfl ?_
    refine A_tabIn hE 28 dX0_worth_1 (by decide) (by decide) (off := 27) (by decide) rfl ?_
    refine A_iload_n hE 29 dX0_worth_28 rfl rfl ?_
    refine A_iret hE dX0_worth_29 ⟨?_, rfl⟩
    rfl
  · obtain rfl : st = 10001 := i32_of hs (by decide)
    refine A_iload_n hE 1 dX0_worth_0 rfl rfl ?_
    refine A_tabIn hE 30 dX0_worth_1 (by decide) (by decide) (off := 29) (by decide) rfl ?_
    refine A_iload_n hE 31 dX0_worth_30 rfl rfl ?_
    refine A_iret hE dX0_worth_31 ⟨?_, rfl⟩
    rfl
  · obtain rfl : st = 10002 := i32_of hs (by decide)
    refine A_iload_n hE 1 dX0_worth_0 rfl rfl ?_
    refine A_tabIn hE 32 dX0_worth_1 (by decide) (by decide) (off := 31) (by decide) rfl ?_
    refine A_iload_n hE 33 dX0_worth_32 rfl rfl ?_
    refine A_iret hE dX0_worth_33 ⟨?_, rfl⟩
    rfl
set_option maxRecDepth 100000 in
theorem c_X0_combine (c x y : Int32) (hop : opC c) : AMet yX0_combine cX0_combine 3 (some (.int)) 0 0 0 [.int c, .int x, .int y] [] (pI fun r h => r = jn c x y ∧ h = []) := by
  refine AMet.of (by decide +kernel) rfl (fun E ad0 hE => ?_)
  rcases hop with rfl | rfl | rfl | rfl | rfl | rfl | rfl | rfl | rfl | rfl
  · refine A_iload_n hE 1 dX0_combine_0 rfl rfl ?_
    refine A_lookup hE 153 dX0_combine_1 (by decide) (off := 152) (by decide) rfl ?_
    refine A_iload_n hE 154 dX0_combine_153 rfl rfl ?_
    refine A_iload_n hE 155 dX0_combine_154 rfl rfl ?_
    refine A_iadd hE 156 dX0_combine_155 rfl ?_
    refine A_iret hE dX0_combine_156 ⟨?_, rfl⟩
    rfl
  · refine A_iload_n hE 1 dX0_combine_0 rfl rfl ?_
    refine A_lookup hE 157 dX0_combine_1 (by decide) (off := 156) (by decide) rfl ?_
    refine A_iload_n hE 158 dX0_combine_157 rfl rfl ?_
    refine A_iload_n hE 159 dX0_combine_158 rfl rfl ?_
    refine A_isub hE 160 dX0_combine_159 rfl ?_
    refine A_iret hE dX0_combine_160 ⟨?_, rfl⟩
    rfl
  · refine A_iload_n hE 1 dX0_combine_0 rfl rfl ?_
    refine A_lookup hE 161 dX0_combine_1 (by decide) (off := 160) (by decide) rfl ?_
    refine A_iload_n hE 162 dX0_combine_161 rfl rfl ?_
    refine A_iload_n hE 163 dX0_combine_162 rfl rfl ?_
    refine A_imul hE 164 dX0_combine_163 rfl ?_
    refine A_iret hE dX0_combine_164 ⟨?_, rfl⟩
    rfl
  · refine A_iload_n hE 1 dX0_combine_0 rfl rfl ?_
    refine A_lookup hE 165 dX0_combine_1 (by decide) (off := 164) (by decide) rfl ?_
    refine A_iload_n hE 166 dX0_combine_165 rfl rfl ?_
    refine A_if_ne hE 169 173 dX0_combine_166 rfl rfl (fun c166 => ?_) (fun c166 => ?_)
    · refine A_iload_n hE 174 dX0_combine_173 rfl rfl ?_
      refine A_iload_n hE 175 dX0_combine_174 rfl rfl ?_
      refine A_idiv hE 176 dX0_combine_175 rfl c166 ?_
      refine A_iret hE dX0_combine_176 ⟨?_, rfl⟩
      show x / y = if y = 0 then 0 else x / y
      rw [if_neg c166]
    · refine A_iconst hE 170 dX0_combine_169 rfl (0) rfl ?_
      refine A_goto hE 176 dX0_combine_170 rfl ?_
      refine A_iret hE dX0_combine_176 ⟨?_, rfl⟩
      show (0 : Int32) = if y = 0 then 0 else x / y
      rw [if_pos (c166)]
  · refine A_iload_n hE 1 dX0_combine_0 rfl rfl ?_
    refine A_lookup hE 177 dX0_combine_1 (by decide) (off := 176) (by decide) rfl ?_
    refine A_iload_n hE 178 dX0_combine_177 rfl rfl ?_
    refine A_if_ne hE 181 185 dX0_combine_178 rfl rfl (fun c178 => ?_) (fun c178 => ?_)
    · refine A_iload_n hE 186 dX0_combine_185 rfl rfl ?_
      refine A_iload_n hE 187 dX0_combine_186 rfl rfl ?_
      refine A_irem hE 188 dX0_combine_187 rfl c178 ?_
      refine A_iret hE dX0_combine_188 ⟨?_, rfl⟩
      show rm x y = if y = 0 then 0 else rm x y
      rw [if_neg c178]
    · refine A_iconst hE 182 dX0_combine_181 rfl (0) rfl ?_
      refine A_goto hE 188 dX0_combine_182 rfl ?_
      refine A_iret hE dX0_combine_188 ⟨?_, rfl⟩
      show (0 : Int32) = if y = 0 then 0 else rm x y
      rw [if_pos (c178)]
  · refine A_iload_n hE 1 dX0_combine_0 rfl rfl ?_
    refine A_lookup hE 120 dX0_combine_1 (by decide) (off := 119) (by decide) rfl ?_
    refine A_iload_n hE 121 dX0_combine_120 rfl rfl ?_
    refine A_iload_n hE 122 dX0_combine_121 rfl rfl ?_
    refine A_icmp_ge hE 125 129 dX0_combine_122 rfl rfl (fun c122 => ?_) (fun c122 => ?_)
    · refine A_iconst hE 130 dX0_combine_129 rfl (0) rfl ?_
      refine A_iret hE dX0_combine_130 ⟨?_, rfl⟩
      show (0 : Int32) = bI (decide (x < y))
      exact bI_f (iN c122)
    · refine A_iconst hE 126 dX0_combine_125 rfl (1) rfl ?_
      refine A_goto hE 130 dX0_combine_126 rfl ?_
      refine A_iret hE dX0_combine_130 ⟨?_, rfl⟩
      show (1 : Int32) = bI (decide (x < y))
      exact bI_t (iG c122)
  · refine A_iload_n hE 1 dX0_combine_0 rfl rfl ?_
    refine A_lookup hE 142 dX0_combine_1 (by decide) (off := 141) (by decide) rfl ?_
    refine A_iload_n hE 143 dX0_combine_142 rfl rfl ?_
    refine A_iload_n hE 144 dX0_combine_143 rfl rfl ?_
    refine A_icmp_le hE 147 151 dX0_combine_144 rfl rfl (fun c144 => ?_) (fun c144 => ?_)
    · refine A_iconst hE 152 dX0_combine_151 rfl (0) rfl ?_
      refine A_iret hE dX0_combine_152 ⟨?_, rfl⟩
      show (0 : Int32) = bI (decide (y < x))
      exact bI_f (iN c144)
    · refine A_iconst hE 148 dX0_combine_147 rfl (1) rfl ?_
      refine A_goto hE 152 dX0_combine_148 rfl ?_
      refine A_iret hE dX0_combine_152 ⟨?_, rfl⟩
      show (1 : Int32) = bI (decide (y < x))
      exact bI_t (iG c144)
  · refine A_iload_n hE 1 dX0_combine_0 rfl rfl ?_
    refine A_lookup hE 131 dX0_combine_1 (by decide) (off := 130) (by decide) rfl ?_
    refine A_iload_n hE 132 dX0_combine_131 rfl rfl ?_
    refine A_iload_n hE 133 dX0_combine_132 rfl rfl ?_
    refine A_icmp_ne hE 136 140 dX0_combine_133 rfl rfl (fun c133 => ?_) (fun c133 => ?_)
    · refine A_iconst hE 141 dX0_combine_140 rfl (0) rfl ?_
      refine A_iret hE dX0_combine_141 ⟨?_, rfl⟩
      show (0 : Int32) = bI (decide (x = y))
      exact bI_f c133
    · refine A_iconst hE 137 dX0_combine_136 rfl (1) rfl ?_
      refine A_goto hE 141 dX0_combine_137 rfl ?_
      refine A_iret hE dX0_combine_141 ⟨?_, rfl⟩
      show (1 : Int32) = bI (decide (x = y))
      exact bI_t (c133)
  · refine A_iload_n hE 1 dX0_combine_0 rfl rfl ?_
    refine A_lookup hE 106 dX0_combine_1 (by decide) (off := 105) (by decide) rfl ?_
    refine A_iload_n hE 107 dX0_combine_106 rfl rfl ?_
    refine A_if_eq hE 110 118 dX0_combine_107 rfl rfl (fun c107 => ?_) (fun c107 => ?_)
    · refine A_iconst hE 119 dX0_combine_118 rfl (0) rfl ?_
      refine A_iret hE dX0_combine_119 ⟨?_, rfl⟩
      show (0 : Int32) = bI (decide (¬ x = 0 ∧ ¬ y = 0))
      exact bI_f (fun z => z.1 c107)
    · refine A_iload_n hE 111 dX0_combine_110 rfl rfl ?_
      refine A_if_eq hE 114 118 dX0_combine_111 rfl rfl (fun c111 => ?_) (fun c111 => ?_)
      · refine A_iconst hE 119 dX0_combine_118 rfl (0) rfl ?_
        refine A_iret hE dX0_combine_119 ⟨?_, rfl⟩
        show (0 : Int32) = bI (decide (¬ x = 0 ∧ ¬ y = 0))
        exact bI_f (fun z => z.2 c111)
      · refine A_iconst hE 115 dX0_combine_114 rfl (1) rfl ?_
        refine A_goto hE 119 dX0_combine_115 rfl ?_
        refine A_iret hE dX0_combine_119 ⟨?_, rfl⟩
        show (1 : Int32) = bI (decide (¬ x = 0 ∧ ¬ y = 0))
        exact bI_t ⟨c107, c111⟩
  · refine A_iload_n hE 1 dX0_combine_0 rfl rfl ?_
    refine A_lookup hE 92 dX0_combine_1 (by decide) (off := 91) (by decide) rfl ?_
    refine A_iload_n hE 93 dX0_combine_92 rfl rfl ?_
    refine A_if_ne hE 96 100 dX0_combine_93 rfl rfl (fun c93 => ?_) (fun c93 => ?_)
    · refine A_iconst hE 101 dX0_combine_100 rfl (1) rfl ?_
      refine A_goto hE 105 dX0_combine_101 rfl ?_
      refine A_iret hE dX0_combine_105 ⟨?_, rfl⟩
      show (1 : Int32) = bI (decide (¬ x = 0 ∨ ¬ y = 0))
      exact bI_t (Or.inl c93)
    · refine A_iload_n hE 97 dX0_combine_96 rfl rfl ?_
      refine A_if_eq hE 100 104 dX0_combine_97 rfl rfl (fun c97 => ?_) (fun c97 => ?_)
      · refine A_iconst hE 105 dX0_combine_104 rfl (0) rfl ?_
        refine A_iret hE dX0_combine_105 ⟨?_, rfl⟩
        show (0 : Int32) = bI (decide (¬ x = 0 ∨ ¬ y = 0))
        exact bI_f (fun z => z.elim (fun w => w c93) (fun w => w c97))
      · refine A_iconst hE 101 dX0_combine_100 rfl (1) rfl ?_
        refine A_goto hE 105 dX0_combine_101 rfl ?_
        refine A_iret hE dX0_combine_105 ⟨?_, rfl⟩
        show (1 : Int32) = bI (decide (¬ x = 0 ∨ ¬ y = 0))
        exact bI_t (Or.inr c97)
theorem acRX2 : Cond.methodLink RX2 69 arraycopyName ∈ lw_g := lg_m 703 (by decide +kernel) rfl
theorem acRX3 : Cond.methodLink RX3 26 arraycopyName ∈ lw_g := lg_m 634 (by decide +kernel) rfl
theorem acRX8 : Cond.methodLink RX8 266 arraycopyName ∈ lw_g := lg_m 858 (by decide +kernel) rfl
theorem acN : Cond.native arraycopyName ∈ lw_g := lg_m 636 (by decide +kernel) rfl
theorem acS : Cond.static arraycopyName ∈ lw_g := lg_m 635 (by decide +kernel) rfl
theorem acI : Cond.initialized "java/lang/System" ∈ lw_g := lg_m 83 (by decide +kernel) rfl
def ovr (n : Nat) (g f : Nat → Int32) : Nat → Int32 := fun z => if z < n then g z else f z
theorem cpyT (g f : Nat → Int32) {k : Nat} (hk : k < 2 ^ 31) : va_cpy g f (0 : Int32).toNatClampNeg (0 : Int32).toNatClampNeg (nI k).toNatClampNeg = fun z => if z < k then g z else f z := by
  funext z
  rw [show (0 : Int32).toNatClampNeg = 0 by decide, nI_clamp hk]
  unfold va_cpy
  by_cases h : z < k
  · rw [if_pos h, if_pos (by omega)]
    congr 1
    omega
  · rw [if_neg h, if_neg (by omega)]
set_option maxRecDepth 100000 in
theorem c_X3_takeOver (n n2 : Nat) (f g : Nat → Int32) (sz : Int32) (k2 : Nat) (h1 : k2 ≤ n) (h2 : k2 ≤ n2) (hn : Nat.ble n 1000 = true) (hn2 : Nat.ble n2 1000 = true) : AMet yX3_takeOver cX3_takeOver 2 none 1 0 0 [.ref 0, .ref 2] [cRow 1 sz, cI n f, cRow 3 (nI k2), cI n2 g] (pV fun h => h = [cRow 1 (nI k2), cI n (fun z => if z < k2 then g z else f z), cRow 3 (nI k2), cI n2 g]) := by
  refine AMet.of (by decide +kernel) rfl (fun E ad0 hE => ?_)
  have hn' : n ≤ 1000 := Nat.le_of_ble_eq_true hn
  have e0 : (0 : Int32).toNatClampNeg = 0 := by decide
  have ek : (nI k2).toNatClampNeg = k2 := nI_clamp (by omega)
  refine A_aload_n hE 1 dX3_takeOver_0 rfl rfl ?_
  refine A_aload_n hE 2 dX3_takeOver_1 rfl rfl ?_
  refine A_get hE 5 dX3_takeOver_2 rfl fkX3_7 rfl rfl ?_
  refine A_aload_n hE 6 dX3_takeOver_5 rfl rfl ?_
  refine A_get hE 9 dX3_takeOver_6 rfl fkX3_19 rfl rfl ?_
  refine A_alen hE 10 dX3_takeOver_9 rfl rfl ?_
  refine A_callSi hE 13 (c_J9_min_7cf53 (nI k2) (nI n)) [] dX3_takeOver_10 rfl mkX3_23 rfl rfl rfl rfl rfl rfl (Nat.le_of_ble_eq_true rfl) (Nat.le_of_ble_eq_true rfl) rfl (fun x10 h10 g10 hp10 hw10 => ?_)
  obtain ⟨rfl, rfl⟩ := hp10
  obtain rfl := Option.some.inj hw10
  rw [if_neg (nI_nlt (a := n) (b := k2) (by omega) (by omega))]
  refine A_put hE 16 dX3_takeOver_13 rfl fkX3_7 rfl rfl rfl rfl ?_
  refine A_aload_n hE 17 dX3_takeOver_16 rfl rfl ?_
  refine A_get hE 20 dX3_takeOver_17 rfl fkX3_19 rfl rfl ?_
  refine A_iconst hE 21 dX3_takeOver_20 rfl (0) rfl ?_
  refine A_aload_n hE 22 dX3_takeOver_21 rfl rfl ?_
  refine A_get hE 25 dX3_takeOver_22 rfl fkX3_19 rfl rfl ?_
  refine A_iconst hE 26 dX3_takeOver_25 rfl (0) rfl ?_
  refine A_aload_n hE 27 dX3_takeOver_26 rfl rfl ?_
  refine A_get hE 30 dX3_takeOver_27 rfl fkX3_7 rfl rfl ?_
  refine A_copyi hE 33 dX3_takeOver_30 rfl acRX3 acN acS acI rfl rfl (by decide) (by decide) (nI_pos (by omega)) (by rw [e0, ek]; omega) (by rw [e0, ek]; omega) rfl (by decide) rfl ?_
  refine A_h ([cRow 1 (nI k2), cI n (fun z => if z < k2 then g z else f z), cRow 3 (nI k2), cI n2 g]) (by rw [cpyT g f (by omega)]) ?_
  refine A_vret hE dX3_takeOver_33 rfl
