theorem low_l (a d m : Nat) (hd : d = 256 ∧ m = 16777216 ∨ d = 65536 ∧ m = 65536 ∨ d = 4294967296 ∧ m = 1) : (((a * m % 4294967296 : Nat) : Int).bmod 4294967296) / (m : Int) = (a : Int).bmod d := by
  rw [Int.bmod_def, Int.bmod_def]
  rcases hd with ⟨rfl, rfl⟩ | ⟨rfl, rfl⟩ | ⟨rfl, rfl⟩
  · by_cases h1 : a % 256 < 128
    · rw [if_pos (by omega), if_pos (by omega)]
      omega
    · rw [if_neg (by omega), if_neg (by omega)]
      omega
  · by_cases h1 : a % 65536 < 32768
    · rw [if_pos (by omega), if_pos (by omega)]
      omega
    · rw [if_neg (by omega), if_neg (by omega)]
      omega
  · by_cases h1 : a % 4294967296 < 2147483648
    · rw [if_pos (by omega), if_pos (by omega)]
      omega
    · rw [if_neg (by omega), if_neg (by omega)]
      omega
theorem low8 (v : Int32) : (v <<< (24 : Int32)) >>> (24 : Int32) = v.toInt8.toInt32 := by
  apply Int32.toInt_inj.mp
  rw [pk_shr _ 24 24 (by decide), Int8.toInt_toInt32, Int32.toInt_toInt8, Int.shiftRight_eq_div_pow]
  have e1 : (v <<< (24 : Int32)).toInt = ((v <<< (24 : Int32)).toBitVec.toNat : Int).bmod (2 ^ 32) := BitVec.toInt_eq_toNat_bmod _
  have e2 : v.toInt = (v.toBitVec.toNat : Int).bmod (2 ^ 32) := BitVec.toInt_eq_toNat_bmod _
  rw [e1, e2, pk_shl v 24 24 (by decide), Int.bmod_bmod_of_dvd (by decide)]
  exact low_l _ 256 16777216 (Or.inl ⟨rfl, rfl⟩)
theorem low16 (v : Int32) : (v <<< (16 : Int32)) >>> (16 : Int32) = v.toInt16.toInt32 := by
  apply Int32.toInt_inj.mp
  rw [pk_shr _ 16 16 (by decide), Int16.toInt_toInt32, Int32.toInt_toInt16, Int.shiftRight_eq_div_pow]
  have e1 : (v <<< (16 : Int32)).toInt = ((v <<< (16 : Int32)).toBitVec.toNat : Int).bmod (2 ^ 32) := BitVec.toInt_eq_toNat_bmod _
  have e2 : v.toInt = (v.toBitVec.toNat : Int).bmod (2 ^ 32) := BitVec.toInt_eq_toNat_bmod _
  rw [e1, e2, pk_shl v 16 16 (by decide), Int.bmod_bmod_of_dvd (by decide)]
  exact low_l _ 65536 65536 (Or.inr (Or.inl ⟨rfl, rfl⟩))
theorem low32 (v : Int32) : (v <<< (0 : Int32)) >>> (0 : Int32) = v := by
  apply Int32.toInt_inj.mp
  rw [pk_shr _ 0 0 (by decide), Int.shiftRight_eq_div_pow]
  have e1 : (v <<< (0 : Int32)).toInt = ((v <<< (0 : Int32)).toBitVec.toNat : Int).bmod (2 ^ 32) := BitVec.toInt_eq_toNat_bmod _
  have e2 : v.toInt = (v.toBitVec.toNat : Int).bmod (2 ^ 32) := BitVec.toInt_eq_toNat_bmod _
  rw [e1, e2, pk_shl v 0 0 (by decide)]
  exact low_l _ 4294967296 1 (Or.inr (Or.inr ⟨rfl, rfl⟩))
theorem put_bits {b v : Int32} (hb : widB b) (h0 : ¬ b = 0) : (v <<< ((32 - b) &&& 31)) >>> ((32 - b) &&& 31) = lowB b v := by
  rcases hb with rfl | rfl | rfl | rfl
  · exact absurd rfl h0
  · rw [show (32 - 8 : Int32) &&& 31 = 24 by decide, low8]
    rfl
  · rw [show (32 - 16 : Int32) &&& 31 = 16 by decide, low16]
    rfl
  · rw [show (32 - 32 : Int32) &&& 31 = 0 by decide, low32]
    rfl

set_option maxRecDepth 100000 in
theorem c_X9_put (s K be er st na pi tr bi sz nu as' : Nat → Int32) (im at' op sp us tn sk ip : Int32) (h i v : Int32) (hS : wfSh bi sz) : AMet yX9_put cX9_put 5 (some (.int)) 2 0 0 [.ref 0, .int h, .int i, .int v] (MW s K be er st na pi tr bi sz nu as' im at' op sp us tn sk ip) (pI fun x0 hz0 => x0 = (putF er bi sz nu h i v).1 ∧ hz0 = MW s K be (putF er bi sz nu h i v).2.1 st na pi tr (putF er bi sz nu h i v).2.2.1 (putF er bi sz nu h i v).2.2.2.1 (putF er bi sz nu h i v).2.2.2.2 as' im at' op sp us tn sk ip) := by
  refine AMet.of (by decide +kernel) rfl (fun E ad0 hE => ?_)
  refine A_iload_n hE 1 dX9_put_0 rfl rfl ?_
  refine A_callSi hE 4 (c_X9_isSheet h) [] dX9_put_1 rfl mkX9_195 rfl rfl rfl rfl rfl rfl (Nat.le_of_ble_eq_true rfl) (Nat.le_of_ble_eq_true rfl) rfl (fun x1 h1 g1 hp1 hw1 => ?_)
  obtain ⟨rfl, rfl⟩ := hp1
  obtain rfl := Option.some.inj hw1
  refine A_if_ne hE 7 13 dX9_put_4 rfl rfl (fun c4 => ?_) (fun c4 => ?_)
  · have hh := bI_1 c4
    obtain ⟨k, hkk, rfl⟩ := iK2 (n := 3) hh.1 hh.2 (by omega)
    have ek : (nI k).toNatClampNeg = k := nI_clamp (by omega)
    obtain ⟨hwd, z0, hz24, hz⟩ := hS k (by omega)
    refine A_aload_n hE 14 dX9_put_13 rfl rfl ?_
    refine A_get hE 17 dX9_put_14 rfl fkX9_34 rfl rfl ?_
    refine A_iload_n hE 18 dX9_put_17 rfl rfl ?_
    refine A_iald hE 19 k dX9_put_18 rfl rfl rfl (by omega) rfl ?_
    refine A_if_ne hE 22 28 dX9_put_19 rfl rfl (fun c19 => ?_) (fun c19 => ?_)
    · refine A_iload_n hE 29 dX9_put_28 rfl rfl ?_
      refine A_iconst hE 30 dX9_put_29 rfl (0) rfl ?_
      refine A_aload_n hE 31 dX9_put_30 rfl rfl ?_
      refine A_get hE 34 dX9_put_31 rfl fkX9_37 rfl rfl ?_
      refine A_iload_n hE 35 dX9_put_34 rfl rfl ?_
      refine A_iald hE 36 k dX9_put_35 rfl rfl rfl (by omega) rfl ?_
      refine A_iconst hE 37 dX9_put_36 rfl (1) rfl ?_
      refine A_isub hE 38 dX9_put_37 rfl ?_
      refine A_callSi hE 41 (c_X9_in i 0 (sz k - 1)) [] dX9_put_38 rfl mkX9_47 rfl rfl rfl rfl rfl rfl (Nat.le_of_ble_eq_true rfl) (Nat.le_of_ble_eq_true rfl) rfl (fun x38 h38 g38 hp38 hw38 => ?_)
      obtain ⟨rfl, rfl⟩ := hp38
      obtain rfl := Option.some.inj hw38
      refine A_if_ne hE 44 50 dX9_put_41 rfl rfl (fun c41 => ?_) (fun c41 => ?_)
      · have hi := bI_1 c41
        have hiq : 0 ≤ i ∧ i < sz k := by rw [hz] at hi ⊢; exact (in_iff (by omega) _).mp hi
        obtain ⟨j, hj, rfl⟩ := iK (n := z0) hiq.1 (by rw [← hz]; exact hiq.2) (by omega)
        have ej : (nI j).toNatClampNeg = j := nI_clamp (by omega)
        refine A_bipush hE 52 dX9_put_50 rfl (32) (by decide) ?_
        refine A_aload_n hE 53 dX9_put_52 rfl rfl ?_
        refine A_get hE 56 dX9_put_53 rfl fkX9_34 rfl rfl ?_
        refine A_iload_n hE 57 dX9_put_56 rfl rfl ?_
        refine A_iald hE 58 k dX9_put_57 rfl rfl rfl (by omega) rfl ?_
        refine A_isub hE 59 dX9_put_58 rfl ?_
        refine A_istore hE 61 dX9_put_59 rfl rfl rfl ?_
        refine A_aload_n hE 62 dX9_put_61 rfl rfl ?_
        refine A_get hE 65 dX9_put_62 rfl fkX9_40 rfl rfl ?_
        refine A_bipush hE 67 dX9_put_65 rfl (24) (by decide) ?_
        refine A_iload_n hE 68 dX9_put_67 rfl rfl ?_
        refine A_imul hE 69 dX9_put_68 rfl ?_
        refine A_iload_n hE 70 dX9_put_69 rfl rfl ?_
        refine A_iadd hE 71 dX9_put_70 rfl ?_
        refine A_iload_n hE 72 dX9_put_71 rfl rfl ?_
        refine A_iload hE 74 dX9_put_72 rfl rfl ?_
        refine A_ishl hE 75 dX9_put_74 rfl ?_
        refine A_iload hE 77 dX9_put_75 rfl rfl ?_
        refine A_ishr hE 78 dX9_put_77 rfl ?_
        rw [put_bits hwd c19]
        refine A_iast hE 79 (24 * k + j) dX9_put_78 rfl rfl (ix24 k j) (by omega) rfl rfl ?_
        refine A_iconst hE 80 dX9_put_79 rfl (1) rfl ?_
        refine A_iret hE dX9_put_80 ?_
        rw [putF, if_pos hh, ek, if_neg c19, if_pos hiq, ej]
        exact ⟨rfl, rfl⟩
      · have hi := bI_0 c41
        refine A_aload_n hE 45 dX9_put_44 rfl rfl ?_
        refine A_iconst hE 46 dX9_put_45 rfl (1) rfl ?_
        refine A_callVi hE 49 (c_X9_error s K be er st na pi tr bi sz nu as' im at' op sp us tn sk ip 1 (by omega)) [0, 1, 2, 3, 4, 5, 6, 7, 8, 9, 10, 11, 12] dX9_put_46 rfl mkX9_51 rfl rfl rfl rfl rfl rfl rfl (Nat.le_of_ble_eq_true rfl) (Nat.le_of_ble_eq_true rfl) rfl (fun x46 h46 g46 hp46 hw46 => ?_)
        obtain ⟨rfl, rfl⟩ := hp46
        obtain rfl := Option.some.inj hw46
        refine A_h (MW s K be (upd er 1 (er 1 + 1)) st na pi tr bi sz nu as' im at' op sp us tn sk ip) rfl ?_
        refine A_iret hE dX9_put_49 ?_
        rw [putF, if_pos hh, ek, if_neg c19, if_neg (fun z => hi (by rw [hz] at z ⊢; exact (in_iff (by omega) _).mpr z))]
        exact ⟨rfl, rfl⟩
    · refine A_aload_n hE 23 dX9_put_22 rfl rfl ?_
      refine A_iconst hE 24 dX9_put_23 rfl (2) rfl ?_
      refine A_callVi hE 27 (c_X9_error s K be er st na pi tr bi sz nu as' im at' op sp us tn sk ip 2 (by omega)) [0, 1, 2, 3, 4, 5, 6, 7, 8, 9, 10, 11, 12] dX9_put_24 rfl mkX9_51 rfl rfl rfl rfl rfl rfl rfl (Nat.le_of_ble_eq_true rfl) (Nat.le_of_ble_eq_true rfl) rfl (fun x24 h24 g24 hp24 hw24 => ?_)
      obtain ⟨rfl, rfl⟩ := hp24
      obtain rfl := Option.some.inj hw24
      refine A_h (MW s K be (upd er 2 (er 2 + 1)) st na pi tr bi sz nu as' im at' op sp us tn sk ip) rfl ?_
      refine A_iret hE dX9_put_27 ?_
      rw [putF, if_pos hh, ek, if_pos c19]
      exact ⟨rfl, rfl⟩
  · have hh := bI_0 c4
    refine A_aload_n hE 8 dX9_put_7 rfl rfl ?_
    refine A_iconst hE 9 dX9_put_8 rfl (1) rfl ?_
    refine A_callVi hE 12 (c_X9_error s K be er st na pi tr bi sz nu as' im at' op sp us tn sk ip 1 (by omega)) [0, 1, 2, 3, 4, 5, 6, 7, 8, 9, 10, 11, 12] dX9_put_9 rfl mkX9_51 rfl rfl rfl rfl rfl rfl rfl (Nat.le_of_ble_eq_true rfl) (Nat.le_of_ble_eq_true rfl) rfl (fun x9 h9 g9 hp9 hw9 => ?_)
    obtain ⟨rfl, rfl⟩ := hp9
    obtain rfl := Option.some.inj hw9
    refine A_h (MW s K be (upd er 1 (er 1 + 1)) st na pi tr bi sz nu as' im at' op sp us tn sk ip) rfl ?_
    refine A_iret hE dX9_put_12 ?_
    rw [putF, if_neg hh]
    exact ⟨rfl, rfl⟩
