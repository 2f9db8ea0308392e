theorem oiN : Cond.instanceMethod Lib.objectInit ∈ lw_g := lg_m 91 (by decide +kernel) rfl
theorem oiC : Cond.code Lib.objectInit ⟨#[0xb1]⟩ 1 none ∈ lw_g := lg_m 92 (by decide +kernel) rfl
theorem oiX8 : Cond.methodLink RX8 1 Lib.objectInit ∈ lw_g := lg_m 90 (by decide +kernel) rfl
theorem oiX5 : Cond.methodLink RX5 3 Lib.objectInit ∈ lw_g := lg_m 98 (by decide +kernel) rfl
theorem oiX2 : Cond.methodLink RX2 3 Lib.objectInit ∈ lw_g := lg_m 104 (by decide +kernel) rfl
theorem oiX0 : Cond.methodLink RX0 3 Lib.objectInit ∈ lw_g := lg_m 110 (by decide +kernel) rfl
theorem oiX3 : Cond.methodLink RX3 1 Lib.objectInit ∈ lw_g := lg_m 116 (by decide +kernel) rfl
theorem oiX1 : Cond.methodLink RX1 3 Lib.objectInit ∈ lw_g := lg_m 231 (by decide +kernel) rfl
theorem oiX6 : Cond.methodLink RX6 3 Lib.objectInit ∈ lw_g := lg_m 258 (by decide +kernel) rfl
theorem oiX7 : Cond.methodLink RX7 3 Lib.objectInit ∈ lw_g := lg_m 278 (by decide +kernel) rfl
theorem oiX4 : Cond.methodLink RX4 3 Lib.objectInit ∈ lw_g := lg_m 305 (by decide +kernel) rfl
theorem oiX9 : Cond.methodLink RX9 1 Lib.objectInit ∈ lw_g := lg_m 915 (by decide +kernel) rfl
theorem dfX8 : ∀ j, j < 8 → defaultValue (tyX8 j) = vp_V [.null, .null, .null, .null, .null, .null, .null, .int 0] j := fun j hj => match j, hj with
  | 0, _ => rfl
  | 1, _ => rfl
  | 2, _ => rfl
  | 3, _ => rfl
  | 4, _ => rfl
  | 5, _ => rfl
  | 6, _ => rfl
  | 7, _ => rfl
theorem dfX5 : ∀ j, j < 3 → defaultValue (tyX5 j) = vp_V [.null, .null, .null] j := fun j hj => match j, hj with
  | 0, _ => rfl
  | 1, _ => rfl
  | 2, _ => rfl
theorem dfX0 : ∀ j, j < 3 → defaultValue (tyX0 j) = vp_V [.null, .null, .int 0] j := fun j hj => match j, hj with
  | 0, _ => rfl
  | 1, _ => rfl
  | 2, _ => rfl
theorem dfX3 : ∀ j, j < 2 → defaultValue (tyX3 j) = vp_V [.null, .int 0] j := fun j hj => match j, hj with
  | 0, _ => rfl
  | 1, _ => rfl
theorem dfX2 : ∀ j, j < 14 → defaultValue (tyX2 j) = vp_V [.null, .null, .null, .null, .null, .null, .int 0, .int 0, .int 0, .int 0, .int 0, .int 0, .int 0, .int 0] j := fun j hj => match j, hj with
  | 0, _ => rfl
  | 1, _ => rfl
  | 2, _ => rfl
  | 3, _ => rfl
  | 4, _ => rfl
  | 5, _ => rfl
  | 6, _ => rfl
  | 7, _ => rfl
  | 8, _ => rfl
  | 9, _ => rfl
  | 10, _ => rfl
  | 11, _ => rfl
  | 12, _ => rfl
  | 13, _ => rfl
theorem dfX1 : ∀ j, j < 5 → defaultValue (tyX1 j) = vp_V [.null, .null, .null, .int 0, .int 0] j := fun j hj => match j, hj with
  | 0, _ => rfl
  | 1, _ => rfl
  | 2, _ => rfl
  | 3, _ => rfl
  | 4, _ => rfl
theorem dfX6 : ∀ j, j < 3 → defaultValue (tyX6 j) = vp_V [.null, .int 0, .int 0] j := fun j hj => match j, hj with
  | 0, _ => rfl
  | 1, _ => rfl
  | 2, _ => rfl
theorem dfX7 : ∀ j, j < 5 → defaultValue (tyX7 j) = vp_V [.null, .int 0, .int 0, .int 0, .int 0] j := fun j hj => match j, hj with
  | 0, _ => rfl
  | 1, _ => rfl
  | 2, _ => rfl
  | 3, _ => rfl
  | 4, _ => rfl
theorem dfX4 : ∀ j, j < 2 → defaultValue (tyX4 j) = vp_V [.null, .int 0] j := fun j hj => match j, hj with
  | 0, _ => rfl
  | 1, _ => rfl
set_option maxRecDepth 100000 in
theorem c_X3_init_60  : AMet yX3_init cX3_init 2 none 1 1 60 [.ref 0, .int 60] [.inr (3, [.null, .int 0])] (pV fun h => h = [cRow 1 0, cI 60 (fun _ => 0)]) := by
  refine AMet.of (by decide +kernel) rfl (fun E ad0 hE => ?_)
  refine A_aload_n hE 1 dX3_init_0 rfl rfl ?_
  refine A_objInit hE 4 dX3_init_1 rfl oiX3 oiN oiC rfl (by decide) ?_
  refine A_aload_n hE 5 dX3_init_4 rfl rfl ?_
  refine A_iconst hE 6 dX3_init_5 rfl (0) rfl ?_
  refine A_put hE 9 dX3_init_6 rfl fkX3_7 rfl rfl rfl rfl ?_
  refine A_aload_n hE 10 dX3_init_9 rfl rfl ?_
  refine A_iconst hE 11 dX3_init_10 rfl (0) rfl ?_
  refine A_iload_n hE 12 dX3_init_11 rfl rfl ?_
  refine A_callSi hE 15 (c_J9_max_7cf53 0 60) [] dX3_init_12 rfl mkX3_13 rfl rfl rfl rfl rfl rfl (Nat.le_of_ble_eq_true rfl) (Nat.le_of_ble_eq_true rfl) rfl (fun x12 h12 g12 hp12 hw12 => ?_)
  obtain ⟨rfl, rfl⟩ := hp12
  obtain rfl := Option.some.inj hw12
  rw [show (if (0 : Int32) < 60 then (60 : Int32) else 0) = 60 by decide]
  refine A_newa hE 17 60 dX3_init_15 rfl rfl rfl 1 rfl (refH_cons rfl (refH_nil)) rfl rfl (Nat.le_of_ble_eq_true rfl) (Nat.le_of_ble_eq_true rfl) ?_
  refine A_h ([.inr (3, [.null, .int 0]), cI 60 (fun _ => 0)]) rfl ?_
  refine A_putF hE 20 dX3_init_17 rfl fkX3_19 rfl rfl rfl rfl rfl ?_
  refine A_vret hE dX3_init_20 rfl
set_option maxRecDepth 100000 in
theorem c_X3_init_30  : AMet yX3_init cX3_init 2 none 1 1 30 [.ref 0, .int 30] [.inr (3, [.null, .int 0])] (pV fun h => h = [cRow 1 0, cI 30 (fun _ => 0)]) := by
  refine AMet.of (by decide +kernel) rfl (fun E ad0 hE => ?_)
  refine A_aload_n hE 1 dX3_init_0 rfl rfl ?_
  refine A_objInit hE 4 dX3_init_1 rfl oiX3 oiN oiC rfl (by decide) ?_
  refine A_aload_n hE 5 dX3_init_4 rfl rfl ?_
  refine A_iconst hE 6 dX3_init_5 rfl (0) rfl ?_
  refine A_put hE 9 dX3_init_6 rfl fkX3_7 rfl rfl rfl rfl ?_
  refine A_aload_n hE 10 dX3_init_9 rfl rfl ?_
  refine A_iconst hE 11 dX3_init_10 rfl (0) rfl ?_
  refine A_iload_n hE 12 dX3_init_11 rfl rfl ?_
  refine A_callSi hE 15 (c_J9_max_7cf53 0 30) [] dX3_init_12 rfl mkX3_13 rfl rfl rfl rfl rfl rfl (Nat.le_of_ble_eq_true rfl) (Nat.le_of_ble_eq_true rfl) rfl (fun x12 h12 g12 hp12 hw12 => ?_)
  obtain ⟨rfl, rfl⟩ := hp12
  obtain rfl := Option.some.inj hw12
  rw [show (if (0 : Int32) < 30 then (30 : Int32) else 0) = 30 by decide]
  refine A_newa hE 17 30 dX3_init_15 rfl rfl rfl 1 rfl (refH_cons rfl (refH_nil)) rfl rfl (Nat.le_of_ble_eq_true rfl) (Nat.le_of_ble_eq_true rfl) ?_
  refine A_h ([.inr (3, [.null, .int 0]), cI 30 (fun _ => 0)]) rfl ?_
  refine A_putF hE 20 dX3_init_17 rfl fkX3_19 rfl rfl rfl rfl rfl ?_
  refine A_vret hE dX3_init_20 rfl
set_option maxRecDepth 100000 in
theorem c_X3_init_24  : AMet yX3_init cX3_init 2 none 1 1 24 [.ref 0, .int 24] [.inr (3, [.null, .int 0])] (pV fun h => h = [cRow 1 0, cI 24 (fun _ => 0)]) := by
  refine AMet.of (by decide +kernel) rfl (fun E ad0 hE => ?_)
  refine A_aload_n hE 1 dX3_init_0 rfl rfl ?_
  refine A_objInit hE 4 dX3_init_1 rfl oiX3 oiN oiC rfl (by decide) ?_
  refine A_aload_n hE 5 dX3_init_4 rfl rfl ?_
  refine A_iconst hE 6 dX3_init_5 rfl (0) rfl ?_
  refine A_put hE 9 dX3_init_6 rfl fkX3_7 rfl rfl rfl rfl ?_
  refine A_aload_n hE 10 dX3_init_9 rfl rfl ?_
  refine A_iconst hE 11 dX3_init_10 rfl (0) rfl ?_
  refine A_iload_n hE 12 dX3_init_11 rfl rfl ?_
  refine A_callSi hE 15 (c_J9_max_7cf53 0 24) [] dX3_init_12 rfl mkX3_13 rfl rfl rfl rfl rfl rfl (Nat.le_of_ble_eq_true rfl) (Nat.le_of_ble_eq_true rfl) rfl (fun x12 h12 g12 hp12 hw12 => ?_)
  obtain ⟨rfl, rfl⟩ := hp12
  obtain rfl := Option.some.inj hw12
  rw [show (if (0 : Int32) < 24 then (24 : Int32) else 0) = 24 by decide]
  refine A_newa hE 17 24 dX3_init_15 rfl rfl rfl 1 rfl (refH_cons rfl (refH_nil)) rfl rfl (Nat.le_of_ble_eq_true rfl) (Nat.le_of_ble_eq_true rfl) ?_
  refine A_h ([.inr (3, [.null, .int 0]), cI 24 (fun _ => 0)]) rfl ?_
  refine A_putF hE 20 dX3_init_17 rfl fkX3_19 rfl rfl rfl rfl rfl ?_
  refine A_vret hE dX3_init_20 rfl
set_option maxRecDepth 100000 in
theorem c_X0_init (u : Nat) : AMet yX0_init cX0_init 2 none 2 3 122 [.ref 0, .int (nI u)] [.inr (0, [.null, .null, .int 0])] (pV fun h => h = [LawO 1 3 u, cRow 2 0, cI 60 (fun _ => 0), cI 60 (fun _ => 0)]) := by
  refine AMet.of (by decide +kernel) rfl (fun E ad0 hE => ?_)
  refine A_aload_n hE 1 dX0_init_0 rfl rfl ?_
  refine A_objInit hE 4 dX0_init_1 rfl oiX0 oiN oiC rfl (by decide) ?_
  refine A_aload_n hE 5 dX0_init_4 rfl rfl ?_
  refine A_new (ci := 3) hE 8 dX0_init_5 rfl rfl layX3 tyX3 tyX3_ok clX0_9 insX3 iniX3 [.null, .int 0] dfX3 rfl 1 rfl (refH_cons rfl (refH_nil)) rfl rfl (Nat.le_of_ble_eq_true rfl) (Nat.le_of_ble_eq_true rfl) ?_
  refine A_h ([.inr (0, [.null, .null, .int 0]), .inr (3, [.null, .int 0])]) rfl ?_
  refine A_dup hE 9 dX0_init_8 rfl rfl ?_
  refine A_bipush hE 11 dX0_init_9 rfl (60) (by decide) ?_
  refine A_callI hE 14 (c_X3_init_60) [1] [1, 2] dX0_init_11 rfl mkX0_11 rfl rfl rfl rfl rfl rfl 2 rfl (refH_cons rfl (refH_cons rfl (refH_nil))) rfl rfl (fun h' e => by subst e; exact (refH_cons rfl (refH_cons trivial (refH_nil)))) rfl rfl (Nat.le_of_ble_eq_true rfl) (Nat.le_of_ble_eq_true rfl) rfl (fun h11 g11 hp11 hw11 => ?_) (by decide)
  obtain rfl := hp11
  obtain rfl := Option.some.inj hw11
  refine A_h ([.inr (0, [.null, .null, .int 0]), cRow 2 0, cI 60 (fun _ => 0)]) rfl ?_
  refine A_putF hE 17 dX0_init_14 rfl fkX0_14 rfl rfl rfl rfl rfl ?_
  refine A_aload_n hE 18 dX0_init_17 rfl rfl ?_
  refine A_bipush hE 20 dX0_init_18 rfl (60) (by decide) ?_
  refine A_newa hE 22 60 dX0_init_20 rfl rfl rfl 3 rfl (refH_cons rfl (refH_cons rfl (refH_cons trivial (refH_nil)))) rfl rfl (Nat.le_of_ble_eq_true rfl) (Nat.le_of_ble_eq_true rfl) ?_
  refine A_h ([.inr (0, [.ref 1, .null, .int 0]), cRow 2 0, cI 60 (fun _ => 0), cI 60 (fun _ => 0)]) rfl ?_
  refine A_putF hE 25 dX0_init_22 rfl fkX0_20 rfl rfl rfl rfl rfl ?_
  refine A_aload_n hE 26 dX0_init_25 rfl rfl ?_
  refine A_iload_n hE 27 dX0_init_26 rfl rfl ?_
  refine A_putF hE 30 dX0_init_27 rfl fkX0_24 rfl rfl rfl rfl rfl ?_
  refine A_vret hE dX0_init_30 rfl
set_option maxRecDepth 100000 in
theorem c_X2_init  : AMet yX2_init cX2_init 1 none 3 12 282 [.ref 0] [.inr (2, [.null, .null, .null, .null, .null, .null, .int 0, .int 0, .int 0, .int 0, .int 0, .int 0, .int 0, .int 0])] (pV fun h => h = [.inr (2, [.ref 1, .ref 5, .ref 9, .ref 10, .ref 11, .ref 12, .int 0, .int 0, .int 0, .int 0, .int 99, .int 7, .int 0, .int 1]), LawO 2 4 0, cRow 3 0, cI 60 (fun _ => 0), cI 60 (fun _ => 0), LawO 6 8 1, cRow 7 0, cI 60 (fun _ => 0), cI 60 (fun _ => 0), cI 8 (fun _ => 0), cI 8 (fun _ => 0), cI 8 (fun _ => 0), cI 8 (fun _ => 0)]) := by
  refine AMet.of (by decide +kernel) rfl (fun E ad0 hE => ?_)
  refine A_aload_n hE 1 dX2_init_0 rfl rfl ?_
  refine A_objInit hE 4 dX2_init_1 rfl oiX2 oiN oiC rfl (by decide) ?_
  refine A_aload_n hE 5 dX2_init_4 rfl rfl ?_
  refine A_new (ci := 0) hE 8 dX2_init_5 rfl rfl layX0 tyX0 tyX0_ok clX2_9 insX0 iniX0 [.null, .null, .int 0] dfX0 rfl 1 rfl (refH_cons rfl (refH_nil)) rfl rfl (Nat.le_of_ble_eq_true rfl) (Nat.le_of_ble_eq_true rfl) ?_
  refine A_h ([.inr (2, [.null, .null, .null, .null, .null, .null, .int 0, .int 0, .int 0, .int 0, .int 0, .int 0, .int 0, .int 0]), .inr (0, [.null, .null, .int 0])]) rfl ?_
  refine A_dup hE 9 dX2_init_8 rfl rfl ?_
  refine A_iconst hE 10 dX2_init_9 rfl (0) rfl ?_
  refine A_callI hE 13 (c_X0_init 0) [1] [1, 2, 3, 4] dX2_init_10 rfl mkX2_11 rfl rfl rfl rfl rfl rfl 2 rfl (refH_cons rfl (refH_cons rfl (refH_nil))) rfl rfl (fun h' e => by subst e; exact (refH_cons rfl (refH_cons rfl (refH_cons trivial (refH_cons trivial (refH_nil)))))) rfl rfl (Nat.le_of_ble_eq_true rfl) (Nat.le_of_ble_eq_true rfl) rfl (fun h10 g10 hp10 hw10 => ?_) (by decide)
  obtain rfl := hp10
  obtain rfl := Option.some.inj hw10
  refine A_h ([.inr (2, [.null, .null, .null, .null, .null, .null, .int 0, .int 0, .int 0, .int 0, .int 0, .int 0, .int 0, .int 0]), LawO 2 4 0, cRow 3 0, cI 60 (fun _ => 0), cI 60 (fun _ => 0)]) rfl ?_
  refine A_putF hE 16 dX2_init_13 rfl fkX2_14 rfl rfl rfl rfl rfl ?_
  refine A_aload_n hE 17 dX2_init_16 rfl rfl ?_
  refine A_new (ci := 0) hE 20 dX2_init_17 rfl rfl layX0 tyX0 tyX0_ok clX2_9 insX0 iniX0 [.null, .null, .int 0] dfX0 rfl 5 rfl (refH_cons rfl (refH_cons rfl (refH_cons rfl (refH_cons trivial (refH_cons trivial (refH_nil)))))) rfl rfl (Nat.le_of_ble_eq_true rfl) (Nat.le_of_ble_eq_true rfl) ?_
  refine A_h ([.inr (2, [.ref 1, .null, .null, .null, .null, .null, .int 0, .int 0, .int 0, .int 0, .int 0, .int 0, .int 0, .int 0]), LawO 2 4 0, cRow 3 0, cI 60 (fun _ => 0), cI 60 (fun _ => 0), .inr (0, [.null, .null, .int 0])]) rfl ?_
  refine A_dup hE 21 dX2_init_20 rfl rfl ?_
  refine A_iconst hE 22 dX2_init_21 rfl (1) rfl ?_
  refine A_callI hE 25 (c_X0_init 1) [5] [5, 6, 7, 8] dX2_init_22 rfl mkX2_11 rfl rfl rfl rfl rfl rfl 6 rfl (refH_cons rfl (refH_cons rfl (refH_cons rfl (refH_cons trivial (refH_cons trivial (refH_cons rfl (refH_nil))))))) rfl rfl (fun h' e => by subst e; exact (refH_cons rfl (refH_cons rfl (refH_cons trivial (refH_cons trivial (refH_nil)))))) rfl rfl (Nat.le_of_ble_eq_true rfl) (Nat.le_of_ble_eq_true rfl) rfl (fun h22 g22 hp22 hw22 => ?_) (by decide)
  obtain rfl := hp22
  obtain rfl := Option.some.inj hw22
  refine A_h ([.inr (2, [.ref 1, .null, .null, .null, .null, .null, .int 0, .int 0, .int 0, .int 0, .int 0, .int 0, .int 0, .int 0]), LawO 2 4 0, cRow 3 0, cI 60 (fun _ => 0), cI 60 (fun _ => 0), LawO 6 8 1, cRow 7 0, cI 60 (fun _ => 0), cI 60 (fun _ => 0)]) rfl ?_
  refine A_putF hE 28 dX2_init_25 rfl fkX2_20 rfl rfl rfl rfl rfl ?_
  refine A_aload_n hE 29 dX2_init_28 rfl rfl ?_
  refine A_bipush hE 31 dX2_init_29 rfl (8) (by decide) ?_
  refine A_newa hE 33 8 dX2_init_31 rfl rfl rfl 9 rfl (refH_cons rfl (refH_cons rfl (refH_cons rfl (refH_cons trivial (refH_cons trivial (refH_cons rfl (refH_cons rfl (refH_cons trivial (refH_cons trivial (refH_nil)))))))))) rfl rfl (Nat.le_of_ble_eq_true rfl) (Nat.le_of_ble_eq_true rfl) ?_
  refine A_h ([.inr (2, [.ref 1, .ref 5, .null, .null, .null, .null, .int 0, .int 0, .int 0, .int 0, .int 0, .int 0, .int 0, .int 0]), LawO 2 4 0, cRow 3 0, cI 60 (fun _ => 0), cI 60 (fun _ => 0), LawO 6 8 1, cRow 7 0, cI 60 (fun _ => 0), cI 60 (fun _ => 0), cI 8 (fun _ => 0)]) rfl ?_
  refine A_putF hE 36 dX2_init_33 rfl fkX2_23 rfl rfl rfl rfl rfl ?_
  refine A_aload_n hE 37 dX2_init_36 rfl rfl ?_
  refine A_bipush hE 39 dX2_init_37 rfl (8) (by decide) ?_
  refine A_newa hE 41 8 dX2_init_39 rfl rfl rfl 10 rfl (refH_cons rfl (refH_cons rfl (refH_cons rfl (refH_cons trivial (refH_cons trivial (refH_cons rfl (refH_cons rfl (refH_cons trivial (refH_cons trivial (refH_cons trivial (refH_nil))))))))))) rfl rfl (Nat.le_of_ble_eq_true rfl) (Nat.le_of_ble_eq_true rfl) ?_
  refine A_h ([.inr (2, [.ref 1, .ref 5, .ref 9, .null, .null, .null, .int 0, .int 0, .int 0, .int 0, .int 0, .int 0, .int 0, .int 0]), LawO 2 4 0, cRow 3 0, cI 60 (fun _ => 0), cI 60 (fun _ => 0), LawO 6 8 1, cRow 7 0, cI 60 (fun _ => 0), cI 60 (fun _ => 0), cI 8 (fun _ => 0), cI 8 (fun _ => 0)]) rfl ?_
  refine A_putF hE 44 dX2_init_41 rfl fkX2_27 rfl rfl rfl rfl rfl ?_
  refine A_aload_n hE 45 dX2_init_44 rfl rfl ?_
  refine A_bipush hE 47 dX2_init_45 rfl (8) (by decide) ?_
  refine A_newa hE 49 8 dX2_init_47 rfl rfl rfl 11 rfl (refH_cons rfl (refH_cons rfl (refH_cons rfl (refH_cons trivial (refH_cons trivial (refH_cons rfl (refH_cons rfl (refH_cons trivial (refH_cons trivial (refH_cons trivial (refH_cons trivial (refH_nil)))))))))))) rfl rfl (Nat.le_of_ble_eq_true rfl) (Nat.le_of_ble_eq_true rfl) ?_
  refine A_h ([.inr (2, [.ref 1, .ref 5, .ref 9, .ref 10, .null, .null, .int 0, .int 0, .int 0, .int 0, .int 0, .int 0, .int 0, .int 0]), LawO 2 4 0, cRow 3 0, cI 60 (fun _ => 0), cI 60 (fun _ => 0), LawO 6 8 1, cRow 7 0, cI 60 (fun _ => 0), cI 60 (fun _ => 0), cI 8 (fun _ => 0), cI 8 (fun _ => 0), cI 8 (fun _ => 0)]) rfl ?_
  refine A_putF hE 52 dX2_init_49 rfl fkX2_30 rfl rfl rfl rfl rfl ?_
  refine A_aload_n hE 53 dX2_init_52 rfl rfl ?_
  refine A_bipush hE 55 dX2_init_53 rfl (8) (by decide) ?_
  refine A_newa hE 57 8 dX2_init_55 rfl rfl rfl 12 rfl (refH_cons rfl (refH_cons rfl (refH_cons rfl (refH_cons trivial (refH_cons trivial (refH_cons rfl (refH_cons rfl (refH_cons trivial (refH_cons trivial (refH_cons trivial (refH_cons trivial (refH_cons trivial (refH_nil))))))))))))) rfl rfl (Nat.le_of_ble_eq_true rfl) (Nat.le_of_ble_eq_true rfl) ?_
  refine A_h ([.inr (2, [.ref 1, .ref 5, .ref 9, .ref 10, .ref 11, .null, .int 0, .int 0, .int 0, .int 0, .int 0, .int 0, .int 0, .int 0]), LawO 2 4 0, cRow 3 0, cI 60 (fun _ => 0), cI 60 (fun _ => 0), LawO 6 8 1, cRow 7 0, cI 60 (fun _ => 0), cI 60 (fun _ => 0), cI 8 (fun _ => 0), cI 8 (fun _ => 0), cI 8 (fun _ => 0), cI 8 (fun _ => 0)]) rfl ?_
  refine A_putF hE 60 dX2_init_57 rfl fkX2_33 rfl rfl rfl rfl rfl ?_
  refine A_aload_n hE 61 dX2_init_60 rfl rfl ?_
  refine A_iconst hE 62 dX2_init_61 rfl (0) rfl ?_
  refine A_put hE 65 dX2_init_62 rfl fkX2_36 rfl rfl rfl rfl ?_
  refine A_aload_n hE 66 dX2_init_65 rfl rfl ?_
  refine A_iconst hE 67 dX2_init_66 rfl (0) rfl ?_
  refine A_put hE 70 dX2_init_67 rfl fkX2_40 rfl rfl rfl rfl ?_
  refine A_aload_n hE 71 dX2_init_70 rfl rfl ?_
  refine A_iconst hE 72 dX2_init_71 rfl (0) rfl ?_
  refine A_put hE 75 dX2_init_72 rfl fkX2_43 rfl rfl rfl rfl ?_
  refine A_aload_n hE 76 dX2_init_75 rfl rfl ?_
  refine A_iconst hE 77 dX2_init_76 rfl (0) rfl ?_
  refine A_put hE 80 dX2_init_77 rfl fkX2_46 rfl rfl rfl rfl ?_
  refine A_aload_n hE 81 dX2_init_80 rfl rfl ?_
  refine A_bipush hE 83 dX2_init_81 rfl (99) (by decide) ?_
  refine A_put hE 86 dX2_init_83 rfl fkX2_49 rfl rfl rfl rfl ?_
  refine A_aload_n hE 87 dX2_init_86 rfl rfl ?_
  refine A_bipush hE 89 dX2_init_87 rfl (7) (by decide) ?_
  refine A_put hE 92 dX2_init_89 rfl fkX2_52 rfl rfl rfl rfl ?_
  refine A_aload_n hE 93 dX2_init_92 rfl rfl ?_
  refine A_iconst hE 94 dX2_init_93 rfl (0) rfl ?_
  refine A_put hE 97 dX2_init_94 rfl fkX2_55 rfl rfl rfl rfl ?_
  refine A_aload_n hE 98 dX2_init_97 rfl rfl ?_
  refine A_iconst hE 99 dX2_init_98 rfl (1) rfl ?_
  refine A_put hE 102 dX2_init_99 rfl fkX2_58 rfl rfl rfl rfl ?_
  refine A_vret hE dX2_init_102 rfl
set_option maxRecDepth 100000 in
theorem c_X5_init  : AMet yX5_init cX5_init 1 none 4 17 384 [.ref 0] [.inr (5, [.null, .null, .null])] (pV fun h => h = [StO 1 14 16, .inr (2, [.ref 2, .ref 6, .ref 10, .ref 11, .ref 12, .ref 13, .int 0, .int 0, .int 0, .int 0, .int 99, .int 7, .int 0, .int 1]), LawO 3 5 0, cRow 4 0, cI 60 (fun _ => 0), cI 60 (fun _ => 0), LawO 7 9 1, cRow 8 0, cI 60 (fun _ => 0), cI 60 (fun _ => 0), cI 8 (fun _ => 0), cI 8 (fun _ => 0), cI 8 (fun _ => 0), cI 8 (fun _ => 0), cRow 15 0, cI 60 (fun _ => 0), cRow 17 0, cI 24 (fun _ => 0)]) := by
  refine AMet.of (by decide +kernel) rfl (fun E ad0 hE => ?_)
  refine A_aload_n hE 1 dX5_init_0 rfl rfl ?_
  refine A_objInit hE 4 dX5_init_1 rfl oiX5 oiN oiC rfl (by decide) ?_
  refine A_aload_n hE 5 dX5_init_4 rfl rfl ?_
  refine A_new (ci := 2) hE 8 dX5_init_5 rfl rfl layX2 tyX2 tyX2_ok clX5_9 insX2 iniX2 [.null, .null, .null, .null, .null, .null, .int 0, .int 0, .int 0, .int 0, .int 0, .int 0, .int 0, .int 0] dfX2 rfl 1 rfl (refH_cons rfl (refH_nil)) rfl rfl (Nat.le_of_ble_eq_true rfl) (Nat.le_of_ble_eq_true rfl) ?_
  refine A_h ([.inr (5, [.null, .null, .null]), .inr (2, [.null, .null, .null, .null, .null, .null, .int 0, .int 0, .int 0, .int 0, .int 0, .int 0, .int 0, .int 0])]) rfl ?_
  refine A_dup hE 9 dX5_init_8 rfl rfl ?_
  refine A_callI hE 12 (c_X2_init) [1] [1, 2, 3, 4, 5, 6, 7, 8, 9, 10, 11, 12, 13] dX5_init_9 rfl mkX5_11 rfl rfl rfl rfl rfl rfl 2 rfl (refH_cons rfl (refH_cons rfl (refH_nil))) rfl rfl (fun h' e => by subst e; exact (refH_cons rfl (refH_cons rfl (refH_cons rfl (refH_cons trivial (refH_cons trivial (refH_cons rfl (refH_cons rfl (refH_cons trivial (refH_cons trivial (refH_cons trivial (refH_cons trivial (refH_cons trivial (refH_cons trivial (refH_nil))))))))))))))) rfl rfl (Nat.le_of_ble_eq_true rfl) (Nat.le_of_ble_eq_true rfl) rfl (fun h9 g9 hp9 hw9 => ?_) (by decide)
  obtain rfl := hp9
  obtain rfl := Option.some.inj hw9
  refine A_h ([.inr (5, [.null, .null, .null]), .inr (2, [.ref 2, .ref 6, .ref 10, .ref 11, .ref 12, .ref 13, .int 0, .int 0, .int 0, .int 0, .int 99, .int 7, .int 0, .int 1]), LawO 3 5 0, cRow 4 0, cI 60 (fun _ => 0), cI 60 (fun _ => 0), LawO 7 9 1, cRow 8 0, cI 60 (fun _ => 0), cI 60 (fun _ => 0), cI 8 (fun _ => 0), cI 8 (fun _ => 0), cI 8 (fun _ => 0), cI 8 (fun _ => 0)]) rfl ?_
  refine A_putF hE 15 dX5_init_12 rfl fkX5_12 rfl rfl rfl rfl rfl ?_
  refine A_aload_n hE 16 dX5_init_15 rfl rfl ?_
  refine A_new (ci := 3) hE 19 dX5_init_16 rfl rfl layX3 tyX3 tyX3_ok clX5_18 insX3 iniX3 [.null, .int 0] dfX3 rfl 14 rfl (refH_cons rfl (refH_cons rfl (refH_cons rfl (refH_cons rfl (refH_cons trivial (refH_cons trivial (refH_cons rfl (refH_cons rfl (refH_cons trivial (refH_cons trivial (refH_cons trivial (refH_cons trivial (refH_cons trivial (refH_cons trivial (refH_nil))))))))))))))) rfl rfl (Nat.le_of_ble_eq_true rfl) (Nat.le_of_ble_eq_true rfl) ?_
  refine A_h ([.inr (5, [.ref 1, .null, .null]), .inr (2, [.ref 2, .ref 6, .ref 10, .ref 11, .ref 12, .ref 13, .int 0, .int 0, .int 0, .int 0, .int 99, .int 7, .int 0, .int 1]), LawO 3 5 0, cRow 4 0, cI 60 (fun _ => 0), cI 60 (fun _ => 0), LawO 7 9 1, cRow 8 0, cI 60 (fun _ => 0), cI 60 (fun _ => 0), cI 8 (fun _ => 0), cI 8 (fun _ => 0), cI 8 (fun _ => 0), cI 8 (fun _ => 0), .inr (3, [.null, .int 0])]) rfl ?_
  refine A_dup hE 20 dX5_init_19 rfl rfl ?_
  refine A_bipush hE 22 dX5_init_20 rfl (60) (by decide) ?_
  refine A_callI hE 25 (c_X3_init_60) [14] [14, 15] dX5_init_22 rfl mkX5_20 rfl rfl rfl rfl rfl rfl 15 rfl (refH_cons rfl (refH_cons rfl (refH_cons rfl (refH_cons rfl (refH_cons trivial (refH_cons trivial (refH_cons rfl (refH_cons rfl (refH_cons trivial (refH_cons trivial (refH_cons trivial (refH_cons trivial (refH_cons trivial (refH_cons trivial (refH_cons rfl (refH_nil)))))))))))))))) rfl rfl (fun h' e => by subst e; exact (refH_cons rfl (refH_cons trivial (refH_nil)))) rfl rfl (Nat.le_of_ble_eq_true rfl) (Nat.le_of_ble_eq_true rfl) rfl (fun h22 g22 hp22 hw22 => ?_) (by decide)
  obtain rfl := hp22
  obtain rfl := Option.some.inj hw22
  refine A_h ([.inr (5, [.ref 1, .null, .null]), .inr (2, [.ref 2, .ref 6, .ref 10, .ref 11, .ref 12, .ref 13, .int 0, .int 0, .int 0, .int 0, .int 99, .int 7, .int 0, .int 1]), LawO 3 5 0, cRow 4 0, cI 60 (fun _ => 0), cI 60 (fun _ => 0), LawO 7 9 1, cRow 8 0, cI 60 (fun _ => 0), cI 60 (fun _ => 0), cI 8 (fun _ => 0), cI 8 (fun _ => 0), cI 8 (fun _ => 0), cI 8 (fun _ => 0), cRow 15 0, cI 60 (fun _ => 0)]) rfl ?_
  refine A_putF hE 28 dX5_init_25 rfl fkX5_23 rfl rfl rfl rfl rfl ?_
  refine A_aload_n hE 29 dX5_init_28 rfl rfl ?_
  refine A_new (ci := 3) hE 32 dX5_init_29 rfl rfl layX3 tyX3 tyX3_ok clX5_18 insX3 iniX3 [.null, .int 0] dfX3 rfl 16 rfl (refH_cons rfl (refH_cons rfl (refH_cons rfl (refH_cons rfl (refH_cons trivial (refH_cons trivial (refH_cons rfl (refH_cons rfl (refH_cons trivial (refH_cons trivial (refH_cons trivial (refH_cons trivial (refH_cons trivial (refH_cons trivial (refH_cons rfl (refH_cons trivial (refH_nil))))))))))))))))) rfl rfl (Nat.le_of_ble_eq_true rfl) (Nat.le_of_ble_eq_true rfl) ?_
  refine A_h ([.inr (5, [.ref 1, .ref 14, .null]), .inr (2, [.ref 2, .ref 6, .ref 10, .ref 11, .ref 12, .ref 13, .int 0, .int 0, .int 0, .int 0, .int 99, .int 7, .int 0, .int 1]), LawO 3 5 0, cRow 4 0, cI 60 (fun _ => 0), cI 60 (fun _ => 0), LawO 7 9 1, cRow 8 0, cI 60 (fun _ => 0), cI 60 (fun _ => 0), cI 8 (fun _ => 0), cI 8 (fun _ => 0), cI 8 (fun _ => 0), cI 8 (fun _ => 0), cRow 15 0, cI 60 (fun _ => 0), .inr (3, [.null, .int 0])]) rfl ?_
  refine A_dup hE 33 dX5_init_32 rfl rfl ?_
  refine A_bipush hE 35 dX5_init_33 rfl (24) (by decide) ?_
  refine A_callI hE 38 (c_X3_init_24) [16] [16, 17] dX5_init_35 rfl mkX5_20 rfl rfl rfl rfl rfl rfl 17 rfl (refH_cons rfl (refH_cons rfl (refH_cons rfl (refH_cons rfl (refH_cons trivial (refH_cons trivial (refH_cons rfl (refH_cons rfl (refH_cons trivial (refH_cons trivial (refH_cons trivial (refH_cons trivial (refH_cons trivial (refH_cons trivial (refH_cons rfl (refH_cons trivial (refH_cons rfl (refH_nil)))))))))))))))))) rfl rfl (fun h' e => by subst e; exact (refH_cons rfl (refH_cons trivial (refH_nil)))) rfl rfl (Nat.le_of_ble_eq_true rfl) (Nat.le_of_ble_eq_true rfl) rfl (fun h35 g35 hp35 hw35 => ?_) (by decide)
  obtain rfl := hp35
  obtain rfl := Option.some.inj hw35
  refine A_h ([.inr (5, [.ref 1, .ref 14, .null]), .inr (2, [.ref 2, .ref 6, .ref 10, .ref 11, .ref 12, .ref 13, .int 0, .int 0, .int 0, .int 0, .int 99, .int 7, .int 0, .int 1]), LawO 3 5 0, cRow 4 0, cI 60 (fun _ => 0), cI 60 (fun _ => 0), LawO 7 9 1, cRow 8 0, cI 60 (fun _ => 0), cI 60 (fun _ => 0), cI 8 (fun _ => 0), cI 8 (fun _ => 0), cI 8 (fun _ => 0), cI 8 (fun _ => 0), cRow 15 0, cI 60 (fun _ => 0), cRow 17 0, cI 24 (fun _ => 0)]) rfl ?_
  refine A_putF hE 41 dX5_init_38 rfl fkX5_27 rfl rfl rfl rfl rfl ?_
  refine A_vret hE dX5_init_41 rfl
set_option maxRecDepth 100000 in
theorem c_X1_init  : AMet yX1_init cX1_init 1 none 2 2 62 [.ref 0] [.inr (1, [.null, .null, .null, .int 0, .int 0])] (pV fun h => h = [.inr (1, [.ref 1, .ref 1, .retAddr 2, .int 0, .int (-1)]), cRow 2 0, cI 60 (fun _ => 0)]) := by
  refine AMet.of (by decide +kernel) rfl (fun E ad0 hE => ?_)
  refine A_aload_n hE 1 dX1_init_0 rfl rfl ?_
  refine A_objInit hE 4 dX1_init_1 rfl oiX1 oiN oiC rfl (by decide) ?_
  refine A_aload_n hE 5 dX1_init_4 rfl rfl ?_
  refine A_new (ci := 3) hE 8 dX1_init_5 rfl rfl layX3 tyX3 tyX3_ok clX1_9 insX3 iniX3 [.null, .int 0] dfX3 rfl 1 rfl (refH_cons rfl (refH_nil)) rfl rfl (Nat.le_of_ble_eq_true rfl) (Nat.le_of_ble_eq_true rfl) ?_
  refine A_h ([.inr (1, [.null, .null, .null, .int 0, .int 0]), .inr (3, [.null, .int 0])]) rfl ?_
  refine A_dup hE 9 dX1_init_8 rfl rfl ?_
  refine A_bipush hE 11 dX1_init_9 rfl (60) (by decide) ?_
  refine A_callI hE 14 (c_X3_init_60) [1] [1, 2] dX1_init_11 rfl mkX1_11 rfl rfl rfl rfl rfl rfl 2 rfl (refH_cons rfl (refH_cons rfl (refH_nil))) rfl rfl (fun h' e => by subst e; exact (refH_cons rfl (refH_cons trivial (refH_nil)))) rfl rfl (Nat.le_of_ble_eq_true rfl) (Nat.le_of_ble_eq_true rfl) rfl (fun h11 g11 hp11 hw11 => ?_) (by decide)
  obtain rfl := hp11
  obtain rfl := Option.some.inj hw11
  refine A_h ([.inr (1, [.null, .null, .null, .int 0, .int 0]), cRow 2 0, cI 60 (fun _ => 0)]) rfl ?_
  refine A_putF hE 17 dX1_init_14 rfl fkX1_14 rfl rfl rfl rfl rfl ?_
  refine A_aload_n hE 18 dX1_init_17 rfl rfl ?_
  refine A_aload_n hE 19 dX1_init_18 rfl rfl ?_
  refine A_get hE 22 dX1_init_19 rfl fkX1_14 rfl rfl ?_
  refine A_put hE 25 dX1_init_22 rfl fkX1_20 rfl rfl rfl rfl ?_
  refine A_aload_n hE 26 dX1_init_25 rfl rfl ?_
  refine A_ldcE hE 28 dX1_init_26 rfl ?_
  refine A_put hE 31 dX1_init_28 rfl fkX1_25 rfl rfl rfl rfl ?_
  refine A_aload_n hE 32 dX1_init_31 rfl rfl ?_
  refine A_iconst hE 33 dX1_init_32 rfl (0) rfl ?_
  refine A_put hE 36 dX1_init_33 rfl fkX1_29 rfl rfl rfl rfl ?_
  refine A_aload_n hE 37 dX1_init_36 rfl rfl ?_
  refine A_iconst hE 38 dX1_init_37 rfl (-1) rfl ?_
  refine A_put hE 41 dX1_init_38 rfl fkX1_33 rfl rfl rfl rfl ?_
  refine A_vret hE dX1_init_41 rfl
set_option maxRecDepth 100000 in
theorem c_X7_init  : AMet yX7_init cX7_init 1 none 2 2 32 [.ref 0] [.inr (7, [.null, .int 0, .int 0, .int 0, .int 0])] (pV fun h => h = [.inr (7, [.ref 1, .int 0, .int 0, .int 0, .int 0]), cRow 2 0, cI 30 (fun _ => 0)]) := by
  refine AMet.of (by decide +kernel) rfl (fun E ad0 hE => ?_)
  refine A_aload_n hE 1 dX7_init_0 rfl rfl ?_
  refine A_objInit hE 4 dX7_init_1 rfl oiX7 oiN oiC rfl (by decide) ?_
  refine A_aload_n hE 5 dX7_init_4 rfl rfl ?_
  refine A_new (ci := 3) hE 8 dX7_init_5 rfl rfl layX3 tyX3 tyX3_ok clX7_9 insX3 iniX3 [.null, .int 0] dfX3 rfl 1 rfl (refH_cons rfl (refH_nil)) rfl rfl (Nat.le_of_ble_eq_true rfl) (Nat.le_of_ble_eq_true rfl) ?_
  refine A_h ([.inr (7, [.null, .int 0, .int 0, .int 0, .int 0]), .inr (3, [.null, .int 0])]) rfl ?_
  refine A_dup hE 9 dX7_init_8 rfl rfl ?_
  refine A_bipush hE 11 dX7_init_9 rfl (30) (by decide) ?_
  refine A_callI hE 14 (c_X3_init_30) [1] [1, 2] dX7_init_11 rfl mkX7_11 rfl rfl rfl rfl rfl rfl 2 rfl (refH_cons rfl (refH_cons rfl (refH_nil))) rfl rfl (fun h' e => by subst e; exact (refH_cons rfl (refH_cons trivial (refH_nil)))) rfl rfl (Nat.le_of_ble_eq_true rfl) (Nat.le_of_ble_eq_true rfl) rfl (fun h11 g11 hp11 hw11 => ?_) (by decide)
  obtain rfl := hp11
  obtain rfl := Option.some.inj hw11
  refine A_h ([.inr (7, [.null, .int 0, .int 0, .int 0, .int 0]), cRow 2 0, cI 30 (fun _ => 0)]) rfl ?_
  refine A_putF hE 17 dX7_init_14 rfl fkX7_14 rfl rfl rfl rfl rfl ?_
  refine A_aload_n hE 18 dX7_init_17 rfl rfl ?_
  refine A_iconst hE 19 dX7_init_18 rfl (0) rfl ?_
  refine A_put hE 22 dX7_init_19 rfl fkX7_20 rfl rfl rfl rfl ?_
  refine A_aload_n hE 23 dX7_init_22 rfl rfl ?_
  refine A_iconst hE 24 dX7_init_23 rfl (0) rfl ?_
  refine A_put hE 27 dX7_init_24 rfl fkX7_24 rfl rfl rfl rfl ?_
  refine A_aload_n hE 28 dX7_init_27 rfl rfl ?_
  refine A_iconst hE 29 dX7_init_28 rfl (0) rfl ?_
  refine A_put hE 32 dX7_init_29 rfl fkX7_28 rfl rfl rfl rfl ?_
  refine A_aload_n hE 33 dX7_init_32 rfl rfl ?_
  refine A_iconst hE 34 dX7_init_33 rfl (0) rfl ?_
  refine A_put hE 37 dX7_init_34 rfl fkX7_31 rfl rfl rfl rfl ?_
  refine A_vret hE dX7_init_37 rfl
set_option maxRecDepth 100000 in
theorem c_X4_init  : AMet yX4_init cX4_init 1 none 2 2 26 [.ref 0] [.inr (4, [.null, .int 0])] (pV fun h => h = [ShO 1 0, cRow 2 0, cI 24 (fun _ => 0)]) := by
  refine AMet.of (by decide +kernel) rfl (fun E ad0 hE => ?_)
  refine A_aload_n hE 1 dX4_init_0 rfl rfl ?_
  refine A_objInit hE 4 dX4_init_1 rfl oiX4 oiN oiC rfl (by decide) ?_
  refine A_aload_n hE 5 dX4_init_4 rfl rfl ?_
  refine A_new (ci := 3) hE 8 dX4_init_5 rfl rfl layX3 tyX3 tyX3_ok clX4_9 insX3 iniX3 [.null, .int 0] dfX3 rfl 1 rfl (refH_cons rfl (refH_nil)) rfl rfl (Nat.le_of_ble_eq_true rfl) (Nat.le_of_ble_eq_true rfl) ?_
  refine A_h ([.inr (4, [.null, .int 0]), .inr (3, [.null, .int 0])]) rfl ?_
  refine A_dup hE 9 dX4_init_8 rfl rfl ?_
  refine A_bipush hE 11 dX4_init_9 rfl (24) (by decide) ?_
  refine A_callI hE 14 (c_X3_init_24) [1] [1, 2] dX4_init_11 rfl mkX4_11 rfl rfl rfl rfl rfl rfl 2 rfl (refH_cons rfl (refH_cons rfl (refH_nil))) rfl rfl (fun h' e => by subst e; exact (refH_cons rfl (refH_cons trivial (refH_nil)))) rfl rfl (Nat.le_of_ble_eq_true rfl) (Nat.le_of_ble_eq_true rfl) rfl (fun h11 g11 hp11 hw11 => ?_) (by decide)
  obtain rfl := hp11
  obtain rfl := Option.some.inj hw11
  refine A_h ([.inr (4, [.null, .int 0]), cRow 2 0, cI 24 (fun _ => 0)]) rfl ?_
  refine A_putF hE 17 dX4_init_14 rfl fkX4_14 rfl rfl rfl rfl rfl ?_
  refine A_aload_n hE 18 dX4_init_17 rfl rfl ?_
  refine A_iconst hE 19 dX4_init_18 rfl (0) rfl ?_
  refine A_put hE 22 dX4_init_19 rfl fkX4_20 rfl rfl rfl rfl ?_
  refine A_vret hE dX4_init_22 rfl
set_option maxRecDepth 100000 in
theorem c_X6_init  : AMet yX6_init cX6_init 1 none 4 13 296 [.ref 0] [.inr (6, [.null, .int 0, .int 0])] (pV fun h => h = [.inr (6, [.ref 1, .int (-1), .int 0]), .inr (2, [.ref 2, .ref 6, .ref 10, .ref 11, .ref 12, .ref 13, .int 0, .int 0, .int 0, .int 0, .int 99, .int 7, .int 0, .int 1]), LawO 3 5 0, cRow 4 0, cI 60 (fun _ => 0), cI 60 (fun _ => 0), LawO 7 9 1, cRow 8 0, cI 60 (fun _ => 0), cI 60 (fun _ => 0), cI 8 (fun _ => 0), cI 8 (fun _ => 0), cI 8 (fun _ => 0), cI 8 (fun _ => 0)]) := by
  refine AMet.of (by decide +kernel) rfl (fun E ad0 hE => ?_)
  refine A_aload_n hE 1 dX6_init_0 rfl rfl ?_
  refine A_objInit hE 4 dX6_init_1 rfl oiX6 oiN oiC rfl (by decide) ?_
  refine A_aload_n hE 5 dX6_init_4 rfl rfl ?_
  refine A_new (ci := 2) hE 8 dX6_init_5 rfl rfl layX2 tyX2 tyX2_ok clX6_9 insX2 iniX2 [.null, .null, .null, .null, .null, .null, .int 0, .int 0, .int 0, .int 0, .int 0, .int 0, .int 0, .int 0] dfX2 rfl 1 rfl (refH_cons rfl (refH_nil)) rfl rfl (Nat.le_of_ble_eq_true rfl) (Nat.le_of_ble_eq_true rfl) ?_
  refine A_h ([.inr (6, [.null, .int 0, .int 0]), .inr (2, [.null, .null, .null, .null, .null, .null, .int 0, .int 0, .int 0, .int 0, .int 0, .int 0, .int 0, .int 0])]) rfl ?_
  refine A_dup hE 9 dX6_init_8 rfl rfl ?_
  refine A_callI hE 12 (c_X2_init) [1] [1, 2, 3, 4, 5, 6, 7, 8, 9, 10, 11, 12, 13] dX6_init_9 rfl mkX6_11 rfl rfl rfl rfl rfl rfl 2 rfl (refH_cons rfl (refH_cons rfl (refH_nil))) rfl rfl (fun h' e => by subst e; exact (refH_cons rfl (refH_cons rfl (refH_cons rfl (refH_cons trivial (refH_cons trivial (refH_cons rfl (refH_cons rfl (refH_cons trivial (refH_cons trivial (refH_cons trivial (refH_cons trivial (refH_cons trivial (refH_cons trivial (refH_nil))))))))))))))) rfl rfl (Nat.le_of_ble_eq_true rfl) (Nat.le_of_ble_eq_true rfl) rfl (fun h9 g9 hp9 hw9 => ?_) (by decide)
  obtain rfl := hp9
  obtain rfl := Option.some.inj hw9
  refine A_h ([.inr (6, [.null, .int 0, .int 0]), .inr (2, [.ref 2, .ref 6, .ref 10, .ref 11, .ref 12, .ref 13, .int 0, .int 0, .int 0, .int 0, .int 99, .int 7, .int 0, .int 1]), LawO 3 5 0, cRow 4 0, cI 60 (fun _ => 0), cI 60 (fun _ => 0), LawO 7 9 1, cRow 8 0, cI 60 (fun _ => 0), cI 60 (fun _ => 0), cI 8 (fun _ => 0), cI 8 (fun _ => 0), cI 8 (fun _ => 0), cI 8 (fun _ => 0)]) rfl ?_
  refine A_putF hE 15 dX6_init_12 rfl fkX6_12 rfl rfl rfl rfl rfl ?_
  refine A_aload_n hE 16 dX6_init_15 rfl rfl ?_
  refine A_iconst hE 17 dX6_init_16 rfl (-1) rfl ?_
  refine A_put hE 20 dX6_init_17 rfl fkX6_18 rfl rfl rfl rfl ?_
  refine A_aload_n hE 21 dX6_init_20 rfl rfl ?_
  refine A_iconst hE 22 dX6_init_21 rfl (0) rfl ?_
  refine A_put hE 25 dX6_init_22 rfl fkX6_22 rfl rfl rfl rfl ?_
  refine A_vret hE dX6_init_25 rfl
