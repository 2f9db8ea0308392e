theorem flBod : Cond.fieldLink RX7 54 "LoanedRound$Voices" "BODIES" "[I" ∈ lw_g := lg_m 812 (by decide +kernel) rfl
set_option maxRecDepth 100000 in
theorem c_own_0_0  : AMet yX7_ownerOf cX7_ownerOf 4 (some (.int)) 0 0 0 [.int 0, .int 0] [] (pI fun r h => r = 0 ∧ h = []) := by
  refine AMet.of (by decide +kernel) rfl (fun E ad0 hE => ?_)
  refine A_iload_n hE 1 dX7_ownerOf_0 rfl rfl ?_
  refine A_istore_n hE 2 dX7_ownerOf_1 rfl rfl rfl ?_
  refine A_iconst hE 3 dX7_ownerOf_2 rfl (0) rfl ?_
  refine A_istore_n hE 4 dX7_ownerOf_3 rfl rfl rfl ?_
  refine A_iload_n hE 5 dX7_ownerOf_4 rfl rfl ?_
  refine A_iconst hE 6 dX7_ownerOf_5 rfl (2) rfl ?_
  refine A_icmp_ge hE 9 33 dX7_ownerOf_6 rfl rfl (fun c6 => absurd c6 (by decide)) (fun c6 => ?_)
  refine A_gsBodies hE 12 dX7_ownerOf_9 rfl flBod ?_
  refine A_iconst hE 13 dX7_ownerOf_12 rfl (4) rfl ?_
  refine A_iload_n hE 14 dX7_ownerOf_13 rfl rfl ?_
  refine A_imul hE 15 dX7_ownerOf_14 rfl ?_
  refine A_iload_n hE 16 dX7_ownerOf_15 rfl rfl ?_
  refine A_iadd hE 17 dX7_ownerOf_16 rfl ?_
  refine A_tabB hE 18 0 dX7_ownerOf_17 rfl (by decide) (by decide) (10) (by decide) ?_
  refine A_if_ne hE 21 33 dX7_ownerOf_18 rfl rfl (fun c18 => ?_) (fun c18 => absurd c18 (by decide))
  refine A_iload_n hE 34 dX7_ownerOf_33 rfl rfl ?_
  refine A_iret hE dX7_ownerOf_34 ⟨rfl, rfl⟩
set_option maxRecDepth 100000 in
theorem c_own_0_1  : AMet yX7_ownerOf cX7_ownerOf 4 (some (.int)) 0 0 0 [.int 0, .int 1] [] (pI fun r h => r = 1 ∧ h = []) := by
  refine AMet.of (by decide +kernel) rfl (fun E ad0 hE => ?_)
  refine A_iload_n hE 1 dX7_ownerOf_0 rfl rfl ?_
  refine A_istore_n hE 2 dX7_ownerOf_1 rfl rfl rfl ?_
  refine A_iconst hE 3 dX7_ownerOf_2 rfl (0) rfl ?_
  refine A_istore_n hE 4 dX7_ownerOf_3 rfl rfl rfl ?_
  refine A_iload_n hE 5 dX7_ownerOf_4 rfl rfl ?_
  refine A_iconst hE 6 dX7_ownerOf_5 rfl (2) rfl ?_
  refine A_icmp_ge hE 9 33 dX7_ownerOf_6 rfl rfl (fun c6 => absurd c6 (by decide)) (fun c6 => ?_)
  refine A_gsBodies hE 12 dX7_ownerOf_9 rfl flBod ?_
  refine A_iconst hE 13 dX7_ownerOf_12 rfl (4) rfl ?_
  refine A_iload_n hE 14 dX7_ownerOf_13 rfl rfl ?_
  refine A_imul hE 15 dX7_ownerOf_14 rfl ?_
  refine A_iload_n hE 16 dX7_ownerOf_15 rfl rfl ?_
  refine A_iadd hE 17 dX7_ownerOf_16 rfl ?_
  refine A_tabB hE 18 4 dX7_ownerOf_17 rfl (by decide) (by decide) (20) (by decide) ?_
  refine A_if_ne hE 21 33 dX7_ownerOf_18 rfl rfl (fun c18 => ?_) (fun c18 => absurd c18 (by decide))
  refine A_iload_n hE 34 dX7_ownerOf_33 rfl rfl ?_
  refine A_iret hE dX7_ownerOf_34 ⟨rfl, rfl⟩
set_option maxRecDepth 100000 in
theorem c_own_0_2  : AMet yX7_ownerOf cX7_ownerOf 4 (some (.int)) 0 0 0 [.int 0, .int 2] [] (pI fun r h => r = 0 ∧ h = []) := by
  refine AMet.of (by decide +kernel) rfl (fun E ad0 hE => ?_)
  refine A_iload_n hE 1 dX7_ownerOf_0 rfl rfl ?_
  refine A_istore_n hE 2 dX7_ownerOf_1 rfl rfl rfl ?_
  refine A_iconst hE 3 dX7_ownerOf_2 rfl (0) rfl ?_
  refine A_istore_n hE 4 dX7_ownerOf_3 rfl rfl rfl ?_
  refine A_iload_n hE 5 dX7_ownerOf_4 rfl rfl ?_
  refine A_iconst hE 6 dX7_ownerOf_5 rfl (2) rfl ?_
  refine A_icmp_ge hE 9 33 dX7_ownerOf_6 rfl rfl (fun c6 => absurd c6 (by decide)) (fun c6 => ?_)
  refine A_gsBodies hE 12 dX7_ownerOf_9 rfl flBod ?_
  refine A_iconst hE 13 dX7_ownerOf_12 rfl (4) rfl ?_
  refine A_iload_n hE 14 dX7_ownerOf_13 rfl rfl ?_
  refine A_imul hE 15 dX7_ownerOf_14 rfl ?_
  refine A_iload_n hE 16 dX7_ownerOf_15 rfl rfl ?_
  refine A_iadd hE 17 dX7_ownerOf_16 rfl ?_
  refine A_tabB hE 18 8 dX7_ownerOf_17 rfl (by decide) (by decide) (0) (by decide) ?_
  refine A_if_ne hE 21 33 dX7_ownerOf_18 rfl rfl (fun c18 => absurd rfl c18) (fun c18 => ?_)
  refine A_gsAboveN hE 24 dX7_ownerOf_21 rfl ?_
  refine A_iload_n hE 25 dX7_ownerOf_24 rfl rfl ?_
  refine A_tabA hE 26 2 dX7_ownerOf_25 rfl (by decide) (by decide) (0) (by decide) ?_
  refine A_istore_n hE 27 dX7_ownerOf_26 rfl rfl rfl ?_
  refine A_iinc hE 30 dX7_ownerOf_27 rfl rfl (1) rfl rfl rfl ?_
  refine A_goto hE 4 dX7_ownerOf_30 rfl ?_
  refine A_iload_n hE 5 dX7_ownerOf_4 rfl rfl ?_
  refine A_iconst hE 6 dX7_ownerOf_5 rfl (2) rfl ?_
  refine A_icmp_ge hE 9 33 dX7_ownerOf_6 rfl rfl (fun c6 => absurd c6 (by decide)) (fun c6 => ?_)
  refine A_gsBodies hE 12 dX7_ownerOf_9 rfl flBod ?_
  refine A_iconst hE 13 dX7_ownerOf_12 rfl (4) rfl ?_
  refine A_iload_n hE 14 dX7_ownerOf_13 rfl rfl ?_
  refine A_imul hE 15 dX7_ownerOf_14 rfl ?_
  refine A_iload_n hE 16 dX7_ownerOf_15 rfl rfl ?_
  refine A_iadd hE 17 dX7_ownerOf_16 rfl ?_
  refine A_tabB hE 18 0 dX7_ownerOf_17 rfl (by decide) (by decide) (10) (by decide) ?_
  refine A_if_ne hE 21 33 dX7_ownerOf_18 rfl rfl (fun c18 => ?_) (fun c18 => absurd c18 (by decide))
  refine A_iload_n hE 34 dX7_ownerOf_33 rfl rfl ?_
  refine A_iret hE dX7_ownerOf_34 ⟨rfl, rfl⟩
set_option maxRecDepth 100000 in
theorem c_own_0_3  : AMet yX7_ownerOf cX7_ownerOf 4 (some (.int)) 0 0 0 [.int 0, .int 3] [] (pI fun r h => r = 0 ∧ h = []) := by
  refine AMet.of (by decide +kernel) rfl (fun E ad0 hE => ?_)
  refine A_iload_n hE 1 dX7_ownerOf_0 rfl rfl ?_
  refine A_istore_n hE 2 dX7_ownerOf_1 rfl rfl rfl ?_
  refine A_iconst hE 3 dX7_ownerOf_2 rfl (0) rfl ?_
  refine A_istore_n hE 4 dX7_ownerOf_3 rfl rfl rfl ?_
  refine A_iload_n hE 5 dX7_ownerOf_4 rfl rfl ?_
  refine A_iconst hE 6 dX7_ownerOf_5 rfl (2) rfl ?_
  refine A_icmp_ge hE 9 33 dX7_ownerOf_6 rfl rfl (fun c6 => absurd c6 (by decide)) (fun c6 => ?_)
  refine A_gsBodies hE 12 dX7_ownerOf_9 rfl flBod ?_
  refine A_iconst hE 13 dX7_ownerOf_12 rfl (4) rfl ?_
  refine A_iload_n hE 14 dX7_ownerOf_13 rfl rfl ?_
  refine A_imul hE 15 dX7_ownerOf_14 rfl ?_
  refine A_iload_n hE 16 dX7_ownerOf_15 rfl rfl ?_
  refine A_iadd hE 17 dX7_ownerOf_16 rfl ?_
  refine A_tabB hE 18 12 dX7_ownerOf_17 rfl (by decide) (by decide) (0) (by decide) ?_
  refine A_if_ne hE 21 33 dX7_ownerOf_18 rfl rfl (fun c18 => absurd rfl c18) (fun c18 => ?_)
  refine A_gsAboveN hE 24 dX7_ownerOf_21 rfl ?_
  refine A_iload_n hE 25 dX7_ownerOf_24 rfl rfl ?_
  refine A_tabA hE 26 3 dX7_ownerOf_25 rfl (by decide) (by decide) (0) (by decide) ?_
  refine A_istore_n hE 27 dX7_ownerOf_26 rfl rfl rfl ?_
  refine A_iinc hE 30 dX7_ownerOf_27 rfl rfl (1) rfl rfl rfl ?_
  refine A_goto hE 4 dX7_ownerOf_30 rfl ?_
  refine A_iload_n hE 5 dX7_ownerOf_4 rfl rfl ?_
  refine A_iconst hE 6 dX7_ownerOf_5 rfl (2) rfl ?_
  refine A_icmp_ge hE 9 33 dX7_ownerOf_6 rfl rfl (fun c6 => absurd c6 (by decide)) (fun c6 => ?_)
  refine A_gsBodies hE 12 dX7_ownerOf_9 rfl flBod ?_
  refine A_iconst hE 13 dX7_ownerOf_12 rfl (4) rfl ?_
  refine A_iload_n hE 14 dX7_ownerOf_13 rfl rfl ?_
  refine A_imul hE 15 dX7_ownerOf_14 rfl ?_
  refine A_iload_n hE 16 dX7_ownerOf_15 rfl rfl ?_
  refine A_iadd hE 17 dX7_ownerOf_16 rfl ?_
  refine A_tabB hE 18 0 dX7_ownerOf_17 rfl (by decide) (by decide) (10) (by decide) ?_
  refine A_if_ne hE 21 33 dX7_ownerOf_18 rfl rfl (fun c18 => ?_) (fun c18 => absurd c18 (by decide))
  refine A_iload_n hE 34 dX7_ownerOf_33 rfl rfl ?_
  refine A_iret hE dX7_ownerOf_34 ⟨rfl, rfl⟩
set_option maxRecDepth 100000 in
theorem c_own_0_4  : AMet yX7_ownerOf cX7_ownerOf 4 (some (.int)) 0 0 0 [.int 0, .int 4] [] (pI fun r h => r = 4 ∧ h = []) := by
  refine AMet.of (by decide +kernel) rfl (fun E ad0 hE => ?_)
  refine A_iload_n hE 1 dX7_ownerOf_0 rfl rfl ?_
  refine A_istore_n hE 2 dX7_ownerOf_1 rfl rfl rfl ?_
  refine A_iconst hE 3 dX7_ownerOf_2 rfl (0) rfl ?_
  refine A_istore_n hE 4 dX7_ownerOf_3 rfl rfl rfl ?_
  refine A_iload_n hE 5 dX7_ownerOf_4 rfl rfl ?_
  refine A_iconst hE 6 dX7_ownerOf_5 rfl (2) rfl ?_
  refine A_icmp_ge hE 9 33 dX7_ownerOf_6 rfl rfl (fun c6 => absurd c6 (by decide)) (fun c6 => ?_)
  refine A_gsBodies hE 12 dX7_ownerOf_9 rfl flBod ?_
  refine A_iconst hE 13 dX7_ownerOf_12 rfl (4) rfl ?_
  refine A_iload_n hE 14 dX7_ownerOf_13 rfl rfl ?_
  refine A_imul hE 15 dX7_ownerOf_14 rfl ?_
  refine A_iload_n hE 16 dX7_ownerOf_15 rfl rfl ?_
  refine A_iadd hE 17 dX7_ownerOf_16 rfl ?_
  refine A_tabB hE 18 16 dX7_ownerOf_17 rfl (by decide) (by decide) (50) (by decide) ?_
  refine A_if_ne hE 21 33 dX7_ownerOf_18 rfl rfl (fun c18 => ?_) (fun c18 => absurd c18 (by decide))
  refine A_iload_n hE 34 dX7_ownerOf_33 rfl rfl ?_
  refine A_iret hE dX7_ownerOf_34 ⟨rfl, rfl⟩
set_option maxRecDepth 100000 in
theorem c_own_0_5  : AMet yX7_ownerOf cX7_ownerOf 4 (some (.int)) 0 0 0 [.int 0, .int 5] [] (pI fun r h => r = 0 ∧ h = []) := by
  refine AMet.of (by decide +kernel) rfl (fun E ad0 hE => ?_)
  refine A_iload_n hE 1 dX7_ownerOf_0 rfl rfl ?_
  refine A_istore_n hE 2 dX7_ownerOf_1 rfl rfl rfl ?_
  refine A_iconst hE 3 dX7_ownerOf_2 rfl (0) rfl ?_
  refine A_istore_n hE 4 dX7_ownerOf_3 rfl rfl rfl ?_
  refine A_iload_n hE 5 dX7_ownerOf_4 rfl rfl ?_
  refine A_iconst hE 6 dX7_ownerOf_5 rfl (2) rfl ?_
  refine A_icmp_ge hE 9 33 dX7_ownerOf_6 rfl rfl (fun c6 => absurd c6 (by decide)) (fun c6 => ?_)
  refine A_gsBodies hE 12 dX7_ownerOf_9 rfl flBod ?_
  refine A_iconst hE 13 dX7_ownerOf_12 rfl (4) rfl ?_
  refine A_iload_n hE 14 dX7_ownerOf_13 rfl rfl ?_
  refine A_imul hE 15 dX7_ownerOf_14 rfl ?_
  refine A_iload_n hE 16 dX7_ownerOf_15 rfl rfl ?_
  refine A_iadd hE 17 dX7_ownerOf_16 rfl ?_
  refine A_tabB hE 18 20 dX7_ownerOf_17 rfl (by decide) (by decide) (0) (by decide) ?_
  refine A_if_ne hE 21 33 dX7_ownerOf_18 rfl rfl (fun c18 => absurd rfl c18) (fun c18 => ?_)
  refine A_gsAboveN hE 24 dX7_ownerOf_21 rfl ?_
  refine A_iload_n hE 25 dX7_ownerOf_24 rfl rfl ?_
  refine A_tabA hE 26 5 dX7_ownerOf_25 rfl (by decide) (by decide) (2) (by decide) ?_
  refine A_istore_n hE 27 dX7_ownerOf_26 rfl rfl rfl ?_
  refine A_iinc hE 30 dX7_ownerOf_27 rfl rfl (1) rfl rfl rfl ?_
  refine A_goto hE 4 dX7_ownerOf_30 rfl ?_
  refine A_iload_n hE 5 dX7_ownerOf_4 rfl rfl ?_
  refine A_iconst hE 6 dX7_ownerOf_5 rfl (2) rfl ?_
  refine A_icmp_ge hE 9 33 dX7_ownerOf_6 rfl rfl (fun c6 => absurd c6 (by decide)) (fun c6 => ?_)
  refine A_gsBodies hE 12 dX7_ownerOf_9 rfl flBod ?_
  refine A_iconst hE 13 dX7_ownerOf_12 rfl (4) rfl ?_
  refine A_iload_n hE 14 dX7_ownerOf_13 rfl rfl ?_
  refine A_imul hE 15 dX7_ownerOf_14 rfl ?_
  refine A_iload_n hE 16 dX7_ownerOf_15 rfl rfl ?_
  refine A_iadd hE 17 dX7_ownerOf_16 rfl ?_
  refine A_tabB hE 18 8 dX7_ownerOf_17 rfl (by decide) (by decide) (0) (by decide) ?_
  refine A_if_ne hE 21 33 dX7_ownerOf_18 rfl rfl (fun c18 => absurd rfl c18) (fun c18 => ?_)
  refine A_gsAboveN hE 24 dX7_ownerOf_21 rfl ?_
  refine A_iload_n hE 25 dX7_ownerOf_24 rfl rfl ?_
  refine A_tabA hE 26 2 dX7_ownerOf_25 rfl (by decide) (by decide) (0) (by decide) ?_
  refine A_istore_n hE 27 dX7_ownerOf_26 rfl rfl rfl ?_
  refine A_iinc hE 30 dX7_ownerOf_27 rfl rfl (1) rfl rfl rfl ?_
  refine A_goto hE 4 dX7_ownerOf_30 rfl ?_
  refine A_iload_n hE 5 dX7_ownerOf_4 rfl rfl ?_
  refine A_iconst hE 6 dX7_ownerOf_5 rfl (2) rfl ?_
  refine A_icmp_ge hE 9 33 dX7_ownerOf_6 rfl rfl (fun c6 => ?_) (fun c6 => absurd (by decide) c6)
  refine A_iload_n hE 34 dX7_ownerOf_33 rfl rfl ?_
  refine A_iret hE dX7_ownerOf_34 ⟨rfl, rfl⟩
set_option maxRecDepth 100000 in
theorem c_own_0_6  : AMet yX7_ownerOf cX7_ownerOf 4 (some (.int)) 0 0 0 [.int 0, .int 6] [] (pI fun r h => r = 6 ∧ h = []) := by
  refine AMet.of (by decide +kernel) rfl (fun E ad0 hE => ?_)
  refine A_iload_n hE 1 dX7_ownerOf_0 rfl rfl ?_
  refine A_istore_n hE 2 dX7_ownerOf_1 rfl rfl rfl ?_
  refine A_iconst hE 3 dX7_ownerOf_2 rfl (0) rfl ?_
  refine A_istore_n hE 4 dX7_ownerOf_3 rfl rfl rfl ?_
  refine A_iload_n hE 5 dX7_ownerOf_4 rfl rfl ?_
  refine A_iconst hE 6 dX7_ownerOf_5 rfl (2) rfl ?_
  refine A_icmp_ge hE 9 33 dX7_ownerOf_6 rfl rfl (fun c6 => absurd c6 (by decide)) (fun c6 => ?_)
  refine A_gsBodies hE 12 dX7_ownerOf_9 rfl flBod ?_
  refine A_iconst hE 13 dX7_ownerOf_12 rfl (4) rfl ?_
  refine A_iload_n hE 14 dX7_ownerOf_13 rfl rfl ?_
  refine A_imul hE 15 dX7_ownerOf_14 rfl ?_
  refine A_iload_n hE 16 dX7_ownerOf_15 rfl rfl ?_
  refine A_iadd hE 17 dX7_ownerOf_16 rfl ?_
  refine A_tabB hE 18 24 dX7_ownerOf_17 rfl (by decide) (by decide) (70) (by decide) ?_
  refine A_if_ne hE 21 33 dX7_ownerOf_18 rfl rfl (fun c18 => ?_) (fun c18 => absurd c18 (by decide))
  refine A_iload_n hE 34 dX7_ownerOf_33 rfl rfl ?_
  refine A_iret hE dX7_ownerOf_34 ⟨rfl, rfl⟩
set_option maxRecDepth 100000 in
theorem c_own_1_0  : AMet yX7_ownerOf cX7_ownerOf 4 (some (.int)) 0 0 0 [.int 1, .int 0] [] (pI fun r h => r = 0 ∧ h = []) := by
  refine AMet.of (by decide +kernel) rfl (fun E ad0 hE => ?_)
  refine A_iload_n hE 1 dX7_ownerOf_0 rfl rfl ?_
  refine A_istore_n hE 2 dX7_ownerOf_1 rfl rfl rfl ?_
  refine A_iconst hE 3 dX7_ownerOf_2 rfl (0) rfl ?_
  refine A_istore_n hE 4 dX7_ownerOf_3 rfl rfl rfl ?_
  refine A_iload_n hE 5 dX7_ownerOf_4 rfl rfl ?_
  refine A_iconst hE 6 dX7_ownerOf_5 rfl (2) rfl ?_
  refine A_icmp_ge hE 9 33 dX7_ownerOf_6 rfl rfl (fun c6 => absurd c6 (by decide)) (fun c6 => ?_)
  refine A_gsBodies hE 12 dX7_ownerOf_9 rfl flBod ?_
  refine A_iconst hE 13 dX7_ownerOf_12 rfl (4) rfl ?_
  refine A_iload_n hE 14 dX7_ownerOf_13 rfl rfl ?_
  refine A_imul hE 15 dX7_ownerOf_14 rfl ?_
  refine A_iload_n hE 16 dX7_ownerOf_15 rfl rfl ?_
  refine A_iadd hE 17 dX7_ownerOf_16 rfl ?_
  refine A_tabB hE 18 1 dX7_ownerOf_17 rfl (by decide) (by decide) (11) (by decide) ?_
  refine A_if_ne hE 21 33 dX7_ownerOf_18 rfl rfl (fun c18 => ?_) (fun c18 => absurd c18 (by decide))
  refine A_iload_n hE 34 dX7_ownerOf_33 rfl rfl ?_
  refine A_iret hE dX7_ownerOf_34 ⟨rfl, rfl⟩
set_option maxRecDepth 100000 in
theorem c_own_1_1  : AMet yX7_ownerOf cX7_ownerOf 4 (some (.int)) 0 0 0 [.int 1, .int 1] [] (pI fun r h => r = 0 ∧ h = []) := by
  refine AMet.of (by decide +kernel) rfl (fun E ad0 hE => ?_)
  refine A_iload_n hE 1 dX7_ownerOf_0 rfl rfl ?_
  refine A_istore_n hE 2 dX7_ownerOf_1 rfl rfl rfl ?_
  refine A_iconst hE 3 dX7_ownerOf_2 rfl (0) rfl ?_
  refine A_istore_n hE 4 dX7_ownerOf_3 rfl rfl rfl ?_
  refine A_iload_n hE 5 dX7_ownerOf_4 rfl rfl ?_
  refine A_iconst hE 6 dX7_ownerOf_5 rfl (2) rfl ?_
  refine A_icmp_ge hE 9 33 dX7_ownerOf_6 rfl rfl (fun c6 => absurd c6 (by decide)) (fun c6 => ?_)
  refine A_gsBodies hE 12 dX7_ownerOf_9 rfl flBod ?_
  refine A_iconst hE 13 dX7_ownerOf_12 rfl (4) rfl ?_
  refine A_iload_n hE 14 dX7_ownerOf_13 rfl rfl ?_
  refine A_imul hE 15 dX7_ownerOf_14 rfl ?_
  refine A_iload_n hE 16 dX7_ownerOf_15 rfl rfl ?_
  refine A_iadd hE 17 dX7_ownerOf_16 rfl ?_
  refine A_tabB hE 18 5 dX7_ownerOf_17 rfl (by decide) (by decide) (0) (by decide) ?_
  refine A_if_ne hE 21 33 dX7_ownerOf_18 rfl rfl (fun c18 => absurd rfl c18) (fun c18 => ?_)
  refine A_gsAboveN hE 24 dX7_ownerOf_21 rfl ?_
  refine A_iload_n hE 25 dX7_ownerOf_24 rfl rfl ?_
  refine A_tabA hE 26 1 dX7_ownerOf_25 rfl (by decide) (by decide) (0) (by decide) ?_
  refine A_istore_n hE 27 dX7_ownerOf_26 rfl rfl rfl ?_
  refine A_iinc hE 30 dX7_ownerOf_27 rfl rfl (1) rfl rfl rfl ?_
  refine A_goto hE 4 dX7_ownerOf_30 rfl ?_
  refine A_iload_n hE 5 dX7_ownerOf_4 rfl rfl ?_
  refine A_iconst hE 6 dX7_ownerOf_5 rfl (2) rfl ?_
  refine A_icmp_ge hE 9 33 dX7_ownerOf_6 rfl rfl (fun c6 => absurd c6 (by decide)) (fun c6 => ?_)
  refine A_gsBodies hE 12 dX7_ownerOf_9 rfl flBod ?_
  refine A_iconst hE 13 dX7_ownerOf_12 rfl (4) rfl ?_
  refine A_iload_n hE 14 dX7_ownerOf_13 rfl rfl ?_
  refine A_imul hE 15 dX7_ownerOf_14 rfl ?_
  refine A_iload_n hE 16 dX7_ownerOf_15 rfl rfl ?_
  refine A_iadd hE 17 dX7_ownerOf_16 rfl ?_
  refine A_tabB hE 18 1 dX7_ownerOf_17 rfl (by decide) (by decide) (11) (by decide) ?_
  refine A_if_ne hE 21 33 dX7_ownerOf_18 rfl rfl (fun c18 => ?_) (fun c18 => absurd c18 (by decide))
  refine A_iload_n hE 34 dX7_ownerOf_33 rfl rfl ?_
  refine A_iret hE dX7_ownerOf_34 ⟨rfl, rfl⟩
set_option maxRecDepth 100000 in
theorem c_own_1_2  : AMet yX7_ownerOf cX7_ownerOf 4 (some (.int)) 0 0 0 [.int 1, .int 2] [] (pI fun r h => r = 2 ∧ h = []) := by
  refine AMet.of (by decide +kernel) rfl (fun E ad0 hE => ?_)
  refine A_iload_n hE 1 dX7_ownerOf_0 rfl rfl ?_
  refine A_istore_n hE 2 dX7_ownerOf_1 rfl rfl rfl ?_
  refine A_iconst hE 3 dX7_ownerOf_2 rfl (0) rfl ?_
  refine A_istore_n hE 4 dX7_ownerOf_3 rfl rfl rfl ?_
  refine A_iload_n hE 5 dX7_ownerOf_4 rfl rfl ?_
  refine A_iconst hE 6 dX7_ownerOf_5 rfl (2) rfl ?_
  refine A_icmp_ge hE 9 33 dX7_ownerOf_6 rfl rfl (fun c6 => absurd c6 (by decide)) (fun c6 => ?_)
  refine A_gsBodies hE 12 dX7_ownerOf_9 rfl flBod ?_
  refine A_iconst hE 13 dX7_ownerOf_12 rfl (4) rfl ?_
  refine A_iload_n hE 14 dX7_ownerOf_13 rfl rfl ?_
  refine A_imul hE 15 dX7_ownerOf_14 rfl ?_
  refine A_iload_n hE 16 dX7_ownerOf_15 rfl rfl ?_
  refine A_iadd hE 17 dX7_ownerOf_16 rfl ?_
  refine A_tabB hE 18 9 dX7_ownerOf_17 rfl (by decide) (by decide) (30) (by decide) ?_
  refine A_if_ne hE 21 33 dX7_ownerOf_18 rfl rfl (fun c18 => ?_) (fun c18 => absurd c18 (by decide))
  refine A_iload_n hE 34 dX7_ownerOf_33 rfl rfl ?_
  refine A_iret hE dX7_ownerOf_34 ⟨rfl, rfl⟩
set_option maxRecDepth 100000 in
theorem c_own_1_3  : AMet yX7_ownerOf cX7_ownerOf 4 (some (.int)) 0 0 0 [.int 1, .int 3] [] (pI fun r h => r = 0 ∧ h = []) := by
  refine AMet.of (by decide +kernel) rfl (fun E ad0 hE => ?_)
  refine A_iload_n hE 1 dX7_ownerOf_0 rfl rfl ?_
  refine A_istore_n hE 2 dX7_ownerOf_1 rfl rfl rfl ?_
  refine A_iconst hE 3 dX7_ownerOf_2 rfl (0) rfl ?_
  refine A_istore_n hE 4 dX7_ownerOf_3 rfl rfl rfl ?_
  refine A_iload_n hE 5 dX7_ownerOf_4 rfl rfl ?_
  refine A_iconst hE 6 dX7_ownerOf_5 rfl (2) rfl ?_
  refine A_icmp_ge hE 9 33 dX7_ownerOf_6 rfl rfl (fun c6 => absurd c6 (by decide)) (fun c6 => ?_)
  refine A_gsBodies hE 12 dX7_ownerOf_9 rfl flBod ?_
  refine A_iconst hE 13 dX7_ownerOf_12 rfl (4) rfl ?_
  refine A_iload_n hE 14 dX7_ownerOf_13 rfl rfl ?_
  refine A_imul hE 15 dX7_ownerOf_14 rfl ?_
  refine A_iload_n hE 16 dX7_ownerOf_15 rfl rfl ?_
  refine A_iadd hE 17 dX7_ownerOf_16 rfl ?_
  refine A_tabB hE 18 13 dX7_ownerOf_17 rfl (by decide) (by decide) (0) (by decide) ?_
  refine A_if_ne hE 21 33 dX7_ownerOf_18 rfl rfl (fun c18 => absurd rfl c18) (fun c18 => ?_)
  refine A_gsAboveN hE 24 dX7_ownerOf_21 rfl ?_
  refine A_iload_n hE 25 dX7_ownerOf_24 rfl rfl ?_
  refine A_tabA hE 26 3 dX7_ownerOf_25 rfl (by decide) (by decide) (0) (by decide) ?_
  refine A_istore_n hE 27 dX7_ownerOf_26 rfl rfl rfl ?_
  refine A_iinc hE 30 dX7_ownerOf_27 rfl rfl (1) rfl rfl rfl ?_
  refine A_goto hE 4 dX7_ownerOf_30 rfl ?_
  refine A_iload_n hE 5 dX7_ownerOf_4 rfl rfl ?_
  refine A_iconst hE 6 dX7_ownerOf_5 rfl (2) rfl ?_
  refine A_icmp_ge hE 9 33 dX7_ownerOf_6 rfl rfl (fun c6 => absurd c6 (by decide)) (fun c6 => ?_)
  refine A_gsBodies hE 12 dX7_ownerOf_9 rfl flBod ?_
  refine A_iconst hE 13 dX7_ownerOf_12 rfl (4) rfl ?_
  refine A_iload_n hE 14 dX7_ownerOf_13 rfl rfl ?_
  refine A_imul hE 15 dX7_ownerOf_14 rfl ?_
  refine A_iload_n hE 16 dX7_ownerOf_15 rfl rfl ?_
  refine A_iadd hE 17 dX7_ownerOf_16 rfl ?_
  refine A_tabB hE 18 1 dX7_ownerOf_17 rfl (by decide) (by decide) (11) (by decide) ?_
  refine A_if_ne hE 21 33 dX7_ownerOf_18 rfl rfl (fun c18 => ?_) (fun c18 => absurd c18 (by decide))
  refine A_iload_n hE 34 dX7_ownerOf_33 rfl rfl ?_
  refine A_iret hE dX7_ownerOf_34 ⟨rfl, rfl⟩
set_option maxRecDepth 100000 in
theorem c_own_1_4  : AMet yX7_ownerOf cX7_ownerOf 4 (some (.int)) 0 0 0 [.int 1, .int 4] [] (pI fun r h => r = 0 ∧ h = []) := by
  refine AMet.of (by decide +kernel) rfl (fun E ad0 hE => ?_)
  refine A_iload_n hE 1 dX7_ownerOf_0 rfl rfl ?_
  refine A_istore_n hE 2 dX7_ownerOf_1 rfl rfl rfl ?_
  refine A_iconst hE 3 dX7_ownerOf_2 rfl (0) rfl ?_
  refine A_istore_n hE 4 dX7_ownerOf_3 rfl rfl rfl ?_
  refine A_iload_n hE 5 dX7_ownerOf_4 rfl rfl ?_
  refine A_iconst hE 6 dX7_ownerOf_5 rfl (2) rfl ?_
  refine A_icmp_ge hE 9 33 dX7_ownerOf_6 rfl rfl (fun c6 => absurd c6 (by decide)) (fun c6 => ?_)
  refine A_gsBodies hE 12 dX7_ownerOf_9 rfl flBod ?_
  refine A_iconst hE 13 dX7_ownerOf_12 rfl (4) rfl ?_
  refine A_iload_n hE 14 dX7_ownerOf_13 rfl rfl ?_
  refine A_imul hE 15 dX7_ownerOf_14 rfl ?_
  refine A_iload_n hE 16 dX7_ownerOf_15 rfl rfl ?_
  refine A_iadd hE 17 dX7_ownerOf_16 rfl ?_
  refine A_tabB hE 18 17 dX7_ownerOf_17 rfl (by decide) (by decide) (0) (by decide) ?_
  refine A_if_ne hE 21 33 dX7_ownerOf_18 rfl rfl (fun c18 => absurd rfl c18) (fun c18 => ?_)
  refine A_gsAboveN hE 24 dX7_ownerOf_21 rfl ?_
  refine A_iload_n hE 25 dX7_ownerOf_24 rfl rfl ?_
  refine A_tabA hE 26 4 dX7_ownerOf_25 rfl (by decide) (by decide) (1) (by decide) ?_
  refine A_istore_n hE 27 dX7_ownerOf_26 rfl rfl rfl ?_
  refine A_iinc hE 30 dX7_ownerOf_27 rfl rfl (1) rfl rfl rfl ?_
  refine A_goto hE 4 dX7_ownerOf_30 rfl ?_
  refine A_iload_n hE 5 dX7_ownerOf_4 rfl rfl ?_
  refine A_iconst hE 6 dX7_ownerOf_5 rfl (2) rfl ?_
  refine A_icmp_ge hE 9 33 dX7_ownerOf_6 rfl rfl (fun c6 => absurd c6 (by decide)) (fun c6 => ?_)
  refine A_gsBodies hE 12 dX7_ownerOf_9 rfl flBod ?_
  refine A_iconst hE 13 dX7_ownerOf_12 rfl (4) rfl ?_
  refine A_iload_n hE 14 dX7_ownerOf_13 rfl rfl ?_
  refine A_imul hE 15 dX7_ownerOf_14 rfl ?_
  refine A_iload_n hE 16 dX7_ownerOf_15 rfl rfl ?_
  refine A_iadd hE 17 dX7_ownerOf_16 rfl ?_
  refine A_tabB hE 18 5 dX7_ownerOf_17 rfl (by decide) (by decide) (0) (by decide) ?_
  refine A_if_ne hE 21 33 dX7_ownerOf_18 rfl rfl (fun c18 => absurd rfl c18) (fun c18 => ?_)
  refine A_gsAboveN hE 24 dX7_ownerOf_21 rfl ?_
  refine A_iload_n hE 25 dX7_ownerOf_24 rfl rfl ?_
  refine A_tabA hE 26 1 dX7_ownerOf_25 rfl (by decide) (by decide) (0) (by decide) ?_
  refine A_istore_n hE 27 dX7_ownerOf_26 rfl rfl rfl ?_
  refine A_iinc hE 30 dX7_ownerOf_27 rfl rfl (1) rfl rfl rfl ?_
  refine A_goto hE 4 dX7_ownerOf_30 rfl ?_
  refine A_iload_n hE 5 dX7_ownerOf_4 rfl rfl ?_
  refine A_iconst hE 6 dX7_ownerOf_5 rfl (2) rfl ?_
  refine A_icmp_ge hE 9 33 dX7_ownerOf_6 rfl rfl (fun c6 => ?_) (fun c6 => absurd (by decide) c6)
  refine A_iload_n hE 34 dX7_ownerOf_33 rfl rfl ?_
  refine A_iret hE dX7_ownerOf_34 ⟨rfl, rfl⟩
set_option maxRecDepth 100000 in
theorem c_own_1_5  : AMet yX7_ownerOf cX7_ownerOf 4 (some (.int)) 0 0 0 [.int 1, .int 5] [] (pI fun r h => r = 5 ∧ h = []) := by
  refine AMet.of (by decide +kernel) rfl (fun E ad0 hE => ?_)
  refine A_iload_n hE 1 dX7_ownerOf_0 rfl rfl ?_
  refine A_istore_n hE 2 dX7_ownerOf_1 rfl rfl rfl ?_
  refine A_iconst hE 3 dX7_ownerOf_2 rfl (0) rfl ?_
  refine A_istore_n hE 4 dX7_ownerOf_3 rfl rfl rfl ?_
  refine A_iload_n hE 5 dX7_ownerOf_4 rfl rfl ?_
  refine A_iconst hE 6 dX7_ownerOf_5 rfl (2) rfl ?_
  refine A_icmp_ge hE 9 33 dX7_ownerOf_6 rfl rfl (fun c6 => absurd c6 (by decide)) (fun c6 => ?_)
  refine A_gsBodies hE 12 dX7_ownerOf_9 rfl flBod ?_
  refine A_iconst hE 13 dX7_ownerOf_12 rfl (4) rfl ?_
  refine A_iload_n hE 14 dX7_ownerOf_13 rfl rfl ?_
  refine A_imul hE 15 dX7_ownerOf_14 rfl ?_
  refine A_iload_n hE 16 dX7_ownerOf_15 rfl rfl ?_
  refine A_iadd hE 17 dX7_ownerOf_16 rfl ?_
  refine A_tabB hE 18 21 dX7_ownerOf_17 rfl (by decide) (by decide) (60) (by decide) ?_
  refine A_if_ne hE 21 33 dX7_ownerOf_18 rfl rfl (fun c18 => ?_) (fun c18 => absurd c18 (by decide))
  refine A_iload_n hE 34 dX7_ownerOf_33 rfl rfl ?_
  refine A_iret hE dX7_ownerOf_34 ⟨rfl, rfl⟩
set_option maxRecDepth 100000 in
theorem c_own_1_6  : AMet yX7_ownerOf cX7_ownerOf 4 (some (.int)) 0 0 0 [.int 1, .int 6] [] (pI fun r h => r = 6 ∧ h = []) := by
  refine AMet.of (by decide +kernel) rfl (fun E ad0 hE => ?_)
  refine A_iload_n hE 1 dX7_ownerOf_0 rfl rfl ?_
  refine A_istore_n hE 2 dX7_ownerOf_1 rfl rfl rfl ?_
  refine A_iconst hE 3 dX7_ownerOf_2 rfl (0) rfl ?_
  refine A_istore_n hE 4 dX7_ownerOf_3 rfl rfl rfl ?_
  refine A_iload_n hE 5 dX7_ownerOf_4 rfl rfl ?_
  refine A_iconst hE 6 dX7_ownerOf_5 rfl (2) rfl ?_
  refine A_icmp_ge hE 9 33 dX7_ownerOf_6 rfl rfl (fun c6 => absurd c6 (by decide)) (fun c6 => ?_)
  refine A_gsBodies hE 12 dX7_ownerOf_9 rfl flBod ?_
  refine A_iconst hE 13 dX7_ownerOf_12 rfl (4) rfl ?_
  refine A_iload_n hE 14 dX7_ownerOf_13 rfl rfl ?_
  refine A_imul hE 15 dX7_ownerOf_14 rfl ?_
  refine A_iload_n hE 16 dX7_ownerOf_15 rfl rfl ?_
  refine A_iadd hE 17 dX7_ownerOf_16 rfl ?_
  refine A_tabB hE 18 25 dX7_ownerOf_17 rfl (by decide) (by decide) (71) (by decide) ?_
  refine A_if_ne hE 21 33 dX7_ownerOf_18 rfl rfl (fun c18 => ?_) (fun c18 => absurd c18 (by decide))
  refine A_iload_n hE 34 dX7_ownerOf_33 rfl rfl ?_
  refine A_iret hE dX7_ownerOf_34 ⟨rfl, rfl⟩
set_option maxRecDepth 100000 in
theorem c_own_2_0  : AMet yX7_ownerOf cX7_ownerOf 4 (some (.int)) 0 0 0 [.int 2, .int 0] [] (pI fun r h => r = 0 ∧ h = []) := by
  refine AMet.of (by decide +kernel) rfl (fun E ad0 hE => ?_)
  refine A_iload_n hE 1 dX7_ownerOf_0 rfl rfl ?_
  refine A_istore_n hE 2 dX7_ownerOf_1 rfl rfl rfl ?_
  refine A_iconst hE 3 dX7_ownerOf_2 rfl (0) rfl ?_
  refine A_istore_n hE 4 dX7_ownerOf_3 rfl rfl rfl ?_
  refine A_iload_n hE 5 dX7_ownerOf_4 rfl rfl ?_
  refine A_iconst hE 6 dX7_ownerOf_5 rfl (2) rfl ?_
  refine A_icmp_ge hE 9 33 dX7_ownerOf_6 rfl rfl (fun c6 => absurd c6 (by decide)) (fun c6 => ?_)
  refine A_gsBodies hE 12 dX7_ownerOf_9 rfl flBod ?_
  refine A_iconst hE 13 dX7_ownerOf_12 rfl (4) rfl ?_
  refine A_iload_n hE 14 dX7_ownerOf_13 rfl rfl ?_
  refine A_imul hE 15 dX7_ownerOf_14 rfl ?_
  refine A_iload_n hE 16 dX7_ownerOf_15 rfl rfl ?_
  refine A_iadd hE 17 dX7_ownerOf_16 rfl ?_
  refine A_tabB hE 18 2 dX7_ownerOf_17 rfl (by decide) (by decide) (12) (by decide) ?_
  refine A_if_ne hE 21 33 dX7_ownerOf_18 rfl rfl (fun c18 => ?_) (fun c18 => absurd c18 (by decide))
  refine A_iload_n hE 34 dX7_ownerOf_33 rfl rfl ?_
  refine A_iret hE dX7_ownerOf_34 ⟨rfl, rfl⟩
set_option maxRecDepth 100000 in
theorem c_own_2_1  : AMet yX7_ownerOf cX7_ownerOf 4 (some (.int)) 0 0 0 [.int 2, .int 1] [] (pI fun r h => r = 0 ∧ h = []) := by
  refine AMet.of (by decide +kernel) rfl (fun E ad0 hE => ?_)
  refine A_iload_n hE 1 dX7_ownerOf_0 rfl rfl ?_
  refine A_istore_n hE 2 dX7_ownerOf_1 rfl rfl rfl ?_
  refine A_iconst hE 3 dX7_ownerOf_2 rfl (0) rfl ?_
  refine A_istore_n hE 4 dX7_ownerOf_3 rfl rfl rfl ?_
  refine A_iload_n hE 5 dX7_ownerOf_4 rfl rfl ?_
  refine A_iconst hE 6 dX7_ownerOf_5 rfl (2) rfl ?_
  refine A_icmp_ge hE 9 33 dX7_ownerOf_6 rfl rfl (fun c6 => absurd c6 (by decide)) (fun c6 => ?_)
  refine A_gsBodies hE 12 dX7_ownerOf_9 rfl flBod ?_
  refine A_iconst hE 13 dX7_ownerOf_12 rfl (4) rfl ?_
  refine A_iload_n hE 14 dX7_ownerOf_13 rfl rfl ?_
  refine A_imul hE 15 dX7_ownerOf_14 rfl ?_
  refine A_iload_n hE 16 dX7_ownerOf_15 rfl rfl ?_
  refine A_iadd hE 17 dX7_ownerOf_16 rfl ?_
  refine A_tabB hE 18 6 dX7_ownerOf_17 rfl (by decide) (by decide) (0) (by decide) ?_
  refine A_if_ne hE 21 33 dX7_ownerOf_18 rfl rfl (fun c18 => absurd rfl c18) (fun c18 => ?_)
  refine A_gsAboveN hE 24 dX7_ownerOf_21 rfl ?_
  refine A_iload_n hE 25 dX7_ownerOf_24 rfl rfl ?_
  refine A_tabA hE 26 1 dX7_ownerOf_25 rfl (by decide) (by decide) (0) (by decide) ?_
  refine A_istore_n hE 27 dX7_ownerOf_26 rfl rfl rfl ?_
  refine A_iinc hE 30 dX7_ownerOf_27 rfl rfl (1) rfl rfl rfl ?_
  refine A_goto hE 4 dX7_ownerOf_30 rfl ?_
  refine A_iload_n hE 5 dX7_ownerOf_4 rfl rfl ?_
  refine A_iconst hE 6 dX7_ownerOf_5 rfl (2) rfl ?_
  refine A_icmp_ge hE 9 33 dX7_ownerOf_6 rfl rfl (fun c6 => absurd c6 (by decide)) (fun c6 => ?_)
  refine A_gsBodies hE 12 dX7_ownerOf_9 rfl flBod ?_
  refine A_iconst hE 13 dX7_ownerOf_12 rfl (4) rfl ?_
  refine A_iload_n hE 14 dX7_ownerOf_13 rfl rfl ?_
  refine A_imul hE 15 dX7_ownerOf_14 rfl ?_
  refine A_iload_n hE 16 dX7_ownerOf_15 rfl rfl ?_
  refine A_iadd hE 17 dX7_ownerOf_16 rfl ?_
  refine A_tabB hE 18 2 dX7_ownerOf_17 rfl (by decide) (by decide) (12) (by decide) ?_
  refine A_if_ne hE 21 33 dX7_ownerOf_18 rfl rfl (fun c18 => ?_) (fun c18 => absurd c18 (by decide))
  refine A_iload_n hE 34 dX7_ownerOf_33 rfl rfl ?_
  refine A_iret hE dX7_ownerOf_34 ⟨rfl, rfl⟩
set_option maxRecDepth 100000 in
theorem c_own_2_2  : AMet yX7_ownerOf cX7_ownerOf 4 (some (.int)) 0 0 0 [.int 2, .int 2] [] (pI fun r h => r = 0 ∧ h = []) := by
  refine AMet.of (by decide +kernel) rfl (fun E ad0 hE => ?_)
  refine A_iload_n hE 1 dX7_ownerOf_0 rfl rfl ?_
  refine A_istore_n hE 2 dX7_ownerOf_1 rfl rfl rfl ?_
  refine A_iconst hE 3 dX7_ownerOf_2 rfl (0) rfl ?_
  refine A_istore_n hE 4 dX7_ownerOf_3 rfl rfl rfl ?_
  refine A_iload_n hE 5 dX7_ownerOf_4 rfl rfl ?_
  refine A_iconst hE 6 dX7_ownerOf_5 rfl (2) rfl ?_
  refine A_icmp_ge hE 9 33 dX7_ownerOf_6 rfl rfl (fun c6 => absurd c6 (by decide)) (fun c6 => ?_)
  refine A_gsBodies hE 12 dX7_ownerOf_9 rfl flBod ?_
  refine A_iconst hE 13 dX7_ownerOf_12 rfl (4) rfl ?_
  refine A_iload_n hE 14 dX7_ownerOf_13 rfl rfl ?_
  refine A_imul hE 15 dX7_ownerOf_14 rfl ?_
  refine A_iload_n hE 16 dX7_ownerOf_15 rfl rfl ?_
  refine A_iadd hE 17 dX7_ownerOf_16 rfl ?_
  refine A_tabB hE 18 10 dX7_ownerOf_17 rfl (by decide) (by decide) (0) (by decide) ?_
  refine A_if_ne hE 21 33 dX7_ownerOf_18 rfl rfl (fun c18 => absurd rfl c18) (fun c18 => ?_)
  refine A_gsAboveN hE 24 dX7_ownerOf_21 rfl ?_
  refine A_iload_n hE 25 dX7_ownerOf_24 rfl rfl ?_
  refine A_tabA hE 26 2 dX7_ownerOf_25 rfl (by decide) (by decide) (0) (by decide) ?_
  refine A_istore_n hE 27 dX7_ownerOf_26 rfl rfl rfl ?_
  refine A_iinc hE 30 dX7_ownerOf_27 rfl rfl (1) rfl rfl rfl ?_
  refine A_goto hE 4 dX7_ownerOf_30 rfl ?_
  refine A_iload_n hE 5 dX7_ownerOf_4 rfl rfl ?_
  refine A_iconst hE 6 dX7_ownerOf_5 rfl (2) rfl ?_
  refine A_icmp_ge hE 9 33 dX7_ownerOf_6 rfl rfl (fun c6 => absurd c6 (by decide)) (fun c6 => ?_)
  refine A_gsBodies hE 12 dX7_ownerOf_9 rfl flBod ?_
  refine A_iconst hE 13 dX7_ownerOf_12 rfl (4) rfl ?_
  refine A_iload_n hE 14 dX7_ownerOf_13 rfl rfl ?_
  refine A_imul hE 15 dX7_ownerOf_14 rfl ?_
  refine A_iload_n hE 16 dX7_ownerOf_15 rfl rfl ?_
  refine A_iadd hE 17 dX7_ownerOf_16 rfl ?_
  refine A_tabB hE 18 2 dX7_ownerOf_17 rfl (by decide) (by decide) (12) (by decide) ?_
  refine A_if_ne hE 21 33 dX7_ownerOf_18 rfl rfl (fun c18 => ?_) (fun c18 => absurd c18 (by decide))
  refine A_iload_n hE 34 dX7_ownerOf_33 rfl rfl ?_
  refine A_iret hE dX7_ownerOf_34 ⟨rfl, rfl⟩
set_option maxRecDepth 100000 in
theorem c_own_2_3  : AMet yX7_ownerOf cX7_ownerOf 4 (some (.int)) 0 0 0 [.int 2, .int 3] [] (pI fun r h => r = 3 ∧ h = []) := by
  refine AMet.of (by decide +kernel) rfl (fun E ad0 hE => ?_)
  refine A_iload_n hE 1 dX7_ownerOf_0 rfl rfl ?_
  refine A_istore_n hE 2 dX7_ownerOf_1 rfl rfl rfl ?_
  refine A_iconst hE 3 dX7_ownerOf_2 rfl (0) rfl ?_
  refine A_istore_n hE 4 dX7_ownerOf_3 rfl rfl rfl ?_
  refine A_iload_n hE 5 dX7_ownerOf_4 rfl rfl ?_
  refine A_iconst hE 6 dX7_ownerOf_5 rfl (2) rfl ?_
  refine A_icmp_ge hE 9 33 dX7_ownerOf_6 rfl rfl (fun c6 => absurd c6 (by decide)) (fun c6 => ?_)
  refine A_gsBodies hE 12 dX7_ownerOf_9 rfl flBod ?_
  refine A_iconst hE 13 dX7_ownerOf_12 rfl (4) rfl ?_
  refine A_iload_n hE 14 dX7_ownerOf_13 rfl rfl ?_
  refine A_imul hE 15 dX7_ownerOf_14 rfl ?_
  refine A_iload_n hE 16 dX7_ownerOf_15 rfl rfl ?_
  refine A_iadd hE 17 dX7_ownerOf_16 rfl ?_
  refine A_tabB hE 18 14 dX7_ownerOf_17 rfl (by decide) (by decide) (40) (by decide) ?_
  refine A_if_ne hE 21 33 dX7_ownerOf_18 rfl rfl (fun c18 => ?_) (fun c18 => absurd c18 (by decide))
  refine A_iload_n hE 34 dX7_ownerOf_33 rfl rfl ?_
  refine A_iret hE dX7_ownerOf_34 ⟨rfl, rfl⟩
set_option maxRecDepth 100000 in
theorem c_own_2_4  : AMet yX7_ownerOf cX7_ownerOf 4 (some (.int)) 0 0 0 [.int 2, .int 4] [] (pI fun r h => r = 4 ∧ h = []) := by
  refine AMet.of (by decide +kernel) rfl (fun E ad0 hE => ?_)
  refine A_iload_n hE 1 dX7_ownerOf_0 rfl rfl ?_
  refine A_istore_n hE 2 dX7_ownerOf_1 rfl rfl rfl ?_
  refine A_iconst hE 3 dX7_ownerOf_2 rfl (0) rfl ?_
  refine A_istore_n hE 4 dX7_ownerOf_3 rfl rfl rfl ?_
  refine A_iload_n hE 5 dX7_ownerOf_4 rfl rfl ?_
  refine A_iconst hE 6 dX7_ownerOf_5 rfl (2) rfl ?_
  refine A_icmp_ge hE 9 33 dX7_ownerOf_6 rfl rfl (fun c6 => absurd c6 (by decide)) (fun c6 => ?_)
  refine A_gsBodies hE 12 dX7_ownerOf_9 rfl flBod ?_
  refine A_iconst hE 13 dX7_ownerOf_12 rfl (4) rfl ?_
  refine A_iload_n hE 14 dX7_ownerOf_13 rfl rfl ?_
  refine A_imul hE 15 dX7_ownerOf_14 rfl ?_
  refine A_iload_n hE 16 dX7_ownerOf_15 rfl rfl ?_
  refine A_iadd hE 17 dX7_ownerOf_16 rfl ?_
  refine A_tabB hE 18 18 dX7_ownerOf_17 rfl (by decide) (by decide) (51) (by decide) ?_
  refine A_if_ne hE 21 33 dX7_ownerOf_18 rfl rfl (fun c18 => ?_) (fun c18 => absurd c18 (by decide))
  refine A_iload_n hE 34 dX7_ownerOf_33 rfl rfl ?_
  refine A_iret hE dX7_ownerOf_34 ⟨rfl, rfl⟩
set_option maxRecDepth 100000 in
theorem c_own_2_5  : AMet yX7_ownerOf cX7_ownerOf 4 (some (.int)) 0 0 0 [.int 2, .int 5] [] (pI fun r h => r = 0 ∧ h = []) := by
  refine AMet.of (by decide +kernel) rfl (fun E ad0 hE => ?_)
  refine A_iload_n hE 1 dX7_ownerOf_0 rfl rfl ?_
  refine A_istore_n hE 2 dX7_ownerOf_1 rfl rfl rfl ?_
  refine A_iconst hE 3 dX7_ownerOf_2 rfl (0) rfl ?_
  refine A_istore_n hE 4 dX7_ownerOf_3 rfl rfl rfl ?_
  refine A_iload_n hE 5 dX7_ownerOf_4 rfl rfl ?_
  refine A_iconst hE 6 dX7_ownerOf_5 rfl (2) rfl ?_
  refine A_icmp_ge hE 9 33 dX7_ownerOf_6 rfl rfl (fun c6 => absurd c6 (by decide)) (fun c6 => ?_)
  refine A_gsBodies hE 12 dX7_ownerOf_9 rfl flBod ?_
  refine A_iconst hE 13 dX7_ownerOf_12 rfl (4) rfl ?_
  refine A_iload_n hE 14 dX7_ownerOf_13 rfl rfl ?_
  refine A_imul hE 15 dX7_ownerOf_14 rfl ?_
  refine A_iload_n hE 16 dX7_ownerOf_15 rfl rfl ?_
  refine A_iadd hE 17 dX7_ownerOf_16 rfl ?_
  refine A_tabB hE 18 22 dX7_ownerOf_17 rfl (by decide) (by decide) (0) (by decide) ?_
  refine A_if_ne hE 21 33 dX7_ownerOf_18 rfl rfl (fun c18 => absurd rfl c18) (fun c18 => ?_)
  refine A_gsAboveN hE 24 dX7_ownerOf_21 rfl ?_
  refine A_iload_n hE 25 dX7_ownerOf_24 rfl rfl ?_
  refine A_tabA hE 26 5 dX7_ownerOf_25 rfl (by decide) (by decide) (2) (by decide) ?_
  refine A_istore_n hE 27 dX7_ownerOf_26 rfl rfl rfl ?_
  refine A_iinc hE 30 dX7_ownerOf_27 rfl rfl (1) rfl rfl rfl ?_
  refine A_goto hE 4 dX7_ownerOf_30 rfl ?_
  refine A_iload_n hE 5 dX7_ownerOf_4 rfl rfl ?_
  refine A_iconst hE 6 dX7_ownerOf_5 rfl (2) rfl ?_
  refine A_icmp_ge hE 9 33 dX7_ownerOf_6 rfl rfl (fun c6 => absurd c6 (by decide)) (fun c6 => ?_)
  refine A_gsBodies hE 12 dX7_ownerOf_9 rfl flBod ?_
  refine A_iconst hE 13 dX7_ownerOf_12 rfl (4) rfl ?_
  refine A_iload_n hE 14 dX7_ownerOf_13 rfl rfl ?_
  refine A_imul hE 15 dX7_ownerOf_14 rfl ?_
  refine A_iload_n hE 16 dX7_ownerOf_15 rfl rfl ?_
  refine A_iadd hE 17 dX7_ownerOf_16 rfl ?_
  refine A_tabB hE 18 10 dX7_ownerOf_17 rfl (by decide) (by decide) (0) (by decide) ?_
  refine A_if_ne hE 21 33 dX7_ownerOf_18 rfl rfl (fun c18 => absurd rfl c18) (fun c18 => ?_)
  refine A_gsAboveN hE 24 dX7_ownerOf_21 rfl ?_
  refine A_iload_n hE 25 dX7_ownerOf_24 rfl rfl ?_
  refine A_tabA hE 26 2 dX7_ownerOf_25 rfl (by decide) (by decide) (0) (by decide) ?_
  refine A_istore_n hE 27 dX7_ownerOf_26 rfl rfl rfl ?_
  refine A_iinc hE 30 dX7_ownerOf_27 rfl rfl (1) rfl rfl rfl ?_
  refine A_goto hE 4 dX7_ownerOf_30 rfl ?_
  refine A_iload_n hE 5 dX7_ownerOf_4 rfl rfl ?_
  refine A_iconst hE 6 dX7_ownerOf_5 rfl (2) rfl ?_
  refine A_icmp_ge hE 9 33 dX7_ownerOf_6 rfl rfl (fun c6 => ?_) (fun c6 => absurd (by decide) c6)
  refine A_iload_n hE 34 dX7_ownerOf_33 rfl rfl ?_
  refine A_iret hE dX7_ownerOf_34 ⟨rfl, rfl⟩
set_option maxRecDepth 100000 in
theorem c_own_2_6  : AMet yX7_ownerOf cX7_ownerOf 4 (some (.int)) 0 0 0 [.int 2, .int 6] [] (pI fun r h => r = 0 ∧ h = []) := by
  refine AMet.of (by decide +kernel) rfl (fun E ad0 hE => ?_)
  refine A_iload_n hE 1 dX7_ownerOf_0 rfl rfl ?_
  refine A_istore_n hE 2 dX7_ownerOf_1 rfl rfl rfl ?_
  refine A_iconst hE 3 dX7_ownerOf_2 rfl (0) rfl ?_
  refine A_istore_n hE 4 dX7_ownerOf_3 rfl rfl rfl ?_
  refine A_iload_n hE 5 dX7_ownerOf_4 rfl rfl ?_
  refine A_iconst hE 6 dX7_ownerOf_5 rfl (2) rfl ?_
  refine A_icmp_ge hE 9 33 dX7_ownerOf_6 rfl rfl (fun c6 => absurd c6 (by decide)) (fun c6 => ?_)
  refine A_gsBodies hE 12 dX7_ownerOf_9 rfl flBod ?_
  refine A_iconst hE 13 dX7_ownerOf_12 rfl (4) rfl ?_
  refine A_iload_n hE 14 dX7_ownerOf_13 rfl rfl ?_
  refine A_imul hE 15 dX7_ownerOf_14 rfl ?_
  refine A_iload_n hE 16 dX7_ownerOf_15 rfl rfl ?_
  refine A_iadd hE 17 dX7_ownerOf_16 rfl ?_
  refine A_tabB hE 18 26 dX7_ownerOf_17 rfl (by decide) (by decide) (0) (by decide) ?_
  refine A_if_ne hE 21 33 dX7_ownerOf_18 rfl rfl (fun c18 => absurd rfl c18) (fun c18 => ?_)
  refine A_gsAboveN hE 24 dX7_ownerOf_21 rfl ?_
  refine A_iload_n hE 25 dX7_ownerOf_24 rfl rfl ?_
  refine A_tabA hE 26 6 dX7_ownerOf_25 rfl (by decide) (by decide) (0) (by decide) ?_
  refine A_istore_n hE 27 dX7_ownerOf_26 rfl rfl rfl ?_
  refine A_iinc hE 30 dX7_ownerOf_27 rfl rfl (1) rfl rfl rfl ?_
  refine A_goto hE 4 dX7_ownerOf_30 rfl ?_
  refine A_iload_n hE 5 dX7_ownerOf_4 rfl rfl ?_
  refine A_iconst hE 6 dX7_ownerOf_5 rfl (2) rfl ?_
  refine A_icmp_ge hE 9 33 dX7_ownerOf_6 rfl rfl (fun c6 => absurd c6 (by decide)) (fun c6 => ?_)
  refine A_gsBodies hE 12 dX7_ownerOf_9 rfl flBod ?_
  refine A_iconst hE 13 dX7_ownerOf_12 rfl (4) rfl ?_
  refine A_iload_n hE 14 dX7_ownerOf_13 rfl rfl ?_
  refine A_imul hE 15 dX7_ownerOf_14 rfl ?_
  refine A_iload_n hE 16 dX7_ownerOf_15 rfl rfl ?_
  refine A_iadd hE 17 dX7_ownerOf_16 rfl ?_
  refine A_tabB hE 18 2 dX7_ownerOf_17 rfl (by decide) (by decide) (12) (by decide) ?_
  refine A_if_ne hE 21 33 dX7_ownerOf_18 rfl rfl (fun c18 => ?_) (fun c18 => absurd c18 (by decide))
  refine A_iload_n hE 34 dX7_ownerOf_33 rfl rfl ?_
  refine A_iret hE dX7_ownerOf_34 ⟨rfl, rfl⟩
set_option maxRecDepth 100000 in
theorem c_own_3_0  : AMet yX7_ownerOf cX7_ownerOf 4 (some (.int)) 0 0 0 [.int 3, .int 0] [] (pI fun r h => r = 0 ∧ h = []) := by
  refine AMet.of (by decide +kernel) rfl (fun E ad0 hE => ?_)
  refine A_iload_n hE 1 dX7_ownerOf_0 rfl rfl ?_
  refine A_istore_n hE 2 dX7_ownerOf_1 rfl rfl rfl ?_
  refine A_iconst hE 3 dX7_ownerOf_2 rfl (0) rfl ?_
  refine A_istore_n hE 4 dX7_ownerOf_3 rfl rfl rfl ?_
  refine A_iload_n hE 5 dX7_ownerOf_4 rfl rfl ?_
  refine A_iconst hE 6 dX7_ownerOf_5 rfl (2) rfl ?_
  refine A_icmp_ge hE 9 33 dX7_ownerOf_6 rfl rfl (fun c6 => absurd c6 (by decide)) (fun c6 => ?_)
  refine A_gsBodies hE 12 dX7_ownerOf_9 rfl flBod ?_
  refine A_iconst hE 13 dX7_ownerOf_12 rfl (4) rfl ?_
  refine A_iload_n hE 14 dX7_ownerOf_13 rfl rfl ?_
  refine A_imul hE 15 dX7_ownerOf_14 rfl ?_
  refine A_iload_n hE 16 dX7_ownerOf_15 rfl rfl ?_
  refine A_iadd hE 17 dX7_ownerOf_16 rfl ?_
  refine A_tabB hE 18 3 dX7_ownerOf_17 rfl (by decide) (by decide) (13) (by decide) ?_
  refine A_if_ne hE 21 33 dX7_ownerOf_18 rfl rfl (fun c18 => ?_) (fun c18 => absurd c18 (by decide))
  refine A_iload_n hE 34 dX7_ownerOf_33 rfl rfl ?_
  refine A_iret hE dX7_ownerOf_34 ⟨rfl, rfl⟩
set_option maxRecDepth 100000 in
theorem c_own_3_1  : AMet yX7_ownerOf cX7_ownerOf 4 (some (.int)) 0 0 0 [.int 3, .int 1] [] (pI fun r h => r = 1 ∧ h = []) := by
  refine AMet.of (by decide +kernel) rfl (fun E ad0 hE => ?_)
  refine A_iload_n hE 1 dX7_ownerOf_0 rfl rfl ?_
  refine A_istore_n hE 2 dX7_ownerOf_1 rfl rfl rfl ?_
  refine A_iconst hE 3 dX7_ownerOf_2 rfl (0) rfl ?_
  refine A_istore_n hE 4 dX7_ownerOf_3 rfl rfl rfl ?_
  refine A_iload_n hE 5 dX7_ownerOf_4 rfl rfl ?_
  refine A_iconst hE 6 dX7_ownerOf_5 rfl (2) rfl ?_
  refine A_icmp_ge hE 9 33 dX7_ownerOf_6 rfl rfl (fun c6 => absurd c6 (by decide)) (fun c6 => ?_)
  refine A_gsBodies hE 12 dX7_ownerOf_9 rfl flBod ?_
  refine A_iconst hE 13 dX7_ownerOf_12 rfl (4) rfl ?_
  refine A_iload_n hE 14 dX7_ownerOf_13 rfl rfl ?_
  refine A_imul hE 15 dX7_ownerOf_14 rfl ?_
  refine A_iload_n hE 16 dX7_ownerOf_15 rfl rfl ?_
  refine A_iadd hE 17 dX7_ownerOf_16 rfl ?_
  refine A_tabB hE 18 7 dX7_ownerOf_17 rfl (by decide) (by decide) (21) (by decide) ?_
  refine A_if_ne hE 21 33 dX7_ownerOf_18 rfl rfl (fun c18 => ?_) (fun c18 => absurd c18 (by decide))
  refine A_iload_n hE 34 dX7_ownerOf_33 rfl rfl ?_
  refine A_iret hE dX7_ownerOf_34 ⟨rfl, rfl⟩
set_option maxRecDepth 100000 in
theorem c_own_3_2  : AMet yX7_ownerOf cX7_ownerOf 4 (some (.int)) 0 0 0 [.int 3, .int 2] [] (pI fun r h => r = 0 ∧ h = []) := by
  refine AMet.of (by decide +kernel) rfl (fun E ad0 hE => ?_)
  refine A_iload_n hE 1 dX7_ownerOf_0 rfl rfl ?_
  refine A_istore_n hE 2 dX7_ownerOf_1 rfl rfl rfl ?_
  refine A_iconst hE 3 dX7_ownerOf_2 rfl (0) rfl ?_
  refine A_istore_n hE 4 dX7_ownerOf_3 rfl rfl rfl ?_
  refine A_iload_n hE 5 dX7_ownerOf_4 rfl rfl ?_
  refine A_iconst hE 6 dX7_ownerOf_5 rfl (2) rfl ?_
  refine A_icmp_ge hE 9 33 dX7_ownerOf_6 rfl rfl (fun c6 => absurd c6 (by decide)) (fun c6 => ?_)
  refine A_gsBodies hE 12 dX7_ownerOf_9 rfl flBod ?_
  refine A_iconst hE 13 dX7_ownerOf_12 rfl (4) rfl ?_
  refine A_iload_n hE 14 dX7_ownerOf_13 rfl rfl ?_
  refine A_imul hE 15 dX7_ownerOf_14 rfl ?_
  refine A_iload_n hE 16 dX7_ownerOf_15 rfl rfl ?_
  refine A_iadd hE 17 dX7_ownerOf_16 rfl ?_
  refine A_tabB hE 18 11 dX7_ownerOf_17 rfl (by decide) (by decide) (0) (by decide) ?_
  refine A_if_ne hE 21 33 dX7_ownerOf_18 rfl rfl (fun c18 => absurd rfl c18) (fun c18 => ?_)
  refine A_gsAboveN hE 24 dX7_ownerOf_21 rfl ?_
  refine A_iload_n hE 25 dX7_ownerOf_24 rfl rfl ?_
  refine A_tabA hE 26 2 dX7_ownerOf_25 rfl (by decide) (by decide) (0) (by decide) ?_
  refine A_istore_n hE 27 dX7_ownerOf_26 rfl rfl rfl ?_
  refine A_iinc hE 30 dX7_ownerOf_27 rfl rfl (1) rfl rfl rfl ?_
  refine A_goto hE 4 dX7_ownerOf_30 rfl ?_
  refine A_iload_n hE 5 dX7_ownerOf_4 rfl rfl ?_
  refine A_iconst hE 6 dX7_ownerOf_5 rfl (2) rfl ?_
  refine A_icmp_ge hE 9 33 dX7_ownerOf_6 rfl rfl (fun c6 => absurd c6 (by decide)) (fun c6 => ?_)
  refine A_gsBodies hE 12 dX7_ownerOf_9 rfl flBod ?_
  refine A_iconst hE 13 dX7_ownerOf_12 rfl (4) rfl ?_
  refine A_iload_n hE 14 dX7_ownerOf_13 rfl rfl ?_
  refine A_imul hE 15 dX7_ownerOf_14 rfl ?_
  refine A_iload_n hE 16 dX7_ownerOf_15 rfl rfl ?_
  refine A_iadd hE 17 dX7_ownerOf_16 rfl ?_
  refine A_tabB hE 18 3 dX7_ownerOf_17 rfl (by decide) (by decide) (13) (by decide) ?_
  refine A_if_ne hE 21 33 dX7_ownerOf_18 rfl rfl (fun c18 => ?_) (fun c18 => absurd c18 (by decide))
  refine A_iload_n hE 34 dX7_ownerOf_33 rfl rfl ?_
  refine A_iret hE dX7_ownerOf_34 ⟨rfl, rfl⟩
set_option maxRecDepth 100000 in
theorem c_own_3_3  : AMet yX7_ownerOf cX7_ownerOf 4 (some (.int)) 0 0 0 [.int 3, .int 3] [] (pI fun r h => r = 0 ∧ h = []) := by
  refine AMet.of (by decide +kernel) rfl (fun E ad0 hE => ?_)
  refine A_iload_n hE 1 dX7_ownerOf_0 rfl rfl ?_
  refine A_istore_n hE 2 dX7_ownerOf_1 rfl rfl rfl ?_
  refine A_iconst hE 3 dX7_ownerOf_2 rfl (0) rfl ?_
  refine A_istore_n hE 4 dX7_ownerOf_3 rfl rfl rfl ?_
  refine A_iload_n hE 5 dX7_ownerOf_4 rfl rfl ?_
  refine A_iconst hE 6 dX7_ownerOf_5 rfl (2) rfl ?_
  refine A_icmp_ge hE 9 33 dX7_ownerOf_6 rfl rfl (fun c6 => absurd c6 (by decide)) (fun c6 => ?_)
  refine A_gsBodies hE 12 dX7_ownerOf_9 rfl flBod ?_
  refine A_iconst hE 13 dX7_ownerOf_12 rfl (4) rfl ?_
  refine A_iload_n hE 14 dX7_ownerOf_13 rfl rfl ?_
  refine A_imul hE 15 dX7_ownerOf_14 rfl ?_
  refine A_iload_n hE 16 dX7_ownerOf_15 rfl rfl ?_
  refine A_iadd hE 17 dX7_ownerOf_16 rfl ?_
  refine A_tabB hE 18 15 dX7_ownerOf_17 rfl (by decide) (by decide) (0) (by decide) ?_
  refine A_if_ne hE 21 33 dX7_ownerOf_18 rfl rfl (fun c18 => absurd rfl c18) (fun c18 => ?_)
  refine A_gsAboveN hE 24 dX7_ownerOf_21 rfl ?_
  refine A_iload_n hE 25 dX7_ownerOf_24 rfl rfl ?_
  refine A_tabA hE 26 3 dX7_ownerOf_25 rfl (by decide) (by decide) (0) (by decide) ?_
  refine A_istore_n hE 27 dX7_ownerOf_26 rfl rfl rfl ?_
  refine A_iinc hE 30 dX7_ownerOf_27 rfl rfl (1) rfl rfl rfl ?_
  refine A_goto hE 4 dX7_ownerOf_30 rfl ?_
  refine A_iload_n hE 5 dX7_ownerOf_4 rfl rfl ?_
  refine A_iconst hE 6 dX7_ownerOf_5 rfl (2) rfl ?_
  refine A_icmp_ge hE 9 33 dX7_ownerOf_6 rfl rfl (fun c6 => absurd c6 (by decide)) (fun c6 => ?_)
  refine A_gsBodies hE 12 dX7_ownerOf_9 rfl flBod ?_
  refine A_iconst hE 13 dX7_ownerOf_12 rfl (4) rfl ?_
  refine A_iload_n hE 14 dX7_ownerOf_13 rfl rfl ?_
  refine A_imul hE 15 dX7_ownerOf_14 rfl ?_
  refine A_iload_n hE 16 dX7_ownerOf_15 rfl rfl ?_
  refine A_iadd hE 17 dX7_ownerOf_16 rfl ?_
  refine A_tabB hE 18 3 dX7_ownerOf_17 rfl (by decide) (by decide) (13) (by decide) ?_
  refine A_if_ne hE 21 33 dX7_ownerOf_18 rfl rfl (fun c18 => ?_) (fun c18 => absurd c18 (by decide))
  refine A_iload_n hE 34 dX7_ownerOf_33 rfl rfl ?_
  refine A_iret hE dX7_ownerOf_34 ⟨rfl, rfl⟩
set_option maxRecDepth 100000 in
theorem c_own_3_4  : AMet yX7_ownerOf cX7_ownerOf 4 (some (.int)) 0 0 0 [.int 3, .int 4] [] (pI fun r h => r = 1 ∧ h = []) := by
  refine AMet.of (by decide +kernel) rfl (fun E ad0 hE => ?_)
  refine A_iload_n hE 1 dX7_ownerOf_0 rfl rfl ?_
  refine A_istore_n hE 2 dX7_ownerOf_1 rfl rfl rfl ?_
  refine A_iconst hE 3 dX7_ownerOf_2 rfl (0) rfl ?_
  refine A_istore_n hE 4 dX7_ownerOf_3 rfl rfl rfl ?_
  refine A_iload_n hE 5 dX7_ownerOf_4 rfl rfl ?_
  refine A_iconst hE 6 dX7_ownerOf_5 rfl (2) rfl ?_
  refine A_icmp_ge hE 9 33 dX7_ownerOf_6 rfl rfl (fun c6 => absurd c6 (by decide)) (fun c6 => ?_)
  refine A_gsBodies hE 12 dX7_ownerOf_9 rfl flBod ?_
  refine A_iconst hE 13 dX7_ownerOf_12 rfl (4) rfl ?_
  refine A_iload_n hE 14 dX7_ownerOf_13 rfl rfl ?_
  refine A_imul hE 15 dX7_ownerOf_14 rfl ?_
  refine A_iload_n hE 16 dX7_ownerOf_15 rfl rfl ?_
  refine A_iadd hE 17 dX7_ownerOf_16 rfl ?_
  refine A_tabB hE 18 19 dX7_ownerOf_17 rfl (by decide) (by decide) (0) (by decide) ?_
  refine A_if_ne hE 21 33 dX7_ownerOf_18 rfl rfl (fun c18 => absurd rfl c18) (fun c18 => ?_)
  refine A_gsAboveN hE 24 dX7_ownerOf_21 rfl ?_
  refine A_iload_n hE 25 dX7_ownerOf_24 rfl rfl ?_
  refine A_tabA hE 26 4 dX7_ownerOf_25 rfl (by decide) (by decide) (1) (by decide) ?_
  refine A_istore_n hE 27 dX7_ownerOf_26 rfl rfl rfl ?_
  refine A_iinc hE 30 dX7_ownerOf_27 rfl rfl (1) rfl rfl rfl ?_
  refine A_goto hE 4 dX7_ownerOf_30 rfl ?_
  refine A_iload_n hE 5 dX7_ownerOf_4 rfl rfl ?_
  refine A_iconst hE 6 dX7_ownerOf_5 rfl (2) rfl ?_
  refine A_icmp_ge hE 9 33 dX7_ownerOf_6 rfl rfl (fun c6 => absurd c6 (by decide)) (fun c6 => ?_)
  refine A_gsBodies hE 12 dX7_ownerOf_9 rfl flBod ?_
  refine A_iconst hE 13 dX7_ownerOf_12 rfl (4) rfl ?_
  refine A_iload_n hE 14 dX7_ownerOf_13 rfl rfl ?_
  refine A_imul hE 15 dX7_ownerOf_14 rfl ?_
  refine A_iload_n hE 16 dX7_ownerOf_15 rfl rfl ?_
  refine A_iadd hE 17 dX7_ownerOf_16 rfl ?_
  refine A_tabB hE 18 7 dX7_ownerOf_17 rfl (by decide) (by decide) (21) (by decide) ?_
  refine A_if_ne hE 21 33 dX7_ownerOf_18 rfl rfl (fun c18 => ?_) (fun c18 => absurd c18 (by decide))
  refine A_iload_n hE 34 dX7_ownerOf_33 rfl rfl ?_
  refine A_iret hE dX7_ownerOf_34 ⟨rfl, rfl⟩
set_option maxRecDepth 100000 in
theorem c_own_3_5  : AMet yX7_ownerOf cX7_ownerOf 4 (some (.int)) 0 0 0 [.int 3, .int 5] [] (pI fun r h => r = 0 ∧ h = []) := by
  refine AMet.of (by decide +kernel) rfl (fun E ad0 hE => ?_)
  refine A_iload_n hE 1 dX7_ownerOf_0 rfl rfl ?_
  refine A_istore_n hE 2 dX7_ownerOf_1 rfl rfl rfl ?_
  refine A_iconst hE 3 dX7_ownerOf_2 rfl (0) rfl ?_
  refine A_istore_n hE 4 dX7_ownerOf_3 rfl rfl rfl ?_
  refine A_iload_n hE 5 dX7_ownerOf_4 rfl rfl ?_
  refine A_iconst hE 6 dX7_ownerOf_5 rfl (2) rfl ?_
  refine A_icmp_ge hE 9 33 dX7_ownerOf_6 rfl rfl (fun c6 => absurd c6 (by decide)) (fun c6 => ?_)
  refine A_gsBodies hE 12 dX7_ownerOf_9 rfl flBod ?_
  refine A_iconst hE 13 dX7_ownerOf_12 rfl (4) rfl ?_
  refine A_iload_n hE 14 dX7_ownerOf_13 rfl rfl ?_
  refine A_imul hE 15 dX7_ownerOf_14 rfl ?_
  refine A_iload_n hE 16 dX7_ownerOf_15 rfl rfl ?_
  refine A_iadd hE 17 dX7_ownerOf_16 rfl ?_
  refine A_tabB hE 18 23 dX7_ownerOf_17 rfl (by decide) (by decide) (0) (by decide) ?_
  refine A_if_ne hE 21 33 dX7_ownerOf_18 rfl rfl (fun c18 => absurd rfl c18) (fun c18 => ?_)
  refine A_gsAboveN hE 24 dX7_ownerOf_21 rfl ?_
  refine A_iload_n hE 25 dX7_ownerOf_24 rfl rfl ?_
  refine A_tabA hE 26 5 dX7_ownerOf_25 rfl (by decide) (by decide) (2) (by decide) ?_
  refine A_istore_n hE 27 dX7_ownerOf_26 rfl rfl rfl ?_
  refine A_iinc hE 30 dX7_ownerOf_27 rfl rfl (1) rfl rfl rfl ?_
  refine A_goto hE 4 dX7_ownerOf_30 rfl ?_
  refine A_iload_n hE 5 dX7_ownerOf_4 rfl rfl ?_
  refine A_iconst hE 6 dX7_ownerOf_5 rfl (2) rfl ?_
  refine A_icmp_ge hE 9 33 dX7_ownerOf_6 rfl rfl (fun c6 => absurd c6 (by decide)) (fun c6 => ?_)
  refine A_gsBodies hE 12 dX7_ownerOf_9 rfl flBod ?_
  refine A_iconst hE 13 dX7_ownerOf_12 rfl (4) rfl ?_
  refine A_iload_n hE 14 dX7_ownerOf_13 rfl rfl ?_
  refine A_imul hE 15 dX7_ownerOf_14 rfl ?_
  refine A_iload_n hE 16 dX7_ownerOf_15 rfl rfl ?_
  refine A_iadd hE 17 dX7_ownerOf_16 rfl ?_
  refine A_tabB hE 18 11 dX7_ownerOf_17 rfl (by decide) (by decide) (0) (by decide) ?_
  refine A_if_ne hE 21 33 dX7_ownerOf_18 rfl rfl (fun c18 => absurd rfl c18) (fun c18 => ?_)
  refine A_gsAboveN hE 24 dX7_ownerOf_21 rfl ?_
  refine A_iload_n hE 25 dX7_ownerOf_24 rfl rfl ?_
  refine A_tabA hE 26 2 dX7_ownerOf_25 rfl (by decide) (by decide) (0) (by decide) ?_
  refine A_istore_n hE 27 dX7_ownerOf_26 rfl rfl rfl ?_
  refine A_iinc hE 30 dX7_ownerOf_27 rfl rfl (1) rfl rfl rfl ?_
  refine A_goto hE 4 dX7_ownerOf_30 rfl ?_
  refine A_iload_n hE 5 dX7_ownerOf_4 rfl rfl ?_
  refine A_iconst hE 6 dX7_ownerOf_5 rfl (2) rfl ?_
  refine A_icmp_ge hE 9 33 dX7_ownerOf_6 rfl rfl (fun c6 => ?_) (fun c6 => absurd (by decide) c6)
  refine A_iload_n hE 34 dX7_ownerOf_33 rfl rfl ?_
  refine A_iret hE dX7_ownerOf_34 ⟨rfl, rfl⟩
set_option maxRecDepth 100000 in
theorem c_own_3_6  : AMet yX7_ownerOf cX7_ownerOf 4 (some (.int)) 0 0 0 [.int 3, .int 6] [] (pI fun r h => r = 0 ∧ h = []) := by
  refine AMet.of (by decide +kernel) rfl (fun E ad0 hE => ?_)
  refine A_iload_n hE 1 dX7_ownerOf_0 rfl rfl ?_
  refine A_istore_n hE 2 dX7_ownerOf_1 rfl rfl rfl ?_
  refine A_iconst hE 3 dX7_ownerOf_2 rfl (0) rfl ?_
  refine A_istore_n hE 4 dX7_ownerOf_3 rfl rfl rfl ?_
  refine A_iload_n hE 5 dX7_ownerOf_4 rfl rfl ?_
  refine A_iconst hE 6 dX7_ownerOf_5 rfl (2) rfl ?_
  refine A_icmp_ge hE 9 33 dX7_ownerOf_6 rfl rfl (fun c6 => absurd c6 (by decide)) (fun c6 => ?_)
  refine A_gsBodies hE 12 dX7_ownerOf_9 rfl flBod ?_
  refine A_iconst hE 13 dX7_ownerOf_12 rfl (4) rfl ?_
  refine A_iload_n hE 14 dX7_ownerOf_13 rfl rfl ?_
  refine A_imul hE 15 dX7_ownerOf_14 rfl ?_
  refine A_iload_n hE 16 dX7_ownerOf_15 rfl rfl ?_
  refine A_iadd hE 17 dX7_ownerOf_16 rfl ?_
  refine A_tabB hE 18 27 dX7_ownerOf_17 rfl (by decide) (by decide) (0) (by decide) ?_
  refine A_if_ne hE 21 33 dX7_ownerOf_18 rfl rfl (fun c18 => absurd rfl c18) (fun c18 => ?_)
  refine A_gsAboveN hE 24 dX7_ownerOf_21 rfl ?_
  refine A_iload_n hE 25 dX7_ownerOf_24 rfl rfl ?_
  refine A_tabA hE 26 6 dX7_ownerOf_25 rfl (by decide) (by decide) (0) (by decide) ?_
  refine A_istore_n hE 27 dX7_ownerOf_26 rfl rfl rfl ?_
  refine A_iinc hE 30 dX7_ownerOf_27 rfl rfl (1) rfl rfl rfl ?_
  refine A_goto hE 4 dX7_ownerOf_30 rfl ?_
  refine A_iload_n hE 5 dX7_ownerOf_4 rfl rfl ?_
  refine A_iconst hE 6 dX7_ownerOf_5 rfl (2) rfl ?_
  refine A_icmp_ge hE 9 33 dX7_ownerOf_6 rfl rfl (fun c6 => absurd c6 (by decide)) (fun c6 => ?_)
  refine A_gsBodies hE 12 dX7_ownerOf_9 rfl flBod ?_
  refine A_iconst hE 13 dX7_ownerOf_12 rfl (4) rfl ?_
  refine A_iload_n hE 14 dX7_ownerOf_13 rfl rfl ?_
  refine A_imul hE 15 dX7_ownerOf_14 rfl ?_
  refine A_iload_n hE 16 dX7_ownerOf_15 rfl rfl ?_
  refine A_iadd hE 17 dX7_ownerOf_16 rfl ?_
  refine A_tabB hE 18 3 dX7_ownerOf_17 rfl (by decide) (by decide) (13) (by decide) ?_
  refine A_if_ne hE 21 33 dX7_ownerOf_18 rfl rfl (fun c18 => ?_) (fun c18 => absurd c18 (by decide))
  refine A_iload_n hE 34 dX7_ownerOf_33 rfl rfl ?_
  refine A_iret hE dX7_ownerOf_34 ⟨rfl, rfl⟩
/-- voices: the cell, and its trace -/
abbrev VW (pt : Int32) (K : Nat) (k m : Int32) (tn : Nat) (tr : Nat → Int32) : List AE := [.inr (7, [.ref 1, .int pt, .int (nI K), .int k, .int m]), cRow 2 (nI tn), cI 30 tr]
def pN (n : Nat) : Nat := if n < 30 then n + 1 else n
def pF (n : Nat) (f : Nat → Int32) (b : Int32) : Nat → Int32 := if n < 30 then upd f n b else f
def apN : List Int32 → Nat → Nat
  | [], n => n
  | _ :: l, n => apN l (pN n)
def apF : List Int32 → Nat → (Nat → Int32) → Nat → Int32
  | [], _, f => f
  | b :: l, n, f => apF l (pN n) (pF n f b)
theorem pN_le {n : Nat} (h : n ≤ 30) : pN n ≤ 30 := by unfold pN; split <;> omega
theorem apN_le : ∀ (l : List Int32) (n : Nat), n ≤ 30 → apN l n ≤ 30
  | [], _, h => h
  | _ :: l, _, h => apN_le l _ (pN_le h)
theorem apN_app : ∀ (a b : List Int32) (n : Nat), apN (a ++ b) n = apN b (apN a n)
  | [], _, _ => rfl
  | _ :: a, b, n => apN_app a b (pN n)
theorem apF_app : ∀ (a b : List Int32) (n : Nat) (f : Nat → Int32), apF (a ++ b) n f = apF b (apN a n) (apF a n f)
  | [], _, _, _ => rfl
  | x :: a, b, n, f => apF_app a b (pN n) (pF n f x)
def cuV (k : Int32) : Nat → Int32 → Int32
  | 1, x => x + k - 4
  | 4, x => (x + k - 4) * 3
  | 6, _ => 9
  | _, x => x + k
def cuT : Nat → List Int32
  | 1 => [20, 10]
  | 4 => [50, 20, 10]
  | 6 => [70]
  | _ => [10]
def saV (k m : Int32) (K : Nat) : Nat → Int32 → Int32
  | 2, x => 0 - cuV k K x * 2
  | 5, x => 0 - cuV k K (x + 1) * 2
  | 6, x => cuV k K x * 2 + m
  | _, x => cuV k K x * 2
def saT (K : Nat) : Nat → List Int32
  | 2 => 30 :: 11 :: cuT K
  | 5 => 60 :: 30 :: 11 :: cuT K
  | 6 => 71 :: 11 :: cuT K
  | _ => 11 :: cuT K
def stV (k m : Int32) (K : Nat) : Nat → Int32 → Int32
  | 3, x => saV k m K K (x / 2) - m
  | 4, x => (saV k m K K x - m) ^^^ k
  | _, x => saV k m K K x - m
def stT (K : Nat) : Nat → List Int32
  | 3 => 40 :: 12 :: saT K K
  | 4 => 51 :: 12 :: saT K K
  | _ => 12 :: saT K K
def paV (k m : Int32) (K : Nat) : Nat → Int32 → Int32
  | 1, x => x / (m - k) + saV k m K K 1
  | 4, x => x / (m - k) + saV k m K K 1
  | _, x => x / (m - k)
def paT (K : Nat) : Nat → List Int32
  | 1 => 21 :: 13 :: saT K K
  | 4 => 21 :: 13 :: saT K K
  | _ => [13]
def paTp : Nat → List Int32
  | 1 => [21, 13]
  | 4 => [21, 13]
  | _ => [13]
theorem sub_ne {m k : Int32} (h : ¬ m = k) : ¬ m - k = 0 := by
  intro z
  apply h
  have e : m - k + k = 0 + k := by rw [z]
  rwa [Int32.sub_add_cancel, Int32.zero_add] at e

set_option maxRecDepth 100000 in
theorem c_part_p (K : Nat) (k m x : Int32) (tn : Nat) (tr : Nat → Int32) (hm : m = k) : AMet yX7_part cX7_part 2 (some (.int)) 0 0 0 [.ref 0, .int x] (VW 0 K k m tn tr) (pI fun r h => r = 0 ∧ h = VW 1 K k m tn tr) := by
  refine AMet.of (by decide +kernel) rfl (fun E ad0 hE => ?_)
  refine A_aload_n hE 1 dX7_part_0 rfl rfl ?_
  refine A_get hE 4 dX7_part_1 rfl fkX7_31 rfl rfl ?_
  refine A_aload_n hE 5 dX7_part_4 rfl rfl ?_
  refine A_get hE 8 dX7_part_5 rfl fkX7_28 rfl rfl ?_
  refine A_icmp_ne hE 11 18 dX7_part_8 rfl rfl (fun c8 => absurd hm c8) (fun c8 => ?_)
  refine A_aload_n hE 12 dX7_part_11 rfl rfl ?_
  refine A_iconst hE 13 dX7_part_12 rfl (1) rfl ?_
  refine A_put hE 16 dX7_part_13 rfl fkX7_20 rfl rfl rfl rfl ?_
  refine A_iconst hE 17 dX7_part_16 rfl (0) rfl ?_
  refine A_iret hE dX7_part_17 ⟨rfl, rfl⟩
set_option maxRecDepth 100000 in
theorem c_part_n (K : Nat) (k m x : Int32) (tn : Nat) (tr : Nat → Int32) (hm : ¬ m = k) : AMet yX7_part cX7_part 2 (some (.int)) 0 0 0 [.ref 0, .int x] (VW 0 K k m tn tr) (pI fun r h => r = x / (m - k) ∧ h = VW 0 K k m tn tr) := by
  refine AMet.of (by decide +kernel) rfl (fun E ad0 hE => ?_)
  refine A_aload_n hE 1 dX7_part_0 rfl rfl ?_
  refine A_get hE 4 dX7_part_1 rfl fkX7_31 rfl rfl ?_
  refine A_aload_n hE 5 dX7_part_4 rfl rfl ?_
  refine A_get hE 8 dX7_part_5 rfl fkX7_28 rfl rfl ?_
  refine A_icmp_ne hE 11 18 dX7_part_8 rfl rfl (fun c8 => ?_) (fun c8 => absurd c8 hm)
  refine A_iload_n hE 19 dX7_part_18 rfl rfl ?_
  refine A_aload_n hE 20 dX7_part_19 rfl rfl ?_
  refine A_get hE 23 dX7_part_20 rfl fkX7_31 rfl rfl ?_
  refine A_aload_n hE 24 dX7_part_23 rfl rfl ?_
  refine A_get hE 27 dX7_part_24 rfl fkX7_28 rfl rfl ?_
  refine A_isub hE 28 dX7_part_27 rfl ?_
  refine A_idiv hE 29 dX7_part_28 rfl (sub_ne hm) ?_
  refine A_iret hE dX7_part_29 ⟨rfl, rfl⟩
set_option maxRecDepth 100000 in
theorem c_speak_p (K : Nat) (k m x v f d : Int32) (tn : Nat) (tr : Nat → Int32) : AMet yX7_speak cX7_speak 7 (some (.int)) 0 0 0 [.ref 0, .int v, .int f, .int x, .int d] (VW 1 K k m tn tr) (pI fun r h => r = 0 ∧ h = VW 1 K k m tn tr) := by
  refine AMet.of (by decide +kernel) rfl (fun E ad0 hE => ?_)
  refine A_aload_n hE 1 dX7_speak_0 rfl rfl ?_
  refine A_get hE 4 dX7_speak_1 rfl fkX7_20 rfl rfl ?_
  refine A_if_ne hE 7 14 dX7_speak_4 rfl rfl (fun c4 => ?_) (fun c4 => absurd c4 (by decide))
  refine A_iconst hE 15 dX7_speak_14 rfl (0) rfl ?_
  refine A_iret hE dX7_speak_15 ⟨rfl, rfl⟩
set_option maxRecDepth 100000 in
theorem c_wo_cu_0 (K : Nat) (k m x : Int32) (tn : Nat) (tr : Nat → Int32) (dep : Nat) (hK : K < 7) (htn : tn ≤ 30) : AMet yX7_workOut cX7_workOut 5 (some (.int)) 1 0 0 [.ref 0, .int 10, .int 0, .int x, .int (nI dep)] (VW 0 K k m tn tr) (pI fun r h => r = cuV k 0 x ∧ h = VW 0 K k m tn tr) := by
  refine AMet.of (by decide +kernel) rfl (fun E ad0 hE => ?_)
  refine A_iload_n hE 1 dX7_workOut_0 rfl rfl ?_
  refine A_lookup hE 116 dX7_workOut_1 (by decide) (off := 115) (by decide) rfl ?_
  refine A_iload_n hE 117 dX7_workOut_116 rfl rfl ?_
  refine A_aload_n hE 118 dX7_workOut_117 rfl rfl ?_
  refine A_get hE 121 dX7_workOut_118 rfl fkX7_28 rfl rfl ?_
  refine A_iadd hE 122 dX7_workOut_121 rfl ?_
  refine A_iret hE dX7_workOut_122 ⟨rfl, rfl⟩
set_option maxRecDepth 100000 in
theorem c_cu_0 (K : Nat) (k m x : Int32) (tn : Nat) (tr : Nat → Int32) (dep : Nat) (hK : K < 7) (htn : tn ≤ 30) (hd : dep + 0 ≤ 10) : AMet yX7_speak cX7_speak 7 (some (.int)) 2 0 0 [.ref 0, .int 0, .int 0, .int x, .int (nI dep)] (VW 0 K k m tn tr) (pI fun r h => r = cuV k 0 x ∧ h = VW 0 K k m (apN (cuT 0) tn) (apF (cuT 0) tn tr)) := by
  refine AMet.of (by decide +kernel) rfl (fun E ad0 hE => ?_)
  refine A_aload_n hE 1 dX7_speak_0 rfl rfl ?_
  refine A_get hE 4 dX7_speak_1 rfl fkX7_20 rfl rfl ?_
  refine A_if_ne hE 7 14 dX7_speak_4 rfl rfl (fun c4 => absurd rfl c4) (fun c4 => ?_)
  refine A_iload hE 9 dX7_speak_7 rfl rfl ?_
  refine A_bipush hE 11 dX7_speak_9 rfl (10) (by decide) ?_
  refine A_icmp_le hE 14 16 dX7_speak_11 rfl rfl (fun c11 => ?_) (fun c11 => absurd (nI_le (b := 10) (show dep ≤ 10 by omega) (by omega)) c11)
  refine A_iload_n hE 17 dX7_speak_16 rfl rfl ?_
  refine A_iload_n hE 18 dX7_speak_17 rfl rfl ?_
  refine A_callSi hE 21 (c_own_0_0) [] dX7_speak_18 rfl mkX7_50 rfl rfl rfl rfl rfl rfl (Nat.le_of_ble_eq_true rfl) (Nat.le_of_ble_eq_true rfl) rfl (fun x18 h18 g18 hp18 hw18 => ?_)
  obtain ⟨rfl, rfl⟩ := hp18
  obtain rfl := Option.some.inj hw18
  refine A_istore hE 23 dX7_speak_21 rfl rfl rfl ?_
  refine A_gsBodies hE 26 dX7_speak_23 rfl flBod ?_
  refine A_iconst hE 27 dX7_speak_26 rfl (4) rfl ?_
  refine A_iload hE 29 dX7_speak_27 rfl rfl ?_
  refine A_imul hE 30 dX7_speak_29 rfl ?_
  refine A_iload_n hE 31 dX7_speak_30 rfl rfl ?_
  refine A_iadd hE 32 dX7_speak_31 rfl ?_
  refine A_tabB hE 33 0 dX7_speak_32 rfl (by decide) (by decide) (10) (by decide) ?_
  refine A_istore hE 35 dX7_speak_33 rfl rfl rfl ?_
  refine A_aload_n hE 36 dX7_speak_35 rfl rfl ?_
  refine A_get hE 39 dX7_speak_36 rfl fkX7_14 rfl rfl ?_
  refine A_iload hE 41 dX7_speak_39 rfl rfl ?_
  refine A_callVv hE 44 (c_X3_add 30 tr tn 10 htn rfl) [1, 2] dX7_speak_41 rfl mkX7_57 rfl rfl rfl rfl rfl rfl rfl (Nat.le_of_ble_eq_true rfl) (Nat.le_of_ble_eq_true rfl) rfl (fun h41 g41 hp41 hw41 => ?_)
  obtain rfl := hp41
  obtain rfl := Option.some.inj hw41
  refine A_h (VW 0 K k m (pN tn) (pF tn tr 10)) rfl ?_
  refine A_aload_n hE 45 dX7_speak_44 rfl rfl ?_
  refine A_iload hE 47 dX7_speak_45 rfl rfl ?_
  refine A_gsAboveN hE 50 dX7_speak_47 rfl ?_
  refine A_iload hE 52 dX7_speak_50 rfl rfl ?_
  refine A_tabA hE 53 0 dX7_speak_52 rfl (by decide) (by decide) (0) (by decide) ?_
  refine A_iload_n hE 54 dX7_speak_53 rfl rfl ?_
  refine A_iload hE 56 dX7_speak_54 rfl rfl ?_
  refine A_iconst hE 57 dX7_speak_56 rfl (1) rfl ?_
  refine A_iadd hE 58 dX7_speak_57 rfl ?_
  rw [nI_1]
  refine A_callVi hE 61 (c_wo_cu_0 K k m x (pN tn) (pF tn tr 10) (dep + 1) hK (pN_le htn)) [0, 1, 2] dX7_speak_58 rfl mkX7_63 rfl rfl rfl rfl rfl rfl rfl (Nat.le_of_ble_eq_true rfl) (Nat.le_of_ble_eq_true rfl) rfl (fun x58 h58 g58 hp58 hw58 => ?_)
  obtain ⟨rfl, rfl⟩ := hp58
  obtain rfl := Option.some.inj hw58
  refine A_h (VW 0 K k m (pN tn) (pF tn tr 10)) rfl ?_
  refine A_iret hE dX7_speak_61 ⟨rfl, rfl⟩
set_option maxRecDepth 100000 in
theorem c_wo_cu_2 (K : Nat) (k m x : Int32) (tn : Nat) (tr : Nat → Int32) (dep : Nat) (hK : K < 7) (htn : tn ≤ 30) : AMet yX7_workOut cX7_workOut 5 (some (.int)) 1 0 0 [.ref 0, .int 10, .int 0, .int x, .int (nI dep)] (VW 0 K k m tn tr) (pI fun r h => r = cuV k 2 x ∧ h = VW 0 K k m tn tr) := by
  refine AMet.of (by decide +kernel) rfl (fun E ad0 hE => ?_)
  refine A_iload_n hE 1 dX7_workOut_0 rfl rfl ?_
  refine A_lookup hE 116 dX7_workOut_1 (by decide) (off := 115) (by decide) rfl ?_
  refine A_iload_n hE 117 dX7_workOut_116 rfl rfl ?_
  refine A_aload_n hE 118 dX7_workOut_117 rfl rfl ?_
  refine A_get hE 121 dX7_workOut_118 rfl fkX7_28 rfl rfl ?_
  refine A_iadd hE 122 dX7_workOut_121 rfl ?_
  refine A_iret hE dX7_workOut_122 ⟨rfl, rfl⟩
set_option maxRecDepth 100000 in
theorem c_cu_2 (K : Nat) (k m x : Int32) (tn : Nat) (tr : Nat → Int32) (dep : Nat) (hK : K < 7) (htn : tn ≤ 30) (hd : dep + 0 ≤ 10) : AMet yX7_speak cX7_speak 7 (some (.int)) 2 0 0 [.ref 0, .int 0, .int 2, .int x, .int (nI dep)] (VW 0 K k m tn tr) (pI fun r h => r = cuV k 2 x ∧ h = VW 0 K k m (apN (cuT 2) tn) (apF (cuT 2) tn tr)) := by
  refine AMet.of (by decide +kernel) rfl (fun E ad0 hE => ?_)
  refine A_aload_n hE 1 dX7_speak_0 rfl rfl ?_
  refine A_get hE 4 dX7_speak_1 rfl fkX7_20 rfl rfl ?_
  refine A_if_ne hE 7 14 dX7_speak_4 rfl rfl (fun c4 => absurd rfl c4) (fun c4 => ?_)
  refine A_iload hE 9 dX7_speak_7 rfl rfl ?_
  refine A_bipush hE 11 dX7_speak_9 rfl (10) (by decide) ?_
  refine A_icmp_le hE 14 16 dX7_speak_11 rfl rfl (fun c11 => ?_) (fun c11 => absurd (nI_le (b := 10) (show dep ≤ 10 by omega) (by omega)) c11)
  refine A_iload_n hE 17 dX7_speak_16 rfl rfl ?_
  refine A_iload_n hE 18 dX7_speak_17 rfl rfl ?_
  refine A_callSi hE 21 (c_own_0_2) [] dX7_speak_18 rfl mkX7_50 rfl rfl rfl rfl rfl rfl (Nat.le_of_ble_eq_true rfl) (Nat.le_of_ble_eq_true rfl) rfl (fun x18 h18 g18 hp18 hw18 => ?_)
  obtain ⟨rfl, rfl⟩ := hp18
  obtain rfl := Option.some.inj hw18
  refine A_istore hE 23 dX7_speak_21 rfl rfl rfl ?_
  refine A_gsBodies hE 26 dX7_speak_23 rfl flBod ?_
  refine A_iconst hE 27 dX7_speak_26 rfl (4) rfl ?_
  refine A_iload hE 29 dX7_speak_27 rfl rfl ?_
  refine A_imul hE 30 dX7_speak_29 rfl ?_
  refine A_iload_n hE 31 dX7_speak_30 rfl rfl ?_
  refine A_iadd hE 32 dX7_speak_31 rfl ?_
  refine A_tabB hE 33 0 dX7_speak_32 rfl (by decide) (by decide) (10) (by decide) ?_
  refine A_istore hE 35 dX7_speak_33 rfl rfl rfl ?_
  refine A_aload_n hE 36 dX7_speak_35 rfl rfl ?_
  refine A_get hE 39 dX7_speak_36 rfl fkX7_14 rfl rfl ?_
  refine A_iload hE 41 dX7_speak_39 rfl rfl ?_
  refine A_callVv hE 44 (c_X3_add 30 tr tn 10 htn rfl) [1, 2] dX7_speak_41 rfl mkX7_57 rfl rfl rfl rfl rfl rfl rfl (Nat.le_of_ble_eq_true rfl) (Nat.le_of_ble_eq_true rfl) rfl (fun h41 g41 hp41 hw41 => ?_)
  obtain rfl := hp41
  obtain rfl := Option.some.inj hw41
  refine A_h (VW 0 K k m (pN tn) (pF tn tr 10)) rfl ?_
  refine A_aload_n hE 45 dX7_speak_44 rfl rfl ?_
  refine A_iload hE 47 dX7_speak_45 rfl rfl ?_
  refine A_gsAboveN hE 50 dX7_speak_47 rfl ?_
  refine A_iload hE 52 dX7_speak_50 rfl rfl ?_
  refine A_tabA hE 53 0 dX7_speak_52 rfl (by decide) (by decide) (0) (by decide) ?_
  refine A_iload_n hE 54 dX7_speak_53 rfl rfl ?_
  refine A_iload hE 56 dX7_speak_54 rfl rfl ?_
  refine A_iconst hE 57 dX7_speak_56 rfl (1) rfl ?_
  refine A_iadd hE 58 dX7_speak_57 rfl ?_
  rw [nI_1]
  refine A_callVi hE 61 (c_wo_cu_2 K k m x (pN tn) (pF tn tr 10) (dep + 1) hK (pN_le htn)) [0, 1, 2] dX7_speak_58 rfl mkX7_63 rfl rfl rfl rfl rfl rfl rfl (Nat.le_of_ble_eq_true rfl) (Nat.le_of_ble_eq_true rfl) rfl (fun x58 h58 g58 hp58 hw58 => ?_)
  obtain ⟨rfl, rfl⟩ := hp58
  obtain rfl := Option.some.inj hw58
  refine A_h (VW 0 K k m (pN tn) (pF tn tr 10)) rfl ?_
  refine A_iret hE dX7_speak_61 ⟨rfl, rfl⟩
set_option maxRecDepth 100000 in
theorem c_wo_cu_3 (K : Nat) (k m x : Int32) (tn : Nat) (tr : Nat → Int32) (dep : Nat) (hK : K < 7) (htn : tn ≤ 30) : AMet yX7_workOut cX7_workOut 5 (some (.int)) 1 0 0 [.ref 0, .int 10, .int 0, .int x, .int (nI dep)] (VW 0 K k m tn tr) (pI fun r h => r = cuV k 3 x ∧ h = VW 0 K k m tn tr) := by
  refine AMet.of (by decide +kernel) rfl (fun E ad0 hE => ?_)
  refine A_iload_n hE 1 dX7_workOut_0 rfl rfl ?_
  refine A_lookup hE 116 dX7_workOut_1 (by decide) (off := 115) (by decide) rfl ?_
  refine A_iload_n hE 117 dX7_workOut_116 rfl rfl ?_
  refine A_aload_n hE 118 dX7_workOut_117 rfl rfl ?_
  refine A_get hE 121 dX7_workOut_118 rfl fkX7_28 rfl rfl ?_
  refine A_iadd hE 122 dX7_workOut_121 rfl ?_
  refine A_iret hE dX7_workOut_122 ⟨rfl, rfl⟩
set_option maxRecDepth 100000 in
theorem c_cu_3 (K : Nat) (k m x : Int32) (tn : Nat) (tr : Nat → Int32) (dep : Nat) (hK : K < 7) (htn : tn ≤ 30) (hd : dep + 0 ≤ 10) : AMet yX7_speak cX7_speak 7 (some (.int)) 2 0 0 [.ref 0, .int 0, .int 3, .int x, .int (nI dep)] (VW 0 K k m tn tr) (pI fun r h => r = cuV k 3 x ∧ h = VW 0 K k m (apN (cuT 3) tn) (apF (cuT 3) tn tr)) := by
  refine AMet.of (by decide +kernel) rfl (fun E ad0 hE => ?_)
  refine A_aload_n hE 1 dX7_speak_0 rfl rfl ?_
  refine A_get hE 4 dX7_speak_1 rfl fkX7_20 rfl rfl ?_
  refine A_if_ne hE 7 14 dX7_speak_4 rfl rfl (fun c4 => absurd rfl c4) (fun c4 => ?_)
  refine A_iload hE 9 dX7_speak_7 rfl rfl ?_
  refine A_bipush hE 11 dX7_speak_9 rfl (10) (by decide) ?_
  refine A_icmp_le hE 14 16 dX7_speak_11 rfl rfl (fun c11 => ?_) (fun c11 => absurd (nI_le (b := 10) (show dep ≤ 10 by omega) (by omega)) c11)
  refine A_iload_n hE 17 dX7_speak_16 rfl rfl ?_
  refine A_iload_n hE 18 dX7_speak_17 rfl rfl ?_
  refine A_callSi hE 21 (c_own_0_3) [] dX7_speak_18 rfl mkX7_50 rfl rfl rfl rfl rfl rfl (Nat.le_of_ble_eq_true rfl) (Nat.le_of_ble_eq_true rfl) rfl (fun x18 h18 g18 hp18 hw18 => ?_)
  obtain ⟨rfl, rfl⟩ := hp18
  obtain rfl := Option.some.inj hw18
  refine A_istore hE 23 dX7_speak_21 rfl rfl rfl ?_
  refine A_gsBodies hE 26 dX7_speak_23 rfl flBod ?_
  refine A_iconst hE 27 dX7_speak_26 rfl (4) rfl ?_
  refine A_iload hE 29 dX7_speak_27 rfl rfl ?_
  refine A_imul hE 30 dX7_speak_29 rfl ?_
  refine A_iload_n hE 31 dX7_speak_30 rfl rfl ?_
  refine A_iadd hE 32 dX7_speak_31 rfl ?_
  refine A_tabB hE 33 0 dX7_speak_32 rfl (by decide) (by decide) (10) (by decide) ?_
  refine A_istore hE 35 dX7_speak_33 rfl rfl rfl ?_
  refine A_aload_n hE 36 dX7_speak_35 rfl rfl ?_
  refine A_get hE 39 dX7_speak_36 rfl fkX7_14 rfl rfl ?_
  refine A_iload hE 41 dX7_speak_39 rfl rfl ?_
  refine A_callVv hE 44 (c_X3_add 30 tr tn 10 htn rfl) [1, 2] dX7_speak_41 rfl mkX7_57 rfl rfl rfl rfl rfl rfl rfl (Nat.le_of_ble_eq_true rfl) (Nat.le_of_ble_eq_true rfl) rfl (fun h41 g41 hp41 hw41 => ?_)
  obtain rfl := hp41
  obtain rfl := Option.some.inj hw41
  refine A_h (VW 0 K k m (pN tn) (pF tn tr 10)) rfl ?_
  refine A_aload_n hE 45 dX7_speak_44 rfl rfl ?_
  refine A_iload hE 47 dX7_speak_45 rfl rfl ?_
  refine A_gsAboveN hE 50 dX7_speak_47 rfl ?_
  refine A_iload hE 52 dX7_speak_50 rfl rfl ?_
  refine A_tabA hE 53 0 dX7_speak_52 rfl (by decide) (by decide) (0) (by decide) ?_
  refine A_iload_n hE 54 dX7_speak_53 rfl rfl ?_
  refine A_iload hE 56 dX7_speak_54 rfl rfl ?_
  refine A_iconst hE 57 dX7_speak_56 rfl (1) rfl ?_
  refine A_iadd hE 58 dX7_speak_57 rfl ?_
  rw [nI_1]
  refine A_callVi hE 61 (c_wo_cu_3 K k m x (pN tn) (pF tn tr 10) (dep + 1) hK (pN_le htn)) [0, 1, 2] dX7_speak_58 rfl mkX7_63 rfl rfl rfl rfl rfl rfl rfl (Nat.le_of_ble_eq_true rfl) (Nat.le_of_ble_eq_true rfl) rfl (fun x58 h58 g58 hp58 hw58 => ?_)
  obtain ⟨rfl, rfl⟩ := hp58
  obtain rfl := Option.some.inj hw58
  refine A_h (VW 0 K k m (pN tn) (pF tn tr 10)) rfl ?_
  refine A_iret hE dX7_speak_61 ⟨rfl, rfl⟩
set_option maxRecDepth 100000 in
theorem c_wo_cu_5 (K : Nat) (k m x : Int32) (tn : Nat) (tr : Nat → Int32) (dep : Nat) (hK : K < 7) (htn : tn ≤ 30) : AMet yX7_workOut cX7_workOut 5 (some (.int)) 1 0 0 [.ref 0, .int 10, .int 0, .int x, .int (nI dep)] (VW 0 K k m tn tr) (pI fun r h => r = cuV k 5 x ∧ h = VW 0 K k m tn tr) := by
  refine AMet.of (by decide +kernel) rfl (fun E ad0 hE => ?_)
  refine A_iload_n hE 1 dX7_workOut_0 rfl rfl ?_
  refine A_lookup hE 116 dX7_workOut_1 (by decide) (off := 115) (by decide) rfl ?_
  refine A_iload_n hE 117 dX7_workOut_116 rfl rfl ?_
  refine A_aload_n hE 118 dX7_workOut_117 rfl rfl ?_
  refine A_get hE 121 dX7_workOut_118 rfl fkX7_28 rfl rfl ?_
  refine A_iadd hE 122 dX7_workOut_121 rfl ?_
  refine A_iret hE dX7_workOut_122 ⟨rfl, rfl⟩
set_option maxRecDepth 100000 in
theorem c_cu_5 (K : Nat) (k m x : Int32) (tn : Nat) (tr : Nat → Int32) (dep : Nat) (hK : K < 7) (htn : tn ≤ 30) (hd : dep + 0 ≤ 10) : AMet yX7_speak cX7_speak 7 (some (.int)) 2 0 0 [.ref 0, .int 0, .int 5, .int x, .int (nI dep)] (VW 0 K k m tn tr) (pI fun r h => r = cuV k 5 x ∧ h = VW 0 K k m (apN (cuT 5) tn) (apF (cuT 5) tn tr)) := by
  refine AMet.of (by decide +kernel) rfl (fun E ad0 hE => ?_)
  refine A_aload_n hE 1 dX7_speak_0 rfl rfl ?_
  refine A_get hE 4 dX7_speak_1 rfl fkX7_20 rfl rfl ?_
  refine A_if_ne hE 7 14 dX7_speak_4 rfl rfl (fun c4 => absurd rfl c4) (fun c4 => ?_)
  refine A_iload hE 9 dX7_speak_7 rfl rfl ?_
  refine A_bipush hE 11 dX7_speak_9 rfl (10) (by decide) ?_
  refine A_icmp_le hE 14 16 dX7_speak_11 rfl rfl (fun c11 => ?_) (fun c11 => absurd (nI_le (b := 10) (show dep ≤ 10 by omega) (by omega)) c11)
  refine A_iload_n hE 17 dX7_speak_16 rfl rfl ?_
  refine A_iload_n hE 18 dX7_speak_17 rfl rfl ?_
  refine A_callSi hE 21 (c_own_0_5) [] dX7_speak_18 rfl mkX7_50 rfl rfl rfl rfl rfl rfl (Nat.le_of_ble_eq_true rfl) (Nat.le_of_ble_eq_true rfl) rfl (fun x18 h18 g18 hp18 hw18 => ?_)
  obtain ⟨rfl, rfl⟩ := hp18
  obtain rfl := Option.some.inj hw18
  refine A_istore hE 23 dX7_speak_21 rfl rfl rfl ?_
  refine A_gsBodies hE 26 dX7_speak_23 rfl flBod ?_
  refine A_iconst hE 27 dX7_speak_26 rfl (4) rfl ?_
  refine A_iload hE 29 dX7_speak_27 rfl rfl ?_
  refine A_imul hE 30 dX7_speak_29 rfl ?_
  refine A_iload_n hE 31 dX7_speak_30 rfl rfl ?_
  refine A_iadd hE 32 dX7_speak_31 rfl ?_
  refine A_tabB hE 33 0 dX7_speak_32 rfl (by decide) (by decide) (10) (by decide) ?_
  refine A_istore hE 35 dX7_speak_33 rfl rfl rfl ?_
  refine A_aload_n hE 36 dX7_speak_35 rfl rfl ?_
  refine A_get hE 39 dX7_speak_36 rfl fkX7_14 rfl rfl ?_
  refine A_iload hE 41 dX7_speak_39 rfl rfl ?_
  refine A_callVv hE 44 (c_X3_add 30 tr tn 10 htn rfl) [1, 2] dX7_speak_41 rfl mkX7_57 rfl rfl rfl rfl rfl rfl rfl (Nat.le_of_ble_eq_true rfl) (Nat.le_of_ble_eq_true rfl) rfl (fun h41 g41 hp41 hw41 => ?_)
  obtain rfl := hp41
  obtain rfl := Option.some.inj hw41
  refine A_h (VW 0 K k m (pN tn) (pF tn tr 10)) rfl ?_
  refine A_aload_n hE 45 dX7_speak_44 rfl rfl ?_
  refine A_iload hE 47 dX7_speak_45 rfl rfl ?_
  refine A_gsAboveN hE 50 dX7_speak_47 rfl ?_
  refine A_iload hE 52 dX7_speak_50 rfl rfl ?_
  refine A_tabA hE 53 0 dX7_speak_52 rfl (by decide) (by decide) (0) (by decide) ?_
  refine A_iload_n hE 54 dX7_speak_53 rfl rfl ?_
  refine A_iload hE 56 dX7_speak_54 rfl rfl ?_
  refine A_iconst hE 57 dX7_speak_56 rfl (1) rfl ?_
  refine A_iadd hE 58 dX7_speak_57 rfl ?_
  rw [nI_1]
  refine A_callVi hE 61 (c_wo_cu_5 K k m x (pN tn) (pF tn tr 10) (dep + 1) hK (pN_le htn)) [0, 1, 2] dX7_speak_58 rfl mkX7_63 rfl rfl rfl rfl rfl rfl rfl (Nat.le_of_ble_eq_true rfl) (Nat.le_of_ble_eq_true rfl) rfl (fun x58 h58 g58 hp58 hw58 => ?_)
  obtain ⟨rfl, rfl⟩ := hp58
  obtain rfl := Option.some.inj hw58
  refine A_h (VW 0 K k m (pN tn) (pF tn tr 10)) rfl ?_
  refine A_iret hE dX7_speak_61 ⟨rfl, rfl⟩
set_option maxRecDepth 100000 in
theorem c_wo_cu_6 (K : Nat) (k m x : Int32) (tn : Nat) (tr : Nat → Int32) (dep : Nat) (hK : K < 7) (htn : tn ≤ 30) : AMet yX7_workOut cX7_workOut 5 (some (.int)) 1 0 0 [.ref 0, .int 70, .int 0, .int x, .int (nI dep)] (VW 0 K k m tn tr) (pI fun r h => r = cuV k 6 x ∧ h = VW 0 K k m tn tr) := by
  refine AMet.of (by decide +kernel) rfl (fun E ad0 hE => ?_)
  refine A_iload_n hE 1 dX7_workOut_0 rfl rfl ?_
  refine A_lookup hE 260 dX7_workOut_1 (by decide) (off := 259) (by decide) rfl ?_
  refine A_bipush hE 262 dX7_workOut_260 rfl (9) (by decide) ?_
  refine A_iret hE dX7_workOut_262 ⟨rfl, rfl⟩
set_option maxRecDepth 100000 in
theorem c_cu_6 (K : Nat) (k m x : Int32) (tn : Nat) (tr : Nat → Int32) (dep : Nat) (hK : K < 7) (htn : tn ≤ 30) (hd : dep + 0 ≤ 10) : AMet yX7_speak cX7_speak 7 (some (.int)) 2 0 0 [.ref 0, .int 0, .int 6, .int x, .int (nI dep)] (VW 0 K k m tn tr) (pI fun r h => r = cuV k 6 x ∧ h = VW 0 K k m (apN (cuT 6) tn) (apF (cuT 6) tn tr)) := by
  refine AMet.of (by decide +kernel) rfl (fun E ad0 hE => ?_)
  refine A_aload_n hE 1 dX7_speak_0 rfl rfl ?_
  refine A_get hE 4 dX7_speak_1 rfl fkX7_20 rfl rfl ?_
  refine A_if_ne hE 7 14 dX7_speak_4 rfl rfl (fun c4 => absurd rfl c4) (fun c4 => ?_)
  refine A_iload hE 9 dX7_speak_7 rfl rfl ?_
  refine A_bipush hE 11 dX7_speak_9 rfl (10) (by decide) ?_
  refine A_icmp_le hE 14 16 dX7_speak_11 rfl rfl (fun c11 => ?_) (fun c11 => absurd (nI_le (b := 10) (show dep ≤ 10 by omega) (by omega)) c11)
  refine A_iload_n hE 17 dX7_speak_16 rfl rfl ?_
  refine A_iload_n hE 18 dX7_speak_17 rfl rfl ?_
  refine A_callSi hE 21 (c_own_0_6) [] dX7_speak_18 rfl mkX7_50 rfl rfl rfl rfl rfl rfl (Nat.le_of_ble_eq_true rfl) (Nat.le_of_ble_eq_true rfl) rfl (fun x18 h18 g18 hp18 hw18 => ?_)
  obtain ⟨rfl, rfl⟩ := hp18
  obtain rfl := Option.some.inj hw18
  refine A_istore hE 23 dX7_speak_21 rfl rfl rfl ?_
  refine A_gsBodies hE 26 dX7_speak_23 rfl flBod ?_
  refine A_iconst hE 27 dX7_speak_26 rfl (4) rfl ?_
  refine A_iload hE 29 dX7_speak_27 rfl rfl ?_
  refine A_imul hE 30 dX7_speak_29 rfl ?_
  refine A_iload_n hE 31 dX7_speak_30 rfl rfl ?_
  refine A_iadd hE 32 dX7_speak_31 rfl ?_
  refine A_tabB hE 33 24 dX7_speak_32 rfl (by decide) (by decide) (70) (by decide) ?_
  refine A_istore hE 35 dX7_speak_33 rfl rfl rfl ?_
  refine A_aload_n hE 36 dX7_speak_35 rfl rfl ?_
  refine A_get hE 39 dX7_speak_36 rfl fkX7_14 rfl rfl ?_
  refine A_iload hE 41 dX7_speak_39 rfl rfl ?_
  refine A_callVv hE 44 (c_X3_add 30 tr tn 70 htn rfl) [1, 2] dX7_speak_41 rfl mkX7_57 rfl rfl rfl rfl rfl rfl rfl (Nat.le_of_ble_eq_true rfl) (Nat.le_of_ble_eq_true rfl) rfl (fun h41 g41 hp41 hw41 => ?_)
  obtain rfl := hp41
  obtain rfl := Option.some.inj hw41
  refine A_h (VW 0 K k m (pN tn) (pF tn tr 70)) rfl ?_
  refine A_aload_n hE 45 dX7_speak_44 rfl rfl ?_
  refine A_iload hE 47 dX7_speak_45 rfl rfl ?_
  refine A_gsAboveN hE 50 dX7_speak_47 rfl ?_
  refine A_iload hE 52 dX7_speak_50 rfl rfl ?_
  refine A_tabA hE 53 6 dX7_speak_52 rfl (by decide) (by decide) (0) (by decide) ?_
  refine A_iload_n hE 54 dX7_speak_53 rfl rfl ?_
  refine A_iload hE 56 dX7_speak_54 rfl rfl ?_
  refine A_iconst hE 57 dX7_speak_56 rfl (1) rfl ?_
  refine A_iadd hE 58 dX7_speak_57 rfl ?_
  rw [nI_1]
  refine A_callVi hE 61 (c_wo_cu_6 K k m x (pN tn) (pF tn tr 70) (dep + 1) hK (pN_le htn)) [0, 1, 2] dX7_speak_58 rfl mkX7_63 rfl rfl rfl rfl rfl rfl rfl (Nat.le_of_ble_eq_true rfl) (Nat.le_of_ble_eq_true rfl) rfl (fun x58 h58 g58 hp58 hw58 => ?_)
  obtain ⟨rfl, rfl⟩ := hp58
  obtain rfl := Option.some.inj hw58
  refine A_h (VW 0 K k m (pN tn) (pF tn tr 70)) rfl ?_
  refine A_iret hE dX7_speak_61 ⟨rfl, rfl⟩
set_option maxRecDepth 100000 in
theorem c_wo_cu_1 (K : Nat) (k m x : Int32) (tn : Nat) (tr : Nat → Int32) (dep : Nat) (hK : K < 7) (htn : tn ≤ 30) (hd : dep + 0 ≤ 10) : AMet yX7_workOut cX7_workOut 5 (some (.int)) 3 0 0 [.ref 0, .int 20, .int 0, .int x, .int (nI dep)] (VW 0 K k m tn tr) (pI fun r h => r = cuV k 1 x ∧ h = VW 0 K k m (apN (cuT 0) tn) (apF (cuT 0) tn tr)) := by
  refine AMet.of (by decide +kernel) rfl (fun E ad0 hE => ?_)
  refine A_iload_n hE 1 dX7_workOut_0 rfl rfl ?_
  refine A_lookup hE 162 dX7_workOut_1 (by decide) (off := 161) (by decide) rfl ?_
  refine A_aload_n hE 163 dX7_workOut_162 rfl rfl ?_
  refine A_iconst hE 164 dX7_workOut_163 rfl (0) rfl ?_
  refine A_iload_n hE 165 dX7_workOut_164 rfl rfl ?_
  refine A_iload_n hE 166 dX7_workOut_165 rfl rfl ?_
  refine A_iload hE 168 dX7_workOut_166 rfl rfl ?_
  refine A_callVi hE 171 (c_cu_0 K k m x tn tr dep hK htn (by omega)) [0, 1, 2] dX7_workOut_168 rfl mkX7_46 rfl rfl rfl rfl rfl rfl rfl (Nat.le_of_ble_eq_true rfl) (Nat.le_of_ble_eq_true rfl) rfl (fun x168 h168 g168 hp168 hw168 => ?_)
  obtain ⟨rfl, rfl⟩ := hp168
  obtain rfl := Option.some.inj hw168
  refine A_h (VW 0 K k m (apN (cuT 0) tn) (apF (cuT 0) tn tr)) rfl ?_
  refine A_iconst hE 172 dX7_workOut_171 rfl (4) rfl ?_
  refine A_isub hE 173 dX7_workOut_172 rfl ?_
  refine A_iret hE dX7_workOut_173 ⟨rfl, rfl⟩
set_option maxRecDepth 100000 in
theorem c_cu_1 (K : Nat) (k m x : Int32) (tn : Nat) (tr : Nat → Int32) (dep : Nat) (hK : K < 7) (htn : tn ≤ 30) (hd : dep + 1 ≤ 10) : AMet yX7_speak cX7_speak 7 (some (.int)) 4 0 0 [.ref 0, .int 0, .int 1, .int x, .int (nI dep)] (VW 0 K k m tn tr) (pI fun r h => r = cuV k 1 x ∧ h = VW 0 K k m (apN (cuT 1) tn) (apF (cuT 1) tn tr)) := by
  refine AMet.of (by decide +kernel) rfl (fun E ad0 hE => ?_)
  refine A_aload_n hE 1 dX7_speak_0 rfl rfl ?_
  refine A_get hE 4 dX7_speak_1 rfl fkX7_20 rfl rfl ?_
  refine A_if_ne hE 7 14 dX7_speak_4 rfl rfl (fun c4 => absurd rfl c4) (fun c4 => ?_)
  refine A_iload hE 9 dX7_speak_7 rfl rfl ?_
  refine A_bipush hE 11 dX7_speak_9 rfl (10) (by decide) ?_
  refine A_icmp_le hE 14 16 dX7_speak_11 rfl rfl (fun c11 => ?_) (fun c11 => absurd (nI_le (b := 10) (show dep ≤ 10 by omega) (by omega)) c11)
  refine A_iload_n hE 17 dX7_speak_16 rfl rfl ?_
  refine A_iload_n hE 18 dX7_speak_17 rfl rfl ?_
  refine A_callSi hE 21 (c_own_0_1) [] dX7_speak_18 rfl mkX7_50 rfl rfl rfl rfl rfl rfl (Nat.le_of_ble_eq_true rfl) (Nat.le_of_ble_eq_true rfl) rfl (fun x18 h18 g18 hp18 hw18 => ?_)
  obtain ⟨rfl, rfl⟩ := hp18
  obtain rfl := Option.some.inj hw18
  refine A_istore hE 23 dX7_speak_21 rfl rfl rfl ?_
  refine A_gsBodies hE 26 dX7_speak_23 rfl flBod ?_
  refine A_iconst hE 27 dX7_speak_26 rfl (4) rfl ?_
  refine A_iload hE 29 dX7_speak_27 rfl rfl ?_
  refine A_imul hE 30 dX7_speak_29 rfl ?_
  refine A_iload_n hE 31 dX7_speak_30 rfl rfl ?_
  refine A_iadd hE 32 dX7_speak_31 rfl ?_
  refine A_tabB hE 33 4 dX7_speak_32 rfl (by decide) (by decide) (20) (by decide) ?_
  refine A_istore hE 35 dX7_speak_33 rfl rfl rfl ?_
  refine A_aload_n hE 36 dX7_speak_35 rfl rfl ?_
  refine A_get hE 39 dX7_speak_36 rfl fkX7_14 rfl rfl ?_
  refine A_iload hE 41 dX7_speak_39 rfl rfl ?_
  refine A_callVv hE 44 (c_X3_add 30 tr tn 20 htn rfl) [1, 2] dX7_speak_41 rfl mkX7_57 rfl rfl rfl rfl rfl rfl rfl (Nat.le_of_ble_eq_true rfl) (Nat.le_of_ble_eq_true rfl) rfl (fun h41 g41 hp41 hw41 => ?_)
  obtain rfl := hp41
  obtain rfl := Option.some.inj hw41
  refine A_h (VW 0 K k m (pN tn) (pF tn tr 20)) rfl ?_
  refine A_aload_n hE 45 dX7_speak_44 rfl rfl ?_
  refine A_iload hE 47 dX7_speak_45 rfl rfl ?_
  refine A_gsAboveN hE 50 dX7_speak_47 rfl ?_
  refine A_iload hE 52 dX7_speak_50 rfl rfl ?_
  refine A_tabA hE 53 1 dX7_speak_52 rfl (by decide) (by decide) (0) (by decide) ?_
  refine A_iload_n hE 54 dX7_speak_53 rfl rfl ?_
  refine A_iload hE 56 dX7_speak_54 rfl rfl ?_
  refine A_iconst hE 57 dX7_speak_56 rfl (1) rfl ?_
  refine A_iadd hE 58 dX7_speak_57 rfl ?_
  rw [nI_1]
  refine A_callVi hE 61 (c_wo_cu_1 K k m x (pN tn) (pF tn tr 20) (dep + 1) hK (pN_le htn) (by omega)) [0, 1, 2] dX7_speak_58 rfl mkX7_63 rfl rfl rfl rfl rfl rfl rfl (Nat.le_of_ble_eq_true rfl) (Nat.le_of_ble_eq_true rfl) rfl (fun x58 h58 g58 hp58 hw58 => ?_)
  obtain ⟨rfl, rfl⟩ := hp58
  obtain rfl := Option.some.inj hw58
  refine A_h (VW 0 K k m (apN (cuT 0) (pN tn)) (apF (cuT 0) (pN tn) (pF tn tr 20))) rfl ?_
  refine A_iret hE dX7_speak_61 ⟨rfl, rfl⟩
set_option maxRecDepth 100000 in
theorem c_wo_cu_4 (K : Nat) (k m x : Int32) (tn : Nat) (tr : Nat → Int32) (dep : Nat) (hK : K < 7) (htn : tn ≤ 30) (hd : dep + 1 ≤ 10) : AMet yX7_workOut cX7_workOut 5 (some (.int)) 5 0 0 [.ref 0, .int 50, .int 1, .int x, .int (nI dep)] (VW 0 K k m tn tr) (pI fun r h => r = cuV k 4 x ∧ h = VW 0 K k m (apN (cuT 1) tn) (apF (cuT 1) tn tr)) := by
  refine AMet.of (by decide +kernel) rfl (fun E ad0 hE => ?_)
  refine A_iload_n hE 1 dX7_workOut_0 rfl rfl ?_
  refine A_lookup hE 221 dX7_workOut_1 (by decide) (off := 220) (by decide) rfl ?_
  refine A_aload_n hE 222 dX7_workOut_221 rfl rfl ?_
  refine A_iconst hE 223 dX7_workOut_222 rfl (0) rfl ?_
  refine A_iload_n hE 224 dX7_workOut_223 rfl rfl ?_
  refine A_iload_n hE 225 dX7_workOut_224 rfl rfl ?_
  refine A_iload hE 227 dX7_workOut_225 rfl rfl ?_
  refine A_callVi hE 230 (c_cu_1 K k m x tn tr dep hK htn (by omega)) [0, 1, 2] dX7_workOut_227 rfl mkX7_46 rfl rfl rfl rfl rfl rfl rfl (Nat.le_of_ble_eq_true rfl) (Nat.le_of_ble_eq_true rfl) rfl (fun x227 h227 g227 hp227 hw227 => ?_)
  obtain ⟨rfl, rfl⟩ := hp227
  obtain rfl := Option.some.inj hw227
  refine A_h (VW 0 K k m (apN (cuT 1) tn) (apF (cuT 1) tn tr)) rfl ?_
  refine A_iconst hE 231 dX7_workOut_230 rfl (3) rfl ?_
  refine A_imul hE 232 dX7_workOut_231 rfl ?_
  refine A_iret hE dX7_workOut_232 ⟨rfl, rfl⟩
set_option maxRecDepth 100000 in
theorem c_cu_4 (K : Nat) (k m x : Int32) (tn : Nat) (tr : Nat → Int32) (dep : Nat) (hK : K < 7) (htn : tn ≤ 30) (hd : dep + 2 ≤ 10) : AMet yX7_speak cX7_speak 7 (some (.int)) 6 0 0 [.ref 0, .int 0, .int 4, .int x, .int (nI dep)] (VW 0 K k m tn tr) (pI fun r h => r = cuV k 4 x ∧ h = VW 0 K k m (apN (cuT 4) tn) (apF (cuT 4) tn tr)) := by
  refine AMet.of (by decide +kernel) rfl (fun E ad0 hE => ?_)
  refine A_aload_n hE 1 dX7_speak_0 rfl rfl ?_
  refine A_get hE 4 dX7_speak_1 rfl fkX7_20 rfl rfl ?_
  refine A_if_ne hE 7 14 dX7_speak_4 rfl rfl (fun c4 => absurd rfl c4) (fun c4 => ?_)
  refine A_iload hE 9 dX7_speak_7 rfl rfl ?_
  refine A_bipush hE 11 dX7_speak_9 rfl (10) (by decide) ?_
  refine A_icmp_le hE 14 16 dX7_speak_11 rfl rfl (fun c11 => ?_) (fun c11 => absurd (nI_le (b := 10) (show dep ≤ 10 by omega) (by omega)) c11)
  refine A_iload_n hE 17 dX7_speak_16 rfl rfl ?_
  refine A_iload_n hE 18 dX7_speak_17 rfl rfl ?_
  refine A_callSi hE 21 (c_own_0_4) [] dX7_speak_18 rfl mkX7_50 rfl rfl rfl rfl rfl rfl (Nat.le_of_ble_eq_true rfl) (Nat.le_of_ble_eq_true rfl) rfl (fun x18 h18 g18 hp18 hw18 => ?_)
  obtain ⟨rfl, rfl⟩ := hp18
  obtain rfl := Option.some.inj hw18
  refine A_istore hE 23 dX7_speak_21 rfl rfl rfl ?_
  refine A_gsBodies hE 26 dX7_speak_23 rfl flBod ?_
  refine A_iconst hE 27 dX7_speak_26 rfl (4) rfl ?_
  refine A_iload hE 29 dX7_speak_27 rfl rfl ?_
  refine A_imul hE 30 dX7_speak_29 rfl ?_
  refine A_iload_n hE 31 dX7_speak_30 rfl rfl ?_
  refine A_iadd hE 32 dX7_speak_31 rfl ?_
  refine A_tabB hE 33 16 dX7_speak_32 rfl (by decide) (by decide) (50) (by decide) ?_
  refine A_istore hE 35 dX7_speak_33 rfl rfl rfl ?_
  refine A_aload_n hE 36 dX7_speak_35 rfl rfl ?_
  refine A_get hE 39 dX7_speak_36 rfl fkX7_14 rfl rfl ?_
  refine A_iload hE 41 dX7_speak_39 rfl rfl ?_
  refine A_callVv hE 44 (c_X3_add 30 tr tn 50 htn rfl) [1, 2] dX7_speak_41 rfl mkX7_57 rfl rfl rfl rfl rfl rfl rfl (Nat.le_of_ble_eq_true rfl) (Nat.le_of_ble_eq_true rfl) rfl (fun h41 g41 hp41 hw41 => ?_)
  obtain rfl := hp41
  obtain rfl := Option.some.inj hw41
  refine A_h (VW 0 K k m (pN tn) (pF tn tr 50)) rfl ?_
  refine A_aload_n hE 45 dX7_speak_44 rfl rfl ?_
  refine A_iload hE 47 dX7_speak_45 rfl rfl ?_
  refine A_gsAboveN hE 50 dX7_speak_47 rfl ?_
  refine A_iload hE 52 dX7_speak_50 rfl rfl ?_
  refine A_tabA hE 53 4 dX7_speak_52 rfl (by decide) (by decide) (1) (by decide) ?_
  refine A_iload_n hE 54 dX7_speak_53 rfl rfl ?_
  refine A_iload hE 56 dX7_speak_54 rfl rfl ?_
  refine A_iconst hE 57 dX7_speak_56 rfl (1) rfl ?_
  refine A_iadd hE 58 dX7_speak_57 rfl ?_
  rw [nI_1]
  refine A_callVi hE 61 (c_wo_cu_4 K k m x (pN tn) (pF tn tr 50) (dep + 1) hK (pN_le htn) (by omega)) [0, 1, 2] dX7_speak_58 rfl mkX7_63 rfl rfl rfl rfl rfl rfl rfl (Nat.le_of_ble_eq_true rfl) (Nat.le_of_ble_eq_true rfl) rfl (fun x58 h58 g58 hp58 hw58 => ?_)
  obtain ⟨rfl, rfl⟩ := hp58
  obtain rfl := Option.some.inj hw58
  refine A_h (VW 0 K k m (apN (cuT 1) (pN tn)) (apF (cuT 1) (pN tn) (pF tn tr 50))) rfl ?_
  refine A_iret hE dX7_speak_61 ⟨rfl, rfl⟩
theorem c_cu (f : Nat) (K : Nat) (k m x : Int32) (tn : Nat) (tr : Nat → Int32) (dep : Nat) (hf : f < 7) (hK : K < 7) (htn : tn ≤ 30) (hd : dep + 2 ≤ 10) : AMet yX7_speak cX7_speak 7 (some .int) 6 0 0 [.ref 0, .int 0, .int (nI f), .int x, .int (nI dep)] (VW 0 K k m tn tr) (pI fun r h => r = cuV k f x ∧ h = VW 0 K k m (apN (cuT f) tn) (apF (cuT f) tn tr)) := by
  match f, hf with
  | 0, _ => exact (c_cu_0 K k m x tn tr dep hK htn (by omega)).mono rfl
  | 1, _ => exact (c_cu_1 K k m x tn tr dep hK htn (by omega)).mono rfl
  | 2, _ => exact (c_cu_2 K k m x tn tr dep hK htn (by omega)).mono rfl
  | 3, _ => exact (c_cu_3 K k m x tn tr dep hK htn (by omega)).mono rfl
  | 4, _ => exact (c_cu_4 K k m x tn tr dep hK htn (by omega)).mono rfl
  | 5, _ => exact (c_cu_5 K k m x tn tr dep hK htn (by omega)).mono rfl
  | 6, _ => exact (c_cu_6 K k m x tn tr dep hK htn (by omega)).mono rfl
set_option maxRecDepth 100000 in
theorem c_wo_sa_0 (K : Nat) (k m x : Int32) (tn : Nat) (tr : Nat → Int32) (dep : Nat) (hK : K < 7) (htn : tn ≤ 30) (hd : dep + 2 ≤ 10) : AMet yX7_workOut cX7_workOut 5 (some (.int)) 7 0 0 [.ref 0, .int 11, .int 0, .int x, .int (nI dep)] (VW 0 K k m tn tr) (pI fun r h => r = saV k m K 0 x ∧ h = VW 0 K k m (apN (cuT K) tn) (apF (cuT K) tn tr)) := by
  refine AMet.of (by decide +kernel) rfl (fun E ad0 hE => ?_)
  refine A_iload_n hE 1 dX7_workOut_0 rfl rfl ?_
  refine A_lookup hE 123 dX7_workOut_1 (by decide) (off := 122) (by decide) rfl ?_
  refine A_aload_n hE 124 dX7_workOut_123 rfl rfl ?_
  refine A_iconst hE 125 dX7_workOut_124 rfl (0) rfl ?_
  refine A_aload_n hE 126 dX7_workOut_125 rfl rfl ?_
  refine A_get hE 129 dX7_workOut_126 rfl fkX7_24 rfl rfl ?_
  refine A_iload_n hE 130 dX7_workOut_129 rfl rfl ?_
  refine A_iload hE 132 dX7_workOut_130 rfl rfl ?_
  refine A_callVi hE 135 (c_cu K K k m x tn tr dep hK hK htn (by omega)) [0, 1, 2] dX7_workOut_132 rfl mkX7_46 rfl rfl rfl rfl rfl rfl rfl (Nat.le_of_ble_eq_true rfl) (Nat.le_of_ble_eq_true rfl) rfl (fun x132 h132 g132 hp132 hw132 => ?_)
  obtain ⟨rfl, rfl⟩ := hp132
  obtain rfl := Option.some.inj hw132
  refine A_h (VW 0 K k m (apN (cuT K) tn) (apF (cuT K) tn tr)) rfl ?_
  refine A_iconst hE 136 dX7_workOut_135 rfl (2) rfl ?_
  refine A_imul hE 137 dX7_workOut_136 rfl ?_
  refine A_iret hE dX7_workOut_137 ⟨rfl, rfl⟩
set_option maxRecDepth 100000 in
theorem c_sa_0 (K : Nat) (k m x : Int32) (tn : Nat) (tr : Nat → Int32) (dep : Nat) (hK : K < 7) (htn : tn ≤ 30) (hd : dep + 3 ≤ 10) : AMet yX7_speak cX7_speak 7 (some (.int)) 8 0 0 [.ref 0, .int 1, .int 0, .int x, .int (nI dep)] (VW 0 K k m tn tr) (pI fun r h => r = saV k m K 0 x ∧ h = VW 0 K k m (apN (saT K 0) tn) (apF (saT K 0) tn tr)) := by
  refine AMet.of (by decide +kernel) rfl (fun E ad0 hE => ?_)
  refine A_aload_n hE 1 dX7_speak_0 rfl rfl ?_
  refine A_get hE 4 dX7_speak_1 rfl fkX7_20 rfl rfl ?_
  refine A_if_ne hE 7 14 dX7_speak_4 rfl rfl (fun c4 => absurd rfl c4) (fun c4 => ?_)
  refine A_iload hE 9 dX7_speak_7 rfl rfl ?_
  refine A_bipush hE 11 dX7_speak_9 rfl (10) (by decide) ?_
  refine A_icmp_le hE 14 16 dX7_speak_11 rfl rfl (fun c11 => ?_) (fun c11 => absurd (nI_le (b := 10) (show dep ≤ 10 by omega) (by omega)) c11)
  refine A_iload_n hE 17 dX7_speak_16 rfl rfl ?_
  refine A_iload_n hE 18 dX7_speak_17 rfl rfl ?_
  refine A_callSi hE 21 (c_own_1_0) [] dX7_speak_18 rfl mkX7_50 rfl rfl rfl rfl rfl rfl (Nat.le_of_ble_eq_true rfl) (Nat.le_of_ble_eq_true rfl) rfl (fun x18 h18 g18 hp18 hw18 => ?_)
  obtain ⟨rfl, rfl⟩ := hp18
  obtain rfl := Option.some.inj hw18
  refine A_istore hE 23 dX7_speak_21 rfl rfl rfl ?_
  refine A_gsBodies hE 26 dX7_speak_23 rfl flBod ?_
  refine A_iconst hE 27 dX7_speak_26 rfl (4) rfl ?_
  refine A_iload hE 29 dX7_speak_27 rfl rfl ?_
  refine A_imul hE 30 dX7_speak_29 rfl ?_
  refine A_iload_n hE 31 dX7_speak_30 rfl rfl ?_
  refine A_iadd hE 32 dX7_speak_31 rfl ?_
  refine A_tabB hE 33 1 dX7_speak_32 rfl (by decide) (by decide) (11) (by decide) ?_
  refine A_istore hE 35 dX7_speak_33 rfl rfl rfl ?_
  refine A_aload_n hE 36 dX7_speak_35 rfl rfl ?_
  refine A_get hE 39 dX7_speak_36 rfl fkX7_14 rfl rfl ?_
  refine A_iload hE 41 dX7_speak_39 rfl rfl ?_
  refine A_callVv hE 44 (c_X3_add 30 tr tn 11 htn rfl) [1, 2] dX7_speak_41 rfl mkX7_57 rfl rfl rfl rfl rfl rfl rfl (Nat.le_of_ble_eq_true rfl) (Nat.le_of_ble_eq_true rfl) rfl (fun h41 g41 hp41 hw41 => ?_)
  obtain rfl := hp41
  obtain rfl := Option.some.inj hw41
  refine A_h (VW 0 K k m (pN tn) (pF tn tr 11)) rfl ?_
  refine A_aload_n hE 45 dX7_speak_44 rfl rfl ?_
  refine A_iload hE 47 dX7_speak_45 rfl rfl ?_
  refine A_gsAboveN hE 50 dX7_speak_47 rfl ?_
  refine A_iload hE 52 dX7_speak_50 rfl rfl ?_
  refine A_tabA hE 53 0 dX7_speak_52 rfl (by decide) (by decide) (0) (by decide) ?_
  refine A_iload_n hE 54 dX7_speak_53 rfl rfl ?_
  refine A_iload hE 56 dX7_speak_54 rfl rfl ?_
  refine A_iconst hE 57 dX7_speak_56 rfl (1) rfl ?_
  refine A_iadd hE 58 dX7_speak_57 rfl ?_
  rw [nI_1]
  refine A_callVi hE 61 (c_wo_sa_0 K k m x (pN tn) (pF tn tr 11) (dep + 1) hK (pN_le htn) (by omega)) [0, 1, 2] dX7_speak_58 rfl mkX7_63 rfl rfl rfl rfl rfl rfl rfl (Nat.le_of_ble_eq_true rfl) (Nat.le_of_ble_eq_true rfl) rfl (fun x58 h58 g58 hp58 hw58 => ?_)
  obtain ⟨rfl, rfl⟩ := hp58
  obtain rfl := Option.some.inj hw58
  refine A_h (VW 0 K k m (apN (cuT K) (pN tn)) (apF (cuT K) (pN tn) (pF tn tr 11))) rfl ?_
  refine A_iret hE dX7_speak_61 ⟨rfl, rfl⟩
set_option maxRecDepth 100000 in
theorem c_wo_sa_1 (K : Nat) (k m x : Int32) (tn : Nat) (tr : Nat → Int32) (dep : Nat) (hK : K < 7) (htn : tn ≤ 30) (hd : dep + 2 ≤ 10) : AMet yX7_workOut cX7_workOut 5 (some (.int)) 7 0 0 [.ref 0, .int 11, .int 0, .int x, .int (nI dep)] (VW 0 K k m tn tr) (pI fun r h => r = saV k m K 1 x ∧ h = VW 0 K k m (apN (cuT K) tn) (apF (cuT K) tn tr)) := by
  refine AMet.of (by decide +kernel) rfl (fun E ad0 hE => ?_)
  refine A_iload_n hE 1 dX7_workOut_0 rfl rfl ?_
  refine A_lookup hE 123 dX7_workOut_1 (by decide) (off := 122) (by decide) rfl ?_
  refine A_aload_n hE 124 dX7_workOut_123 rfl rfl ?_
  refine A_iconst hE 125 dX7_workOut_124 rfl (0) rfl ?_
  refine A_aload_n hE 126 dX7_workOut_125 rfl rfl ?_
  refine A_get hE 129 dX7_workOut_126 rfl fkX7_24 rfl rfl ?_
  refine A_iload_n hE 130 dX7_workOut_129 rfl rfl ?_
  refine A_iload hE 132 dX7_workOut_130 rfl rfl ?_
  refine A_callVi hE 135 (c_cu K K k m x tn tr dep hK hK htn (by omega)) [0, 1, 2] dX7_workOut_132 rfl mkX7_46 rfl rfl rfl rfl rfl rfl rfl (Nat.le_of_ble_eq_true rfl) (Nat.le_of_ble_eq_true rfl) rfl (fun x132 h132 g132 hp132 hw132 => ?_)
  obtain ⟨rfl, rfl⟩ := hp132
  obtain rfl := Option.some.inj hw132
  refine A_h (VW 0 K k m (apN (cuT K) tn) (apF (cuT K) tn tr)) rfl ?_
  refine A_iconst hE 136 dX7_workOut_135 rfl (2) rfl ?_
  refine A_imul hE 137 dX7_workOut_136 rfl ?_
  refine A_iret hE dX7_workOut_137 ⟨rfl, rfl⟩
set_option maxRecDepth 100000 in
theorem c_sa_1 (K : Nat) (k m x : Int32) (tn : Nat) (tr : Nat → Int32) (dep : Nat) (hK : K < 7) (htn : tn ≤ 30) (hd : dep + 3 ≤ 10) : AMet yX7_speak cX7_speak 7 (some (.int)) 8 0 0 [.ref 0, .int 1, .int 1, .int x, .int (nI dep)] (VW 0 K k m tn tr) (pI fun r h => r = saV k m K 1 x ∧ h = VW 0 K k m (apN (saT K 1) tn) (apF (saT K 1) tn tr)) := by
  refine AMet.of (by decide +kernel) rfl (fun E ad0 hE => ?_)
  refine A_aload_n hE 1 dX7_speak_0 rfl rfl ?_
  refine A_get hE 4 dX7_speak_1 rfl fkX7_20 rfl rfl ?_
  refine A_if_ne hE 7 14 dX7_speak_4 rfl rfl (fun c4 => absurd rfl c4) (fun c4 => ?_)
  refine A_iload hE 9 dX7_speak_7 rfl rfl ?_
  refine A_bipush hE 11 dX7_speak_9 rfl (10) (by decide) ?_
  refine A_icmp_le hE 14 16 dX7_speak_11 rfl rfl (fun c11 => ?_) (fun c11 => absurd (nI_le (b := 10) (show dep ≤ 10 by omega) (by omega)) c11)
  refine A_iload_n hE 17 dX7_speak_16 rfl rfl ?_
  refine A_iload_n hE 18 dX7_speak_17 rfl rfl ?_
  refine A_callSi hE 21 (c_own_1_1) [] dX7_speak_18 rfl mkX7_50 rfl rfl rfl rfl rfl rfl (Nat.le_of_ble_eq_true rfl) (Nat.le_of_ble_eq_true rfl) rfl (fun x18 h18 g18 hp18 hw18 => ?_)
  obtain ⟨rfl, rfl⟩ := hp18
  obtain rfl := Option.some.inj hw18
  refine A_istore hE 23 dX7_speak_21 rfl rfl rfl ?_
  refine A_gsBodies hE 26 dX7_speak_23 rfl flBod ?_
  refine A_iconst hE 27 dX7_speak_26 rfl (4) rfl ?_
  refine A_iload hE 29 dX7_speak_27 rfl rfl ?_
  refine A_imul hE 30 dX7_speak_29 rfl ?_
  refine A_iload_n hE 31 dX7_speak_30 rfl rfl ?_
  refine A_iadd hE 32 dX7_speak_31 rfl ?_
  refine A_tabB hE 33 1 dX7_speak_32 rfl (by decide) (by decide) (11) (by decide) ?_
  refine A_istore hE 35 dX7_speak_33 rfl rfl rfl ?_
  refine A_aload_n hE 36 dX7_speak_35 rfl rfl ?_
  refine A_get hE 39 dX7_speak_36 rfl fkX7_14 rfl rfl ?_
  refine A_iload hE 41 dX7_speak_39 rfl rfl ?_
  refine A_callVv hE 44 (c_X3_add 30 tr tn 11 htn rfl) [1, 2] dX7_speak_41 rfl mkX7_57 rfl rfl rfl rfl rfl rfl rfl (Nat.le_of_ble_eq_true rfl) (Nat.le_of_ble_eq_true rfl) rfl (fun h41 g41 hp41 hw41 => ?_)
  obtain rfl := hp41
  obtain rfl := Option.some.inj hw41
  refine A_h (VW 0 K k m (pN tn) (pF tn tr 11)) rfl ?_
  refine A_aload_n hE 45 dX7_speak_44 rfl rfl ?_
  refine A_iload hE 47 dX7_speak_45 rfl rfl ?_
  refine A_gsAboveN hE 50 dX7_speak_47 rfl ?_
  refine A_iload hE 52 dX7_speak_50 rfl rfl ?_
  refine A_tabA hE 53 0 dX7_speak_52 rfl (by decide) (by decide) (0) (by decide) ?_
  refine A_iload_n hE 54 dX7_speak_53 rfl rfl ?_
  refine A_iload hE 56 dX7_speak_54 rfl rfl ?_
  refine A_iconst hE 57 dX7_speak_56 rfl (1) rfl ?_
  refine A_iadd hE 58 dX7_speak_57 rfl ?_
  rw [nI_1]
  refine A_callVi hE 61 (c_wo_sa_1 K k m x (pN tn) (pF tn tr 11) (dep + 1) hK (pN_le htn) (by omega)) [0, 1, 2] dX7_speak_58 rfl mkX7_63 rfl rfl rfl rfl rfl rfl rfl (Nat.le_of_ble_eq_true rfl) (Nat.le_of_ble_eq_true rfl) rfl (fun x58 h58 g58 hp58 hw58 => ?_)
  obtain ⟨rfl, rfl⟩ := hp58
  obtain rfl := Option.some.inj hw58
  refine A_h (VW 0 K k m (apN (cuT K) (pN tn)) (apF (cuT K) (pN tn) (pF tn tr 11))) rfl ?_
  refine A_iret hE dX7_speak_61 ⟨rfl, rfl⟩
set_option maxRecDepth 100000 in
theorem c_wo_sa_3 (K : Nat) (k m x : Int32) (tn : Nat) (tr : Nat → Int32) (dep : Nat) (hK : K < 7) (htn : tn ≤ 30) (hd : dep + 2 ≤ 10) : AMet yX7_workOut cX7_workOut 5 (some (.int)) 7 0 0 [.ref 0, .int 11, .int 0, .int x, .int (nI dep)] (VW 0 K k m tn tr) (pI fun r h => r = saV k m K 3 x ∧ h = VW 0 K k m (apN (cuT K) tn) (apF (cuT K) tn tr)) := by
  refine AMet.of (by decide +kernel) rfl (fun E ad0 hE => ?_)
  refine A_iload_n hE 1 dX7_workOut_0 rfl rfl ?_
  refine A_lookup hE 123 dX7_workOut_1 (by decide) (off := 122) (by decide) rfl ?_
  refine A_aload_n hE 124 dX7_workOut_123 rfl rfl ?_
  refine A_iconst hE 125 dX7_workOut_124 rfl (0) rfl ?_
  refine A_aload_n hE 126 dX7_workOut_125 rfl rfl ?_
  refine A_get hE 129 dX7_workOut_126 rfl fkX7_24 rfl rfl ?_
  refine A_iload_n hE 130 dX7_workOut_129 rfl rfl ?_
  refine A_iload hE 132 dX7_workOut_130 rfl rfl ?_
  refine A_callVi hE 135 (c_cu K K k m x tn tr dep hK hK htn (by omega)) [0, 1, 2] dX7_workOut_132 rfl mkX7_46 rfl rfl rfl rfl rfl rfl rfl (Nat.le_of_ble_eq_true rfl) (Nat.le_of_ble_eq_true rfl) rfl (fun x132 h132 g132 hp132 hw132 => ?_)
  obtain ⟨rfl, rfl⟩ := hp132
  obtain rfl := Option.some.inj hw132
  refine A_h (VW 0 K k m (apN (cuT K) tn) (apF (cuT K) tn tr)) rfl ?_
  refine A_iconst hE 136 dX7_workOut_135 rfl (2) rfl ?_
  refine A_imul hE 137 dX7_workOut_136 rfl ?_
  refine A_iret hE dX7_workOut_137 ⟨rfl, rfl⟩
set_option maxRecDepth 100000 in
theorem c_sa_3 (K : Nat) (k m x : Int32) (tn : Nat) (tr : Nat → Int32) (dep : Nat) (hK : K < 7) (htn : tn ≤ 30) (hd : dep + 3 ≤ 10) : AMet yX7_speak cX7_speak 7 (some (.int)) 8 0 0 [.ref 0, .int 1, .int 3, .int x, .int (nI dep)] (VW 0 K k m tn tr) (pI fun r h => r = saV k m K 3 x ∧ h = VW 0 K k m (apN (saT K 3) tn) (apF (saT K 3) tn tr)) := by
  refine AMet.of (by decide +kernel) rfl (fun E ad0 hE => ?_)
  refine A_aload_n hE 1 dX7_speak_0 rfl rfl ?_
  refine A_get hE 4 dX7_speak_1 rfl fkX7_20 rfl rfl ?_
  refine A_if_ne hE 7 14 dX7_speak_4 rfl rfl (fun c4 => absurd rfl c4) (fun c4 => ?_)
  refine A_iload hE 9 dX7_speak_7 rfl rfl ?_
  refine A_bipush hE 11 dX7_speak_9 rfl (10) (by decide) ?_
  refine A_icmp_le hE 14 16 dX7_speak_11 rfl rfl (fun c11 => ?_) (fun c11 => absurd (nI_le (b := 10) (show dep ≤ 10 by omega) (by omega)) c11)
  refine A_iload_n hE 17 dX7_speak_16 rfl rfl ?_
  refine A_iload_n hE 18 dX7_speak_17 rfl rfl ?_
  refine A_callSi hE 21 (c_own_1_3) [] dX7_speak_18 rfl mkX7_50 rfl rfl rfl rfl rfl rfl (Nat.le_of_ble_eq_true rfl) (Nat.le_of_ble_eq_true rfl) rfl (fun x18 h18 g18 hp18 hw18 => ?_)
  obtain ⟨rfl, rfl⟩ := hp18
  obtain rfl := Option.some.inj hw18
  refine A_istore hE 23 dX7_speak_21 rfl rfl rfl ?_
  refine A_gsBodies hE 26 dX7_speak_23 rfl flBod ?_
  refine A_iconst hE 27 dX7_speak_26 rfl (4) rfl ?_
  refine A_iload hE 29 dX7_speak_27 rfl rfl ?_
  refine A_imul hE 30 dX7_speak_29 rfl ?_
  refine A_iload_n hE 31 dX7_speak_30 rfl rfl ?_
  refine A_iadd hE 32 dX7_speak_31 rfl ?_
  refine A_tabB hE 33 1 dX7_speak_32 rfl (by decide) (by decide) (11) (by decide) ?_
  refine A_istore hE 35 dX7_speak_33 rfl rfl rfl ?_
  refine A_aload_n hE 36 dX7_speak_35 rfl rfl ?_
  refine A_get hE 39 dX7_speak_36 rfl fkX7_14 rfl rfl ?_
  refine A_iload hE 41 dX7_speak_39 rfl rfl ?_
  refine A_callVv hE 44 (c_X3_add 30 tr tn 11 htn rfl) [1, 2] dX7_speak_41 rfl mkX7_57 rfl rfl rfl rfl rfl rfl rfl (Nat.le_of_ble_eq_true rfl) (Nat.le_of_ble_eq_true rfl) rfl (fun h41 g41 hp41 hw41 => ?_)
  obtain rfl := hp41
  obtain rfl := Option.some.inj hw41
  refine A_h (VW 0 K k m (pN tn) (pF tn tr 11)) rfl ?_
  refine A_aload_n hE 45 dX7_speak_44 rfl rfl ?_
  refine A_iload hE 47 dX7_speak_45 rfl rfl ?_
  refine A_gsAboveN hE 50 dX7_speak_47 rfl ?_
  refine A_iload hE 52 dX7_speak_50 rfl rfl ?_
  refine A_tabA hE 53 0 dX7_speak_52 rfl (by decide) (by decide) (0) (by decide) ?_
  refine A_iload_n hE 54 dX7_speak_53 rfl rfl ?_
  refine A_iload hE 56 dX7_speak_54 rfl rfl ?_
  refine A_iconst hE 57 dX7_speak_56 rfl (1) rfl ?_
  refine A_iadd hE 58 dX7_speak_57 rfl ?_
  rw [nI_1]
  refine A_callVi hE 61 (c_wo_sa_3 K k m x (pN tn) (pF tn tr 11) (dep + 1) hK (pN_le htn) (by omega)) [0, 1, 2] dX7_speak_58 rfl mkX7_63 rfl rfl rfl rfl rfl rfl rfl (Nat.le_of_ble_eq_true rfl) (Nat.le_of_ble_eq_true rfl) rfl (fun x58 h58 g58 hp58 hw58 => ?_)
  obtain ⟨rfl, rfl⟩ := hp58
  obtain rfl := Option.some.inj hw58
  refine A_h (VW 0 K k m (apN (cuT K) (pN tn)) (apF (cuT K) (pN tn) (pF tn tr 11))) rfl ?_
  refine A_iret hE dX7_speak_61 ⟨rfl, rfl⟩
set_option maxRecDepth 100000 in
theorem c_wo_sa_4 (K : Nat) (k m x : Int32) (tn : Nat) (tr : Nat → Int32) (dep : Nat) (hK : K < 7) (htn : tn ≤ 30) (hd : dep + 2 ≤ 10) : AMet yX7_workOut cX7_workOut 5 (some (.int)) 7 0 0 [.ref 0, .int 11, .int 0, .int x, .int (nI dep)] (VW 0 K k m tn tr) (pI fun r h => r = saV k m K 4 x ∧ h = VW 0 K k m (apN (cuT K) tn) (apF (cuT K) tn tr)) := by
  refine AMet.of (by decide +kernel) rfl (fun E ad0 hE => ?_)
  refine A_iload_n hE 1 dX7_workOut_0 rfl rfl ?_
  refine A_lookup hE 123 dX7_workOut_1 (by decide) (off := 122) (by decide) rfl ?_
  refine A_aload_n hE 124 dX7_workOut_123 rfl rfl ?_
  refine A_iconst hE 125 dX7_workOut_124 rfl (0) rfl ?_
  refine A_aload_n hE 126 dX7_workOut_125 rfl rfl ?_
  refine A_get hE 129 dX7_workOut_126 rfl fkX7_24 rfl rfl ?_
  refine A_iload_n hE 130 dX7_workOut_129 rfl rfl ?_
  refine A_iload hE 132 dX7_workOut_130 rfl rfl ?_
  refine A_callVi hE 135 (c_cu K K k m x tn tr dep hK hK htn (by omega)) [0, 1, 2] dX7_workOut_132 rfl mkX7_46 rfl rfl rfl rfl rfl rfl rfl (Nat.le_of_ble_eq_true rfl) (Nat.le_of_ble_eq_true rfl) rfl (fun x132 h132 g132 hp132 hw132 => ?_)
  obtain ⟨rfl, rfl⟩ := hp132
  obtain rfl := Option.some.inj hw132
  refine A_h (VW 0 K k m (apN (cuT K) tn) (apF (cuT K) tn tr)) rfl ?_
  refine A_iconst hE 136 dX7_workOut_135 rfl (2) rfl ?_
  refine A_imul hE 137 dX7_workOut_136 rfl ?_
  refine A_iret hE dX7_workOut_137 ⟨rfl, rfl⟩
set_option maxRecDepth 100000 in
theorem c_sa_4 (K : Nat) (k m x : Int32) (tn : Nat) (tr : Nat → Int32) (dep : Nat) (hK : K < 7) (htn : tn ≤ 30) (hd : dep + 3 ≤ 10) : AMet yX7_speak cX7_speak 7 (some (.int)) 8 0 0 [.ref 0, .int 1, .int 4, .int x, .int (nI dep)] (VW 0 K k m tn tr) (pI fun r h => r = saV k m K 4 x ∧ h = VW 0 K k m (apN (saT K 4) tn) (apF (saT K 4) tn tr)) := by
  refine AMet.of (by decide +kernel) rfl (fun E ad0 hE => ?_)
  refine A_aload_n hE 1 dX7_speak_0 rfl rfl ?_
  refine A_get hE 4 dX7_speak_1 rfl fkX7_20 rfl rfl ?_
  refine A_if_ne hE 7 14 dX7_speak_4 rfl rfl (fun c4 => absurd rfl c4) (fun c4 => ?_)
  refine A_iload hE 9 dX7_speak_7 rfl rfl ?_
  refine A_bipush hE 11 dX7_speak_9 rfl (10) (by decide) ?_
  refine A_icmp_le hE 14 16 dX7_speak_11 rfl rfl (fun c11 => ?_) (fun c11 => absurd (nI_le (b := 10) (show dep ≤ 10 by omega) (by omega)) c11)
  refine A_iload_n hE 17 dX7_speak_16 rfl rfl ?_
  refine A_iload_n hE 18 dX7_speak_17 rfl rfl ?_
  refine A_callSi hE 21 (c_own_1_4) [] dX7_speak_18 rfl mkX7_50 rfl rfl rfl rfl rfl rfl (Nat.le_of_ble_eq_true rfl) (Nat.le_of_ble_eq_true rfl) rfl (fun x18 h18 g18 hp18 hw18 => ?_)
  obtain ⟨rfl, rfl⟩ := hp18
  obtain rfl := Option.some.inj hw18
  refine A_istore hE 23 dX7_speak_21 rfl rfl rfl ?_
  refine A_gsBodies hE 26 dX7_speak_23 rfl flBod ?_
  refine A_iconst hE 27 dX7_speak_26 rfl (4) rfl ?_
  refine A_iload hE 29 dX7_speak_27 rfl rfl ?_
  refine A_imul hE 30 dX7_speak_29 rfl ?_
  refine A_iload_n hE 31 dX7_speak_30 rfl rfl ?_
  refine A_iadd hE 32 dX7_speak_31 rfl ?_
  refine A_tabB hE 33 1 dX7_speak_32 rfl (by decide) (by decide) (11) (by decide) ?_
  refine A_istore hE 35 dX7_speak_33 rfl rfl rfl ?_
  refine A_aload_n hE 36 dX7_speak_35 rfl rfl ?_
  refine A_get hE 39 dX7_speak_36 rfl fkX7_14 rfl rfl ?_
  refine A_iload hE 41 dX7_speak_39 rfl rfl ?_
  refine A_callVv hE 44 (c_X3_add 30 tr tn 11 htn rfl) [1, 2] dX7_speak_41 rfl mkX7_57 rfl rfl rfl rfl rfl rfl rfl (Nat.le_of_ble_eq_true rfl) (Nat.le_of_ble_eq_true rfl) rfl (fun h41 g41 hp41 hw41 => ?_)
  obtain rfl := hp41
  obtain rfl := Option.some.inj hw41
  refine A_h (VW 0 K k m (pN tn) (pF tn tr 11)) rfl ?_
  refine A_aload_n hE 45 dX7_speak_44 rfl rfl ?_
  refine A_iload hE 47 dX7_speak_45 rfl rfl ?_
  refine A_gsAboveN hE 50 dX7_speak_47 rfl ?_
  refine A_iload hE 52 dX7_speak_50 rfl rfl ?_
  refine A_tabA hE 53 0 dX7_speak_52 rfl (by decide) (by decide) (0) (by decide) ?_
  refine A_iload_n hE 54 dX7_speak_53 rfl rfl ?_
  refine A_iload hE 56 dX7_speak_54 rfl rfl ?_
  refine A_iconst hE 57 dX7_speak_56 rfl (1) rfl ?_
  refine A_iadd hE 58 dX7_speak_57 rfl ?_
  rw [nI_1]
  refine A_callVi hE 61 (c_wo_sa_4 K k m x (pN tn) (pF tn tr 11) (dep + 1) hK (pN_le htn) (by omega)) [0, 1, 2] dX7_speak_58 rfl mkX7_63 rfl rfl rfl rfl rfl rfl rfl (Nat.le_of_ble_eq_true rfl) (Nat.le_of_ble_eq_true rfl) rfl (fun x58 h58 g58 hp58 hw58 => ?_)
  obtain ⟨rfl, rfl⟩ := hp58
  obtain rfl := Option.some.inj hw58
  refine A_h (VW 0 K k m (apN (cuT K) (pN tn)) (apF (cuT K) (pN tn) (pF tn tr 11))) rfl ?_
  refine A_iret hE dX7_speak_61 ⟨rfl, rfl⟩
set_option maxRecDepth 100000 in
theorem c_wo_sa_2 (K : Nat) (k m x : Int32) (tn : Nat) (tr : Nat → Int32) (dep : Nat) (hK : K < 7) (htn : tn ≤ 30) (hd : dep + 3 ≤ 10) : AMet yX7_workOut cX7_workOut 5 (some (.int)) 9 0 0 [.ref 0, .int 30, .int 0, .int x, .int (nI dep)] (VW 0 K k m tn tr) (pI fun r h => r = saV k m K 2 x ∧ h = VW 0 K k m (apN (saT K 0) tn) (apF (saT K 0) tn tr)) := by
  refine AMet.of (by decide +kernel) rfl (fun E ad0 hE => ?_)
  refine A_iload_n hE 1 dX7_workOut_0 rfl rfl ?_
  refine A_lookup hE 197 dX7_workOut_1 (by decide) (off := 196) (by decide) rfl ?_
  refine A_iconst hE 198 dX7_workOut_197 rfl (0) rfl ?_
  refine A_aload_n hE 199 dX7_workOut_198 rfl rfl ?_
  refine A_iconst hE 200 dX7_workOut_199 rfl (1) rfl ?_
  refine A_iload_n hE 201 dX7_workOut_200 rfl rfl ?_
  refine A_iload_n hE 202 dX7_workOut_201 rfl rfl ?_
  refine A_iload hE 204 dX7_workOut_202 rfl rfl ?_
  refine A_callVi hE 207 (c_sa_0 K k m x tn tr dep hK htn (by omega)) [0, 1, 2] dX7_workOut_204 rfl mkX7_46 rfl rfl rfl rfl rfl rfl rfl (Nat.le_of_ble_eq_true rfl) (Nat.le_of_ble_eq_true rfl) rfl (fun x204 h204 g204 hp204 hw204 => ?_)
  obtain ⟨rfl, rfl⟩ := hp204
  obtain rfl := Option.some.inj hw204
  refine A_h (VW 0 K k m (apN (saT K 0) tn) (apF (saT K 0) tn tr)) rfl ?_
  refine A_isub hE 208 dX7_workOut_207 rfl ?_
  refine A_iret hE dX7_workOut_208 ⟨rfl, rfl⟩
set_option maxRecDepth 100000 in
theorem c_sa_2 (K : Nat) (k m x : Int32) (tn : Nat) (tr : Nat → Int32) (dep : Nat) (hK : K < 7) (htn : tn ≤ 30) (hd : dep + 4 ≤ 10) : AMet yX7_speak cX7_speak 7 (some (.int)) 10 0 0 [.ref 0, .int 1, .int 2, .int x, .int (nI dep)] (VW 0 K k m tn tr) (pI fun r h => r = saV k m K 2 x ∧ h = VW 0 K k m (apN (saT K 2) tn) (apF (saT K 2) tn tr)) := by
  refine AMet.of (by decide +kernel) rfl (fun E ad0 hE => ?_)
  refine A_aload_n hE 1 dX7_speak_0 rfl rfl ?_
  refine A_get hE 4 dX7_speak_1 rfl fkX7_20 rfl rfl ?_
  refine A_if_ne hE 7 14 dX7_speak_4 rfl rfl (fun c4 => absurd rfl c4) (fun c4 => ?_)
  refine A_iload hE 9 dX7_speak_7 rfl rfl ?_
  refine A_bipush hE 11 dX7_speak_9 rfl (10) (by decide) ?_
  refine A_icmp_le hE 14 16 dX7_speak_11 rfl rfl (fun c11 => ?_) (fun c11 => absurd (nI_le (b := 10) (show dep ≤ 10 by omega) (by omega)) c11)
  refine A_iload_n hE 17 dX7_speak_16 rfl rfl ?_
  refine A_iload_n hE 18 dX7_speak_17 rfl rfl ?_
  refine A_callSi hE 21 (c_own_1_2) [] dX7_speak_18 rfl mkX7_50 rfl rfl rfl rfl rfl rfl (Nat.le_of_ble_eq_true rfl) (Nat.le_of_ble_eq_true rfl) rfl (fun x18 h18 g18 hp18 hw18 => ?_)
  obtain ⟨rfl, rfl⟩ := hp18
  obtain rfl := Option.some.inj hw18
  refine A_istore hE 23 dX7_speak_21 rfl rfl rfl ?_
  refine A_gsBodies hE 26 dX7_speak_23 rfl flBod ?_
  refine A_iconst hE 27 dX7_speak_26 rfl (4) rfl ?_
  refine A_iload hE 29 dX7_speak_27 rfl rfl ?_
  refine A_imul hE 30 dX7_speak_29 rfl ?_
  refine A_iload_n hE 31 dX7_speak_30 rfl rfl ?_
  refine A_iadd hE 32 dX7_speak_31 rfl ?_
  refine A_tabB hE 33 9 dX7_speak_32 rfl (by decide) (by decide) (30) (by decide) ?_
  refine A_istore hE 35 dX7_speak_33 rfl rfl rfl ?_
  refine A_aload_n hE 36 dX7_speak_35 rfl rfl ?_
  refine A_get hE 39 dX7_speak_36 rfl fkX7_14 rfl rfl ?_
  refine A_iload hE 41 dX7_speak_39 rfl rfl ?_
  refine A_callVv hE 44 (c_X3_add 30 tr tn 30 htn rfl) [1, 2] dX7_speak_41 rfl mkX7_57 rfl rfl rfl rfl rfl rfl rfl (Nat.le_of_ble_eq_true rfl) (Nat.le_of_ble_eq_true rfl) rfl (fun h41 g41 hp41 hw41 => ?_)
  obtain rfl := hp41
  obtain rfl := Option.some.inj hw41
  refine A_h (VW 0 K k m (pN tn) (pF tn tr 30)) rfl ?_
  refine A_aload_n hE 45 dX7_speak_44 rfl rfl ?_
  refine A_iload hE 47 dX7_speak_45 rfl rfl ?_
  refine A_gsAboveN hE 50 dX7_speak_47 rfl ?_
  refine A_iload hE 52 dX7_speak_50 rfl rfl ?_
  refine A_tabA hE 53 2 dX7_speak_52 rfl (by decide) (by decide) (0) (by decide) ?_
  refine A_iload_n hE 54 dX7_speak_53 rfl rfl ?_
  refine A_iload hE 56 dX7_speak_54 rfl rfl ?_
  refine A_iconst hE 57 dX7_speak_56 rfl (1) rfl ?_
  refine A_iadd hE 58 dX7_speak_57 rfl ?_
  rw [nI_1]
  refine A_callVi hE 61 (c_wo_sa_2 K k m x (pN tn) (pF tn tr 30) (dep + 1) hK (pN_le htn) (by omega)) [0, 1, 2] dX7_speak_58 rfl mkX7_63 rfl rfl rfl rfl rfl rfl rfl (Nat.le_of_ble_eq_true rfl) (Nat.le_of_ble_eq_true rfl) rfl (fun x58 h58 g58 hp58 hw58 => ?_)
  obtain ⟨rfl, rfl⟩ := hp58
  obtain rfl := Option.some.inj hw58
  refine A_h (VW 0 K k m (apN (saT K 0) (pN tn)) (apF (saT K 0) (pN tn) (pF tn tr 30))) rfl ?_
  refine A_iret hE dX7_speak_61 ⟨rfl, rfl⟩
set_option maxRecDepth 100000 in
theorem c_wo_sa_5 (K : Nat) (k m x : Int32) (tn : Nat) (tr : Nat → Int32) (dep : Nat) (hK : K < 7) (htn : tn ≤ 30) (hd : dep + 4 ≤ 10) : AMet yX7_workOut cX7_workOut 5 (some (.int)) 11 0 0 [.ref 0, .int 60, .int 2, .int x, .int (nI dep)] (VW 0 K k m tn tr) (pI fun r h => r = saV k m K 5 x ∧ h = VW 0 K k m (apN (saT K 2) tn) (apF (saT K 2) tn tr)) := by
  refine AMet.of (by decide +kernel) rfl (fun E ad0 hE => ?_)
  refine A_iload_n hE 1 dX7_workOut_0 rfl rfl ?_
  refine A_lookup hE 248 dX7_workOut_1 (by decide) (off := 247) (by decide) rfl ?_
  refine A_aload_n hE 249 dX7_workOut_248 rfl rfl ?_
  refine A_iconst hE 250 dX7_workOut_249 rfl (1) rfl ?_
  refine A_iload_n hE 251 dX7_workOut_250 rfl rfl ?_
  refine A_iload_n hE 252 dX7_workOut_251 rfl rfl ?_
  refine A_iconst hE 253 dX7_workOut_252 rfl (1) rfl ?_
  refine A_iadd hE 254 dX7_workOut_253 rfl ?_
  refine A_iload hE 256 dX7_workOut_254 rfl rfl ?_
  refine A_callVi hE 259 (c_sa_2 K k m (x + 1) tn tr dep hK htn (by omega)) [0, 1, 2] dX7_workOut_256 rfl mkX7_46 rfl rfl rfl rfl rfl rfl rfl (Nat.le_of_ble_eq_true rfl) (Nat.le_of_ble_eq_true rfl) rfl (fun x256 h256 g256 hp256 hw256 => ?_)
  obtain ⟨rfl, rfl⟩ := hp256
  obtain rfl := Option.some.inj hw256
  refine A_h (VW 0 K k m (apN (saT K 2) tn) (apF (saT K 2) tn tr)) rfl ?_
  refine A_iret hE dX7_workOut_259 ⟨rfl, rfl⟩
set_option maxRecDepth 100000 in
theorem c_sa_5 (K : Nat) (k m x : Int32) (tn : Nat) (tr : Nat → Int32) (dep : Nat) (hK : K < 7) (htn : tn ≤ 30) (hd : dep + 5 ≤ 10) : AMet yX7_speak cX7_speak 7 (some (.int)) 12 0 0 [.ref 0, .int 1, .int 5, .int x, .int (nI dep)] (VW 0 K k m tn tr) (pI fun r h => r = saV k m K 5 x ∧ h = VW 0 K k m (apN (saT K 5) tn) (apF (saT K 5) tn tr)) := by
  refine AMet.of (by decide +kernel) rfl (fun E ad0 hE => ?_)
  refine A_aload_n hE 1 dX7_speak_0 rfl rfl ?_
  refine A_get hE 4 dX7_speak_1 rfl fkX7_20 rfl rfl ?_
  refine A_if_ne hE 7 14 dX7_speak_4 rfl rfl (fun c4 => absurd rfl c4) (fun c4 => ?_)
  refine A_iload hE 9 dX7_speak_7 rfl rfl ?_
  refine A_bipush hE 11 dX7_speak_9 rfl (10) (by decide) ?_
  refine A_icmp_le hE 14 16 dX7_speak_11 rfl rfl (fun c11 => ?_) (fun c11 => absurd (nI_le (b := 10) (show dep ≤ 10 by omega) (by omega)) c11)
  refine A_iload_n hE 17 dX7_speak_16 rfl rfl ?_
  refine A_iload_n hE 18 dX7_speak_17 rfl rfl ?_
  refine A_callSi hE 21 (c_own_1_5) [] dX7_speak_18 rfl mkX7_50 rfl rfl rfl rfl rfl rfl (Nat.le_of_ble_eq_true rfl) (Nat.le_of_ble_eq_true rfl) rfl (fun x18 h18 g18 hp18 hw18 => ?_)
  obtain ⟨rfl, rfl⟩ := hp18
  obtain rfl := Option.some.inj hw18
  refine A_istore hE 23 dX7_speak_21 rfl rfl rfl ?_
  refine A_gsBodies hE 26 dX7_speak_23 rfl flBod ?_
  refine A_iconst hE 27 dX7_speak_26 rfl (4) rfl ?_
  refine A_iload hE 29 dX7_speak_27 rfl rfl ?_
  refine A_imul hE 30 dX7_speak_29 rfl ?_
  refine A_iload_n hE 31 dX7_speak_30 rfl rfl ?_
  refine A_iadd hE 32 dX7_speak_31 rfl ?_
  refine A_tabB hE 33 21 dX7_speak_32 rfl (by decide) (by decide) (60) (by decide) ?_
  refine A_istore hE 35 dX7_speak_33 rfl rfl rfl ?_
  refine A_aload_n hE 36 dX7_speak_35 rfl rfl ?_
  refine A_get hE 39 dX7_speak_36 rfl fkX7_14 rfl rfl ?_
  refine A_iload hE 41 dX7_speak_39 rfl rfl ?_
  refine A_callVv hE 44 (c_X3_add 30 tr tn 60 htn rfl) [1, 2] dX7_speak_41 rfl mkX7_57 rfl rfl rfl rfl rfl rfl rfl (Nat.le_of_ble_eq_true rfl) (Nat.le_of_ble_eq_true rfl) rfl (fun h41 g41 hp41 hw41 => ?_)
  obtain rfl := hp41
  obtain rfl := Option.some.inj hw41
  refine A_h (VW 0 K k m (pN tn) (pF tn tr 60)) rfl ?_
  refine A_aload_n hE 45 dX7_speak_44 rfl rfl ?_
  refine A_iload hE 47 dX7_speak_45 rfl rfl ?_
  refine A_gsAboveN hE 50 dX7_speak_47 rfl ?_
  refine A_iload hE 52 dX7_speak_50 rfl rfl ?_
  refine A_tabA hE 53 5 dX7_speak_52 rfl (by decide) (by decide) (2) (by decide) ?_
  refine A_iload_n hE 54 dX7_speak_53 rfl rfl ?_
  refine A_iload hE 56 dX7_speak_54 rfl rfl ?_
  refine A_iconst hE 57 dX7_speak_56 rfl (1) rfl ?_
  refine A_iadd hE 58 dX7_speak_57 rfl ?_
  rw [nI_1]
  refine A_callVi hE 61 (c_wo_sa_5 K k m x (pN tn) (pF tn tr 60) (dep + 1) hK (pN_le htn) (by omega)) [0, 1, 2] dX7_speak_58 rfl mkX7_63 rfl rfl rfl rfl rfl rfl rfl (Nat.le_of_ble_eq_true rfl) (Nat.le_of_ble_eq_true rfl) rfl (fun x58 h58 g58 hp58 hw58 => ?_)
  obtain ⟨rfl, rfl⟩ := hp58
  obtain rfl := Option.some.inj hw58
  refine A_h (VW 0 K k m (apN (saT K 2) (pN tn)) (apF (saT K 2) (pN tn) (pF tn tr 60))) rfl ?_
  refine A_iret hE dX7_speak_61 ⟨rfl, rfl⟩
set_option maxRecDepth 100000 in
theorem c_wo_sa_6 (K : Nat) (k m x : Int32) (tn : Nat) (tr : Nat → Int32) (dep : Nat) (hK : K < 7) (htn : tn ≤ 30) (hd : dep + 3 ≤ 10) : AMet yX7_workOut cX7_workOut 5 (some (.int)) 9 0 0 [.ref 0, .int 71, .int 0, .int x, .int (nI dep)] (VW 0 K k m tn tr) (pI fun r h => r = saV k m K 6 x ∧ h = VW 0 K k m (apN (saT K 0) tn) (apF (saT K 0) tn tr)) := by
  refine AMet.of (by decide +kernel) rfl (fun E ad0 hE => ?_)
  refine A_iload_n hE 1 dX7_workOut_0 rfl rfl ?_
  refine A_lookup hE 263 dX7_workOut_1 (by decide) (off := 262) (by decide) rfl ?_
  refine A_aload_n hE 264 dX7_workOut_263 rfl rfl ?_
  refine A_iconst hE 265 dX7_workOut_264 rfl (1) rfl ?_
  refine A_iload_n hE 266 dX7_workOut_265 rfl rfl ?_
  refine A_iload_n hE 267 dX7_workOut_266 rfl rfl ?_
  refine A_iload hE 269 dX7_workOut_267 rfl rfl ?_
  refine A_callVi hE 272 (c_sa_0 K k m x tn tr dep hK htn (by omega)) [0, 1, 2] dX7_workOut_269 rfl mkX7_46 rfl rfl rfl rfl rfl rfl rfl (Nat.le_of_ble_eq_true rfl) (Nat.le_of_ble_eq_true rfl) rfl (fun x269 h269 g269 hp269 hw269 => ?_)
  obtain ⟨rfl, rfl⟩ := hp269
  obtain rfl := Option.some.inj hw269
  refine A_h (VW 0 K k m (apN (saT K 0) tn) (apF (saT K 0) tn tr)) rfl ?_
  refine A_aload_n hE 273 dX7_workOut_272 rfl rfl ?_
  refine A_get hE 276 dX7_workOut_273 rfl fkX7_31 rfl rfl ?_
  refine A_iadd hE 277 dX7_workOut_276 rfl ?_
  refine A_iret hE dX7_workOut_277 ⟨rfl, rfl⟩
set_option maxRecDepth 100000 in
theorem c_sa_6 (K : Nat) (k m x : Int32) (tn : Nat) (tr : Nat → Int32) (dep : Nat) (hK : K < 7) (htn : tn ≤ 30) (hd : dep + 4 ≤ 10) : AMet yX7_speak cX7_speak 7 (some (.int)) 10 0 0 [.ref 0, .int 1, .int 6, .int x, .int (nI dep)] (VW 0 K k m tn tr) (pI fun r h => r = saV k m K 6 x ∧ h = VW 0 K k m (apN (saT K 6) tn) (apF (saT K 6) tn tr)) := by
  refine AMet.of (by decide +kernel) rfl (fun E ad0 hE => ?_)
  refine A_aload_n hE 1 dX7_speak_0 rfl rfl ?_
  refine A_get hE 4 dX7_speak_1 rfl fkX7_20 rfl rfl ?_
  refine A_if_ne hE 7 14 dX7_speak_4 rfl rfl (fun c4 => absurd rfl c4) (fun c4 => ?_)
  refine A_iload hE 9 dX7_speak_7 rfl rfl ?_
  refine A_bipush hE 11 dX7_speak_9 rfl (10) (by decide) ?_
  refine A_icmp_le hE 14 16 dX7_speak_11 rfl rfl (fun c11 => ?_) (fun c11 => absurd (nI_le (b := 10) (show dep ≤ 10 by omega) (by omega)) c11)
  refine A_iload_n hE 17 dX7_speak_16 rfl rfl ?_
  refine A_iload_n hE 18 dX7_speak_17 rfl rfl ?_
  refine A_callSi hE 21 (c_own_1_6) [] dX7_speak_18 rfl mkX7_50 rfl rfl rfl rfl rfl rfl (Nat.le_of_ble_eq_true rfl) (Nat.le_of_ble_eq_true rfl) rfl (fun x18 h18 g18 hp18 hw18 => ?_)
  obtain ⟨rfl, rfl⟩ := hp18
  obtain rfl := Option.some.inj hw18
  refine A_istore hE 23 dX7_speak_21 rfl rfl rfl ?_
  refine A_gsBodies hE 26 dX7_speak_23 rfl flBod ?_
  refine A_iconst hE 27 dX7_speak_26 rfl (4) rfl ?_
  refine A_iload hE 29 dX7_speak_27 rfl rfl ?_
  refine A_imul hE 30 dX7_speak_29 rfl ?_
  refine A_iload_n hE 31 dX7_speak_30 rfl rfl ?_
  refine A_iadd hE 32 dX7_speak_31 rfl ?_
  refine A_tabB hE 33 25 dX7_speak_32 rfl (by decide) (by decide) (71) (by decide) ?_
  refine A_istore hE 35 dX7_speak_33 rfl rfl rfl ?_
  refine A_aload_n hE 36 dX7_speak_35 rfl rfl ?_
  refine A_get hE 39 dX7_speak_36 rfl fkX7_14 rfl rfl ?_
  refine A_iload hE 41 dX7_speak_39 rfl rfl ?_
  refine A_callVv hE 44 (c_X3_add 30 tr tn 71 htn rfl) [1, 2] dX7_speak_41 rfl mkX7_57 rfl rfl rfl rfl rfl rfl rfl (Nat.le_of_ble_eq_true rfl) (Nat.le_of_ble_eq_true rfl) rfl (fun h41 g41 hp41 hw41 => ?_)
  obtain rfl := hp41
  obtain rfl := Option.some.inj hw41
  refine A_h (VW 0 K k m (pN tn) (pF tn tr 71)) rfl ?_
  refine A_aload_n hE 45 dX7_speak_44 rfl rfl ?_
  refine A_iload hE 47 dX7_speak_45 rfl rfl ?_
  refine A_gsAboveN hE 50 dX7_speak_47 rfl ?_
  refine A_iload hE 52 dX7_speak_50 rfl rfl ?_
  refine A_tabA hE 53 6 dX7_speak_52 rfl (by decide) (by decide) (0) (by decide) ?_
  refine A_iload_n hE 54 dX7_speak_53 rfl rfl ?_
  refine A_iload hE 56 dX7_speak_54 rfl rfl ?_
  refine A_iconst hE 57 dX7_speak_56 rfl (1) rfl ?_
  refine A_iadd hE 58 dX7_speak_57 rfl ?_
  rw [nI_1]
  refine A_callVi hE 61 (c_wo_sa_6 K k m x (pN tn) (pF tn tr 71) (dep + 1) hK (pN_le htn) (by omega)) [0, 1, 2] dX7_speak_58 rfl mkX7_63 rfl rfl rfl rfl rfl rfl rfl (Nat.le_of_ble_eq_true rfl) (Nat.le_of_ble_eq_true rfl) rfl (fun x58 h58 g58 hp58 hw58 => ?_)
  obtain ⟨rfl, rfl⟩ := hp58
  obtain rfl := Option.some.inj hw58
  refine A_h (VW 0 K k m (apN (saT K 0) (pN tn)) (apF (saT K 0) (pN tn) (pF tn tr 71))) rfl ?_
  refine A_iret hE dX7_speak_61 ⟨rfl, rfl⟩
theorem c_sa (f : Nat) (K : Nat) (k m x : Int32) (tn : Nat) (tr : Nat → Int32) (dep : Nat) (hf : f < 7) (hK : K < 7) (htn : tn ≤ 30) (hd : dep + 5 ≤ 10) : AMet yX7_speak cX7_speak 7 (some .int) 12 0 0 [.ref 0, .int 1, .int (nI f), .int x, .int (nI dep)] (VW 0 K k m tn tr) (pI fun r h => r = saV k m K f x ∧ h = VW 0 K k m (apN (saT K f) tn) (apF (saT K f) tn tr)) := by
  match f, hf with
  | 0, _ => exact (c_sa_0 K k m x tn tr dep hK htn (by omega)).mono rfl
  | 1, _ => exact (c_sa_1 K k m x tn tr dep hK htn (by omega)).mono rfl
  | 2, _ => exact (c_sa_2 K k m x tn tr dep hK htn (by omega)).mono rfl
  | 3, _ => exact (c_sa_3 K k m x tn tr dep hK htn (by omega)).mono rfl
  | 4, _ => exact (c_sa_4 K k m x tn tr dep hK htn (by omega)).mono rfl
  | 5, _ => exact (c_sa_5 K k m x tn tr dep hK htn (by omega)).mono rfl
  | 6, _ => exact (c_sa_6 K k m x tn tr dep hK htn (by omega)).mono rfl
set_option maxRecDepth 100000 in
theorem c_wo_st_0 (K : Nat) (k m x : Int32) (tn : Nat) (tr : Nat → Int32) (dep : Nat) (hK : K < 7) (htn : tn ≤ 30) (hd : dep + 5 ≤ 10) : AMet yX7_workOut cX7_workOut 5 (some (.int)) 13 0 0 [.ref 0, .int 12, .int 0, .int x, .int (nI dep)] (VW 0 K k m tn tr) (pI fun r h => r = stV k m K 0 x ∧ h = VW 0 K k m (apN (saT K K) tn) (apF (saT K K) tn tr)) := by
  refine AMet.of (by decide +kernel) rfl (fun E ad0 hE => ?_)
  refine A_iload_n hE 1 dX7_workOut_0 rfl rfl ?_
  refine A_lookup hE 138 dX7_workOut_1 (by decide) (off := 137) (by decide) rfl ?_
  refine A_aload_n hE 139 dX7_workOut_138 rfl rfl ?_
  refine A_iconst hE 140 dX7_workOut_139 rfl (1) rfl ?_
  refine A_aload_n hE 141 dX7_workOut_140 rfl rfl ?_
  refine A_get hE 144 dX7_workOut_141 rfl fkX7_24 rfl rfl ?_
  refine A_iload_n hE 145 dX7_workOut_144 rfl rfl ?_
  refine A_iload hE 147 dX7_workOut_145 rfl rfl ?_
  refine A_callVi hE 150 (c_sa K K k m x tn tr dep hK hK htn (by omega)) [0, 1, 2] dX7_workOut_147 rfl mkX7_46 rfl rfl rfl rfl rfl rfl rfl (Nat.le_of_ble_eq_true rfl) (Nat.le_of_ble_eq_true rfl) rfl (fun x147 h147 g147 hp147 hw147 => ?_)
  obtain ⟨rfl, rfl⟩ := hp147
  obtain rfl := Option.some.inj hw147
  refine A_h (VW 0 K k m (apN (saT K K) tn) (apF (saT K K) tn tr)) rfl ?_
  refine A_aload_n hE 151 dX7_workOut_150 rfl rfl ?_
  refine A_get hE 154 dX7_workOut_151 rfl fkX7_31 rfl rfl ?_
  refine A_isub hE 155 dX7_workOut_154 rfl ?_
  refine A_iret hE dX7_workOut_155 ⟨rfl, rfl⟩
set_option maxRecDepth 100000 in
theorem c_st_0 (K : Nat) (k m x : Int32) (tn : Nat) (tr : Nat → Int32) (dep : Nat) (hK : K < 7) (htn : tn ≤ 30) (hd : dep + 6 ≤ 10) : AMet yX7_speak cX7_speak 7 (some (.int)) 14 0 0 [.ref 0, .int 2, .int 0, .int x, .int (nI dep)] (VW 0 K k m tn tr) (pI fun r h => r = stV k m K 0 x ∧ h = VW 0 K k m (apN (stT K 0) tn) (apF (stT K 0) tn tr)) := by
  refine AMet.of (by decide +kernel) rfl (fun E ad0 hE => ?_)
  refine A_aload_n hE 1 dX7_speak_0 rfl rfl ?_
  refine A_get hE 4 dX7_speak_1 rfl fkX7_20 rfl rfl ?_
  refine A_if_ne hE 7 14 dX7_speak_4 rfl rfl (fun c4 => absurd rfl c4) (fun c4 => ?_)
  refine A_iload hE 9 dX7_speak_7 rfl rfl ?_
  refine A_bipush hE 11 dX7_speak_9 rfl (10) (by decide) ?_
  refine A_icmp_le hE 14 16 dX7_speak_11 rfl rfl (fun c11 => ?_) (fun c11 => absurd (nI_le (b := 10) (show dep ≤ 10 by omega) (by omega)) c11)
  refine A_iload_n hE 17 dX7_speak_16 rfl rfl ?_
  refine A_iload_n hE 18 dX7_speak_17 rfl rfl ?_
  refine A_callSi hE 21 (c_own_2_0) [] dX7_speak_18 rfl mkX7_50 rfl rfl rfl rfl rfl rfl (Nat.le_of_ble_eq_true rfl) (Nat.le_of_ble_eq_true rfl) rfl (fun x18 h18 g18 hp18 hw18 => ?_)
  obtain ⟨rfl, rfl⟩ := hp18
  obtain rfl := Option.some.inj hw18
  refine A_istore hE 23 dX7_speak_21 rfl rfl rfl ?_
  refine A_gsBodies hE 26 dX7_speak_23 rfl flBod ?_
  refine A_iconst hE 27 dX7_speak_26 rfl (4) rfl ?_
  refine A_iload hE 29 dX7_speak_27 rfl rfl ?_
  refine A_imul hE 30 dX7_speak_29 rfl ?_
  refine A_iload_n hE 31 dX7_speak_30 rfl rfl ?_
  refine A_iadd hE 32 dX7_speak_31 rfl ?_
  refine A_tabB hE 33 2 dX7_speak_32 rfl (by decide) (by decide) (12) (by decide) ?_
  refine A_istore hE 35 dX7_speak_33 rfl rfl rfl ?_
  refine A_aload_n hE 36 dX7_speak_35 rfl rfl ?_
  refine A_get hE 39 dX7_speak_36 rfl fkX7_14 rfl rfl ?_
  refine A_iload hE 41 dX7_speak_39 rfl rfl ?_
  refine A_callVv hE 44 (c_X3_add 30 tr tn 12 htn rfl) [1, 2] dX7_speak_41 rfl mkX7_57 rfl rfl rfl rfl rfl rfl rfl (Nat.le_of_ble_eq_true rfl) (Nat.le_of_ble_eq_true rfl) rfl (fun h41 g41 hp41 hw41 => ?_)
  obtain rfl := hp41
  obtain rfl := Option.some.inj hw41
  refine A_h (VW 0 K k m (pN tn) (pF tn tr 12)) rfl ?_
  refine A_aload_n hE 45 dX7_speak_44 rfl rfl ?_
  refine A_iload hE 47 dX7_speak_45 rfl rfl ?_
  refine A_gsAboveN hE 50 dX7_speak_47 rfl ?_
  refine A_iload hE 52 dX7_speak_50 rfl rfl ?_
  refine A_tabA hE 53 0 dX7_speak_52 rfl (by decide) (by decide) (0) (by decide) ?_
  refine A_iload_n hE 54 dX7_speak_53 rfl rfl ?_
  refine A_iload hE 56 dX7_speak_54 rfl rfl ?_
  refine A_iconst hE 57 dX7_speak_56 rfl (1) rfl ?_
  refine A_iadd hE 58 dX7_speak_57 rfl ?_
  rw [nI_1]
  refine A_callVi hE 61 (c_wo_st_0 K k m x (pN tn) (pF tn tr 12) (dep + 1) hK (pN_le htn) (by omega)) [0, 1, 2] dX7_speak_58 rfl mkX7_63 rfl rfl rfl rfl rfl rfl rfl (Nat.le_of_ble_eq_true rfl) (Nat.le_of_ble_eq_true rfl) rfl (fun x58 h58 g58 hp58 hw58 => ?_)
  obtain ⟨rfl, rfl⟩ := hp58
  obtain rfl := Option.some.inj hw58
  refine A_h (VW 0 K k m (apN (saT K K) (pN tn)) (apF (saT K K) (pN tn) (pF tn tr 12))) rfl ?_
  refine A_iret hE dX7_speak_61 ⟨rfl, rfl⟩
set_option maxRecDepth 100000 in
theorem c_wo_st_1 (K : Nat) (k m x : Int32) (tn : Nat) (tr : Nat → Int32) (dep : Nat) (hK : K < 7) (htn : tn ≤ 30) (hd : dep + 5 ≤ 10) : AMet yX7_workOut cX7_workOut 5 (some (.int)) 13 0 0 [.ref 0, .int 12, .int 0, .int x, .int (nI dep)] (VW 0 K k m tn tr) (pI fun r h => r = stV k m K 1 x ∧ h = VW 0 K k m (apN (saT K K) tn) (apF (saT K K) tn tr)) := by
  refine AMet.of (by decide +kernel) rfl (fun E ad0 hE => ?_)
  refine A_iload_n hE 1 dX7_workOut_0 rfl rfl ?_
  refine A_lookup hE 138 dX7_workOut_1 (by decide) (off := 137) (by decide) rfl ?_
  refine A_aload_n hE 139 dX7_workOut_138 rfl rfl ?_
  refine A_iconst hE 140 dX7_workOut_139 rfl (1) rfl ?_
  refine A_aload_n hE 141 dX7_workOut_140 rfl rfl ?_
  refine A_get hE 144 dX7_workOut_141 rfl fkX7_24 rfl rfl ?_
  refine A_iload_n hE 145 dX7_workOut_144 rfl rfl ?_
  refine A_iload hE 147 dX7_workOut_145 rfl rfl ?_
  refine A_callVi hE 150 (c_sa K K k m x tn tr dep hK hK htn (by omega)) [0, 1, 2] dX7_workOut_147 rfl mkX7_46 rfl rfl rfl rfl rfl rfl rfl (Nat.le_of_ble_eq_true rfl) (Nat.le_of_ble_eq_true rfl) rfl (fun x147 h147 g147 hp147 hw147 => ?_)
  obtain ⟨rfl, rfl⟩ := hp147
  obtain rfl := Option.some.inj hw147
  refine A_h (VW 0 K k m (apN (saT K K) tn) (apF (saT K K) tn tr)) rfl ?_
  refine A_aload_n hE 151 dX7_workOut_150 rfl rfl ?_
  refine A_get hE 154 dX7_workOut_151 rfl fkX7_31 rfl rfl ?_
  refine A_isub hE 155 dX7_workOut_154 rfl ?_
  refine A_iret hE dX7_workOut_155 ⟨rfl, rfl⟩
set_option maxRecDepth 100000 in
theorem c_st_1 (K : Nat) (k m x : Int32) (tn : Nat) (tr : Nat → Int32) (dep : Nat) (hK : K < 7) (htn : tn ≤ 30) (hd : dep + 6 ≤ 10) : AMet yX7_speak cX7_speak 7 (some (.int)) 14 0 0 [.ref 0, .int 2, .int 1, .int x, .int (nI dep)] (VW 0 K k m tn tr) (pI fun r h => r = stV k m K 1 x ∧ h = VW 0 K k m (apN (stT K 1) tn) (apF (stT K 1) tn tr)) := by
  refine AMet.of (by decide +kernel) rfl (fun E ad0 hE => ?_)
  refine A_aload_n hE 1 dX7_speak_0 rfl rfl ?_
  refine A_get hE 4 dX7_speak_1 rfl fkX7_20 rfl rfl ?_
  refine A_if_ne hE 7 14 dX7_speak_4 rfl rfl (fun c4 => absurd rfl c4) (fun c4 => ?_)
  refine A_iload hE 9 dX7_speak_7 rfl rfl ?_
  refine A_bipush hE 11 dX7_speak_9 rfl (10) (by decide) ?_
  refine A_icmp_le hE 14 16 dX7_speak_11 rfl rfl (fun c11 => ?_) (fun c11 => absurd (nI_le (b := 10) (show dep ≤ 10 by omega) (by omega)) c11)
  refine A_iload_n hE 17 dX7_speak_16 rfl rfl ?_
  refine A_iload_n hE 18 dX7_speak_17 rfl rfl ?_
  refine A_callSi hE 21 (c_own_2_1) [] dX7_speak_18 rfl mkX7_50 rfl rfl rfl rfl rfl rfl (Nat.le_of_ble_eq_true rfl) (Nat.le_of_ble_eq_true rfl) rfl (fun x18 h18 g18 hp18 hw18 => ?_)
  obtain ⟨rfl, rfl⟩ := hp18
  obtain rfl := Option.some.inj hw18
  refine A_istore hE 23 dX7_speak_21 rfl rfl rfl ?_
  refine A_gsBodies hE 26 dX7_speak_23 rfl flBod ?_
  refine A_iconst hE 27 dX7_speak_26 rfl (4) rfl ?_
  refine A_iload hE 29 dX7_speak_27 rfl rfl ?_
  refine A_imul hE 30 dX7_speak_29 rfl ?_
  refine A_iload_n hE 31 dX7_speak_30 rfl rfl ?_
  refine A_iadd hE 32 dX7_speak_31 rfl ?_
  refine A_tabB hE 33 2 dX7_speak_32 rfl (by decide) (by decide) (12) (by decide) ?_
  refine A_istore hE 35 dX7_speak_33 rfl rfl rfl ?_
  refine A_aload_n hE 36 dX7_speak_35 rfl rfl ?_
  refine A_get hE 39 dX7_speak_36 rfl fkX7_14 rfl rfl ?_
  refine A_iload hE 41 dX7_speak_39 rfl rfl ?_
  refine A_callVv hE 44 (c_X3_add 30 tr tn 12 htn rfl) [1, 2] dX7_speak_41 rfl mkX7_57 rfl rfl rfl rfl rfl rfl rfl (Nat.le_of_ble_eq_true rfl) (Nat.le_of_ble_eq_true rfl) rfl (fun h41 g41 hp41 hw41 => ?_)
  obtain rfl := hp41
  obtain rfl := Option.some.inj hw41
  refine A_h (VW 0 K k m (pN tn) (pF tn tr 12)) rfl ?_
  refine A_aload_n hE 45 dX7_speak_44 rfl rfl ?_
  refine A_iload hE 47 dX7_speak_45 rfl rfl ?_
  refine A_gsAboveN hE 50 dX7_speak_47 rfl ?_
  refine A_iload hE 52 dX7_speak_50 rfl rfl ?_
  refine A_tabA hE 53 0 dX7_speak_52 rfl (by decide) (by decide) (0) (by decide) ?_
  refine A_iload_n hE 54 dX7_speak_53 rfl rfl ?_
  refine A_iload hE 56 dX7_speak_54 rfl rfl ?_
  refine A_iconst hE 57 dX7_speak_56 rfl (1) rfl ?_
  refine A_iadd hE 58 dX7_speak_57 rfl ?_
  rw [nI_1]
  refine A_callVi hE 61 (c_wo_st_1 K k m x (pN tn) (pF tn tr 12) (dep + 1) hK (pN_le htn) (by omega)) [0, 1, 2] dX7_speak_58 rfl mkX7_63 rfl rfl rfl rfl rfl rfl rfl (Nat.le_of_ble_eq_true rfl) (Nat.le_of_ble_eq_true rfl) rfl (fun x58 h58 g58 hp58 hw58 => ?_)
  obtain ⟨rfl, rfl⟩ := hp58
  obtain rfl := Option.some.inj hw58
  refine A_h (VW 0 K k m (apN (saT K K) (pN tn)) (apF (saT K K) (pN tn) (pF tn tr 12))) rfl ?_
  refine A_iret hE dX7_speak_61 ⟨rfl, rfl⟩
set_option maxRecDepth 100000 in
theorem c_wo_st_2 (K : Nat) (k m x : Int32) (tn : Nat) (tr : Nat → Int32) (dep : Nat) (hK : K < 7) (htn : tn ≤ 30) (hd : dep + 5 ≤ 10) : AMet yX7_workOut cX7_workOut 5 (some (.int)) 13 0 0 [.ref 0, .int 12, .int 0, .int x, .int (nI dep)] (VW 0 K k m tn tr) (pI fun r h => r = stV k m K 2 x ∧ h = VW 0 K k m (apN (saT K K) tn) (apF (saT K K) tn tr)) := by
  refine AMet.of (by decide +kernel) rfl (fun E ad0 hE => ?_)
  refine A_iload_n hE 1 dX7_workOut_0 rfl rfl ?_
  refine A_lookup hE 138 dX7_workOut_1 (by decide) (off := 137) (by decide) rfl ?_
  refine A_aload_n hE 139 dX7_workOut_138 rfl rfl ?_
  refine A_iconst hE 140 dX7_workOut_139 rfl (1) rfl ?_
  refine A_aload_n hE 141 dX7_workOut_140 rfl rfl ?_
  refine A_get hE 144 dX7_workOut_141 rfl fkX7_24 rfl rfl ?_
  refine A_iload_n hE 145 dX7_workOut_144 rfl rfl ?_
  refine A_iload hE 147 dX7_workOut_145 rfl rfl ?_
  refine A_callVi hE 150 (c_sa K K k m x tn tr dep hK hK htn (by omega)) [0, 1, 2] dX7_workOut_147 rfl mkX7_46 rfl rfl rfl rfl rfl rfl rfl (Nat.le_of_ble_eq_true rfl) (Nat.le_of_ble_eq_true rfl) rfl (fun x147 h147 g147 hp147 hw147 => ?_)
  obtain ⟨rfl, rfl⟩ := hp147
  obtain rfl := Option.some.inj hw147
  refine A_h (VW 0 K k m (apN (saT K K) tn) (apF (saT K K) tn tr)) rfl ?_
  refine A_aload_n hE 151 dX7_workOut_150 rfl rfl ?_
  refine A_get hE 154 dX7_workOut_151 rfl fkX7_31 rfl rfl ?_
  refine A_isub hE 155 dX7_workOut_154 rfl ?_
  refine A_iret hE dX7_workOut_155 ⟨rfl, rfl⟩
set_option maxRecDepth 100000 in
theorem c_st_2 (K : Nat) (k m x : Int32) (tn : Nat) (tr : Nat → Int32) (dep : Nat) (hK : K < 7) (htn : tn ≤ 30) (hd : dep + 6 ≤ 10) : AMet yX7_speak cX7_speak 7 (some (.int)) 14 0 0 [.ref 0, .int 2, .int 2, .int x, .int (nI dep)] (VW 0 K k m tn tr) (pI fun r h => r = stV k m K 2 x ∧ h = VW 0 K k m (apN (stT K 2) tn) (apF (stT K 2) tn tr)) := by
  refine AMet.of (by decide +kernel) rfl (fun E ad0 hE => ?_)
  refine A_aload_n hE 1 dX7_speak_0 rfl rfl ?_
  refine A_get hE 4 dX7_speak_1 rfl fkX7_20 rfl rfl ?_
  refine A_if_ne hE 7 14 dX7_speak_4 rfl rfl (fun c4 => absurd rfl c4) (fun c4 => ?_)
  refine A_iload hE 9 dX7_speak_7 rfl rfl ?_
  refine A_bipush hE 11 dX7_speak_9 rfl (10) (by decide) ?_
  refine A_icmp_le hE 14 16 dX7_speak_11 rfl rfl (fun c11 => ?_) (fun c11 => absurd (nI_le (b := 10) (show dep ≤ 10 by omega) (by omega)) c11)
  refine A_iload_n hE 17 dX7_speak_16 rfl rfl ?_
  refine A_iload_n hE 18 dX7_speak_17 rfl rfl ?_
  refine A_callSi hE 21 (c_own_2_2) [] dX7_speak_18 rfl mkX7_50 rfl rfl rfl rfl rfl rfl (Nat.le_of_ble_eq_true rfl) (Nat.le_of_ble_eq_true rfl) rfl (fun x18 h18 g18 hp18 hw18 => ?_)
  obtain ⟨rfl, rfl⟩ := hp18
  obtain rfl := Option.some.inj hw18
  refine A_istore hE 23 dX7_speak_21 rfl rfl rfl ?_
  refine A_gsBodies hE 26 dX7_speak_23 rfl flBod ?_
  refine A_iconst hE 27 dX7_speak_26 rfl (4) rfl ?_
  refine A_iload hE 29 dX7_speak_27 rfl rfl ?_
  refine A_imul hE 30 dX7_speak_29 rfl ?_
  refine A_iload_n hE 31 dX7_speak_30 rfl rfl ?_
  refine A_iadd hE 32 dX7_speak_31 rfl ?_
  refine A_tabB hE 33 2 dX7_speak_32 rfl (by decide) (by decide) (12) (by decide) ?_
  refine A_istore hE 35 dX7_speak_33 rfl rfl rfl ?_
  refine A_aload_n hE 36 dX7_speak_35 rfl rfl ?_
  refine A_get hE 39 dX7_speak_36 rfl fkX7_14 rfl rfl ?_
  refine A_iload hE 41 dX7_speak_39 rfl rfl ?_
  refine A_callVv hE 44 (c_X3_add 30 tr tn 12 htn rfl) [1, 2] dX7_speak_41 rfl mkX7_57 rfl rfl rfl rfl rfl rfl rfl (Nat.le_of_ble_eq_true rfl) (Nat.le_of_ble_eq_true rfl) rfl (fun h41 g41 hp41 hw41 => ?_)
  obtain rfl := hp41
  obtain rfl := Option.some.inj hw41
  refine A_h (VW 0 K k m (pN tn) (pF tn tr 12)) rfl ?_
  refine A_aload_n hE 45 dX7_speak_44 rfl rfl ?_
  refine A_iload hE 47 dX7_speak_45 rfl rfl ?_
  refine A_gsAboveN hE 50 dX7_speak_47 rfl ?_
  refine A_iload hE 52 dX7_speak_50 rfl rfl ?_
  refine A_tabA hE 53 0 dX7_speak_52 rfl (by decide) (by decide) (0) (by decide) ?_
  refine A_iload_n hE 54 dX7_speak_53 rfl rfl ?_
  refine A_iload hE 56 dX7_speak_54 rfl rfl ?_
  refine A_iconst hE 57 dX7_speak_56 rfl (1) rfl ?_
  refine A_iadd hE 58 dX7_speak_57 rfl ?_
  rw [nI_1]
  refine A_callVi hE 61 (c_wo_st_2 K k m x (pN tn) (pF tn tr 12) (dep + 1) hK (pN_le htn) (by omega)) [0, 1, 2] dX7_speak_58 rfl mkX7_63 rfl rfl rfl rfl rfl rfl rfl (Nat.le_of_ble_eq_true rfl) (Nat.le_of_ble_eq_true rfl) rfl (fun x58 h58 g58 hp58 hw58 => ?_)
  obtain ⟨rfl, rfl⟩ := hp58
  obtain rfl := Option.some.inj hw58
  refine A_h (VW 0 K k m (apN (saT K K) (pN tn)) (apF (saT K K) (pN tn) (pF tn tr 12))) rfl ?_
  refine A_iret hE dX7_speak_61 ⟨rfl, rfl⟩
set_option maxRecDepth 100000 in
theorem c_wo_st_5 (K : Nat) (k m x : Int32) (tn : Nat) (tr : Nat → Int32) (dep : Nat) (hK : K < 7) (htn : tn ≤ 30) (hd : dep + 5 ≤ 10) : AMet yX7_workOut cX7_workOut 5 (some (.int)) 13 0 0 [.ref 0, .int 12, .int 0, .int x, .int (nI dep)] (VW 0 K k m tn tr) (pI fun r h => r = stV k m K 5 x ∧ h = VW 0 K k m (apN (saT K K) tn) (apF (saT K K) tn tr)) := by
  refine AMet.of (by decide +kernel) rfl (fun E ad0 hE => ?_)
  refine A_iload_n hE 1 dX7_workOut_0 rfl rfl ?_
  refine A_lookup hE 138 dX7_workOut_1 (by decide) (off := 137) (by decide) rfl ?_
  refine A_aload_n hE 139 dX7_workOut_138 rfl rfl ?_
  refine A_iconst hE 140 dX7_workOut_139 rfl (1) rfl ?_
  refine A_aload_n hE 141 dX7_workOut_140 rfl rfl ?_
  refine A_get hE 144 dX7_workOut_141 rfl fkX7_24 rfl rfl ?_
  refine A_iload_n hE 145 dX7_workOut_144 rfl rfl ?_
  refine A_iload hE 147 dX7_workOut_145 rfl rfl ?_
  refine A_callVi hE 150 (c_sa K K k m x tn tr dep hK hK htn (by omega)) [0, 1, 2] dX7_workOut_147 rfl mkX7_46 rfl rfl rfl rfl rfl rfl rfl (Nat.le_of_ble_eq_true rfl) (Nat.le_of_ble_eq_true rfl) rfl (fun x147 h147 g147 hp147 hw147 => ?_)
  obtain ⟨rfl, rfl⟩ := hp147
  obtain rfl := Option.some.inj hw147
  refine A_h (VW 0 K k m (apN (saT K K) tn) (apF (saT K K) tn tr)) rfl ?_
  refine A_aload_n hE 151 dX7_workOut_150 rfl rfl ?_
  refine A_get hE 154 dX7_workOut_151 rfl fkX7_31 rfl rfl ?_
  refine A_isub hE 155 dX7_workOut_154 rfl ?_
  refine A_iret hE dX7_workOut_155 ⟨rfl, rfl⟩
set_option maxRecDepth 100000 in
theorem c_st_5 (K : Nat) (k m x : Int32) (tn : Nat) (tr : Nat → Int32) (dep : Nat) (hK : K < 7) (htn : tn ≤ 30) (hd : dep + 6 ≤ 10) : AMet yX7_speak cX7_speak 7 (some (.int)) 14 0 0 [.ref 0, .int 2, .int 5, .int x, .int (nI dep)] (VW 0 K k m tn tr) (pI fun r h => r = stV k m K 5 x ∧ h = VW 0 K k m (apN (stT K 5) tn) (apF (stT K 5) tn tr)) := by
  refine AMet.of (by decide +kernel) rfl (fun E ad0 hE => ?_)
  refine A_aload_n hE 1 dX7_speak_0 rfl rfl ?_
  refine A_get hE 4 dX7_speak_1 rfl fkX7_20 rfl rfl ?_
  refine A_if_ne hE 7 14 dX7_speak_4 rfl rfl (fun c4 => absurd rfl c4) (fun c4 => ?_)
  refine A_iload hE 9 dX7_speak_7 rfl rfl ?_
  refine A_bipush hE 11 dX7_speak_9 rfl (10) (by decide) ?_
  refine A_icmp_le hE 14 16 dX7_speak_11 rfl rfl (fun c11 => ?_) (fun c11 => absurd (nI_le (b := 10) (show dep ≤ 10 by omega) (by omega)) c11)
  refine A_iload_n hE 17 dX7_speak_16 rfl rfl ?_
  refine A_iload_n hE 18 dX7_speak_17 rfl rfl ?_
  refine A_callSi hE 21 (c_own_2_5) [] dX7_speak_18 rfl mkX7_50 rfl rfl rfl rfl rfl rfl (Nat.le_of_ble_eq_true rfl) (Nat.le_of_ble_eq_true rfl) rfl (fun x18 h18 g18 hp18 hw18 => ?_)
  obtain ⟨rfl, rfl⟩ := hp18
  obtain rfl := Option.some.inj hw18
  refine A_istore hE 23 dX7_speak_21 rfl rfl rfl ?_
  refine A_gsBodies hE 26 dX7_speak_23 rfl flBod ?_
  refine A_iconst hE 27 dX7_speak_26 rfl (4) rfl ?_
  refine A_iload hE 29 dX7_speak_27 rfl rfl ?_
  refine A_imul hE 30 dX7_speak_29 rfl ?_
  refine A_iload_n hE 31 dX7_speak_30 rfl rfl ?_
  refine A_iadd hE 32 dX7_speak_31 rfl ?_
  refine A_tabB hE 33 2 dX7_speak_32 rfl (by decide) (by decide) (12) (by decide) ?_
  refine A_istore hE 35 dX7_speak_33 rfl rfl rfl ?_
  refine A_aload_n hE 36 dX7_speak_35 rfl rfl ?_
  refine A_get hE 39 dX7_speak_36 rfl fkX7_14 rfl rfl ?_
  refine A_iload hE 41 dX7_speak_39 rfl rfl ?_
  refine A_callVv hE 44 (c_X3_add 30 tr tn 12 htn rfl) [1, 2] dX7_speak_41 rfl mkX7_57 rfl rfl rfl rfl rfl rfl rfl (Nat.le_of_ble_eq_true rfl) (Nat.le_of_ble_eq_true rfl) rfl (fun h41 g41 hp41 hw41 => ?_)
  obtain rfl := hp41
  obtain rfl := Option.some.inj hw41
  refine A_h (VW 0 K k m (pN tn) (pF tn tr 12)) rfl ?_
  refine A_aload_n hE 45 dX7_speak_44 rfl rfl ?_
  refine A_iload hE 47 dX7_speak_45 rfl rfl ?_
  refine A_gsAboveN hE 50 dX7_speak_47 rfl ?_
  refine A_iload hE 52 dX7_speak_50 rfl rfl ?_
  refine A_tabA hE 53 0 dX7_speak_52 rfl (by decide) (by decide) (0) (by decide) ?_
  refine A_iload_n hE 54 dX7_speak_53 rfl rfl ?_
  refine A_iload hE 56 dX7_speak_54 rfl rfl ?_
  refine A_iconst hE 57 dX7_speak_56 rfl (1) rfl ?_
  refine A_iadd hE 58 dX7_speak_57 rfl ?_
  rw [nI_1]
  refine A_callVi hE 61 (c_wo_st_5 K k m x (pN tn) (pF tn tr 12) (dep + 1) hK (pN_le htn) (by omega)) [0, 1, 2] dX7_speak_58 rfl mkX7_63 rfl rfl rfl rfl rfl rfl rfl (Nat.le_of_ble_eq_true rfl) (Nat.le_of_ble_eq_true rfl) rfl (fun x58 h58 g58 hp58 hw58 => ?_)
  obtain ⟨rfl, rfl⟩ := hp58
  obtain rfl := Option.some.inj hw58
  refine A_h (VW 0 K k m (apN (saT K K) (pN tn)) (apF (saT K K) (pN tn) (pF tn tr 12))) rfl ?_
  refine A_iret hE dX7_speak_61 ⟨rfl, rfl⟩
set_option maxRecDepth 100000 in
theorem c_wo_st_6 (K : Nat) (k m x : Int32) (tn : Nat) (tr : Nat → Int32) (dep : Nat) (hK : K < 7) (htn : tn ≤ 30) (hd : dep + 5 ≤ 10) : AMet yX7_workOut cX7_workOut 5 (some (.int)) 13 0 0 [.ref 0, .int 12, .int 0, .int x, .int (nI dep)] (VW 0 K k m tn tr) (pI fun r h => r = stV k m K 6 x ∧ h = VW 0 K k m (apN (saT K K) tn) (apF (saT K K) tn tr)) := by
  refine AMet.of (by decide +kernel) rfl (fun E ad0 hE => ?_)
  refine A_iload_n hE 1 dX7_workOut_0 rfl rfl ?_
  refine A_lookup hE 138 dX7_workOut_1 (by decide) (off := 137) (by decide) rfl ?_
  refine A_aload_n hE 139 dX7_workOut_138 rfl rfl ?_
  refine A_iconst hE 140 dX7_workOut_139 rfl (1) rfl ?_
  refine A_aload_n hE 141 dX7_workOut_140 rfl rfl ?_
  refine A_get hE 144 dX7_workOut_141 rfl fkX7_24 rfl rfl ?_
  refine A_iload_n hE 145 dX7_workOut_144 rfl rfl ?_
  refine A_iload hE 147 dX7_workOut_145 rfl rfl ?_
  refine A_callVi hE 150 (c_sa K K k m x tn tr dep hK hK htn (by omega)) [0, 1, 2] dX7_workOut_147 rfl mkX7_46 rfl rfl rfl rfl rfl rfl rfl (Nat.le_of_ble_eq_true rfl) (Nat.le_of_ble_eq_true rfl) rfl (fun x147 h147 g147 hp147 hw147 => ?_)
  obtain ⟨rfl, rfl⟩ := hp147
  obtain rfl := Option.some.inj hw147
  refine A_h (VW 0 K k m (apN (saT K K) tn) (apF (saT K K) tn tr)) rfl ?_
  refine A_aload_n hE 151 dX7_workOut_150 rfl rfl ?_
  refine A_get hE 154 dX7_workOut_151 rfl fkX7_31 rfl rfl ?_
  refine A_isub hE 155 dX7_workOut_154 rfl ?_
  refine A_iret hE dX7_workOut_155 ⟨rfl, rfl⟩
set_option maxRecDepth 100000 in
theorem c_st_6 (K : Nat) (k m x : Int32) (tn : Nat) (tr : Nat → Int32) (dep : Nat) (hK : K < 7) (htn : tn ≤ 30) (hd : dep + 6 ≤ 10) : AMet yX7_speak cX7_speak 7 (some (.int)) 14 0 0 [.ref 0, .int 2, .int 6, .int x, .int (nI dep)] (VW 0 K k m tn tr) (pI fun r h => r = stV k m K 6 x ∧ h = VW 0 K k m (apN (stT K 6) tn) (apF (stT K 6) tn tr)) := by
  refine AMet.of (by decide +kernel) rfl (fun E ad0 hE => ?_)
  refine A_aload_n hE 1 dX7_speak_0 rfl rfl ?_
  refine A_get hE 4 dX7_speak_1 rfl fkX7_20 rfl rfl ?_
  refine A_if_ne hE 7 14 dX7_speak_4 rfl rfl (fun c4 => absurd rfl c4) (fun c4 => ?_)
  refine A_iload hE 9 dX7_speak_7 rfl rfl ?_
  refine A_bipush hE 11 dX7_speak_9 rfl (10) (by decide) ?_
  refine A_icmp_le hE 14 16 dX7_speak_11 rfl rfl (fun c11 => ?_) (fun c11 => absurd (nI_le (b := 10) (show dep ≤ 10 by omega) (by omega)) c11)
  refine A_iload_n hE 17 dX7_speak_16 rfl rfl ?_
  refine A_iload_n hE 18 dX7_speak_17 rfl rfl ?_
  refine A_callSi hE 21 (c_own_2_6) [] dX7_speak_18 rfl mkX7_50 rfl rfl rfl rfl rfl rfl (Nat.le_of_ble_eq_true rfl) (Nat.le_of_ble_eq_true rfl) rfl (fun x18 h18 g18 hp18 hw18 => ?_)
  obtain ⟨rfl, rfl⟩ := hp18
  obtain rfl := Option.some.inj hw18
  refine A_istore hE 23 dX7_speak_21 rfl rfl rfl ?_
  refine A_gsBodies hE 26 dX7_speak_23 rfl flBod ?_
  refine A_iconst hE 27 dX7_speak_26 rfl (4) rfl ?_
  refine A_iload hE 29 dX7_speak_27 rfl rfl ?_
  refine A_imul hE 30 dX7_speak_29 rfl ?_
  refine A_iload_n hE 31 dX7_speak_30 rfl rfl ?_
  refine A_iadd hE 32 dX7_speak_31 rfl ?_
  refine A_tabB hE 33 2 dX7_speak_32 rfl (by decide) (by decide) (12) (by decide) ?_
  refine A_istore hE 35 dX7_speak_33 rfl rfl rfl ?_
  refine A_aload_n hE 36 dX7_speak_35 rfl rfl ?_
  refine A_get hE 39 dX7_speak_36 rfl fkX7_14 rfl rfl ?_
  refine A_iload hE 41 dX7_speak_39 rfl rfl ?_
  refine A_callVv hE 44 (c_X3_add 30 tr tn 12 htn rfl) [1, 2] dX7_speak_41 rfl mkX7_57 rfl rfl rfl rfl rfl rfl rfl (Nat.le_of_ble_eq_true rfl) (Nat.le_of_ble_eq_true rfl) rfl (fun h41 g41 hp41 hw41 => ?_)
  obtain rfl := hp41
  obtain rfl := Option.some.inj hw41
  refine A_h (VW 0 K k m (pN tn) (pF tn tr 12)) rfl ?_
  refine A_aload_n hE 45 dX7_speak_44 rfl rfl ?_
  refine A_iload hE 47 dX7_speak_45 rfl rfl ?_
  refine A_gsAboveN hE 50 dX7_speak_47 rfl ?_
  refine A_iload hE 52 dX7_speak_50 rfl rfl ?_
  refine A_tabA hE 53 0 dX7_speak_52 rfl (by decide) (by decide) (0) (by decide) ?_
  refine A_iload_n hE 54 dX7_speak_53 rfl rfl ?_
  refine A_iload hE 56 dX7_speak_54 rfl rfl ?_
  refine A_iconst hE 57 dX7_speak_56 rfl (1) rfl ?_
  refine A_iadd hE 58 dX7_speak_57 rfl ?_
  rw [nI_1]
  refine A_callVi hE 61 (c_wo_st_6 K k m x (pN tn) (pF tn tr 12) (dep + 1) hK (pN_le htn) (by omega)) [0, 1, 2] dX7_speak_58 rfl mkX7_63 rfl rfl rfl rfl rfl rfl rfl (Nat.le_of_ble_eq_true rfl) (Nat.le_of_ble_eq_true rfl) rfl (fun x58 h58 g58 hp58 hw58 => ?_)
  obtain ⟨rfl, rfl⟩ := hp58
  obtain rfl := Option.some.inj hw58
  refine A_h (VW 0 K k m (apN (saT K K) (pN tn)) (apF (saT K K) (pN tn) (pF tn tr 12))) rfl ?_
  refine A_iret hE dX7_speak_61 ⟨rfl, rfl⟩
set_option maxRecDepth 100000 in
theorem c_wo_st_3 (K : Nat) (k m x : Int32) (tn : Nat) (tr : Nat → Int32) (dep : Nat) (hK : K < 7) (htn : tn ≤ 30) (hd : dep + 6 ≤ 10) : AMet yX7_workOut cX7_workOut 5 (some (.int)) 15 0 0 [.ref 0, .int 40, .int 0, .int x, .int (nI dep)] (VW 0 K k m tn tr) (pI fun r h => r = stV k m K 3 x ∧ h = VW 0 K k m (apN (stT K 0) tn) (apF (stT K 0) tn tr)) := by
  refine AMet.of (by decide +kernel) rfl (fun E ad0 hE => ?_)
  refine A_iload_n hE 1 dX7_workOut_0 rfl rfl ?_
  refine A_lookup hE 209 dX7_workOut_1 (by decide) (off := 208) (by decide) rfl ?_
  refine A_aload_n hE 210 dX7_workOut_209 rfl rfl ?_
  refine A_iconst hE 211 dX7_workOut_210 rfl (2) rfl ?_
  refine A_iload_n hE 212 dX7_workOut_211 rfl rfl ?_
  refine A_iload_n hE 213 dX7_workOut_212 rfl rfl ?_
  refine A_iconst hE 214 dX7_workOut_213 rfl (2) rfl ?_
  refine A_idiv hE 215 dX7_workOut_214 rfl (by decide) ?_
  refine A_iload hE 217 dX7_workOut_215 rfl rfl ?_
  refine A_callVi hE 220 (c_st_0 K k m (x / 2) tn tr dep hK htn (by omega)) [0, 1, 2] dX7_workOut_217 rfl mkX7_46 rfl rfl rfl rfl rfl rfl rfl (Nat.le_of_ble_eq_true rfl) (Nat.le_of_ble_eq_true rfl) rfl (fun x217 h217 g217 hp217 hw217 => ?_)
  obtain ⟨rfl, rfl⟩ := hp217
  obtain rfl := Option.some.inj hw217
  refine A_h (VW 0 K k m (apN (stT K 0) tn) (apF (stT K 0) tn tr)) rfl ?_
  refine A_iret hE dX7_workOut_220 ⟨rfl, rfl⟩
set_option maxRecDepth 100000 in
theorem c_st_3 (K : Nat) (k m x : Int32) (tn : Nat) (tr : Nat → Int32) (dep : Nat) (hK : K < 7) (htn : tn ≤ 30) (hd : dep + 7 ≤ 10) : AMet yX7_speak cX7_speak 7 (some (.int)) 16 0 0 [.ref 0, .int 2, .int 3, .int x, .int (nI dep)] (VW 0 K k m tn tr) (pI fun r h => r = stV k m K 3 x ∧ h = VW 0 K k m (apN (stT K 3) tn) (apF (stT K 3) tn tr)) := by
  refine AMet.of (by decide +kernel) rfl (fun E ad0 hE => ?_)
  refine A_aload_n hE 1 dX7_speak_0 rfl rfl ?_
  refine A_get hE 4 dX7_speak_1 rfl fkX7_20 rfl rfl ?_
  refine A_if_ne hE 7 14 dX7_speak_4 rfl rfl (fun c4 => absurd rfl c4) (fun c4 => ?_)
  refine A_iload hE 9 dX7_speak_7 rfl rfl ?_
  refine A_bipush hE 11 dX7_speak_9 rfl (10) (by decide) ?_
  refine A_icmp_le hE 14 16 dX7_speak_11 rfl rfl (fun c11 => ?_) (fun c11 => absurd (nI_le (b := 10) (show dep ≤ 10 by omega) (by omega)) c11)
  refine A_iload_n hE 17 dX7_speak_16 rfl rfl ?_
  refine A_iload_n hE 18 dX7_speak_17 rfl rfl ?_
  refine A_callSi hE 21 (c_own_2_3) [] dX7_speak_18 rfl mkX7_50 rfl rfl rfl rfl rfl rfl (Nat.le_of_ble_eq_true rfl) (Nat.le_of_ble_eq_true rfl) rfl (fun x18 h18 g18 hp18 hw18 => ?_)
  obtain ⟨rfl, rfl⟩ := hp18
  obtain rfl := Option.some.inj hw18
  refine A_istore hE 23 dX7_speak_21 rfl rfl rfl ?_
  refine A_gsBodies hE 26 dX7_speak_23 rfl flBod ?_
  refine A_iconst hE 27 dX7_speak_26 rfl (4) rfl ?_
  refine A_iload hE 29 dX7_speak_27 rfl rfl ?_
  refine A_imul hE 30 dX7_speak_29 rfl ?_
  refine A_iload_n hE 31 dX7_speak_30 rfl rfl ?_
  refine A_iadd hE 32 dX7_speak_31 rfl ?_
  refine A_tabB hE 33 14 dX7_speak_32 rfl (by decide) (by decide) (40) (by decide) ?_
  refine A_istore hE 35 dX7_speak_33 rfl rfl rfl ?_
  refine A_aload_n hE 36 dX7_speak_35 rfl rfl ?_
  refine A_get hE 39 dX7_speak_36 rfl fkX7_14 rfl rfl ?_
  refine A_iload hE 41 dX7_speak_39 rfl rfl ?_
  refine A_callVv hE 44 (c_X3_add 30 tr tn 40 htn rfl) [1, 2] dX7_speak_41 rfl mkX7_57 rfl rfl rfl rfl rfl rfl rfl (Nat.le_of_ble_eq_true rfl) (Nat.le_of_ble_eq_true rfl) rfl (fun h41 g41 hp41 hw41 => ?_)
  obtain rfl := hp41
  obtain rfl := Option.some.inj hw41
  refine A_h (VW 0 K k m (pN tn) (pF tn tr 40)) rfl ?_
  refine A_aload_n hE 45 dX7_speak_44 rfl rfl ?_
  refine A_iload hE 47 dX7_speak_45 rfl rfl ?_
  refine A_gsAboveN hE 50 dX7_speak_47 rfl ?_
  refine A_iload hE 52 dX7_speak_50 rfl rfl ?_
  refine A_tabA hE 53 3 dX7_speak_52 rfl (by decide) (by decide) (0) (by decide) ?_
  refine A_iload_n hE 54 dX7_speak_53 rfl rfl ?_
  refine A_iload hE 56 dX7_speak_54 rfl rfl ?_
  refine A_iconst hE 57 dX7_speak_56 rfl (1) rfl ?_
  refine A_iadd hE 58 dX7_speak_57 rfl ?_
  rw [nI_1]
  refine A_callVi hE 61 (c_wo_st_3 K k m x (pN tn) (pF tn tr 40) (dep + 1) hK (pN_le htn) (by omega)) [0, 1, 2] dX7_speak_58 rfl mkX7_63 rfl rfl rfl rfl rfl rfl rfl (Nat.le_of_ble_eq_true rfl) (Nat.le_of_ble_eq_true rfl) rfl (fun x58 h58 g58 hp58 hw58 => ?_)
  obtain ⟨rfl, rfl⟩ := hp58
  obtain rfl := Option.some.inj hw58
  refine A_h (VW 0 K k m (apN (stT K 0) (pN tn)) (apF (stT K 0) (pN tn) (pF tn tr 40))) rfl ?_
  refine A_iret hE dX7_speak_61 ⟨rfl, rfl⟩
set_option maxRecDepth 100000 in
theorem c_wo_st_4 (K : Nat) (k m x : Int32) (tn : Nat) (tr : Nat → Int32) (dep : Nat) (hK : K < 7) (htn : tn ≤ 30) (hd : dep + 6 ≤ 10) : AMet yX7_workOut cX7_workOut 5 (some (.int)) 15 0 0 [.ref 0, .int 51, .int 1, .int x, .int (nI dep)] (VW 0 K k m tn tr) (pI fun r h => r = stV k m K 4 x ∧ h = VW 0 K k m (apN (stT K 1) tn) (apF (stT K 1) tn tr)) := by
  refine AMet.of (by decide +kernel) rfl (fun E ad0 hE => ?_)
  refine A_iload_n hE 1 dX7_workOut_0 rfl rfl ?_
  refine A_lookup hE 233 dX7_workOut_1 (by decide) (off := 232) (by decide) rfl ?_
  refine A_aload_n hE 234 dX7_workOut_233 rfl rfl ?_
  refine A_iconst hE 235 dX7_workOut_234 rfl (2) rfl ?_
  refine A_iload_n hE 236 dX7_workOut_235 rfl rfl ?_
  refine A_iload_n hE 237 dX7_workOut_236 rfl rfl ?_
  refine A_iload hE 239 dX7_workOut_237 rfl rfl ?_
  refine A_callVi hE 242 (c_st_1 K k m x tn tr dep hK htn (by omega)) [0, 1, 2] dX7_workOut_239 rfl mkX7_46 rfl rfl rfl rfl rfl rfl rfl (Nat.le_of_ble_eq_true rfl) (Nat.le_of_ble_eq_true rfl) rfl (fun x239 h239 g239 hp239 hw239 => ?_)
  obtain ⟨rfl, rfl⟩ := hp239
  obtain rfl := Option.some.inj hw239
  refine A_h (VW 0 K k m (apN (stT K 1) tn) (apF (stT K 1) tn tr)) rfl ?_
  refine A_aload_n hE 243 dX7_workOut_242 rfl rfl ?_
  refine A_get hE 246 dX7_workOut_243 rfl fkX7_28 rfl rfl ?_
  refine A_ixor hE 247 dX7_workOut_246 rfl ?_
  refine A_iret hE dX7_workOut_247 ⟨rfl, rfl⟩
set_option maxRecDepth 100000 in
theorem c_st_4 (K : Nat) (k m x : Int32) (tn : Nat) (tr : Nat → Int32) (dep : Nat) (hK : K < 7) (htn : tn ≤ 30) (hd : dep + 7 ≤ 10) : AMet yX7_speak cX7_speak 7 (some (.int)) 16 0 0 [.ref 0, .int 2, .int 4, .int x, .int (nI dep)] (VW 0 K k m tn tr) (pI fun r h => r = stV k m K 4 x ∧ h = VW 0 K k m (apN (stT K 4) tn) (apF (stT K 4) tn tr)) := by
  refine AMet.of (by decide +kernel) rfl (fun E ad0 hE => ?_)
  refine A_aload_n hE 1 dX7_speak_0 rfl rfl ?_
  refine A_get hE 4 dX7_speak_1 rfl fkX7_20 rfl rfl ?_
  refine A_if_ne hE 7 14 dX7_speak_4 rfl rfl (fun c4 => absurd rfl c4) (fun c4 => ?_)
  refine A_iload hE 9 dX7_speak_7 rfl rfl ?_
  refine A_bipush hE 11 dX7_speak_9 rfl (10) (by decide) ?_
  refine A_icmp_le hE 14 16 dX7_speak_11 rfl rfl (fun c11 => ?_) (fun c11 => absurd (nI_le (b := 10) (show dep ≤ 10 by omega) (by omega)) c11)
  refine A_iload_n hE 17 dX7_speak_16 rfl rfl ?_
  refine A_iload_n hE 18 dX7_speak_17 rfl rfl ?_
  refine A_callSi hE 21 (c_own_2_4) [] dX7_speak_18 rfl mkX7_50 rfl rfl rfl rfl rfl rfl (Nat.le_of_ble_eq_true rfl) (Nat.le_of_ble_eq_true rfl) rfl (fun x18 h18 g18 hp18 hw18 => ?_)
  obtain ⟨rfl, rfl⟩ := hp18
  obtain rfl := Option.some.inj hw18
  refine A_istore hE 23 dX7_speak_21 rfl rfl rfl ?_
  refine A_gsBodies hE 26 dX7_speak_23 rfl flBod ?_
  refine A_iconst hE 27 dX7_speak_26 rfl (4) rfl ?_
  refine A_iload hE 29 dX7_speak_27 rfl rfl ?_
  refine A_imul hE 30 dX7_speak_29 rfl ?_
  refine A_iload_n hE 31 dX7_speak_30 rfl rfl ?_
  refine A_iadd hE 32 dX7_speak_31 rfl ?_
  refine A_tabB hE 33 18 dX7_speak_32 rfl (by decide) (by decide) (51) (by decide) ?_
  refine A_istore hE 35 dX7_speak_33 rfl rfl rfl ?_
  refine A_aload_n hE 36 dX7_speak_35 rfl rfl ?_
  refine A_get hE 39 dX7_speak_36 rfl fkX7_14 rfl rfl ?_
  refine A_iload hE 41 dX7_speak_39 rfl rfl ?_
  refine A_callVv hE 44 (c_X3_add 30 tr tn 51 htn rfl) [1, 2] dX7_speak_41 rfl mkX7_57 rfl rfl rfl rfl rfl rfl rfl (Nat.le_of_ble_eq_true rfl) (Nat.le_of_ble_eq_true rfl) rfl (fun h41 g41 hp41 hw41 => ?_)
  obtain rfl := hp41
  obtain rfl := Option.some.inj hw41
  refine A_h (VW 0 K k m (pN tn) (pF tn tr 51)) rfl ?_
  refine A_aload_n hE 45 dX7_speak_44 rfl rfl ?_
  refine A_iload hE 47 dX7_speak_45 rfl rfl ?_
  refine A_gsAboveN hE 50 dX7_speak_47 rfl ?_
  refine A_iload hE 52 dX7_speak_50 rfl rfl ?_
  refine A_tabA hE 53 4 dX7_speak_52 rfl (by decide) (by decide) (1) (by decide) ?_
  refine A_iload_n hE 54 dX7_speak_53 rfl rfl ?_
  refine A_iload hE 56 dX7_speak_54 rfl rfl ?_
  refine A_iconst hE 57 dX7_speak_56 rfl (1) rfl ?_
  refine A_iadd hE 58 dX7_speak_57 rfl ?_
  rw [nI_1]
  refine A_callVi hE 61 (c_wo_st_4 K k m x (pN tn) (pF tn tr 51) (dep + 1) hK (pN_le htn) (by omega)) [0, 1, 2] dX7_speak_58 rfl mkX7_63 rfl rfl rfl rfl rfl rfl rfl (Nat.le_of_ble_eq_true rfl) (Nat.le_of_ble_eq_true rfl) rfl (fun x58 h58 g58 hp58 hw58 => ?_)
  obtain ⟨rfl, rfl⟩ := hp58
  obtain rfl := Option.some.inj hw58
  refine A_h (VW 0 K k m (apN (stT K 1) (pN tn)) (apF (stT K 1) (pN tn) (pF tn tr 51))) rfl ?_
  refine A_iret hE dX7_speak_61 ⟨rfl, rfl⟩
theorem c_st (f : Nat) (K : Nat) (k m x : Int32) (tn : Nat) (tr : Nat → Int32) (dep : Nat) (hf : f < 7) (hK : K < 7) (htn : tn ≤ 30) (hd : dep + 7 ≤ 10) : AMet yX7_speak cX7_speak 7 (some .int) 16 0 0 [.ref 0, .int 2, .int (nI f), .int x, .int (nI dep)] (VW 0 K k m tn tr) (pI fun r h => r = stV k m K f x ∧ h = VW 0 K k m (apN (stT K f) tn) (apF (stT K f) tn tr)) := by
  match f, hf with
  | 0, _ => exact (c_st_0 K k m x tn tr dep hK htn (by omega)).mono rfl
  | 1, _ => exact (c_st_1 K k m x tn tr dep hK htn (by omega)).mono rfl
  | 2, _ => exact (c_st_2 K k m x tn tr dep hK htn (by omega)).mono rfl
  | 3, _ => exact (c_st_3 K k m x tn tr dep hK htn (by omega)).mono rfl
  | 4, _ => exact (c_st_4 K k m x tn tr dep hK htn (by omega)).mono rfl
  | 5, _ => exact (c_st_5 K k m x tn tr dep hK htn (by omega)).mono rfl
  | 6, _ => exact (c_st_6 K k m x tn tr dep hK htn (by omega)).mono rfl
set_option maxRecDepth 100000 in
theorem c_wo_pap_0 (K : Nat) (k m x : Int32) (tn : Nat) (tr : Nat → Int32) (dep : Nat) (hK : K < 7) (htn : tn ≤ 30) (hm : m = k) : AMet yX7_workOut cX7_workOut 5 (some (.int)) 1 0 0 [.ref 0, .int 13, .int 0, .int x, .int (nI dep)] (VW 0 K k m tn tr) (pI fun r h => r = 0 ∧ h = VW 1 K k m tn tr) := by
  refine AMet.of (by decide +kernel) rfl (fun E ad0 hE => ?_)
  refine A_iload_n hE 1 dX7_workOut_0 rfl rfl ?_
  refine A_lookup hE 156 dX7_workOut_1 (by decide) (off := 155) (by decide) rfl ?_
  refine A_aload_n hE 157 dX7_workOut_156 rfl rfl ?_
  refine A_iload_n hE 158 dX7_workOut_157 rfl rfl ?_
  refine A_callVi hE 161 (c_part_p K k m x tn tr hm) [0, 1, 2] dX7_workOut_158 rfl mkX7_66 rfl rfl rfl rfl rfl rfl rfl (Nat.le_of_ble_eq_true rfl) (Nat.le_of_ble_eq_true rfl) rfl (fun x158 h158 g158 hp158 hw158 => ?_)
  obtain ⟨rfl, rfl⟩ := hp158
  obtain rfl := Option.some.inj hw158
  refine A_h (VW 1 K k m tn tr) rfl ?_
  refine A_iret hE dX7_workOut_161 ⟨rfl, rfl⟩
set_option maxRecDepth 100000 in
theorem c_pap_0 (K : Nat) (k m x : Int32) (tn : Nat) (tr : Nat → Int32) (dep : Nat) (hK : K < 7) (htn : tn ≤ 30) (hd : dep + 0 ≤ 10) (hm : m = k) : AMet yX7_speak cX7_speak 7 (some (.int)) 2 0 0 [.ref 0, .int 3, .int 0, .int x, .int (nI dep)] (VW 0 K k m tn tr) (pI fun r h => r = 0 ∧ h = VW 1 K k m (apN (paTp 0) tn) (apF (paTp 0) tn tr)) := by
  refine AMet.of (by decide +kernel) rfl (fun E ad0 hE => ?_)
  refine A_aload_n hE 1 dX7_speak_0 rfl rfl ?_
  refine A_get hE 4 dX7_speak_1 rfl fkX7_20 rfl rfl ?_
  refine A_if_ne hE 7 14 dX7_speak_4 rfl rfl (fun c4 => absurd rfl c4) (fun c4 => ?_)
  refine A_iload hE 9 dX7_speak_7 rfl rfl ?_
  refine A_bipush hE 11 dX7_speak_9 rfl (10) (by decide) ?_
  refine A_icmp_le hE 14 16 dX7_speak_11 rfl rfl (fun c11 => ?_) (fun c11 => absurd (nI_le (b := 10) (show dep ≤ 10 by omega) (by omega)) c11)
  refine A_iload_n hE 17 dX7_speak_16 rfl rfl ?_
  refine A_iload_n hE 18 dX7_speak_17 rfl rfl ?_
  refine A_callSi hE 21 (c_own_3_0) [] dX7_speak_18 rfl mkX7_50 rfl rfl rfl rfl rfl rfl (Nat.le_of_ble_eq_true rfl) (Nat.le_of_ble_eq_true rfl) rfl (fun x18 h18 g18 hp18 hw18 => ?_)
  obtain ⟨rfl, rfl⟩ := hp18
  obtain rfl := Option.some.inj hw18
  refine A_istore hE 23 dX7_speak_21 rfl rfl rfl ?_
  refine A_gsBodies hE 26 dX7_speak_23 rfl flBod ?_
  refine A_iconst hE 27 dX7_speak_26 rfl (4) rfl ?_
  refine A_iload hE 29 dX7_speak_27 rfl rfl ?_
  refine A_imul hE 30 dX7_speak_29 rfl ?_
  refine A_iload_n hE 31 dX7_speak_30 rfl rfl ?_
  refine A_iadd hE 32 dX7_speak_31 rfl ?_
  refine A_tabB hE 33 3 dX7_speak_32 rfl (by decide) (by decide) (13) (by decide) ?_
  refine A_istore hE 35 dX7_speak_33 rfl rfl rfl ?_
  refine A_aload_n hE 36 dX7_speak_35 rfl rfl ?_
  refine A_get hE 39 dX7_speak_36 rfl fkX7_14 rfl rfl ?_
  refine A_iload hE 41 dX7_speak_39 rfl rfl ?_
  refine A_callVv hE 44 (c_X3_add 30 tr tn 13 htn rfl) [1, 2] dX7_speak_41 rfl mkX7_57 rfl rfl rfl rfl rfl rfl rfl (Nat.le_of_ble_eq_true rfl) (Nat.le_of_ble_eq_true rfl) rfl (fun h41 g41 hp41 hw41 => ?_)
  obtain rfl := hp41
  obtain rfl := Option.some.inj hw41
  refine A_h (VW 0 K k m (pN tn) (pF tn tr 13)) rfl ?_
  refine A_aload_n hE 45 dX7_speak_44 rfl rfl ?_
  refine A_iload hE 47 dX7_speak_45 rfl rfl ?_
  refine A_gsAboveN hE 50 dX7_speak_47 rfl ?_
  refine A_iload hE 52 dX7_speak_50 rfl rfl ?_
  refine A_tabA hE 53 0 dX7_speak_52 rfl (by decide) (by decide) (0) (by decide) ?_
  refine A_iload_n hE 54 dX7_speak_53 rfl rfl ?_
  refine A_iload hE 56 dX7_speak_54 rfl rfl ?_
  refine A_iconst hE 57 dX7_speak_56 rfl (1) rfl ?_
  refine A_iadd hE 58 dX7_speak_57 rfl ?_
  rw [nI_1]
  refine A_callVi hE 61 (c_wo_pap_0 K k m x (pN tn) (pF tn tr 13) (dep + 1) hK (pN_le htn) hm) [0, 1, 2] dX7_speak_58 rfl mkX7_63 rfl rfl rfl rfl rfl rfl rfl (Nat.le_of_ble_eq_true rfl) (Nat.le_of_ble_eq_true rfl) rfl (fun x58 h58 g58 hp58 hw58 => ?_)
  obtain ⟨rfl, rfl⟩ := hp58
  obtain rfl := Option.some.inj hw58
  refine A_h (VW 1 K k m (pN tn) (pF tn tr 13)) rfl ?_
  refine A_iret hE dX7_speak_61 ⟨rfl, rfl⟩
set_option maxRecDepth 100000 in
theorem c_wo_pap_2 (K : Nat) (k m x : Int32) (tn : Nat) (tr : Nat → Int32) (dep : Nat) (hK : K < 7) (htn : tn ≤ 30) (hm : m = k) : AMet yX7_workOut cX7_workOut 5 (some (.int)) 1 0 0 [.ref 0, .int 13, .int 0, .int x, .int (nI dep)] (VW 0 K k m tn tr) (pI fun r h => r = 0 ∧ h = VW 1 K k m tn tr) := by
  refine AMet.of (by decide +kernel) rfl (fun E ad0 hE => ?_)
  refine A_iload_n hE 1 dX7_workOut_0 rfl rfl ?_
  refine A_lookup hE 156 dX7_workOut_1 (by decide) (off := 155) (by decide) rfl ?_
  refine A_aload_n hE 157 dX7_workOut_156 rfl rfl ?_
  refine A_iload_n hE 158 dX7_workOut_157 rfl rfl ?_
  refine A_callVi hE 161 (c_part_p K k m x tn tr hm) [0, 1, 2] dX7_workOut_158 rfl mkX7_66 rfl rfl rfl rfl rfl rfl rfl (Nat.le_of_ble_eq_true rfl) (Nat.le_of_ble_eq_true rfl) rfl (fun x158 h158 g158 hp158 hw158 => ?_)
  obtain ⟨rfl, rfl⟩ := hp158
  obtain rfl := Option.some.inj hw158
  refine A_h (VW 1 K k m tn tr) rfl ?_
  refine A_iret hE dX7_workOut_161 ⟨rfl, rfl⟩
set_option maxRecDepth 100000 in
theorem c_pap_2 (K : Nat) (k m x : Int32) (tn : Nat) (tr : Nat → Int32) (dep : Nat) (hK : K < 7) (htn : tn ≤ 30) (hd : dep + 0 ≤ 10) (hm : m = k) : AMet yX7_speak cX7_speak 7 (some (.int)) 2 0 0 [.ref 0, .int 3, .int 2, .int x, .int (nI dep)] (VW 0 K k m tn tr) (pI fun r h => r = 0 ∧ h = VW 1 K k m (apN (paTp 2) tn) (apF (paTp 2) tn tr)) := by
  refine AMet.of (by decide +kernel) rfl (fun E ad0 hE => ?_)
  refine A_aload_n hE 1 dX7_speak_0 rfl rfl ?_
  refine A_get hE 4 dX7_speak_1 rfl fkX7_20 rfl rfl ?_
  refine A_if_ne hE 7 14 dX7_speak_4 rfl rfl (fun c4 => absurd rfl c4) (fun c4 => ?_)
  refine A_iload hE 9 dX7_speak_7 rfl rfl ?_
  refine A_bipush hE 11 dX7_speak_9 rfl (10) (by decide) ?_
  refine A_icmp_le hE 14 16 dX7_speak_11 rfl rfl (fun c11 => ?_) (fun c11 => absurd (nI_le (b := 10) (show dep ≤ 10 by omega) (by omega)) c11)
  refine A_iload_n hE 17 dX7_speak_16 rfl rfl ?_
  refine A_iload_n hE 18 dX7_speak_17 rfl rfl ?_
  refine A_callSi hE 21 (c_own_3_2) [] dX7_speak_18 rfl mkX7_50 rfl rfl rfl rfl rfl rfl (Nat.le_of_ble_eq_true rfl) (Nat.le_of_ble_eq_true rfl) rfl (fun x18 h18 g18 hp18 hw18 => ?_)
  obtain ⟨rfl, rfl⟩ := hp18
  obtain rfl := Option.some.inj hw18
  refine A_istore hE 23 dX7_speak_21 rfl rfl rfl ?_
  refine A_gsBodies hE 26 dX7_speak_23 rfl flBod ?_
  refine A_iconst hE 27 dX7_speak_26 rfl (4) rfl ?_
  refine A_iload hE 29 dX7_speak_27 rfl rfl ?_
  refine A_imul hE 30 dX7_speak_29 rfl ?_
  refine A_iload_n hE 31 dX7_speak_30 rfl rfl ?_
  refine A_iadd hE 32 dX7_speak_31 rfl ?_
  refine A_tabB hE 33 3 dX7_speak_32 rfl (by decide) (by decide) (13) (by decide) ?_
  refine A_istore hE 35 dX7_speak_33 rfl rfl rfl ?_
  refine A_aload_n hE 36 dX7_speak_35 rfl rfl ?_
  refine A_get hE 39 dX7_speak_36 rfl fkX7_14 rfl rfl ?_
  refine A_iload hE 41 dX7_speak_39 rfl rfl ?_
  refine A_callVv hE 44 (c_X3_add 30 tr tn 13 htn rfl) [1, 2] dX7_speak_41 rfl mkX7_57 rfl rfl rfl rfl rfl rfl rfl (Nat.le_of_ble_eq_true rfl) (Nat.le_of_ble_eq_true rfl) rfl (fun h41 g41 hp41 hw41 => ?_)
  obtain rfl := hp41
  obtain rfl := Option.some.inj hw41
  refine A_h (VW 0 K k m (pN tn) (pF tn tr 13)) rfl ?_
  refine A_aload_n hE 45 dX7_speak_44 rfl rfl ?_
  refine A_iload hE 47 dX7_speak_45 rfl rfl ?_
  refine A_gsAboveN hE 50 dX7_speak_47 rfl ?_
  refine A_iload hE 52 dX7_speak_50 rfl rfl ?_
  refine A_tabA hE 53 0 dX7_speak_52 rfl (by decide) (by decide) (0) (by decide) ?_
  refine A_iload_n hE 54 dX7_speak_53 rfl rfl ?_
  refine A_iload hE 56 dX7_speak_54 rfl rfl ?_
  refine A_iconst hE 57 dX7_speak_56 rfl (1) rfl ?_
  refine A_iadd hE 58 dX7_speak_57 rfl ?_
  rw [nI_1]
  refine A_callVi hE 61 (c_wo_pap_2 K k m x (pN tn) (pF tn tr 13) (dep + 1) hK (pN_le htn) hm) [0, 1, 2] dX7_speak_58 rfl mkX7_63 rfl rfl rfl rfl rfl rfl rfl (Nat.le_of_ble_eq_true rfl) (Nat.le_of_ble_eq_true rfl) rfl (fun x58 h58 g58 hp58 hw58 => ?_)
  obtain ⟨rfl, rfl⟩ := hp58
  obtain rfl := Option.some.inj hw58
  refine A_h (VW 1 K k m (pN tn) (pF tn tr 13)) rfl ?_
  refine A_iret hE dX7_speak_61 ⟨rfl, rfl⟩
set_option maxRecDepth 100000 in
theorem c_wo_pap_3 (K : Nat) (k m x : Int32) (tn : Nat) (tr : Nat → Int32) (dep : Nat) (hK : K < 7) (htn : tn ≤ 30) (hm : m = k) : AMet yX7_workOut cX7_workOut 5 (some (.int)) 1 0 0 [.ref 0, .int 13, .int 0, .int x, .int (nI dep)] (VW 0 K k m tn tr) (pI fun r h => r = 0 ∧ h = VW 1 K k m tn tr) := by
  refine AMet.of (by decide +kernel) rfl (fun E ad0 hE => ?_)
  refine A_iload_n hE 1 dX7_workOut_0 rfl rfl ?_
  refine A_lookup hE 156 dX7_workOut_1 (by decide) (off := 155) (by decide) rfl ?_
  refine A_aload_n hE 157 dX7_workOut_156 rfl rfl ?_
  refine A_iload_n hE 158 dX7_workOut_157 rfl rfl ?_
  refine A_callVi hE 161 (c_part_p K k m x tn tr hm) [0, 1, 2] dX7_workOut_158 rfl mkX7_66 rfl rfl rfl rfl rfl rfl rfl (Nat.le_of_ble_eq_true rfl) (Nat.le_of_ble_eq_true rfl) rfl (fun x158 h158 g158 hp158 hw158 => ?_)
  obtain ⟨rfl, rfl⟩ := hp158
  obtain rfl := Option.some.inj hw158
  refine A_h (VW 1 K k m tn tr) rfl ?_
  refine A_iret hE dX7_workOut_161 ⟨rfl, rfl⟩
set_option maxRecDepth 100000 in
theorem c_pap_3 (K : Nat) (k m x : Int32) (tn : Nat) (tr : Nat → Int32) (dep : Nat) (hK : K < 7) (htn : tn ≤ 30) (hd : dep + 0 ≤ 10) (hm : m = k) : AMet yX7_speak cX7_speak 7 (some (.int)) 2 0 0 [.ref 0, .int 3, .int 3, .int x, .int (nI dep)] (VW 0 K k m tn tr) (pI fun r h => r = 0 ∧ h = VW 1 K k m (apN (paTp 3) tn) (apF (paTp 3) tn tr)) := by
  refine AMet.of (by decide +kernel) rfl (fun E ad0 hE => ?_)
  refine A_aload_n hE 1 dX7_speak_0 rfl rfl ?_
  refine A_get hE 4 dX7_speak_1 rfl fkX7_20 rfl rfl ?_
  refine A_if_ne hE 7 14 dX7_speak_4 rfl rfl (fun c4 => absurd rfl c4) (fun c4 => ?_)
  refine A_iload hE 9 dX7_speak_7 rfl rfl ?_
  refine A_bipush hE 11 dX7_speak_9 rfl (10) (by decide) ?_
  refine A_icmp_le hE 14 16 dX7_speak_11 rfl rfl (fun c11 => ?_) (fun c11 => absurd (nI_le (b := 10) (show dep ≤ 10 by omega) (by omega)) c11)
  refine A_iload_n hE 17 dX7_speak_16 rfl rfl ?_
  refine A_iload_n hE 18 dX7_speak_17 rfl rfl ?_
  refine A_callSi hE 21 (c_own_3_3) [] dX7_speak_18 rfl mkX7_50 rfl rfl rfl rfl rfl rfl (Nat.le_of_ble_eq_true rfl) (Nat.le_of_ble_eq_true rfl) rfl (fun x18 h18 g18 hp18 hw18 => ?_)
  obtain ⟨rfl, rfl⟩ := hp18
  obtain rfl := Option.some.inj hw18
  refine A_istore hE 23 dX7_speak_21 rfl rfl rfl ?_
  refine A_gsBodies hE 26 dX7_speak_23 rfl flBod ?_
  refine A_iconst hE 27 dX7_speak_26 rfl (4) rfl ?_
  refine A_iload hE 29 dX7_speak_27 rfl rfl ?_
  refine A_imul hE 30 dX7_speak_29 rfl ?_
  refine A_iload_n hE 31 dX7_speak_30 rfl rfl ?_
  refine A_iadd hE 32 dX7_speak_31 rfl ?_
  refine A_tabB hE 33 3 dX7_speak_32 rfl (by decide) (by decide) (13) (by decide) ?_
  refine A_istore hE 35 dX7_speak_33 rfl rfl rfl ?_
  refine A_aload_n hE 36 dX7_speak_35 rfl rfl ?_
  refine A_get hE 39 dX7_speak_36 rfl fkX7_14 rfl rfl ?_
  refine A_iload hE 41 dX7_speak_39 rfl rfl ?_
  refine A_callVv hE 44 (c_X3_add 30 tr tn 13 htn rfl) [1, 2] dX7_speak_41 rfl mkX7_57 rfl rfl rfl rfl rfl rfl rfl (Nat.le_of_ble_eq_true rfl) (Nat.le_of_ble_eq_true rfl) rfl (fun h41 g41 hp41 hw41 => ?_)
  obtain rfl := hp41
  obtain rfl := Option.some.inj hw41
  refine A_h (VW 0 K k m (pN tn) (pF tn tr 13)) rfl ?_
  refine A_aload_n hE 45 dX7_speak_44 rfl rfl ?_
  refine A_iload hE 47 dX7_speak_45 rfl rfl ?_
  refine A_gsAboveN hE 50 dX7_speak_47 rfl ?_
  refine A_iload hE 52 dX7_speak_50 rfl rfl ?_
  refine A_tabA hE 53 0 dX7_speak_52 rfl (by decide) (by decide) (0) (by decide) ?_
  refine A_iload_n hE 54 dX7_speak_53 rfl rfl ?_
  refine A_iload hE 56 dX7_speak_54 rfl rfl ?_
  refine A_iconst hE 57 dX7_speak_56 rfl (1) rfl ?_
  refine A_iadd hE 58 dX7_speak_57 rfl ?_
  rw [nI_1]
  refine A_callVi hE 61 (c_wo_pap_3 K k m x (pN tn) (pF tn tr 13) (dep + 1) hK (pN_le htn) hm) [0, 1, 2] dX7_speak_58 rfl mkX7_63 rfl rfl rfl rfl rfl rfl rfl (Nat.le_of_ble_eq_true rfl) (Nat.le_of_ble_eq_true rfl) rfl (fun x58 h58 g58 hp58 hw58 => ?_)
  obtain ⟨rfl, rfl⟩ := hp58
  obtain rfl := Option.some.inj hw58
  refine A_h (VW 1 K k m (pN tn) (pF tn tr 13)) rfl ?_
  refine A_iret hE dX7_speak_61 ⟨rfl, rfl⟩
set_option maxRecDepth 100000 in
theorem c_wo_pap_5 (K : Nat) (k m x : Int32) (tn : Nat) (tr : Nat → Int32) (dep : Nat) (hK : K < 7) (htn : tn ≤ 30) (hm : m = k) : AMet yX7_workOut cX7_workOut 5 (some (.int)) 1 0 0 [.ref 0, .int 13, .int 0, .int x, .int (nI dep)] (VW 0 K k m tn tr) (pI fun r h => r = 0 ∧ h = VW 1 K k m tn tr) := by
  refine AMet.of (by decide +kernel) rfl (fun E ad0 hE => ?_)
  refine A_iload_n hE 1 dX7_workOut_0 rfl rfl ?_
  refine A_lookup hE 156 dX7_workOut_1 (by decide) (off := 155) (by decide) rfl ?_
  refine A_aload_n hE 157 dX7_workOut_156 rfl rfl ?_
  refine A_iload_n hE 158 dX7_workOut_157 rfl rfl ?_
  refine A_callVi hE 161 (c_part_p K k m x tn tr hm) [0, 1, 2] dX7_workOut_158 rfl mkX7_66 rfl rfl rfl rfl rfl rfl rfl (Nat.le_of_ble_eq_true rfl) (Nat.le_of_ble_eq_true rfl) rfl (fun x158 h158 g158 hp158 hw158 => ?_)
  obtain ⟨rfl, rfl⟩ := hp158
  obtain rfl := Option.some.inj hw158
  refine A_h (VW 1 K k m tn tr) rfl ?_
  refine A_iret hE dX7_workOut_161 ⟨rfl, rfl⟩
set_option maxRecDepth 100000 in
theorem c_pap_5 (K : Nat) (k m x : Int32) (tn : Nat) (tr : Nat → Int32) (dep : Nat) (hK : K < 7) (htn : tn ≤ 30) (hd : dep + 0 ≤ 10) (hm : m = k) : AMet yX7_speak cX7_speak 7 (some (.int)) 2 0 0 [.ref 0, .int 3, .int 5, .int x, .int (nI dep)] (VW 0 K k m tn tr) (pI fun r h => r = 0 ∧ h = VW 1 K k m (apN (paTp 5) tn) (apF (paTp 5) tn tr)) := by
  refine AMet.of (by decide +kernel) rfl (fun E ad0 hE => ?_)
  refine A_aload_n hE 1 dX7_speak_0 rfl rfl ?_
  refine A_get hE 4 dX7_speak_1 rfl fkX7_20 rfl rfl ?_
  refine A_if_ne hE 7 14 dX7_speak_4 rfl rfl (fun c4 => absurd rfl c4) (fun c4 => ?_)
  refine A_iload hE 9 dX7_speak_7 rfl rfl ?_
  refine A_bipush hE 11 dX7_speak_9 rfl (10) (by decide) ?_
  refine A_icmp_le hE 14 16 dX7_speak_11 rfl rfl (fun c11 => ?_) (fun c11 => absurd (nI_le (b := 10) (show dep ≤ 10 by omega) (by omega)) c11)
  refine A_iload_n hE 17 dX7_speak_16 rfl rfl ?_
  refine A_iload_n hE 18 dX7_speak_17 rfl rfl ?_
  refine A_callSi hE 21 (c_own_3_5) [] dX7_speak_18 rfl mkX7_50 rfl rfl rfl rfl rfl rfl (Nat.le_of_ble_eq_true rfl) (Nat.le_of_ble_eq_true rfl) rfl (fun x18 h18 g18 hp18 hw18 => ?_)
  obtain ⟨rfl, rfl⟩ := hp18
  obtain rfl := Option.some.inj hw18
  refine A_istore hE 23 dX7_speak_21 rfl rfl rfl ?_
  refine A_gsBodies hE 26 dX7_speak_23 rfl flBod ?_
  refine A_iconst hE 27 dX7_speak_26 rfl (4) rfl ?_
  refine A_iload hE 29 dX7_speak_27 rfl rfl ?_
  refine A_imul hE 30 dX7_speak_29 rfl ?_
  refine A_iload_n hE 31 dX7_speak_30 rfl rfl ?_
  refine A_iadd hE 32 dX7_speak_31 rfl ?_
  refine A_tabB hE 33 3 dX7_speak_32 rfl (by decide) (by decide) (13) (by decide) ?_
  refine A_istore hE 35 dX7_speak_33 rfl rfl rfl ?_
  refine A_aload_n hE 36 dX7_speak_35 rfl rfl ?_
  refine A_get hE 39 dX7_speak_36 rfl fkX7_14 rfl rfl ?_
  refine A_iload hE 41 dX7_speak_39 rfl rfl ?_
  refine A_callVv hE 44 (c_X3_add 30 tr tn 13 htn rfl) [1, 2] dX7_speak_41 rfl mkX7_57 rfl rfl rfl rfl rfl rfl rfl (Nat.le_of_ble_eq_true rfl) (Nat.le_of_ble_eq_true rfl) rfl (fun h41 g41 hp41 hw41 => ?_)
  obtain rfl := hp41
  obtain rfl := Option.some.inj hw41
  refine A_h (VW 0 K k m (pN tn) (pF tn tr 13)) rfl ?_
  refine A_aload_n hE 45 dX7_speak_44 rfl rfl ?_
  refine A_iload hE 47 dX7_speak_45 rfl rfl ?_
  refine A_gsAboveN hE 50 dX7_speak_47 rfl ?_
  refine A_iload hE 52 dX7_speak_50 rfl rfl ?_
  refine A_tabA hE 53 0 dX7_speak_52 rfl (by decide) (by decide) (0) (by decide) ?_
  refine A_iload_n hE 54 dX7_speak_53 rfl rfl ?_
  refine A_iload hE 56 dX7_speak_54 rfl rfl ?_
  refine A_iconst hE 57 dX7_speak_56 rfl (1) rfl ?_
  refine A_iadd hE 58 dX7_speak_57 rfl ?_
  rw [nI_1]
  refine A_callVi hE 61 (c_wo_pap_5 K k m x (pN tn) (pF tn tr 13) (dep + 1) hK (pN_le htn) hm) [0, 1, 2] dX7_speak_58 rfl mkX7_63 rfl rfl rfl rfl rfl rfl rfl (Nat.le_of_ble_eq_true rfl) (Nat.le_of_ble_eq_true rfl) rfl (fun x58 h58 g58 hp58 hw58 => ?_)
  obtain ⟨rfl, rfl⟩ := hp58
  obtain rfl := Option.some.inj hw58
  refine A_h (VW 1 K k m (pN tn) (pF tn tr 13)) rfl ?_
  refine A_iret hE dX7_speak_61 ⟨rfl, rfl⟩
set_option maxRecDepth 100000 in
theorem c_wo_pap_6 (K : Nat) (k m x : Int32) (tn : Nat) (tr : Nat → Int32) (dep : Nat) (hK : K < 7) (htn : tn ≤ 30) (hm : m = k) : AMet yX7_workOut cX7_workOut 5 (some (.int)) 1 0 0 [.ref 0, .int 13, .int 0, .int x, .int (nI dep)] (VW 0 K k m tn tr) (pI fun r h => r = 0 ∧ h = VW 1 K k m tn tr) := by
  refine AMet.of (by decide +kernel) rfl (fun E ad0 hE => ?_)
  refine A_iload_n hE 1 dX7_workOut_0 rfl rfl ?_
  refine A_lookup hE 156 dX7_workOut_1 (by decide) (off := 155) (by decide) rfl ?_
  refine A_aload_n hE 157 dX7_workOut_156 rfl rfl ?_
  refine A_iload_n hE 158 dX7_workOut_157 rfl rfl ?_
  refine A_callVi hE 161 (c_part_p K k m x tn tr hm) [0, 1, 2] dX7_workOut_158 rfl mkX7_66 rfl rfl rfl rfl rfl rfl rfl (Nat.le_of_ble_eq_true rfl) (Nat.le_of_ble_eq_true rfl) rfl (fun x158 h158 g158 hp158 hw158 => ?_)
  obtain ⟨rfl, rfl⟩ := hp158
  obtain rfl := Option.some.inj hw158
  refine A_h (VW 1 K k m tn tr) rfl ?_
  refine A_iret hE dX7_workOut_161 ⟨rfl, rfl⟩
set_option maxRecDepth 100000 in
theorem c_pap_6 (K : Nat) (k m x : Int32) (tn : Nat) (tr : Nat → Int32) (dep : Nat) (hK : K < 7) (htn : tn ≤ 30) (hd : dep + 0 ≤ 10) (hm : m = k) : AMet yX7_speak cX7_speak 7 (some (.int)) 2 0 0 [.ref 0, .int 3, .int 6, .int x, .int (nI dep)] (VW 0 K k m tn tr) (pI fun r h => r = 0 ∧ h = VW 1 K k m (apN (paTp 6) tn) (apF (paTp 6) tn tr)) := by
  refine AMet.of (by decide +kernel) rfl (fun E ad0 hE => ?_)
  refine A_aload_n hE 1 dX7_speak_0 rfl rfl ?_
  refine A_get hE 4 dX7_speak_1 rfl fkX7_20 rfl rfl ?_
  refine A_if_ne hE 7 14 dX7_speak_4 rfl rfl (fun c4 => absurd rfl c4) (fun c4 => ?_)
  refine A_iload hE 9 dX7_speak_7 rfl rfl ?_
  refine A_bipush hE 11 dX7_speak_9 rfl (10) (by decide) ?_
  refine A_icmp_le hE 14 16 dX7_speak_11 rfl rfl (fun c11 => ?_) (fun c11 => absurd (nI_le (b := 10) (show dep ≤ 10 by omega) (by omega)) c11)
  refine A_iload_n hE 17 dX7_speak_16 rfl rfl ?_
  refine A_iload_n hE 18 dX7_speak_17 rfl rfl ?_
  refine A_callSi hE 21 (c_own_3_6) [] dX7_speak_18 rfl mkX7_50 rfl rfl rfl rfl rfl rfl (Nat.le_of_ble_eq_true rfl) (Nat.le_of_ble_eq_true rfl) rfl (fun x18 h18 g18 hp18 hw18 => ?_)
  obtain ⟨rfl, rfl⟩ := hp18
  obtain rfl := Option.some.inj hw18
  refine A_istore hE 23 dX7_speak_21 rfl rfl rfl ?_
  refine A_gsBodies hE 26 dX7_speak_23 rfl flBod ?_
  refine A_iconst hE 27 dX7_speak_26 rfl (4) rfl ?_
  refine A_iload hE 29 dX7_speak_27 rfl rfl ?_
  refine A_imul hE 30 dX7_speak_29 rfl ?_
  refine A_iload_n hE 31 dX7_speak_30 rfl rfl ?_
  refine A_iadd hE 32 dX7_speak_31 rfl ?_
  refine A_tabB hE 33 3 dX7_speak_32 rfl (by decide) (by decide) (13) (by decide) ?_
  refine A_istore hE 35 dX7_speak_33 rfl rfl rfl ?_
  refine A_aload_n hE 36 dX7_speak_35 rfl rfl ?_
  refine A_get hE 39 dX7_speak_36 rfl fkX7_14 rfl rfl ?_
  refine A_iload hE 41 dX7_speak_39 rfl rfl ?_
  refine A_callVv hE 44 (c_X3_add 30 tr tn 13 htn rfl) [1, 2] dX7_speak_41 rfl mkX7_57 rfl rfl rfl rfl rfl rfl rfl (Nat.le_of_ble_eq_true rfl) (Nat.le_of_ble_eq_true rfl) rfl (fun h41 g41 hp41 hw41 => ?_)
  obtain rfl := hp41
  obtain rfl := Option.some.inj hw41
  refine A_h (VW 0 K k m (pN tn) (pF tn tr 13)) rfl ?_
  refine A_aload_n hE 45 dX7_speak_44 rfl rfl ?_
  refine A_iload hE 47 dX7_speak_45 rfl rfl ?_
  refine A_gsAboveN hE 50 dX7_speak_47 rfl ?_
  refine A_iload hE 52 dX7_speak_50 rfl rfl ?_
  refine A_tabA hE 53 0 dX7_speak_52 rfl (by decide) (by decide) (0) (by decide) ?_
  refine A_iload_n hE 54 dX7_speak_53 rfl rfl ?_
  refine A_iload hE 56 dX7_speak_54 rfl rfl ?_
  refine A_iconst hE 57 dX7_speak_56 rfl (1) rfl ?_
  refine A_iadd hE 58 dX7_speak_57 rfl ?_
  rw [nI_1]
  refine A_callVi hE 61 (c_wo_pap_6 K k m x (pN tn) (pF tn tr 13) (dep + 1) hK (pN_le htn) hm) [0, 1, 2] dX7_speak_58 rfl mkX7_63 rfl rfl rfl rfl rfl rfl rfl (Nat.le_of_ble_eq_true rfl) (Nat.le_of_ble_eq_true rfl) rfl (fun x58 h58 g58 hp58 hw58 => ?_)
  obtain ⟨rfl, rfl⟩ := hp58
  obtain rfl := Option.some.inj hw58
  refine A_h (VW 1 K k m (pN tn) (pF tn tr 13)) rfl ?_
  refine A_iret hE dX7_speak_61 ⟨rfl, rfl⟩
set_option maxRecDepth 100000 in
theorem c_wo_pap_1 (K : Nat) (k m x : Int32) (tn : Nat) (tr : Nat → Int32) (dep : Nat) (hK : K < 7) (htn : tn ≤ 30) (hd : dep + 5 ≤ 10) (hm : m = k) : AMet yX7_workOut cX7_workOut 5 (some (.int)) 13 0 0 [.ref 0, .int 21, .int 0, .int x, .int (nI dep)] (VW 0 K k m tn tr) (pI fun r h => r = 0 ∧ h = VW 1 K k m (apN (paTp 0) tn) (apF (paTp 0) tn tr)) := by
  refine AMet.of (by decide +kernel) rfl (fun E ad0 hE => ?_)
  refine A_iload_n hE 1 dX7_workOut_0 rfl rfl ?_
  refine A_lookup hE 174 dX7_workOut_1 (by decide) (off := 173) (by decide) rfl ?_
  refine A_aload_n hE 175 dX7_workOut_174 rfl rfl ?_
  refine A_iconst hE 176 dX7_workOut_175 rfl (3) rfl ?_
  refine A_iload_n hE 177 dX7_workOut_176 rfl rfl ?_
  refine A_iload_n hE 178 dX7_workOut_177 rfl rfl ?_
  refine A_iload hE 180 dX7_workOut_178 rfl rfl ?_
  refine A_callVi hE 183 (c_pap_0 K k m x tn tr dep hK htn (by omega) hm) [0, 1, 2] dX7_workOut_180 rfl mkX7_46 rfl rfl rfl rfl rfl rfl rfl (Nat.le_of_ble_eq_true rfl) (Nat.le_of_ble_eq_true rfl) rfl (fun x180 h180 g180 hp180 hw180 => ?_)
  obtain ⟨rfl, rfl⟩ := hp180
  obtain rfl := Option.some.inj hw180
  refine A_h (VW 1 K k m (apN (paTp 0) tn) (apF (paTp 0) tn tr)) rfl ?_
  refine A_aload_n hE 184 dX7_workOut_183 rfl rfl ?_
  refine A_iconst hE 185 dX7_workOut_184 rfl (1) rfl ?_
  refine A_aload_n hE 186 dX7_workOut_185 rfl rfl ?_
  refine A_get hE 189 dX7_workOut_186 rfl fkX7_24 rfl rfl ?_
  refine A_iconst hE 190 dX7_workOut_189 rfl (1) rfl ?_
  refine A_iload hE 192 dX7_workOut_190 rfl rfl ?_
  refine A_callVi hE 195 (c_speak_p K k m 1 1 (nI K) (nI dep) (apN (paTp 0) tn) (apF (paTp 0) tn tr)) [0, 1, 2] dX7_workOut_192 rfl mkX7_46 rfl rfl rfl rfl rfl rfl rfl (Nat.le_of_ble_eq_true rfl) (Nat.le_of_ble_eq_true rfl) rfl (fun x192 h192 g192 hp192 hw192 => ?_)
  obtain ⟨rfl, rfl⟩ := hp192
  obtain rfl := Option.some.inj hw192
  refine A_h (VW 1 K k m (apN (paTp 0) tn) (apF (paTp 0) tn tr)) rfl ?_
  refine A_iadd hE 196 dX7_workOut_195 rfl ?_
  refine A_iret hE dX7_workOut_196 ⟨rfl, rfl⟩
set_option maxRecDepth 100000 in
theorem c_pap_1 (K : Nat) (k m x : Int32) (tn : Nat) (tr : Nat → Int32) (dep : Nat) (hK : K < 7) (htn : tn ≤ 30) (hd : dep + 6 ≤ 10) (hm : m = k) : AMet yX7_speak cX7_speak 7 (some (.int)) 14 0 0 [.ref 0, .int 3, .int 1, .int x, .int (nI dep)] (VW 0 K k m tn tr) (pI fun r h => r = 0 ∧ h = VW 1 K k m (apN (paTp 1) tn) (apF (paTp 1) tn tr)) := by
  refine AMet.of (by decide +kernel) rfl (fun E ad0 hE => ?_)
  refine A_aload_n hE 1 dX7_speak_0 rfl rfl ?_
  refine A_get hE 4 dX7_speak_1 rfl fkX7_20 rfl rfl ?_
  refine A_if_ne hE 7 14 dX7_speak_4 rfl rfl (fun c4 => absurd rfl c4) (fun c4 => ?_)
  refine A_iload hE 9 dX7_speak_7 rfl rfl ?_
  refine A_bipush hE 11 dX7_speak_9 rfl (10) (by decide) ?_
  refine A_icmp_le hE 14 16 dX7_speak_11 rfl rfl (fun c11 => ?_) (fun c11 => absurd (nI_le (b := 10) (show dep ≤ 10 by omega) (by omega)) c11)
  refine A_iload_n hE 17 dX7_speak_16 rfl rfl ?_
  refine A_iload_n hE 18 dX7_speak_17 rfl rfl ?_
  refine A_callSi hE 21 (c_own_3_1) [] dX7_speak_18 rfl mkX7_50 rfl rfl rfl rfl rfl rfl (Nat.le_of_ble_eq_true rfl) (Nat.le_of_ble_eq_true rfl) rfl (fun x18 h18 g18 hp18 hw18 => ?_)
  obtain ⟨rfl, rfl⟩ := hp18
  obtain rfl := Option.some.inj hw18
  refine A_istore hE 23 dX7_speak_21 rfl rfl rfl ?_
  refine A_gsBodies hE 26 dX7_speak_23 rfl flBod ?_
  refine A_iconst hE 27 dX7_speak_26 rfl (4) rfl ?_
  refine A_iload hE 29 dX7_speak_27 rfl rfl ?_
  refine A_imul hE 30 dX7_speak_29 rfl ?_
  refine A_iload_n hE 31 dX7_speak_30 rfl rfl ?_
  refine A_iadd hE 32 dX7_speak_31 rfl ?_
  refine A_tabB hE 33 7 dX7_speak_32 rfl (by decide) (by decide) (21) (by decide) ?_
  refine A_istore hE 35 dX7_speak_33 rfl rfl rfl ?_
  refine A_aload_n hE 36 dX7_speak_35 rfl rfl ?_
  refine A_get hE 39 dX7_speak_36 rfl fkX7_14 rfl rfl ?_
  refine A_iload hE 41 dX7_speak_39 rfl rfl ?_
  refine A_callVv hE 44 (c_X3_add 30 tr tn 21 htn rfl) [1, 2] dX7_speak_41 rfl mkX7_57 rfl rfl rfl rfl rfl rfl rfl (Nat.le_of_ble_eq_true rfl) (Nat.le_of_ble_eq_true rfl) rfl (fun h41 g41 hp41 hw41 => ?_)
  obtain rfl := hp41
  obtain rfl := Option.some.inj hw41
  refine A_h (VW 0 K k m (pN tn) (pF tn tr 21)) rfl ?_
  refine A_aload_n hE 45 dX7_speak_44 rfl rfl ?_
  refine A_iload hE 47 dX7_speak_45 rfl rfl ?_
  refine A_gsAboveN hE 50 dX7_speak_47 rfl ?_
  refine A_iload hE 52 dX7_speak_50 rfl rfl ?_
  refine A_tabA hE 53 1 dX7_speak_52 rfl (by decide) (by decide) (0) (by decide) ?_
  refine A_iload_n hE 54 dX7_speak_53 rfl rfl ?_
  refine A_iload hE 56 dX7_speak_54 rfl rfl ?_
  refine A_iconst hE 57 dX7_speak_56 rfl (1) rfl ?_
  refine A_iadd hE 58 dX7_speak_57 rfl ?_
  rw [nI_1]
  refine A_callVi hE 61 (c_wo_pap_1 K k m x (pN tn) (pF tn tr 21) (dep + 1) hK (pN_le htn) (by omega) hm) [0, 1, 2] dX7_speak_58 rfl mkX7_63 rfl rfl rfl rfl rfl rfl rfl (Nat.le_of_ble_eq_true rfl) (Nat.le_of_ble_eq_true rfl) rfl (fun x58 h58 g58 hp58 hw58 => ?_)
  obtain ⟨rfl, rfl⟩ := hp58
  obtain rfl := Option.some.inj hw58
  refine A_h (VW 1 K k m (apN (paTp 0) (pN tn)) (apF (paTp 0) (pN tn) (pF tn tr 21))) rfl ?_
  refine A_iret hE dX7_speak_61 ⟨rfl, rfl⟩
set_option maxRecDepth 100000 in
theorem c_wo_pap_4 (K : Nat) (k m x : Int32) (tn : Nat) (tr : Nat → Int32) (dep : Nat) (hK : K < 7) (htn : tn ≤ 30) (hd : dep + 5 ≤ 10) (hm : m = k) : AMet yX7_workOut cX7_workOut 5 (some (.int)) 13 0 0 [.ref 0, .int 21, .int 0, .int x, .int (nI dep)] (VW 0 K k m tn tr) (pI fun r h => r = 0 ∧ h = VW 1 K k m (apN (paTp 0) tn) (apF (paTp 0) tn tr)) := by
  refine AMet.of (by decide +kernel) rfl (fun E ad0 hE => ?_)
  refine A_iload_n hE 1 dX7_workOut_0 rfl rfl ?_
  refine A_lookup hE 174 dX7_workOut_1 (by decide) (off := 173) (by decide) rfl ?_
  refine A_aload_n hE 175 dX7_workOut_174 rfl rfl ?_
  refine A_iconst hE 176 dX7_workOut_175 rfl (3) rfl ?_
  refine A_iload_n hE 177 dX7_workOut_176 rfl rfl ?_
  refine A_iload_n hE 178 dX7_workOut_177 rfl rfl ?_
  refine A_iload hE 180 dX7_workOut_178 rfl rfl ?_
  refine A_callVi hE 183 (c_pap_0 K k m x tn tr dep hK htn (by omega) hm) [0, 1, 2] dX7_workOut_180 rfl mkX7_46 rfl rfl rfl rfl rfl rfl rfl (Nat.le_of_ble_eq_true rfl) (Nat.le_of_ble_eq_true rfl) rfl (fun x180 h180 g180 hp180 hw180 => ?_)
  obtain ⟨rfl, rfl⟩ := hp180
  obtain rfl := Option.some.inj hw180
  refine A_h (VW 1 K k m (apN (paTp 0) tn) (apF (paTp 0) tn tr)) rfl ?_
  refine A_aload_n hE 184 dX7_workOut_183 rfl rfl ?_
  refine A_iconst hE 185 dX7_workOut_184 rfl (1) rfl ?_
  refine A_aload_n hE 186 dX7_workOut_185 rfl rfl ?_
  refine A_get hE 189 dX7_workOut_186 rfl fkX7_24 rfl rfl ?_
  refine A_iconst hE 190 dX7_workOut_189 rfl (1) rfl ?_
  refine A_iload hE 192 dX7_workOut_190 rfl rfl ?_
  refine A_callVi hE 195 (c_speak_p K k m 1 1 (nI K) (nI dep) (apN (paTp 0) tn) (apF (paTp 0) tn tr)) [0, 1, 2] dX7_workOut_192 rfl mkX7_46 rfl rfl rfl rfl rfl rfl rfl (Nat.le_of_ble_eq_true rfl) (Nat.le_of_ble_eq_true rfl) rfl (fun x192 h192 g192 hp192 hw192 => ?_)
  obtain ⟨rfl, rfl⟩ := hp192
  obtain rfl := Option.some.inj hw192
  refine A_h (VW 1 K k m (apN (paTp 0) tn) (apF (paTp 0) tn tr)) rfl ?_
  refine A_iadd hE 196 dX7_workOut_195 rfl ?_
  refine A_iret hE dX7_workOut_196 ⟨rfl, rfl⟩
set_option maxRecDepth 100000 in
theorem c_pap_4 (K : Nat) (k m x : Int32) (tn : Nat) (tr : Nat → Int32) (dep : Nat) (hK : K < 7) (htn : tn ≤ 30) (hd : dep + 6 ≤ 10) (hm : m = k) : AMet yX7_speak cX7_speak 7 (some (.int)) 14 0 0 [.ref 0, .int 3, .int 4, .int x, .int (nI dep)] (VW 0 K k m tn tr) (pI fun r h => r = 0 ∧ h = VW 1 K k m (apN (paTp 4) tn) (apF (paTp 4) tn tr)) := by
  refine AMet.of (by decide +kernel) rfl (fun E ad0 hE => ?_)
  refine A_aload_n hE 1 dX7_speak_0 rfl rfl ?_
  refine A_get hE 4 dX7_speak_1 rfl fkX7_20 rfl rfl ?_
  refine A_if_ne hE 7 14 dX7_speak_4 rfl rfl (fun c4 => absurd rfl c4) (fun c4 => ?_)
  refine A_iload hE 9 dX7_speak_7 rfl rfl ?_
  refine A_bipush hE 11 dX7_speak_9 rfl (10) (by decide) ?_
  refine A_icmp_le hE 14 16 dX7_speak_11 rfl rfl (fun c11 => ?_) (fun c11 => absurd (nI_le (b := 10) (show dep ≤ 10 by omega) (by omega)) c11)
  refine A_iload_n hE 17 dX7_speak_16 rfl rfl ?_
  refine A_iload_n hE 18 dX7_speak_17 rfl rfl ?_
  refine A_callSi hE 21 (c_own_3_4) [] dX7_speak_18 rfl mkX7_50 rfl rfl rfl rfl rfl rfl (Nat.le_of_ble_eq_true rfl) (Nat.le_of_ble_eq_true rfl) rfl (fun x18 h18 g18 hp18 hw18 => ?_)
  obtain ⟨rfl, rfl⟩ := hp18
  obtain rfl := Option.some.inj hw18
  refine A_istore hE 23 dX7_speak_21 rfl rfl rfl ?_
  refine A_gsBodies hE 26 dX7_speak_23 rfl flBod ?_
  refine A_iconst hE 27 dX7_speak_26 rfl (4) rfl ?_
  refine A_iload hE 29 dX7_speak_27 rfl rfl ?_
  refine A_imul hE 30 dX7_speak_29 rfl ?_
  refine A_iload_n hE 31 dX7_speak_30 rfl rfl ?_
  refine A_iadd hE 32 dX7_speak_31 rfl ?_
  refine A_tabB hE 33 7 dX7_speak_32 rfl (by decide) (by decide) (21) (by decide) ?_
  refine A_istore hE 35 dX7_speak_33 rfl rfl rfl ?_
  refine A_aload_n hE 36 dX7_speak_35 rfl rfl ?_
  refine A_get hE 39 dX7_speak_36 rfl fkX7_14 rfl rfl ?_
  refine A_iload hE 41 dX7_speak_39 rfl rfl ?_
  refine A_callVv hE 44 (c_X3_add 30 tr tn 21 htn rfl) [1, 2] dX7_speak_41 rfl mkX7_57 rfl rfl rfl rfl rfl rfl rfl (Nat.le_of_ble_eq_true rfl) (Nat.le_of_ble_eq_true rfl) rfl (fun h41 g41 hp41 hw41 => ?_)
  obtain rfl := hp41
  obtain rfl := Option.some.inj hw41
  refine A_h (VW 0 K k m (pN tn) (pF tn tr 21)) rfl ?_
  refine A_aload_n hE 45 dX7_speak_44 rfl rfl ?_
  refine A_iload hE 47 dX7_speak_45 rfl rfl ?_
  refine A_gsAboveN hE 50 dX7_speak_47 rfl ?_
  refine A_iload hE 52 dX7_speak_50 rfl rfl ?_
  refine A_tabA hE 53 1 dX7_speak_52 rfl (by decide) (by decide) (0) (by decide) ?_
  refine A_iload_n hE 54 dX7_speak_53 rfl rfl ?_
  refine A_iload hE 56 dX7_speak_54 rfl rfl ?_
  refine A_iconst hE 57 dX7_speak_56 rfl (1) rfl ?_
  refine A_iadd hE 58 dX7_speak_57 rfl ?_
  rw [nI_1]
  refine A_callVi hE 61 (c_wo_pap_4 K k m x (pN tn) (pF tn tr 21) (dep + 1) hK (pN_le htn) (by omega) hm) [0, 1, 2] dX7_speak_58 rfl mkX7_63 rfl rfl rfl rfl rfl rfl rfl (Nat.le_of_ble_eq_true rfl) (Nat.le_of_ble_eq_true rfl) rfl (fun x58 h58 g58 hp58 hw58 => ?_)
  obtain ⟨rfl, rfl⟩ := hp58
  obtain rfl := Option.some.inj hw58
  refine A_h (VW 1 K k m (apN (paTp 0) (pN tn)) (apF (paTp 0) (pN tn) (pF tn tr 21))) rfl ?_
  refine A_iret hE dX7_speak_61 ⟨rfl, rfl⟩
set_option maxRecDepth 100000 in
theorem c_wo_pan_0 (K : Nat) (k m x : Int32) (tn : Nat) (tr : Nat → Int32) (dep : Nat) (hK : K < 7) (htn : tn ≤ 30) (hm : ¬ m = k) : AMet yX7_workOut cX7_workOut 5 (some (.int)) 1 0 0 [.ref 0, .int 13, .int 0, .int x, .int (nI dep)] (VW 0 K k m tn tr) (pI fun r h => r = paV k m K 0 x ∧ h = VW 0 K k m tn tr) := by
  refine AMet.of (by decide +kernel) rfl (fun E ad0 hE => ?_)
  refine A_iload_n hE 1 dX7_workOut_0 rfl rfl ?_
  refine A_lookup hE 156 dX7_workOut_1 (by decide) (off := 155) (by decide) rfl ?_
  refine A_aload_n hE 157 dX7_workOut_156 rfl rfl ?_
  refine A_iload_n hE 158 dX7_workOut_157 rfl rfl ?_
  refine A_callVi hE 161 (c_part_n K k m x tn tr hm) [0, 1, 2] dX7_workOut_158 rfl mkX7_66 rfl rfl rfl rfl rfl rfl rfl (Nat.le_of_ble_eq_true rfl) (Nat.le_of_ble_eq_true rfl) rfl (fun x158 h158 g158 hp158 hw158 => ?_)
  obtain ⟨rfl, rfl⟩ := hp158
  obtain rfl := Option.some.inj hw158
  refine A_h (VW 0 K k m tn tr) rfl ?_
  refine A_iret hE dX7_workOut_161 ⟨rfl, rfl⟩
set_option maxRecDepth 100000 in
theorem c_pan_0 (K : Nat) (k m x : Int32) (tn : Nat) (tr : Nat → Int32) (dep : Nat) (hK : K < 7) (htn : tn ≤ 30) (hd : dep + 0 ≤ 10) (hm : ¬ m = k) : AMet yX7_speak cX7_speak 7 (some (.int)) 2 0 0 [.ref 0, .int 3, .int 0, .int x, .int (nI dep)] (VW 0 K k m tn tr) (pI fun r h => r = paV k m K 0 x ∧ h = VW 0 K k m (apN (paT K 0) tn) (apF (paT K 0) tn tr)) := by
  refine AMet.of (by decide +kernel) rfl (fun E ad0 hE => ?_)
  refine A_aload_n hE 1 dX7_speak_0 rfl rfl ?_
  refine A_get hE 4 dX7_speak_1 rfl fkX7_20 rfl rfl ?_
  refine A_if_ne hE 7 14 dX7_speak_4 rfl rfl (fun c4 => absurd rfl c4) (fun c4 => ?_)
  refine A_iload hE 9 dX7_speak_7 rfl rfl ?_
  refine A_bipush hE 11 dX7_speak_9 rfl (10) (by decide) ?_
  refine A_icmp_le hE 14 16 dX7_speak_11 rfl rfl (fun c11 => ?_) (fun c11 => absurd (nI_le (b := 10) (show dep ≤ 10 by omega) (by omega)) c11)
  refine A_iload_n hE 17 dX7_speak_16 rfl rfl ?_
  refine A_iload_n hE 18 dX7_speak_17 rfl rfl ?_
  refine A_callSi hE 21 (c_own_3_0) [] dX7_speak_18 rfl mkX7_50 rfl rfl rfl rfl rfl rfl (Nat.le_of_ble_eq_true rfl) (Nat.le_of_ble_eq_true rfl) rfl (fun x18 h18 g18 hp18 hw18 => ?_)
  obtain ⟨rfl, rfl⟩ := hp18
  obtain rfl := Option.some.inj hw18
  refine A_istore hE 23 dX7_speak_21 rfl rfl rfl ?_
  refine A_gsBodies hE 26 dX7_speak_23 rfl flBod ?_
  refine A_iconst hE 27 dX7_speak_26 rfl (4) rfl ?_
  refine A_iload hE 29 dX7_speak_27 rfl rfl ?_
  refine A_imul hE 30 dX7_speak_29 rfl ?_
  refine A_iload_n hE 31 dX7_speak_30 rfl rfl ?_
  refine A_iadd hE 32 dX7_speak_31 rfl ?_
  refine A_tabB hE 33 3 dX7_speak_32 rfl (by decide) (by decide) (13) (by decide) ?_
  refine A_istore hE 35 dX7_speak_33 rfl rfl rfl ?_
  refine A_aload_n hE 36 dX7_speak_35 rfl rfl ?_
  refine A_get hE 39 dX7_speak_36 rfl fkX7_14 rfl rfl ?_
  refine A_iload hE 41 dX7_speak_39 rfl rfl ?_
  refine A_callVv hE 44 (c_X3_add 30 tr tn 13 htn rfl) [1, 2] dX7_speak_41 rfl mkX7_57 rfl rfl rfl rfl rfl rfl rfl (Nat.le_of_ble_eq_true rfl) (Nat.le_of_ble_eq_true rfl) rfl (fun h41 g41 hp41 hw41 => ?_)
  obtain rfl := hp41
  obtain rfl := Option.some.inj hw41
  refine A_h (VW 0 K k m (pN tn) (pF tn tr 13)) rfl ?_
  refine A_aload_n hE 45 dX7_speak_44 rfl rfl ?_
  refine A_iload hE 47 dX7_speak_45 rfl rfl ?_
  refine A_gsAboveN hE 50 dX7_speak_47 rfl ?_
  refine A_iload hE 52 dX7_speak_50 rfl rfl ?_
  refine A_tabA hE 53 0 dX7_speak_52 rfl (by decide) (by decide) (0) (by decide) ?_
  refine A_iload_n hE 54 dX7_speak_53 rfl rfl ?_
  refine A_iload hE 56 dX7_speak_54 rfl rfl ?_
  refine A_iconst hE 57 dX7_speak_56 rfl (1) rfl ?_
  refine A_iadd hE 58 dX7_speak_57 rfl ?_
  rw [nI_1]
  refine A_callVi hE 61 (c_wo_pan_0 K k m x (pN tn) (pF tn tr 13) (dep + 1) hK (pN_le htn) hm) [0, 1, 2] dX7_speak_58 rfl mkX7_63 rfl rfl rfl rfl rfl rfl rfl (Nat.le_of_ble_eq_true rfl) (Nat.le_of_ble_eq_true rfl) rfl (fun x58 h58 g58 hp58 hw58 => ?_)
  obtain ⟨rfl, rfl⟩ := hp58
  obtain rfl := Option.some.inj hw58
  refine A_h (VW 0 K k m (pN tn) (pF tn tr 13)) rfl ?_
  refine A_iret hE dX7_speak_61 ⟨rfl, rfl⟩
set_option maxRecDepth 100000 in
theorem c_wo_pan_2 (K : Nat) (k m x : Int32) (tn : Nat) (tr : Nat → Int32) (dep : Nat) (hK : K < 7) (htn : tn ≤ 30) (hm : ¬ m = k) : AMet yX7_workOut cX7_workOut 5 (some (.int)) 1 0 0 [.ref 0, .int 13, .int 0, .int x, .int (nI dep)] (VW 0 K k m tn tr) (pI fun r h => r = paV k m K 2 x ∧ h = VW 0 K k m tn tr) := by
  refine AMet.of (by decide +kernel) rfl (fun E ad0 hE => ?_)
  refine A_iload_n hE 1 dX7_workOut_0 rfl rfl ?_
  refine A_lookup hE 156 dX7_workOut_1 (by decide) (off := 155) (by decide) rfl ?_
  refine A_aload_n hE 157 dX7_workOut_156 rfl rfl ?_
  refine A_iload_n hE 158 dX7_workOut_157 rfl rfl ?_
  refine A_callVi hE 161 (c_part_n K k m x tn tr hm) [0, 1, 2] dX7_workOut_158 rfl mkX7_66 rfl rfl rfl rfl rfl rfl rfl (Nat.le_of_ble_eq_true rfl) (Nat.le_of_ble_eq_true rfl) rfl (fun x158 h158 g158 hp158 hw158 => ?_)
  obtain ⟨rfl, rfl⟩ := hp158
  obtain rfl := Option.some.inj hw158
  refine A_h (VW 0 K k m tn tr) rfl ?_
  refine A_iret hE dX7_workOut_161 ⟨rfl, rfl⟩
set_option maxRecDepth 100000 in
theorem c_pan_2 (K : Nat) (k m x : Int32) (tn : Nat) (tr : Nat → Int32) (dep : Nat) (hK : K < 7) (htn : tn ≤ 30) (hd : dep + 0 ≤ 10) (hm : ¬ m = k) : AMet yX7_speak cX7_speak 7 (some (.int)) 2 0 0 [.ref 0, .int 3, .int 2, .int x, .int (nI dep)] (VW 0 K k m tn tr) (pI fun r h => r = paV k m K 2 x ∧ h = VW 0 K k m (apN (paT K 2) tn) (apF (paT K 2) tn tr)) := by
  refine AMet.of (by decide +kernel) rfl (fun E ad0 hE => ?_)
  refine A_aload_n hE 1 dX7_speak_0 rfl rfl ?_
  refine A_get hE 4 dX7_speak_1 rfl fkX7_20 rfl rfl ?_
  refine A_if_ne hE 7 14 dX7_speak_4 rfl rfl (fun c4 => absurd rfl c4) (fun c4 => ?_)
  refine A_iload hE 9 dX7_speak_7 rfl rfl ?_
  refine A_bipush hE 11 dX7_speak_9 rfl (10) (by decide) ?_
  refine A_icmp_le hE 14 16 dX7_speak_11 rfl rfl (fun c11 => ?_) (fun c11 => absurd (nI_le (b := 10) (show dep ≤ 10 by omega) (by omega)) c11)
  refine A_iload_n hE 17 dX7_speak_16 rfl rfl ?_
  refine A_iload_n hE 18 dX7_speak_17 rfl rfl ?_
  refine A_callSi hE 21 (c_own_3_2) [] dX7_speak_18 rfl mkX7_50 rfl rfl rfl rfl rfl rfl (Nat.le_of_ble_eq_true rfl) (Nat.le_of_ble_eq_true rfl) rfl (fun x18 h18 g18 hp18 hw18 => ?_)
  obtain ⟨rfl, rfl⟩ := hp18
  obtain rfl := Option.some.inj hw18
  refine A_istore hE 23 dX7_speak_21 rfl rfl rfl ?_
  refine A_gsBodies hE 26 dX7_speak_23 rfl flBod ?_
  refine A_iconst hE 27 dX7_speak_26 rfl (4) rfl ?_
  refine A_iload hE 29 dX7_speak_27 rfl rfl ?_
  refine A_imul hE 30 dX7_speak_29 rfl ?_
  refine A_iload_n hE 31 dX7_speak_30 rfl rfl ?_
  refine A_iadd hE 32 dX7_speak_31 rfl ?_
  refine A_tabB hE 33 3 dX7_speak_32 rfl (by decide) (by decide) (13) (by decide) ?_
  refine A_istore hE 35 dX7_speak_33 rfl rfl rfl ?_
  refine A_aload_n hE 36 dX7_speak_35 rfl rfl ?_
  refine A_get hE 39 dX7_speak_36 rfl fkX7_14 rfl rfl ?_
  refine A_iload hE 41 dX7_speak_39 rfl rfl ?_
  refine A_callVv hE 44 (c_X3_add 30 tr tn 13 htn rfl) [1, 2] dX7_speak_41 rfl mkX7_57 rfl rfl rfl rfl rfl rfl rfl (Nat.le_of_ble_eq_true rfl) (Nat.le_of_ble_eq_true rfl) rfl (fun h41 g41 hp41 hw41 => ?_)
  obtain rfl := hp41
  obtain rfl := Option.some.inj hw41
  refine A_h (VW 0 K k m (pN tn) (pF tn tr 13)) rfl ?_
  refine A_aload_n hE 45 dX7_speak_44 rfl rfl ?_
  refine A_iload hE 47 dX7_speak_45 rfl rfl ?_
  refine A_gsAboveN hE 50 dX7_speak_47 rfl ?_
  refine A_iload hE 52 dX7_speak_50 rfl rfl ?_
  refine A_tabA hE 53 0 dX7_speak_52 rfl (by decide) (by decide) (0) (by decide) ?_
  refine A_iload_n hE 54 dX7_speak_53 rfl rfl ?_
  refine A_iload hE 56 dX7_speak_54 rfl rfl ?_
  refine A_iconst hE 57 dX7_speak_56 rfl (1) rfl ?_
  refine A_iadd hE 58 dX7_speak_57 rfl ?_
  rw [nI_1]
  refine A_callVi hE 61 (c_wo_pan_2 K k m x (pN tn) (pF tn tr 13) (dep + 1) hK (pN_le htn) hm) [0, 1, 2] dX7_speak_58 rfl mkX7_63 rfl rfl rfl rfl rfl rfl rfl (Nat.le_of_ble_eq_true rfl) (Nat.le_of_ble_eq_true rfl) rfl (fun x58 h58 g58 hp58 hw58 => ?_)
  obtain ⟨rfl, rfl⟩ := hp58
  obtain rfl := Option.some.inj hw58
  refine A_h (VW 0 K k m (pN tn) (pF tn tr 13)) rfl ?_
  refine A_iret hE dX7_speak_61 ⟨rfl, rfl⟩
set_option maxRecDepth 100000 in
theorem c_wo_pan_3 (K : Nat) (k m x : Int32) (tn : Nat) (tr : Nat → Int32) (dep : Nat) (hK : K < 7) (htn : tn ≤ 30) (hm : ¬ m = k) : AMet yX7_workOut cX7_workOut 5 (some (.int)) 1 0 0 [.ref 0, .int 13, .int 0, .int x, .int (nI dep)] (VW 0 K k m tn tr) (pI fun r h => r = paV k m K 3 x ∧ h = VW 0 K k m tn tr) := by
  refine AMet.of (by decide +kernel) rfl (fun E ad0 hE => ?_)
  refine A_iload_n hE 1 dX7_workOut_0 rfl rfl ?_
  refine A_lookup hE 156 dX7_workOut_1 (by decide) (off := 155) (by decide) rfl ?_
  refine A_aload_n hE 157 dX7_workOut_156 rfl rfl ?_
  refine A_iload_n hE 158 dX7_workOut_157 rfl rfl ?_
  refine A_callVi hE 161 (c_part_n K k m x tn tr hm) [0, 1, 2] dX7_workOut_158 rfl mkX7_66 rfl rfl rfl rfl rfl rfl rfl (Nat.le_of_ble_eq_true rfl) (Nat.le_of_ble_eq_true rfl) rfl (fun x158 h158 g158 hp158 hw158 => ?_)
  obtain ⟨rfl, rfl⟩ := hp158
  obtain rfl := Option.some.inj hw158
  refine A_h (VW 0 K k m tn tr) rfl ?_
  refine A_iret hE dX7_workOut_161 ⟨rfl, rfl⟩
set_option maxRecDepth 100000 in
theorem c_pan_3 (K : Nat) (k m x : Int32) (tn : Nat) (tr : Nat → Int32) (dep : Nat) (hK : K < 7) (htn : tn ≤ 30) (hd : dep + 0 ≤ 10) (hm : ¬ m = k) : AMet yX7_speak cX7_speak 7 (some (.int)) 2 0 0 [.ref 0, .int 3, .int 3, .int x, .int (nI dep)] (VW 0 K k m tn tr) (pI fun r h => r = paV k m K 3 x ∧ h = VW 0 K k m (apN (paT K 3) tn) (apF (paT K 3) tn tr)) := by
  refine AMet.of (by decide +kernel) rfl (fun E ad0 hE => ?_)
  refine A_aload_n hE 1 dX7_speak_0 rfl rfl ?_
  refine A_get hE 4 dX7_speak_1 rfl fkX7_20 rfl rfl ?_
  refine A_if_ne hE 7 14 dX7_speak_4 rfl rfl (fun c4 => absurd rfl c4) (fun c4 => ?_)
  refine A_iload hE 9 dX7_speak_7 rfl rfl ?_
  refine A_bipush hE 11 dX7_speak_9 rfl (10) (by decide) ?_
  refine A_icmp_le hE 14 16 dX7_speak_11 rfl rfl (fun c11 => ?_) (fun c11 => absurd (nI_le (b := 10) (show dep ≤ 10 by omega) (by omega)) c11)
  refine A_iload_n hE 17 dX7_speak_16 rfl rfl ?_
  refine A_iload_n hE 18 dX7_speak_17 rfl rfl ?_
  refine A_callSi hE 21 (c_own_3_3) [] dX7_speak_18 rfl mkX7_50 rfl rfl rfl rfl rfl rfl (Nat.le_of_ble_eq_true rfl) (Nat.le_of_ble_eq_true rfl) rfl (fun x18 h18 g18 hp18 hw18 => ?_)
  obtain ⟨rfl, rfl⟩ := hp18
  obtain rfl := Option.some.inj hw18
  refine A_istore hE 23 dX7_speak_21 rfl rfl rfl ?_
  refine A_gsBodies hE 26 dX7_speak_23 rfl flBod ?_
  refine A_iconst hE 27 dX7_speak_26 rfl (4) rfl ?_
  refine A_iload hE 29 dX7_speak_27 rfl rfl ?_
  refine A_imul hE 30 dX7_speak_29 rfl ?_
  refine A_iload_n hE 31 dX7_speak_30 rfl rfl ?_
  refine A_iadd hE 32 dX7_speak_31 rfl ?_
  refine A_tabB hE 33 3 dX7_speak_32 rfl (by decide) (by decide) (13) (by decide) ?_
  refine A_istore hE 35 dX7_speak_33 rfl rfl rfl ?_
  refine A_aload_n hE 36 dX7_speak_35 rfl rfl ?_
  refine A_get hE 39 dX7_speak_36 rfl fkX7_14 rfl rfl ?_
  refine A_iload hE 41 dX7_speak_39 rfl rfl ?_
  refine A_callVv hE 44 (c_X3_add 30 tr tn 13 htn rfl) [1, 2] dX7_speak_41 rfl mkX7_57 rfl rfl rfl rfl rfl rfl rfl (Nat.le_of_ble_eq_true rfl) (Nat.le_of_ble_eq_true rfl) rfl (fun h41 g41 hp41 hw41 => ?_)
  obtain rfl := hp41
  obtain rfl := Option.some.inj hw41
  refine A_h (VW 0 K k m (pN tn) (pF tn tr 13)) rfl ?_
  refine A_aload_n hE 45 dX7_speak_44 rfl rfl ?_
  refine A_iload hE 47 dX7_speak_45 rfl rfl ?_
  refine A_gsAboveN hE 50 dX7_speak_47 rfl ?_
  refine A_iload hE 52 dX7_speak_50 rfl rfl ?_
  refine A_tabA hE 53 0 dX7_speak_52 rfl (by decide) (by decide) (0) (by decide) ?_
  refine A_iload_n hE 54 dX7_speak_53 rfl rfl ?_
  refine A_iload hE 56 dX7_speak_54 rfl rfl ?_
  refine A_iconst hE 57 dX7_speak_56 rfl (1) rfl ?_
  refine A_iadd hE 58 dX7_speak_57 rfl ?_
  rw [nI_1]
  refine A_callVi hE 61 (c_wo_pan_3 K k m x (pN tn) (pF tn tr 13) (dep + 1) hK (pN_le htn) hm) [0, 1, 2] dX7_speak_58 rfl mkX7_63 rfl rfl rfl rfl rfl rfl rfl (Nat.le_of_ble_eq_true rfl) (Nat.le_of_ble_eq_true rfl) rfl (fun x58 h58 g58 hp58 hw58 => ?_)
  obtain ⟨rfl, rfl⟩ := hp58
  obtain rfl := Option.some.inj hw58
  refine A_h (VW 0 K k m (pN tn) (pF tn tr 13)) rfl ?_
  refine A_iret hE dX7_speak_61 ⟨rfl, rfl⟩
set_option maxRecDepth 100000 in
theorem c_wo_pan_5 (K : Nat) (k m x : Int32) (tn : Nat) (tr : Nat → Int32) (dep : Nat) (hK : K < 7) (htn : tn ≤ 30) (hm : ¬ m = k) : AMet yX7_workOut cX7_workOut 5 (some (.int)) 1 0 0 [.ref 0, .int 13, .int 0, .int x, .int (nI dep)] (VW 0 K k m tn tr) (pI fun r h => r = paV k m K 5 x ∧ h = VW 0 K k m tn tr) := by
  refine AMet.of (by decide +kernel) rfl (fun E ad0 hE => ?_)
  refine A_iload_n hE 1 dX7_workOut_0 rfl rfl ?_
  refine A_lookup hE 156 dX7_workOut_1 (by decide) (off := 155) (by decide) rfl ?_
  refine A_aload_n hE 157 dX7_workOut_156 rfl rfl ?_
  refine A_iload_n hE 158 dX7_workOut_157 rfl rfl ?_
  refine A_callVi hE 161 (c_part_n K k m x tn tr hm) [0, 1, 2] dX7_workOut_158 rfl mkX7_66 rfl rfl rfl rfl rfl rfl rfl (Nat.le_of_ble_eq_true rfl) (Nat.le_of_ble_eq_true rfl) rfl (fun x158 h158 g158 hp158 hw158 => ?_)
  obtain ⟨rfl, rfl⟩ := hp158
  obtain rfl := Option.some.inj hw158
  refine A_h (VW 0 K k m tn tr) rfl ?_
  refine A_iret hE dX7_workOut_161 ⟨rfl, rfl⟩
set_option maxRecDepth 100000 in
theorem c_pan_5 (K : Nat) (k m x : Int32) (tn : Nat) (tr : Nat → Int32) (dep : Nat) (hK : K < 7) (htn : tn ≤ 30) (hd : dep + 0 ≤ 10) (hm : ¬ m = k) : AMet yX7_speak cX7_speak 7 (some (.int)) 2 0 0 [.ref 0, .int 3, .int 5, .int x, .int (nI dep)] (VW 0 K k m tn tr) (pI fun r h => r = paV k m K 5 x ∧ h = VW 0 K k m (apN (paT K 5) tn) (apF (paT K 5) tn tr)) := by
  refine AMet.of (by decide +kernel) rfl (fun E ad0 hE => ?_)
  refine A_aload_n hE 1 dX7_speak_0 rfl rfl ?_
  refine A_get hE 4 dX7_speak_1 rfl fkX7_20 rfl rfl ?_
  refine A_if_ne hE 7 14 dX7_speak_4 rfl rfl (fun c4 => absurd rfl c4) (fun c4 => ?_)
  refine A_iload hE 9 dX7_speak_7 rfl rfl ?_
  refine A_bipush hE 11 dX7_speak_9 rfl (10) (by decide) ?_
  refine A_icmp_le hE 14 16 dX7_speak_11 rfl rfl (fun c11 => ?_) (fun c11 => absurd (nI_le (b := 10) (show dep ≤ 10 by omega) (by omega)) c11)
  refine A_iload_n hE 17 dX7_speak_16 rfl rfl ?_
  refine A_iload_n hE 18 dX7_speak_17 rfl rfl ?_
  refine A_callSi hE 21 (c_own_3_5) [] dX7_speak_18 rfl mkX7_50 rfl rfl rfl rfl rfl rfl (Nat.le_of_ble_eq_true rfl) (Nat.le_of_ble_eq_true rfl) rfl (fun x18 h18 g18 hp18 hw18 => ?_)
  obtain ⟨rfl, rfl⟩ := hp18
  obtain rfl := Option.some.inj hw18
  refine A_istore hE 23 dX7_speak_21 rfl rfl rfl ?_
  refine A_gsBodies hE 26 dX7_speak_23 rfl flBod ?_
  refine A_iconst hE 27 dX7_speak_26 rfl (4) rfl ?_
  refine A_iload hE 29 dX7_speak_27 rfl rfl ?_
  refine A_imul hE 30 dX7_speak_29 rfl ?_
  refine A_iload_n hE 31 dX7_speak_30 rfl rfl ?_
  refine A_iadd hE 32 dX7_speak_31 rfl ?_
  refine A_tabB hE 33 3 dX7_speak_32 rfl (by decide) (by decide) (13) (by decide) ?_
  refine A_istore hE 35 dX7_speak_33 rfl rfl rfl ?_
  refine A_aload_n hE 36 dX7_speak_35 rfl rfl ?_
  refine A_get hE 39 dX7_speak_36 rfl fkX7_14 rfl rfl ?_
  refine A_iload hE 41 dX7_speak_39 rfl rfl ?_
  refine A_callVv hE 44 (c_X3_add 30 tr tn 13 htn rfl) [1, 2] dX7_speak_41 rfl mkX7_57 rfl rfl rfl rfl rfl rfl rfl (Nat.le_of_ble_eq_true rfl) (Nat.le_of_ble_eq_true rfl) rfl (fun h41 g41 hp41 hw41 => ?_)
  obtain rfl := hp41
  obtain rfl := Option.some.inj hw41
  refine A_h (VW 0 K k m (pN tn) (pF tn tr 13)) rfl ?_
  refine A_aload_n hE 45 dX7_speak_44 rfl rfl ?_
  refine A_iload hE 47 dX7_speak_45 rfl rfl ?_
  refine A_gsAboveN hE 50 dX7_speak_47 rfl ?_
  refine A_iload hE 52 dX7_speak_50 rfl rfl ?_
  refine A_tabA hE 53 0 dX7_speak_52 rfl (by decide) (by decide) (0) (by decide) ?_
  refine A_iload_n hE 54 dX7_speak_53 rfl rfl ?_
  refine A_iload hE 56 dX7_speak_54 rfl rfl ?_
  refine A_iconst hE 57 dX7_speak_56 rfl (1) rfl ?_
  refine A_iadd hE 58 dX7_speak_57 rfl ?_
  rw [nI_1]
  refine A_callVi hE 61 (c_wo_pan_5 K k m x (pN tn) (pF tn tr 13) (dep + 1) hK (pN_le htn) hm) [0, 1, 2] dX7_speak_58 rfl mkX7_63 rfl rfl rfl rfl rfl rfl rfl (Nat.le_of_ble_eq_true rfl) (Nat.le_of_ble_eq_true rfl) rfl (fun x58 h58 g58 hp58 hw58 => ?_)
  obtain ⟨rfl, rfl⟩ := hp58
  obtain rfl := Option.some.inj hw58
  refine A_h (VW 0 K k m (pN tn) (pF tn tr 13)) rfl ?_
  refine A_iret hE dX7_speak_61 ⟨rfl, rfl⟩
set_option maxRecDepth 100000 in
theorem c_wo_pan_6 (K : Nat) (k m x : Int32) (tn : Nat) (tr : Nat → Int32) (dep : Nat) (hK : K < 7) (htn : tn ≤ 30) (hm : ¬ m = k) : AMet yX7_workOut cX7_workOut 5 (some (.int)) 1 0 0 [.ref 0, .int 13, .int 0, .int x, .int (nI dep)] (VW 0 K k m tn tr) (pI fun r h => r = paV k m K 6 x ∧ h = VW 0 K k m tn tr) := by
  refine AMet.of (by decide +kernel) rfl (fun E ad0 hE => ?_)
  refine A_iload_n hE 1 dX7_workOut_0 rfl rfl ?_
  refine A_lookup hE 156 dX7_workOut_1 (by decide) (off := 155) (by decide) rfl ?_
  refine A_aload_n hE 157 dX7_workOut_156 rfl rfl ?_
  refine A_iload_n hE 158 dX7_workOut_157 rfl rfl ?_
  refine A_callVi hE 161 (c_part_n K k m x tn tr hm) [0, 1, 2] dX7_workOut_158 rfl mkX7_66 rfl rfl rfl rfl rfl rfl rfl (Nat.le_of_ble_eq_true rfl) (Nat.le_of_ble_eq_true rfl) rfl (fun x158 h158 g158 hp158 hw158 => ?_)
  obtain ⟨rfl, rfl⟩ := hp158
  obtain rfl := Option.some.inj hw158
  refine A_h (VW 0 K k m tn tr) rfl ?_
  refine A_iret hE dX7_workOut_161 ⟨rfl, rfl⟩
set_option maxRecDepth 100000 in
theorem c_pan_6 (K : Nat) (k m x : Int32) (tn : Nat) (tr : Nat → Int32) (dep : Nat) (hK : K < 7) (htn : tn ≤ 30) (hd : dep + 0 ≤ 10) (hm : ¬ m = k) : AMet yX7_speak cX7_speak 7 (some (.int)) 2 0 0 [.ref 0, .int 3, .int 6, .int x, .int (nI dep)] (VW 0 K k m tn tr) (pI fun r h => r = paV k m K 6 x ∧ h = VW 0 K k m (apN (paT K 6) tn) (apF (paT K 6) tn tr)) := by
  refine AMet.of (by decide +kernel) rfl (fun E ad0 hE => ?_)
  refine A_aload_n hE 1 dX7_speak_0 rfl rfl ?_
  refine A_get hE 4 dX7_speak_1 rfl fkX7_20 rfl rfl ?_
  refine A_if_ne hE 7 14 dX7_speak_4 rfl rfl (fun c4 => absurd rfl c4) (fun c4 => ?_)
  refine A_iload hE 9 dX7_speak_7 rfl rfl ?_
  refine A_bipush hE 11 dX7_speak_9 rfl (10) (by decide) ?_
  refine A_icmp_le hE 14 16 dX7_speak_11 rfl rfl (fun c11 => ?_) (fun c11 => absurd (nI_le (b := 10) (show dep ≤ 10 by omega) (by omega)) c11)
  refine A_iload_n hE 17 dX7_speak_16 rfl rfl ?_
  refine A_iload_n hE 18 dX7_speak_17 rfl rfl ?_
  refine A_callSi hE 21 (c_own_3_6) [] dX7_speak_18 rfl mkX7_50 rfl rfl rfl rfl rfl rfl (Nat.le_of_ble_eq_true rfl) (Nat.le_of_ble_eq_true rfl) rfl (fun x18 h18 g18 hp18 hw18 => ?_)
  obtain ⟨rfl, rfl⟩ := hp18
  obtain rfl := Option.some.inj hw18
  refine A_istore hE 23 dX7_speak_21 rfl rfl rfl ?_
  refine A_gsBodies hE 26 dX7_speak_23 rfl flBod ?_
  refine A_iconst hE 27 dX7_speak_26 rfl (4) rfl ?_
  refine A_iload hE 29 dX7_speak_27 rfl rfl ?_
  refine A_imul hE 30 dX7_speak_29 rfl ?_
  refine A_iload_n hE 31 dX7_speak_30 rfl rfl ?_
  refine A_iadd hE 32 dX7_speak_31 rfl ?_
  refine A_tabB hE 33 3 dX7_speak_32 rfl (by decide) (by decide) (13) (by decide) ?_
  refine A_istore hE 35 dX7_speak_33 rfl rfl rfl ?_
  refine A_aload_n hE 36 dX7_speak_35 rfl rfl ?_
  refine A_get hE 39 dX7_speak_36 rfl fkX7_14 rfl rfl ?_
  refine A_iload hE 41 dX7_speak_39 rfl rfl ?_
  refine A_callVv hE 44 (c_X3_add 30 tr tn 13 htn rfl) [1, 2] dX7_speak_41 rfl mkX7_57 rfl rfl rfl rfl rfl rfl rfl (Nat.le_of_ble_eq_true rfl) (Nat.le_of_ble_eq_true rfl) rfl (fun h41 g41 hp41 hw41 => ?_)
  obtain rfl := hp41
  obtain rfl := Option.some.inj hw41
  refine A_h (VW 0 K k m (pN tn) (pF tn tr 13)) rfl ?_
  refine A_aload_n hE 45 dX7_speak_44 rfl rfl ?_
  refine A_iload hE 47 dX7_speak_45 rfl rfl ?_
  refine A_gsAboveN hE 50 dX7_speak_47 rfl ?_
  refine A_iload hE 52 dX7_speak_50 rfl rfl ?_
  refine A_tabA hE 53 0 dX7_speak_52 rfl (by decide) (by decide) (0) (by decide) ?_
  refine A_iload_n hE 54 dX7_speak_53 rfl rfl ?_
  refine A_iload hE 56 dX7_speak_54 rfl rfl ?_
  refine A_iconst hE 57 dX7_speak_56 rfl (1) rfl ?_
  refine A_iadd hE 58 dX7_speak_57 rfl ?_
  rw [nI_1]
  refine A_callVi hE 61 (c_wo_pan_6 K k m x (pN tn) (pF tn tr 13) (dep + 1) hK (pN_le htn) hm) [0, 1, 2] dX7_speak_58 rfl mkX7_63 rfl rfl rfl rfl rfl rfl rfl (Nat.le_of_ble_eq_true rfl) (Nat.le_of_ble_eq_true rfl) rfl (fun x58 h58 g58 hp58 hw58 => ?_)
  obtain ⟨rfl, rfl⟩ := hp58
  obtain rfl := Option.some.inj hw58
  refine A_h (VW 0 K k m (pN tn) (pF tn tr 13)) rfl ?_
  refine A_iret hE dX7_speak_61 ⟨rfl, rfl⟩
set_option maxRecDepth 100000 in
theorem c_wo_pan_1 (K : Nat) (k m x : Int32) (tn : Nat) (tr : Nat → Int32) (dep : Nat) (hK : K < 7) (htn : tn ≤ 30) (hd : dep + 5 ≤ 10) (hm : ¬ m = k) : AMet yX7_workOut cX7_workOut 5 (some (.int)) 13 0 0 [.ref 0, .int 21, .int 0, .int x, .int (nI dep)] (VW 0 K k m tn tr) (pI fun r h => r = paV k m K 1 x ∧ h = VW 0 K k m (apN (saT K K) (apN (paT K 0) tn)) (apF (saT K K) (apN (paT K 0) tn) (apF (paT K 0) tn tr))) := by
  refine AMet.of (by decide +kernel) rfl (fun E ad0 hE => ?_)
  refine A_iload_n hE 1 dX7_workOut_0 rfl rfl ?_
  refine A_lookup hE 174 dX7_workOut_1 (by decide) (off := 173) (by decide) rfl ?_
  refine A_aload_n hE 175 dX7_workOut_174 rfl rfl ?_
  refine A_iconst hE 176 dX7_workOut_175 rfl (3) rfl ?_
  refine A_iload_n hE 177 dX7_workOut_176 rfl rfl ?_
  refine A_iload_n hE 178 dX7_workOut_177 rfl rfl ?_
  refine A_iload hE 180 dX7_workOut_178 rfl rfl ?_
  refine A_callVi hE 183 (c_pan_0 K k m x tn tr dep hK htn (by omega) hm) [0, 1, 2] dX7_workOut_180 rfl mkX7_46 rfl rfl rfl rfl rfl rfl rfl (Nat.le_of_ble_eq_true rfl) (Nat.le_of_ble_eq_true rfl) rfl (fun x180 h180 g180 hp180 hw180 => ?_)
  obtain ⟨rfl, rfl⟩ := hp180
  obtain rfl := Option.some.inj hw180
  refine A_h (VW 0 K k m (apN (paT K 0) tn) (apF (paT K 0) tn tr)) rfl ?_
  refine A_aload_n hE 184 dX7_workOut_183 rfl rfl ?_
  refine A_iconst hE 185 dX7_workOut_184 rfl (1) rfl ?_
  refine A_aload_n hE 186 dX7_workOut_185 rfl rfl ?_
  refine A_get hE 189 dX7_workOut_186 rfl fkX7_24 rfl rfl ?_
  refine A_iconst hE 190 dX7_workOut_189 rfl (1) rfl ?_
  refine A_iload hE 192 dX7_workOut_190 rfl rfl ?_
  refine A_callVi hE 195 (c_sa K K k m 1 (apN (paT K 0) tn) (apF (paT K 0) tn tr) dep hK hK (apN_le _ _ htn) (by omega)) [0, 1, 2] dX7_workOut_192 rfl mkX7_46 rfl rfl rfl rfl rfl rfl rfl (Nat.le_of_ble_eq_true rfl) (Nat.le_of_ble_eq_true rfl) rfl (fun x192 h192 g192 hp192 hw192 => ?_)
  obtain ⟨rfl, rfl⟩ := hp192
  obtain rfl := Option.some.inj hw192
  refine A_h (VW 0 K k m (apN (saT K K) (apN (paT K 0) tn)) (apF (saT K K) (apN (paT K 0) tn) (apF (paT K 0) tn tr))) rfl ?_
  refine A_iadd hE 196 dX7_workOut_195 rfl ?_
  refine A_iret hE dX7_workOut_196 ⟨rfl, rfl⟩
set_option maxRecDepth 100000 in
theorem c_pan_1 (K : Nat) (k m x : Int32) (tn : Nat) (tr : Nat → Int32) (dep : Nat) (hK : K < 7) (htn : tn ≤ 30) (hd : dep + 6 ≤ 10) (hm : ¬ m = k) : AMet yX7_speak cX7_speak 7 (some (.int)) 14 0 0 [.ref 0, .int 3, .int 1, .int x, .int (nI dep)] (VW 0 K k m tn tr) (pI fun r h => r = paV k m K 1 x ∧ h = VW 0 K k m (apN (paT K 1) tn) (apF (paT K 1) tn tr)) := by
  refine AMet.of (by decide +kernel) rfl (fun E ad0 hE => ?_)
  refine A_aload_n hE 1 dX7_speak_0 rfl rfl ?_
  refine A_get hE 4 dX7_speak_1 rfl fkX7_20 rfl rfl ?_
  refine A_if_ne hE 7 14 dX7_speak_4 rfl rfl (fun c4 => absurd rfl c4) (fun c4 => ?_)
  refine A_iload hE 9 dX7_speak_7 rfl rfl ?_
  refine A_bipush hE 11 dX7_speak_9 rfl (10) (by decide) ?_
  refine A_icmp_le hE 14 16 dX7_speak_11 rfl rfl (fun c11 => ?_) (fun c11 => absurd (nI_le (b := 10) (show dep ≤ 10 by omega) (by omega)) c11)
  refine A_iload_n hE 17 dX7_speak_16 rfl rfl ?_
  refine A_iload_n hE 18 dX7_speak_17 rfl rfl ?_
  refine A_callSi hE 21 (c_own_3_1) [] dX7_speak_18 rfl mkX7_50 rfl rfl rfl rfl rfl rfl (Nat.le_of_ble_eq_true rfl) (Nat.le_of_ble_eq_true rfl) rfl (fun x18 h18 g18 hp18 hw18 => ?_)
  obtain ⟨rfl, rfl⟩ := hp18
  obtain rfl := Option.some.inj hw18
  refine A_istore hE 23 dX7_speak_21 rfl rfl rfl ?_
  refine A_gsBodies hE 26 dX7_speak_23 rfl flBod ?_
  refine A_iconst hE 27 dX7_speak_26 rfl (4) rfl ?_
  refine A_iload hE 29 dX7_speak_27 rfl rfl ?_
  refine A_imul hE 30 dX7_speak_29 rfl ?_
  refine A_iload_n hE 31 dX7_speak_30 rfl rfl ?_
  refine A_iadd hE 32 dX7_speak_31 rfl ?_
  refine A_tabB hE 33 7 dX7_speak_32 rfl (by decide) (by decide) (21) (by decide) ?_
  refine A_istore hE 35 dX7_speak_33 rfl rfl rfl ?_
  refine A_aload_n hE 36 dX7_speak_35 rfl rfl ?_
  refine A_get hE 39 dX7_speak_36 rfl fkX7_14 rfl rfl ?_
  refine A_iload hE 41 dX7_speak_39 rfl rfl ?_
  refine A_callVv hE 44 (c_X3_add 30 tr tn 21 htn rfl) [1, 2] dX7_speak_41 rfl mkX7_57 rfl rfl rfl rfl rfl rfl rfl (Nat.le_of_ble_eq_true rfl) (Nat.le_of_ble_eq_true rfl) rfl (fun h41 g41 hp41 hw41 => ?_)
  obtain rfl := hp41
  obtain rfl := Option.some.inj hw41
  refine A_h (VW 0 K k m (pN tn) (pF tn tr 21)) rfl ?_
  refine A_aload_n hE 45 dX7_speak_44 rfl rfl ?_
  refine A_iload hE 47 dX7_speak_45 rfl rfl ?_
  refine A_gsAboveN hE 50 dX7_speak_47 rfl ?_
  refine A_iload hE 52 dX7_speak_50 rfl rfl ?_
  refine A_tabA hE 53 1 dX7_speak_52 rfl (by decide) (by decide) (0) (by decide) ?_
  refine A_iload_n hE 54 dX7_speak_53 rfl rfl ?_
  refine A_iload hE 56 dX7_speak_54 rfl rfl ?_
  refine A_iconst hE 57 dX7_speak_56 rfl (1) rfl ?_
  refine A_iadd hE 58 dX7_speak_57 rfl ?_
  rw [nI_1]
  refine A_callVi hE 61 (c_wo_pan_1 K k m x (pN tn) (pF tn tr 21) (dep + 1) hK (pN_le htn) (by omega) hm) [0, 1, 2] dX7_speak_58 rfl mkX7_63 rfl rfl rfl rfl rfl rfl rfl (Nat.le_of_ble_eq_true rfl) (Nat.le_of_ble_eq_true rfl) rfl (fun x58 h58 g58 hp58 hw58 => ?_)
  obtain ⟨rfl, rfl⟩ := hp58
  obtain rfl := Option.some.inj hw58
  refine A_h (VW 0 K k m (apN (saT K K) (apN (paT K 0) (pN tn))) (apF (saT K K) (apN (paT K 0) (pN tn)) (apF (paT K 0) (pN tn) (pF tn tr 21)))) rfl ?_
  refine A_iret hE dX7_speak_61 ⟨rfl, rfl⟩
set_option maxRecDepth 100000 in
theorem c_wo_pan_4 (K : Nat) (k m x : Int32) (tn : Nat) (tr : Nat → Int32) (dep : Nat) (hK : K < 7) (htn : tn ≤ 30) (hd : dep + 5 ≤ 10) (hm : ¬ m = k) : AMet yX7_workOut cX7_workOut 5 (some (.int)) 13 0 0 [.ref 0, .int 21, .int 0, .int x, .int (nI dep)] (VW 0 K k m tn tr) (pI fun r h => r = paV k m K 4 x ∧ h = VW 0 K k m (apN (saT K K) (apN (paT K 0) tn)) (apF (saT K K) (apN (paT K 0) tn) (apF (paT K 0) tn tr))) := by
  refine AMet.of (by decide +kernel) rfl (fun E ad0 hE => ?_)
  refine A_iload_n hE 1 dX7_workOut_0 rfl rfl ?_
  refine A_lookup hE 174 dX7_workOut_1 (by decide) (off := 173) (by decide) rfl ?_
  refine A_aload_n hE 175 dX7_workOut_174 rfl rfl ?_
  refine A_iconst hE 176 dX7_workOut_175 rfl (3) rfl ?_
  refine A_iload_n hE 177 dX7_workOut_176 rfl rfl ?_
  refine A_iload_n hE 178 dX7_workOut_177 rfl rfl ?_
  refine A_iload hE 180 dX7_workOut_178 rfl rfl ?_
  refine A_callVi hE 183 (c_pan_0 K k m x tn tr dep hK htn (by omega) hm) [0, 1, 2] dX7_workOut_180 rfl mkX7_46 rfl rfl rfl rfl rfl rfl rfl (Nat.le_of_ble_eq_true rfl) (Nat.le_of_ble_eq_true rfl) rfl (fun x180 h180 g180 hp180 hw180 => ?_)
  obtain ⟨rfl, rfl⟩ := hp180
  obtain rfl := Option.some.inj hw180
  refine A_h (VW 0 K k m (apN (paT K 0) tn) (apF (paT K 0) tn tr)) rfl ?_
  refine A_aload_n hE 184 dX7_workOut_183 rfl rfl ?_
  refine A_iconst hE 185 dX7_workOut_184 rfl (1) rfl ?_
  refine A_aload_n hE 186 dX7_workOut_185 rfl rfl ?_
  refine A_get hE 189 dX7_workOut_186 rfl fkX7_24 rfl rfl ?_
  refine A_iconst hE 190 dX7_workOut_189 rfl (1) rfl ?_
  refine A_iload hE 192 dX7_workOut_190 rfl rfl ?_
  refine A_callVi hE 195 (c_sa K K k m 1 (apN (paT K 0) tn) (apF (paT K 0) tn tr) dep hK hK (apN_le _ _ htn) (by omega)) [0, 1, 2] dX7_workOut_192 rfl mkX7_46 rfl rfl rfl rfl rfl rfl rfl (Nat.le_of_ble_eq_true rfl) (Nat.le_of_ble_eq_true rfl) rfl (fun x192 h192 g192 hp192 hw192 => ?_)
  obtain ⟨rfl, rfl⟩ := hp192
  obtain rfl := Option.some.inj hw192
  refine A_h (VW 0 K k m (apN (saT K K) (apN (paT K 0) tn)) (apF (saT K K) (apN (paT K 0) tn) (apF (paT K 0) tn tr))) rfl ?_
  refine A_iadd hE 196 dX7_workOut_195 rfl ?_
  refine A_iret hE dX7_workOut_196 ⟨rfl, rfl⟩
set_option maxRecDepth 100000 in
theorem c_pan_4 (K : Nat) (k m x : Int32) (tn : Nat) (tr : Nat → Int32) (dep : Nat) (hK : K < 7) (htn : tn ≤ 30) (hd : dep + 6 ≤ 10) (hm : ¬ m = k) : AMet yX7_speak cX7_speak 7 (some (.int)) 14 0 0 [.ref 0, .int 3, .int 4, .int x, .int (nI dep)] (VW 0 K k m tn tr) (pI fun r h => r = paV k m K 4 x ∧ h = VW 0 K k m (apN (paT K 4) tn) (apF (paT K 4) tn tr)) := by
  refine AMet.of (by decide +kernel) rfl (fun E ad0 hE => ?_)
  refine A_aload_n hE 1 dX7_speak_0 rfl rfl ?_
  refine A_get hE 4 dX7_speak_1 rfl fkX7_20 rfl rfl ?_
  refine A_if_ne hE 7 14 dX7_speak_4 rfl rfl (fun c4 => absurd rfl c4) (fun c4 => ?_)
  refine A_iload hE 9 dX7_speak_7 rfl rfl ?_
  refine A_bipush hE 11 dX7_speak_9 rfl (10) (by decide) ?_
  refine A_icmp_le hE 14 16 dX7_speak_11 rfl rfl (fun c11 => ?_) (fun c11 => absurd (nI_le (b := 10) (show dep ≤ 10 by omega) (by omega)) c11)
  refine A_iload_n hE 17 dX7_speak_16 rfl rfl ?_
  refine A_iload_n hE 18 dX7_speak_17 rfl rfl ?_
  refine A_callSi hE 21 (c_own_3_4) [] dX7_speak_18 rfl mkX7_50 rfl rfl rfl rfl rfl rfl (Nat.le_of_ble_eq_true rfl) (Nat.le_of_ble_eq_true rfl) rfl (fun x18 h18 g18 hp18 hw18 => ?_)
  obtain ⟨rfl, rfl⟩ := hp18
  obtain rfl := Option.some.inj hw18
  refine A_istore hE 23 dX7_speak_21 rfl rfl rfl ?_
  refine A_gsBodies hE 26 dX7_speak_23 rfl flBod ?_
  refine A_iconst hE 27 dX7_speak_26 rfl (4) rfl ?_
  refine A_iload hE 29 dX7_speak_27 rfl rfl ?_
  refine A_imul hE 30 dX7_speak_29 rfl ?_
  refine A_iload_n hE 31 dX7_speak_30 rfl rfl ?_
  refine A_iadd hE 32 dX7_speak_31 rfl ?_
  refine A_tabB hE 33 7 dX7_speak_32 rfl (by decide) (by decide) (21) (by decide) ?_
  refine A_istore hE 35 dX7_speak_33 rfl rfl rfl ?_
  refine A_aload_n hE 36 dX7_speak_35 rfl rfl ?_
  refine A_get hE 39 dX7_speak_36 rfl fkX7_14 rfl rfl ?_
  refine A_iload hE 41 dX7_speak_39 rfl rfl ?_
  refine A_callVv hE 44 (c_X3_add 30 tr tn 21 htn rfl) [1, 2] dX7_speak_41 rfl mkX7_57 rfl rfl rfl rfl rfl rfl rfl (Nat.le_of_ble_eq_true rfl) (Nat.le_of_ble_eq_true rfl) rfl (fun h41 g41 hp41 hw41 => ?_)
  obtain rfl := hp41
  obtain rfl := Option.some.inj hw41
  refine A_h (VW 0 K k m (pN tn) (pF tn tr 21)) rfl ?_
  refine A_aload_n hE 45 dX7_speak_44 rfl rfl ?_
  refine A_iload hE 47 dX7_speak_45 rfl rfl ?_
  refine A_gsAboveN hE 50 dX7_speak_47 rfl ?_
  refine A_iload hE 52 dX7_speak_50 rfl rfl ?_
  refine A_tabA hE 53 1 dX7_speak_52 rfl (by decide) (by decide) (0) (by decide) ?_
  refine A_iload_n hE 54 dX7_speak_53 rfl rfl ?_
  refine A_iload hE 56 dX7_speak_54 rfl rfl ?_
  refine A_iconst hE 57 dX7_speak_56 rfl (1) rfl ?_
  refine A_iadd hE 58 dX7_speak_57 rfl ?_
  rw [nI_1]
  refine A_callVi hE 61 (c_wo_pan_4 K k m x (pN tn) (pF tn tr 21) (dep + 1) hK (pN_le htn) (by omega) hm) [0, 1, 2] dX7_speak_58 rfl mkX7_63 rfl rfl rfl rfl rfl rfl rfl (Nat.le_of_ble_eq_true rfl) (Nat.le_of_ble_eq_true rfl) rfl (fun x58 h58 g58 hp58 hw58 => ?_)
  obtain ⟨rfl, rfl⟩ := hp58
  obtain rfl := Option.some.inj hw58
  refine A_h (VW 0 K k m (apN (saT K K) (apN (paT K 0) (pN tn))) (apF (saT K K) (apN (paT K 0) (pN tn)) (apF (paT K 0) (pN tn) (pF tn tr 21)))) rfl ?_
  refine A_iret hE dX7_speak_61 ⟨rfl, rfl⟩
theorem c_pap (f : Nat) (K : Nat) (k m x : Int32) (tn : Nat) (tr : Nat → Int32) (dep : Nat) (hf : f < 7) (hK : K < 7) (htn : tn ≤ 30) (hd : dep + 6 ≤ 10) (hm : m = k) : AMet yX7_speak cX7_speak 7 (some .int) 14 0 0 [.ref 0, .int 3, .int (nI f), .int x, .int (nI dep)] (VW 0 K k m tn tr) (pI fun r h => r = 0 ∧ h = VW 1 K k m (apN (paTp f) tn) (apF (paTp f) tn tr)) := by
  match f, hf with
  | 0, _ => exact (c_pap_0 K k m x tn tr dep hK htn (by omega) hm).mono rfl
  | 1, _ => exact (c_pap_1 K k m x tn tr dep hK htn (by omega) hm).mono rfl
  | 2, _ => exact (c_pap_2 K k m x tn tr dep hK htn (by omega) hm).mono rfl
  | 3, _ => exact (c_pap_3 K k m x tn tr dep hK htn (by omega) hm).mono rfl
  | 4, _ => exact (c_pap_4 K k m x tn tr dep hK htn (by omega) hm).mono rfl
  | 5, _ => exact (c_pap_5 K k m x tn tr dep hK htn (by omega) hm).mono rfl
  | 6, _ => exact (c_pap_6 K k m x tn tr dep hK htn (by omega) hm).mono rfl
theorem c_pan (f : Nat) (K : Nat) (k m x : Int32) (tn : Nat) (tr : Nat → Int32) (dep : Nat) (hf : f < 7) (hK : K < 7) (htn : tn ≤ 30) (hd : dep + 6 ≤ 10) (hm : ¬ m = k) : AMet yX7_speak cX7_speak 7 (some .int) 14 0 0 [.ref 0, .int 3, .int (nI f), .int x, .int (nI dep)] (VW 0 K k m tn tr) (pI fun r h => r = paV k m K f x ∧ h = VW 0 K k m (apN (paT K f) tn) (apF (paT K f) tn tr)) := by
  match f, hf with
  | 0, _ => exact (c_pan_0 K k m x tn tr dep hK htn (by omega) hm).mono rfl
  | 1, _ => exact (c_pan_1 K k m x tn tr dep hK htn (by omega) hm).mono rfl
  | 2, _ => exact (c_pan_2 K k m x tn tr dep hK htn (by omega) hm).mono rfl
  | 3, _ => exact (c_pan_3 K k m x tn tr dep hK htn (by omega) hm).mono rfl
  | 4, _ => exact (c_pan_4 K k m x tn tr dep hK htn (by omega) hm).mono rfl
  | 5, _ => exact (c_pan_5 K k m x tn tr dep hK htn (by omega) hm).mono rfl
  | 6, _ => exact (c_pan_6 K k m x tn tr dep hK htn (by omega) hm).mono rfl
