theorem flBod : Cond.fieldLink RX7 54 "LoanedRound$Voices" "BODIES" "[I" ∈ lw_g := lg_m 816 (by decide +kernel) rfl
set_option maxRecDepth 100000 in
theorem c_own_0_0  : AMet yX7_ownerOf cX7_ownerOf 4 (some (.int)) 0 0 0 [.int 0, .int 0] [] (pI fun r h => r = 0 ∧ h = []) := by
  refine AMet.of (by decide +kernel) rfl (fun E ad0 hE => ?_)
  refine A_iload_n hE 1 dX7_ownerOf_0 rfl rfl ?_
  refine A_istore_n hE 2 dX7_ownerOf_1 rfl rfl rfl ?_
  refine A_iconst hE 3 dX7_ownerOf_2 rfl (0) rfl ?_
  refine A_istore_n hE 4 dX7_ownerOf_3 rfl rfl rfl ?_
  refine A_iload_n hE 5 dX7_ownerOf_4 rfl rfl ?_
  refine A_iconst hE 6 dX7_ownerOf_5 rfl (2) rfl ?_
  refine A_icmp_ge hE 9 33 dX7_ownerOf_6 rfl rfl (fun c6 => absurd c6 (by decide)) (fun c6 => ?_)
  refine A_gsBodies hE 12 dX7_ownerOf_9 rfl flBod ?_
  refine A_iconst hE 13 dX7_ownerOf_12 rfl (4) rfl ?_
  refine A_iload_n hE 14 dX7_ownerOf_13 rfl rfl ?_
  refine A_imul hE 15 dX7_ownerOf_14 rfl ?_
  refine A_iload_n hE 16 dX7_ownerOf_15 rfl rfl ?_
  refine A_iadd hE 17 dX7_ownerOf_16 rfl ?_
  refine A_tabB hE 18 0 dX7_ownerOf_17 rfl (by decide) (by decide) (10) (by decide) ?_
  refine A_if_ne hE 21 33 dX7_ownerOf_18 rfl rfl (fun c18 => ?_) (fun c18 => absurd c18 (by decide))
  refine A_iload_n hE 34 dX7_ownerOf_33 rfl rfl ?_
  refine A_iret hE dX7_ownerOf_34 ⟨rfl, rfl⟩
set_option maxRecDepth 100000 in
theorem c_own_0_1  : AMet yX7_ownerOf cX7_ownerOf 4 (some (.int)) 0 0 0 [.int 0, .int 1] [] (pI fun r h => r = 1 ∧ h = []) := by
  refine AMet.of (by decide +kernel) rfl (fun E ad0 hE => ?_)
  refine A_iload_n hE 1 dX7_ownerOf_0 rfl rfl ?_
  refine A_istore_n hE 2 dX7_ownerOf_1 rfl rfl rfl ?_
  refine A_iconst hE 3 dX7_ownerOf_2 rfl (0) rfl ?_
  refine A_istore_n hE 4 dX7_ownerOf_3 rfl rfl rfl ?_
  refine A_iload_n hE 5 dX7_ownerOf_4 rfl rfl ?_
  refine A_iconst hE 6 dX7_ownerOf_5 rfl (2) rfl ?_
  refine A_icmp_ge hE 9 33 dX7_ownerOf_6 rfl rfl (fun c6 => absurd c6 (by decide)) (fun c6 => ?_)
  refine A_gsBodies hE 12 dX7_ownerOf_9 rfl flBod ?_
  refine A_iconst hE 13 dX7_ownerOf_12 rfl (4) rfl ?_
  refine A_iload_n hE 14 dX7_ownerOf_13 rfl rfl ?_
  refine A_imul hE 15 dX7_ownerOf_14 rfl ?_
  refine A_iload_n hE 16 dX7_ownerOf_15 rfl rfl ?_
  refine A_iadd hE 17 dX7_ownerOf_16 rfl ?_
  refine A_tabB hE 18 4 dX7_ownerOf_17 rfl (by decide) (by decide) (20) (by decide) ?_
  refine A_if_ne hE 21 33 dX7_ownerOf_18 rfl rfl (fun c18 => ?_) (fun c18 => absurd c18 (by decide))
  refine A_iload_n hE 34 dX7_ownerOf_33 rfl rfl ?_
  refine A_iret hE dX7_ownerOf_34 ⟨rfl, rfl⟩
set_option maxRecDepth 100000 in
theorem c_own_0_2  : AMet yX7_ownerOf cX7_ownerOf 4 (some (.int)) 0 0 0 [.int 0, .int 2] [] (pI fun r h => r = 0 ∧ h = []) := by
  refine AMet.of (by decide +kernel) rfl (fun E ad0 hE => ?_)
  refine A_iload_n hE 1 dX7_ownerOf_0 rfl rfl ?_
  refine A_istore_n hE 2 dX7_ownerOf_1 rfl rfl rfl ?_
  refine A_iconst hE 3 dX7_ownerOf_2 rfl (0) rfl ?_
  refine A_istore_n hE 4 dX7_ownerOf_3 rfl rfl rfl ?_
  refine A_iload_n hE 5 dX7_ownerOf_4 rfl rfl ?_
  refine A_iconst hE 6 dX7_ownerOf_5 rfl (2) rfl ?_
  refine A_icmp_ge hE 9 33 dX7_ownerOf_6 rfl rfl (fun c6 => absurd c6 (by decide)) (fun c6 => ?_)
  refine A_gsBodies hE 12 dX7_ownerOf_9 rfl flBod ?_
  refine A_iconst hE 13 dX7_ownerOf_12 rfl (4) rfl ?_
  refine A_iload_n hE 14 dX7_ownerOf_13 rfl rfl ?_
  refine A_imul hE 15 dX7_ownerOf_14 rfl ?_
  refine A_iload_n hE 16 dX7_ownerOf_15 rfl rfl ?_
  refine A_iadd hE 17 dX7_ownerOf_16 rfl ?_
  refine A_tabB hE 18 8 dX7_ownerOf_17 rfl (by decide) (by decide) (0) (by decide) ?_
  refine A_if_ne hE 21 33 dX7_ownerOf_18 rfl rfl (fun c18 => absurd rfl c18) (fun c18 => ?_)
  refine A_gsAboveN hE 24 dX7_ownerOf_21 rfl ?_
  refine A_iload_n hE 25 dX7_ownerOf_24 rfl rfl ?_
  refine A_tabA hE 26 2 dX7_ownerOf_25 rfl (by decide) (by decide) (0) (by decide) ?_
  refine A_istore_n hE 27 dX7_ownerOf_26 rfl rfl rfl ?_
  refine A_iinc hE 30 dX7_ownerOf_27 rfl rfl (1) rfl rfl rfl ?_
  refine A_goto hE 4 dX7_ownerOf_30 rfl ?_
  refine A_iload_n hE 5 dX7_ownerOf_4 rfl rfl ?_
  refine A_iconst hE 6 dX7_ownerOf_5 rfl (2) rfl ?_
  refine A_icmp_ge hE 9 33 dX7_ownerOf_6 rfl rfl (fun c6 => absurd c6 (by decide)) (fun c6 => ?_)
  refine A_gsBodies hE 12 dX7_ownerOf_9 rfl flBod ?_
  refine A_iconst hE 13 dX7_ownerOf_12 rfl (4) rfl ?_
  refine A_iload_n hE 14 dX7_ownerOf_13 rfl rfl ?_
  refine A_imul hE 15 dX7_ownerOf_14 rfl ?_
  refine A_iload_n hE 16 dX7_ownerOf_15 rfl rfl ?_
  refine A_iadd hE 17 dX7_ownerOf_16 rfl ?_
  refine A_tabB hE 18 0 dX7_ownerOf_17 rfl (by decide) (by decide) (10) (by decide) ?_
  refine A_if_ne hE 21 33 dX7_ownerOf_18 rfl rfl (fun c18 => ?_) (fun c18 => absurd c18 (by decide))
  refine A_iload_n hE 34 dX7_ownerOf_33 rfl rfl ?_
  refine A_iret hE dX7_ownerOf_34 ⟨rfl, rfl⟩
set_option maxRecDepth 100000 in
theorem c_own_0_3  : AMet yX7_ownerOf cX7_ownerOf 4 (some (.int)) 0 0 0 [.int 0, .int 3] [] (pI fun r h => r = 0 ∧ h = []) := by
  refine AMet.of (by decide +kernel) rfl (fun E ad0 hE => ?_)
  refine A_iload_n hE 1 dX7_ownerOf_0 rfl rfl ?_
  refine A_istore_n hE 2 dX7_ownerOf_1 rfl rfl rfl ?_
  refine A_iconst hE 3 dX7_ownerOf_2 rfl (0) rfl ?_
  refine A_istore_n hE 4 dX7_ownerOf_3 rfl rfl rfl ?_
  refine A_iload_n hE 5 dX7_ownerOf_4 rfl rfl ?_
  refine A_iconst hE 6 dX7_ownerOf_5 rfl (2) rfl ?_
  refine A_icmp_ge hE 9 33 dX7_ownerOf_6 rfl rfl (fun c6 => absurd c6 (by decide)) (fun c6 => ?_)
  refine A_gsBodies hE 12 dX7_ownerOf_9 rfl flBod ?_
  refine A_iconst hE 13 dX7_ownerOf_12 rfl (4) rfl ?_
  refine A_iload_n hE 14 dX7_ownerOf_13 rfl rfl ?_
  refine A_imul hE 15 dX7_ownerOf_14 rfl ?_
  refine A_iload_n hE 16 dX7_ownerOf_15 rfl rfl ?_
  refine A_iadd hE 17 dX7_ownerOf_16 rfl ?_
  refine A_tabB hE 18 12 dX7_ownerOf_17 rfl (by decide) (by decide) (0) (by decide) ?_
  refine A_if_ne hE 21 33 dX7_ownerOf_18 rfl rfl (fun c18 => absurd rfl c18) (fun c18 => ?_)
  refine A_gsAboveN hE 24 dX7_ownerOf_21 rfl ?_
  refine A_iload_n hE 25 dX7_ownerOf_24 rfl rfl ?_
  refine A_tabA hE 26 3 dX7_ownerOf_25 rfl (by decide) (by decide) (0) (by decide) ?_
  refine A_istore_n hE 27 dX7_ownerOf_26 rfl rfl rfl ?_
  refine A_iinc hE 30 dX7_ownerOf_27 rfl rfl (1) rfl rfl rfl ?_
  refine A_goto hE 4 dX7_ownerOf_30 rfl ?_
  refine A_iload_n hE 5 dX7_ownerOf_4 rfl rfl ?_
  refine A_iconst hE 6 dX7_ownerOf_5 rfl (2) rfl ?_
  refine A_icmp_ge hE 9 33 dX7_ownerOf_6 rfl rfl (fun c6 => absurd c6 (by decide)) (fun c6 => ?_)
  refine A_gsBodies hE 12 dX7_ownerOf_9 rfl flBod ?_
  refine A_iconst hE 13 dX7_ownerOf_12 rfl (4) rfl ?_
  refine A_iload_n hE 14 dX7_ownerOf_13 rfl rfl ?_
  refine A_imul hE 15 dX7_ownerOf_14 rfl ?_
  refine A_iload_n hE 16 dX7_ownerOf_15 rfl rfl ?_
  refine A_iadd hE 17 dX7_ownerOf_16 rfl ?_
  refine A_tabB hE 18 0 dX7_ownerOf_17 rfl (by decide) (by decide) (10) (by decide) ?_
  refine A_if_ne hE 21 33 dX7_ownerOf_18 rfl rfl (fun c18 => ?_) (fun c18 => absurd c18 (by decide))
  refine A_iload_n hE 34 dX7_ownerOf_33 rfl rfl ?_
  refine A_iret hE dX7_ownerOf_34 ⟨rfl, rfl⟩
set_option maxRecDepth 100000 in
theorem c_own_0_4  : AMet yX7_ownerOf cX7_ownerOf 4 (some (.int)) 0 0 0 [.int 0, .int 4] [] (pI fun r h => r = 4 ∧ h = []) := by
  refine AMet.of (by decide +kernel) rfl (fun E ad0 hE => ?_)
  refine A_iload_n hE 1 dX7_ownerOf_0 rfl rfl ?_
  refine A_istore_n hE 2 dX7_ownerOf_1 rfl rfl rfl ?_
  refine A_iconst hE 3 dX7_ownerOf_2 rfl (0) rfl ?_
  refine A_istore_n hE 4 dX7_ownerOf_3 rfl rfl rfl ?_
  refine A_iload_n hE 5 dX7_ownerOf_4 rfl rfl ?_
  refine A_iconst hE 6 dX7_ownerOf_5 rfl (2) rfl ?_
  refine A_icmp_ge hE 9 33 dX7_ownerOf_6 rfl rfl (fun c6 => absurd c6 (by decide)) (fun c6 => ?_)
  refine A_gsBodies hE 12 dX7_ownerOf_9 rfl flBod ?_
  refine A_iconst hE 13 dX7_ownerOf_12 rfl (4) rfl ?_
  refine A_iload_n hE 14 dX7_ownerOf_13 rfl rfl ?_
  refine A_imul hE 15 dX7_ownerOf_14 rfl ?_
  refine A_iload_n hE 16 dX7_ownerOf_15 rfl rfl ?_
  refine A_iadd hE 17 dX7_ownerOf_16 rfl ?_
  refine A_tabB hE 18 16 dX7_ownerOf_17 rfl (by decide) (by decide) (50) (by decide) ?_
  refine A_if_ne hE 21 33 dX7_ownerOf_18 rfl rfl (fun c18 => ?_) (fun c18 => absurd c18 (by decide))
  refine A_iload_n hE 34 dX7_ownerOf_33 rfl rfl ?_
  refine A_iret hE dX7_ownerOf_34 ⟨rfl, rfl⟩
set_option maxRecDepth 100000 in
theorem c_own_0_5  : AMet yX7_ownerOf cX7_ownerOf 4 (some (.int)) 0 0 0 [.int 0, .int 5] [] (pI fun r h => r = 0 ∧ h = []) := by
  refine AMet.of (by decide +kernel) rfl (fun E ad0 hE => ?_)
  refine A_iload_n hE 1 dX7_ownerOf_0 rfl rfl ?_
  refine A_istore_n hE 2 dX7_ownerOf_1 rfl rfl rfl ?_
  refine A_iconst hE 3 dX7_ownerOf_2 rfl (0) rfl ?_
  refine A_istore_n hE 4 dX7_ownerOf_3 rfl rfl rfl ?_
  refine A_iload_n hE 5 dX7_ownerOf_4 rfl rfl ?_
  refine A_iconst hE 6 dX7_ownerOf_5 rfl (2) rfl ?_
  refine A_icmp_ge hE 9 33 dX7_ownerOf_6 rfl rfl (fun c6 => absurd c6 (by decide)) (fun c6 => ?_)
  refine A_gsBodies hE 12 dX7_ownerOf_9 rfl flBod ?_
  refine A_iconst hE 13 dX7_ownerOf_12 rfl (4) rfl ?_
  refine A_iload_n hE 14 dX7_ownerOf_13 rfl rfl ?_
  refine A_imul hE 15 dX7_ownerOf_14 rfl ?_
  refine A_iload_n hE 16 dX7_ownerOf_15 rfl rfl ?_
  refine A_iadd hE 17 dX7_ownerOf_16 rfl ?_
  refine A_tabB hE 18 20 dX7_ownerOf_17 rfl (by decide) (by decide) (0) (by decide) ?_
  refine A_if_ne hE 21 33 dX7_ownerOf_18 rfl rfl (fun c18 => absurd rfl c18) (fun c18 => ?_)
  refine A_gsAboveN hE 24 dX7_ownerOf_21 rfl ?_
  refine A_iload_n hE 25 dX7_ownerOf_24 rfl rfl ?_
  refine A_tabA hE 26 5 dX7_ownerOf_25 rfl (by decide) (by decide) (2) (by decide) ?_
  refine A_istore_n hE 27 dX7_ownerOf_26 rfl rfl rfl ?_
  refine A_iinc hE 30 dX7_ownerOf_27 rfl rfl (1) rfl rfl rfl ?_
  refine A_goto hE 4 dX7_ownerOf_30 rfl ?_
  refine A_iload_n hE 5 dX7_ownerOf_4 rfl rfl ?_
  refine A_iconst hE 6 dX7_ownerOf_5 rfl (2) rfl ?_
  refine A_icmp_ge hE 9 33 dX7_ownerOf_6 rfl rfl (fun c6 => absurd c6 (by decide)) (fun c6 => ?_)
  refine A_gsBodies hE 12 dX7_ownerOf_9 rfl flBod ?_
  refine A_iconst hE 13 dX7_ownerOf_12 rfl (4) rfl ?_
  refine A_iload_n hE 14 dX7_ownerOf_13 rfl rfl ?_
  refine A_imul hE 15 dX7_ownerOf_14 rfl ?_
  refine A_iload_n hE 16 dX7_ownerOf_15 rfl rfl ?_
  refine A_iadd hE 17 dX7_ownerOf_16 rfl ?_
  refine A_tabB hE 18 8 dX7_ownerOf_17 rfl (by decide) (by decide) (0) (by decide) ?_
  refine A_if_ne hE 21 33 dX7_ownerOf_18 rfl rfl (fun c18 => absurd rfl c18) (fun c18 => ?_)
  refine A_gsAboveN hE 24 dX7_ownerOf_21 rfl ?_
  refine A_iload_n hE 25 dX7_ownerOf_24 rfl rfl ?_
  refine A_tabA hE 26 2 dX7_ownerOf_25 rfl (by decide) (by decide) (0) (by decide) ?_
  refine A_istore_n hE 27 dX7_ownerOf_26 rfl rfl rfl ?_
  refine A_iinc hE 30 dX7_ownerOf_27 rfl rfl (1) rfl rfl rfl ?_
  refine A_goto hE 4 dX7_ownerOf_30 rfl ?_
  refine A_iload_n hE 5 dX7_ownerOf_4 rfl rfl ?_
  refine A_iconst hE 6 dX7_ownerOf_5 rfl (2) rfl ?_
  refine A_icmp_ge hE 9 33 dX7_ownerOf_6 rfl rfl (fun c6 => ?_) (fun c6 => absurd (by decide) c6)
  refine A_iload_n hE 34 dX7_ownerOf_33 rfl rfl ?_
  refine A_iret hE dX7_ownerOf_34 ⟨rfl, rfl⟩
set_option maxRecDepth 100000 in
theorem c_own_0_6  : AMet yX7_ownerOf cX7_ownerOf 4 (some (.int)) 0 0 0 [.int 0, .int 6] [] (pI fun r h => r = 6 ∧ h = []) := by
  refine AMet.of (by decide +kernel) rfl (fun E ad0 hE => ?_)
  refine A_iload_n hE 1 dX7_ownerOf_0 rfl rfl ?_
  refine A_istore_n hE 2 dX7_ownerOf_1 rfl rfl rfl ?_
  refine A_iconst hE 3 dX7_ownerOf_2 rfl (0) rfl ?_
  refine A_istore_n hE 4 dX7_ownerOf_3 rfl rfl rfl ?_
  refine A_iload_n hE 5 dX7_ownerOf_4 rfl rfl ?_
  refine A_iconst hE 6 dX7_ownerOf_5 rfl (2) rfl ?_
  refine A_icmp_ge hE 9 33 dX7_ownerOf_6 rfl rfl (fun c6 => absurd c6 (by decide)) (fun c6 => ?_)
  refine A_gsBodies hE 12 dX7_ownerOf_9 rfl flBod ?_
  refine A_iconst hE 13 dX7_ownerOf_12 rfl (4) rfl ?_
  refine A_iload_n hE 14 dX7_ownerOf_13 rfl rfl ?_
  refine A_imul hE 15 dX7_ownerOf_14 rfl ?_
  refine A_iload_n hE 16 dX7_ownerOf_15 rfl rfl ?_
  refine A_iadd hE 17 dX7_ownerOf_16 rfl ?_
  refine A_tabB hE 18 24 dX7_ownerOf_17 rfl (by decide) (by decide) (70) (by decide) ?_
  refine A_if_ne hE 21 33 dX7_ownerOf_18 rfl rfl (fun c18 => ?_) (fun c18 => absurd c18 (by decide))
  refine A_iload_n hE 34 dX7_ownerOf_33 rfl rfl ?_
  refine A_iret hE dX7_ownerOf_34 ⟨rfl, rfl⟩
set_option maxRecDepth 100000 in
theorem c_own_1_0  : AMet yX7_ownerOf cX7_ownerOf 4 (some (.int)) 0 0 0 [.int 1, .int 0] [] (pI fun r h => r = 0 ∧ h = []) := by
  refine AMet.of (by decide +kernel) rfl (fun E ad0 hE => ?_)
  refine A_iload_n hE 1 dX7_ownerOf_0 rfl rfl ?_
  refine A_istore_n hE 2 dX7_ownerOf_1 rfl rfl rfl ?_
  refine A_iconst hE 3 dX7_ownerOf_2 rfl (0) rfl ?_
  refine A_istore_n hE 4 dX7_ownerOf_3 rfl rfl rfl ?_
  refine A_iload_n hE 5 dX7_ownerOf_4 rfl rfl ?_
  refine A_iconst hE 6 dX7_ownerOf_5 rfl (2) rfl ?_
  refine A_icmp_ge hE 9 33 dX7_ownerOf_6 rfl rfl (fun c6 => absurd c6 (by decide)) (fun c6 => ?_)
  refine A_gsBodies hE 12 dX7_ownerOf_9 rfl flBod ?_
  refine A_iconst hE 13 dX7_ownerOf_12 rfl (4) rfl ?_
  refine A_iload_n hE 14 dX7_ownerOf_13 rfl rfl ?_
  refine A_imul hE 15 dX7_ownerOf_14 rfl ?_
  refine A_iload_n hE 16 dX7_ownerOf_15 rfl rfl ?_
  refine A_iadd hE 17 dX7_ownerOf_16 rfl ?_
  refine A_tabB hE 18 1 dX7_ownerOf_17 rfl (by decide) (by decide) (11) (by decide) ?_
  refine A_if_ne hE 21 33 dX7_ownerOf_18 rfl rfl (fun c18 => ?_) (fun c18 => absurd c18 (by decide))
  refine A_iload_n hE 34 dX7_ownerOf_33 rfl rfl ?_
  refine A_iret hE dX7_ownerOf_34 ⟨rfl, rfl⟩
set_option maxRecDepth 100000 in
theorem c_own_1_1  : AMet yX7_ownerOf cX7_ownerOf 4 (some (.int)) 0 0 0 [.int 1, .int 1] [] (pI fun r h => r = 0 ∧ h = []) := by
  refine AMet.of (by decide +kernel) rfl (fun E ad0 hE => ?_)
  refine A_iload_n hE 1 dX7_ownerOf_0 rfl rfl ?_
  refine A_istore_n hE 2 dX7_ownerOf_1 rfl rfl rfl ?_
  refine A_iconst hE 3 dX7_ownerOf_2 rfl (0) rfl ?_
  refine A_istore_n hE 4 dX7_ownerOf_3 rfl rfl rfl ?_
  refine A_iload_n hE 5 dX7_ownerOf_4 rfl rfl ?_
  refine A_iconst hE 6 dX7_ownerOf_5 rfl (2) rfl ?_
  refine A_icmp_ge hE 9 33 dX7_ownerOf_6 rfl rfl (fun c6 => absurd c6 (by decide)) (fun c6 => ?_)
  refine A_gsBodies hE 12 dX7_ownerOf_9 rfl flBod ?_
  refine A_iconst hE 13 dX7_ownerOf_12 rfl (4) rfl ?_
  refine A_iload_n hE 14 dX7_ownerOf_13 rfl rfl ?_
  refine A_imul hE 15 dX7_ownerOf_14 rfl ?_
  refine A_iload_n hE 16 dX7_ownerOf_15 rfl rfl ?_
  refine A_iadd hE 17 dX7_ownerOf_16 rfl ?_
  refine A_tabB hE 18 5 dX7_ownerOf_17 rfl (by decide) (by decide) (0) (by decide) ?_
  refine A_if_ne hE 21 33 dX7_ownerOf_18 rfl rfl (fun c18 => absurd rfl c18) (fun c18 => ?_)
  refine A_gsAboveN hE 24 dX7_ownerOf_21 rfl ?_
  refine A_iload_n hE 25 dX7_ownerOf_24 rfl rfl ?_
  refine A_tabA hE 26 1 dX7_ownerOf_25 rfl (by decide) (by decide) (0) (by decide) ?_
  refine A_istore_n hE 27 dX7_ownerOf_26 rfl rfl rfl ?_
  refine A_iinc hE 30 dX7_ownerOf_27 rfl rfl (1) rfl rfl rfl ?_
  refine A_goto hE 4 dX7_ownerOf_30 rfl ?_
  refine A_iload_n hE 5 dX7_ownerOf_4 rfl rfl ?_
  refine A_iconst hE 6 dX7_ownerOf_5 rfl (2) rfl ?_
  refine A_icmp_ge hE 9 33 dX7_ownerOf_6 rfl rfl (fun c6 => absurd c6 (by decide)) (fun c6 => ?_)
  refine A_gsBodies hE 12 dX7_ownerOf_9 rfl flBod ?_
  refine A_iconst hE 13 dX7_ownerOf_12 rfl (4) rfl ?_
  refine A_iload_n hE 14 dX7_ownerOf_13 rfl rfl ?_
  refine A_imul hE 15 dX7_ownerOf_14 rfl ?_
  refine A_iload_n hE 16 dX7_ownerOf_15 rfl rfl ?_
  refine A_iadd hE 17 dX7_ownerOf_16 rfl ?_
  refine A_tabB hE 18 1 dX7_ownerOf_17 rfl (by decide) (by decide) (11) (by decide) ?_
  refine A_if_ne hE 21 33 dX7_ownerOf_18 rfl rfl (fun c18 => ?_) (fun c18 => absurd c18 (by decide))
  refine A_iload_n hE 34 dX7_ownerOf_33 rfl rfl ?_
  refine A_iret hE dX7_ownerOf_34 ⟨rfl, rfl⟩
set_option maxRecDepth 100000 in
theorem c_own_1_2  : AMet yX7_ownerOf cX7_ownerOf 4 (some (.int)) 0 0 0 [.int 1, .int 2] [] (pI fun r h => r = 2 ∧ h = []) := by
  refine AMet.of (by decide +kernel) rfl (fun E ad0 hE => ?_)
  refine A_iload_n hE 1 dX7_ownerOf_0 rfl rfl ?_
  refine A_istore_n hE 2 dX7_ownerOf_1 rfl rfl rfl ?_
  refine A_iconst hE 3 dX7_ownerOf_2 rfl (0) rfl ?_
  refine A_istore_n hE 4 dX7_ownerOf_3 rfl rfl rfl ?_
  refine A_iload_n hE 5 dX7_ownerOf_4 rfl rfl ?_
  refine A_iconst hE 6 dX7_ownerOf_5 rfl (2) rfl ?_
  refine A_icmp_ge hE 9 33 dX7_ownerOf_6 rfl rfl (fun c6 => absurd c6 (by decide)) (fun c6 => ?_)
  refine A_gsBodies hE 12 dX7_ownerOf_9 rfl flBod ?_
  refine A_iconst hE 13 dX7_ownerOf_12 rfl (4) rfl ?_
  refine A_iload_n hE 14 dX7_ownerOf_13 rfl rfl ?_
  refine A_imul hE 15 dX7_ownerOf_14 rfl ?_
  refine A_iload_n hE 16 dX7_ownerOf_15 rfl rfl ?_
  refine A_iadd hE 17 dX7_ownerOf_16 rfl ?_
  refine A_tabB hE 18 9 dX7_ownerOf_17 rfl (by decide) (by decide) (30) (by decide) ?_
  refine A_if_ne hE 21 33 dX7_ownerOf_18 rfl rfl (fun c18 => ?_) (fun c18 => absurd c18 (by decide))
  refine A_iload_n hE 34 dX7_ownerOf_33 rfl rfl ?_
  refine A_iret hE dX7_ownerOf_34 ⟨rfl, rfl⟩
set_option maxRecDepth 100000 in
theorem c_own_1_3  : AMet yX7_ownerOf cX7_ownerOf 4 (some (.int)) 0 0 0 [.int 1, .int 3] [] (pI fun r h => r = 0 ∧ h = []) := by
  refine AMet.of (by decide +kernel) rfl (fun E ad0 hE => ?_)
  refine A_iload_n hE 1 dX7_ownerOf_0 rfl rfl ?_
  refine A_istore_n hE 2 dX7_ownerOf_1 rfl rfl rfl ?_
  refine A_iconst hE 3 dX7_ownerOf_2 rfl (0) rfl ?_
  refine A_istore_n hE 4 dX7_ownerOf_3 rfl rfl rfl ?_
  refine A_iload_n hE 5 dX7_ownerOf_4 rfl rfl ?_
  refine A_iconst hE 6 dX7_ownerOf_5 rfl (2) rfl ?_
  refine A_icmp_ge hE 9 33 dX7_ownerOf_6 rfl rfl (fun c6 => absurd c6 (by decide)) (fun c6 => ?_)
  refine A_gsBodies hE 12 dX7_ownerOf_9 rfl flBod ?_
  refine A_iconst hE 13 dX7_ownerOf_12 rfl (4) rfl ?_
  refine A_iload_n hE 14 dX7_ownerOf_13 rfl rfl ?_
  refine A_imul hE 15 dX7_ownerOf_14 rfl ?_
  refine A_iload_n hE 16 dX7_ownerOf_15 rfl rfl ?_
  refine A_iadd hE 17 dX7_ownerOf_16 rfl ?_
  refine A_tabB hE 18 13 dX7_ownerOf_17 rfl (by decide) (by decide) (0) (by decide) ?_
  refine A_if_ne hE 21 33 dX7_ownerOf_18 rfl rfl (fun c18 => absurd rfl c18) (fun c18 => ?_)
  refine A_gsAboveN hE 24 dX7_ownerOf_21 rfl ?_
  refine A_iload_n hE 25 dX7_ownerOf_24 rfl rfl ?_
  refine A_tabA hE 26 3 dX7_ownerOf_25 rfl (by decide) (by decide) (0) (by decide) ?_
  refine A_istore_n hE 27 dX7_ownerOf_26 rfl rfl rfl ?_
  refine A_iinc hE 30 dX7_ownerOf_27 rfl rfl (1) rfl rfl rfl ?_
  refine A_goto hE 4 dX7_ownerOf_30 rfl ?_
  refine A_iload_n hE 5 dX7_ownerOf_4 rfl rfl ?_
  refine A_iconst hE 6 dX7_ownerOf_5 rfl (2) rfl ?_
  refine A_icmp_ge hE 9 33 dX7_ownerOf_6 rfl rfl (fun c6 => absurd c6 (by decide)) (fun c6 => ?_)
  refine A_gsBodies hE 12 dX7_ownerOf_9 rfl flBod ?_
  refine A_iconst hE 13 dX7_ownerOf_12 rfl (4) rfl ?_
  refine A_iload_n hE 14 dX7_ownerOf_13 rfl rfl ?_
  refine A_imul hE 15 dX7_ownerOf_14 rfl ?_
  refine A_iload_n hE 16 dX7_ownerOf_15 rfl rfl ?_
  refine A_iadd hE 17 dX7_ownerOf_16 rfl ?_
  refine A_tabB hE 18 1 dX7_ownerOf_17 rfl (by decide) (by decide) (11) (by decide) ?_
  refine A_if_ne hE 21 33 dX7_ownerOf_18 rfl rfl (fun c18 => ?_) (fun c18 => absurd c18 (by decide))
  refine A_iload_n hE 34 dX7_ownerOf_33 rfl rfl ?_
  refine A_iret hE dX7_ownerOf_34 ⟨rfl, rfl⟩
set_option maxRecDepth 100000 in
theorem c_own_1_4  : AMet yX7_ownerOf cX7_ownerOf 4 (some (.int)) 0 0 0 [.int 1, .int 4] [] (pI fun r h => r = 0 ∧ h = []) := by
  refine AMet.of (by decide +kernel) rfl (fun E ad0 hE => ?_)
  refine A_iload_n hE 1 dX7_ownerOf_0 rfl rfl ?_
  refine A_istore_n hE 2 dX7_ownerOf_1 rfl rfl rfl ?_
  refine A_iconst hE 3 dX7_ownerOf_2 rfl (0) rfl ?_
  refine A_istore_n hE 4 dX7_ownerOf_3 rfl rfl rfl ?_
  refine A_iload_n hE 5 dX7_ownerOf_4 rfl rfl ?_
  refine A_iconst hE 6 dX7_ownerOf_5 rfl (2) rfl ?_
  refine A_icmp_ge hE 9 33 dX7_ownerOf_6 rfl rfl (fun c6 => absurd c6 (by decide)) (fun c6 => ?_)
  refine A_gsBodies hE 12 dX7_ownerOf_9 rfl flBod ?_
  refine A_iconst hE 13 dX7_ownerOf_12 rfl (4) rfl ?_
  refine A_iload_n hE 14 dX7_ownerOf_13 rfl rfl ?_
  refine A_imul hE 15 dX7_ownerOf_14 rfl ?_
  refine A_iload_n hE 16 dX7_ownerOf_15 rfl rfl ?_
  refine A_iadd hE 17 dX7_ownerOf_16 rfl ?_
  refine A_tabB hE 18 17 dX7_ownerOf_17 rfl (by decide) (by decide) (0) (by decide) ?_
  refine A_if_ne hE 21 33 dX7_ownerOf_18 rfl rfl (fun c18 => absurd rfl c18) (fun c18 => ?_)
  refine A_gsAboveN hE 24 dX7_ownerOf_21 rfl ?_
  refine A_iload_n hE 25 dX7_ownerOf_24 rfl rfl ?_
  refine A_tabA hE 26 4 dX7_ownerOf_25 rfl (by decide) (by decide) (1) (by decide) ?_
  refine A_istore_n hE 27 dX7_ownerOf_26 rfl rfl rfl ?_
  refine A_iinc hE 30 dX7_ownerOf_27 rfl rfl (1) rfl rfl rfl ?_
  refine A_goto hE 4 dX7_ownerOf_30 rfl ?_
  refine A_iload_n hE 5 dX7_ownerOf_4 rfl rfl ?_
  refine A_iconst hE 6 dX7_ownerOf_5 rfl (2) rfl ?_
  refine A_icmp_ge hE 9 33 dX7_ownerOf_6 rfl rfl (fun c6 => absurd c6 (by decide)) (fun c6 => ?_)
  refine A_gsBodies hE 12 dX7_ownerOf_9 rfl flBod ?_
  refine A_iconst hE 13 dX7_ownerOf_12 rfl (4) rfl ?_
  refine A_iload_n hE 14 dX7_ownerOf_13 rfl rfl ?_
  refine A_imul hE 15 dX7_ownerOf_14 rfl ?_
  refine A_iload_n hE 16 dX7_ownerOf_15 rfl rfl ?_
  refine A_iadd hE 17 dX7_ownerOf_16 rfl ?_
  refine A_tabB hE 18 5 dX7_ownerOf_17 rfl (by decide) (by decide) (0) (by decide) ?_
  refine A_if_ne hE 21 33 dX7_ownerOf_18 rfl rfl (fun c18 => absurd rfl c18) (fun c18 => ?_)
  refine A_gsAboveN hE 24 dX7_ownerOf_21 rfl ?_
  refine A_iload_n hE 25 dX7_ownerOf_24 rfl rfl ?_
  refine A_tabA hE 26 1 dX7_ownerOf_25 rfl (by decide) (by decide) (0) (by decide) ?_
  refine A_istore_n hE 27 dX7_ownerOf_26 rfl rfl rfl ?_
  refine A_iinc hE 30 dX7_ownerOf_27 rfl rfl (1) rfl rfl rfl ?_
  refine A_goto hE 4 dX7_ownerOf_30 rfl ?_
  refine A_iload_n hE 5 dX7_ownerOf_4 rfl rfl ?_
  refine A_iconst hE 6 dX7_ownerOf_5 rfl (2) rfl ?_
  refine A_icmp_ge hE 9 33 dX7_ownerOf_6 rfl rfl (fun c6 => ?_) (fun c6 => absurd (by decide) c6)
  refine A_iload_n hE 34 dX7_ownerOf_33 rfl rfl ?_
  refine A_iret hE dX7_ownerOf_34 ⟨rfl, rfl⟩
set_option maxRecDepth 100000 in
theorem c_own_1_5  : AMet yX7_ownerOf cX7_ownerOf 4 (some (.int)) 0 0 0 [.int 1, .int 5] [] (pI fun r h => r = 5 ∧ h = []) := by
  refine AMet.of (by decide +kernel) rfl (fun E ad0 hE => ?_)
  refine A_iload_n hE 1 dX7_ownerOf_0 rfl rfl ?_
  refine A_istore_n hE 2 dX7_ownerOf_1 rfl rfl rfl ?_
  refine A_iconst hE 3 dX7_ownerOf_2 rfl (0) rfl ?_
  refine A_istore_n hE 4 dX7_ownerOf_3 rfl rfl rfl ?_
  refine A_iload_n hE 5 dX7_ownerOf_4 rfl rfl ?_
  refine A_iconst hE 6 dX7_ownerOf_5 rfl (2) rfl ?_
  refine A_icmp_ge hE 9 33 dX7_ownerOf_6 rfl rfl (fun c6 => absurd c6 (by decide)) (fun c6 => ?_)
  refine A_gsBodies hE 12 dX7_ownerOf_9 rfl flBod ?_
  refine A_iconst hE 13 dX7_ownerOf_12 rfl (4) rfl ?_
  refine A_iload_n hE 14 dX7_ownerOf_13 rfl rfl ?_
  refine A_imul hE 15 dX7_ownerOf_14 rfl ?_
  refine A_iload_n hE 16 dX7_ownerOf_15 rfl rfl ?_
  refine A_iadd hE 17 dX7_ownerOf_16 rfl ?_
  refine A_tabB hE 18 21 dX7_ownerOf_17 rfl (by decide) (by decide) (60) (by decide) ?_
  refine A_if_ne hE 21 33 dX7_ownerOf_18 rfl rfl (fun c18 => ?_) (fun c18 => absurd c18 (by decide))
  refine A_iload_n hE 34 dX7_ownerOf_33 rfl rfl ?_
  refine A_iret hE dX7_ownerOf_34 ⟨rfl, rfl⟩
set_option maxRecDepth 100000 in
theorem c_own_1_6  : AMet yX7_ownerOf cX7_ownerOf 4 (some (.int)) 0 0 0 [.int 1, .int 6] [] (pI fun r h => r = 6 ∧ h = []) := by
  refine AMet.of (by decide +kernel) rfl (fun E ad0 hE => ?_)
  refine A_iload_n hE 1 dX7_ownerOf_0 rfl rfl ?_
  refine A_istore_n hE 2 dX7_ownerOf_1 rfl rfl rfl ?_
  refine A_iconst hE 3 dX7_ownerOf_2 rfl (0) rfl ?_
  refine A_istore_n hE 4 dX7_ownerOf_3 rfl rfl rfl ?_
  refine A_iload_n hE 5 dX7_ownerOf_4 rfl rfl ?_
  refine A_iconst hE 6 dX7_ownerOf_5 rfl (2) rfl ?_
  refine A_icmp_ge hE 9 33 dX7_ownerOf_6 rfl rfl (fun c6 => absurd c6 (by decide)) (fun c6 => ?_)
  refine A_gsBodies hE 12 dX7_ownerOf_9 rfl flBod ?_
  refine A_iconst hE 13 dX7_ownerOf_12 rfl (4) rfl ?_
  refine A_iload_n hE 14 dX7_ownerOf_13 rfl rfl ?_
  refine A_imul hE 15 dX7_ownerOf_14 rfl ?_
  refine A_iload_n hE 16 dX7_ownerOf_15 rfl rfl ?_
  refine A_iadd hE 17 dX7_ownerOf_16 rfl ?_
  refine A_tabB hE 18 25 dX7_ownerOf_17 rfl (by decide) (by decide) (71) (by decide) ?_
  refine A_if_ne hE 21 33 dX7_ownerOf_18 rfl rfl (fun c18 => ?_) (fun c18 => absurd c18 (by decide))
  refine A_iload_n hE 34 dX7_ownerOf_33 rfl rfl ?_
  refine A_iret hE dX7_ownerOf_34 ⟨rfl, rfl⟩
set_option maxRecDepth 100000 in
theorem c_own_2_0  : AMet yX7_ownerOf cX7_ownerOf 4 (some (.int)) 0 0 0 [.int 2, .int 0] [] (pI fun r h => r = 0 ∧ h = []) := by
  refine AMet.of (by decide +kernel) rfl (fun E ad0 hE => ?_)
  refine A_iload_n hE 1 dX7_ownerOf_0 rfl rfl ?_
  refine A_istore_n hE 2 dX7_ownerOf_1 rfl rfl rfl ?_
  refine A_iconst hE 3 dX7_ownerOf_2 rfl (0) rfl ?_
  refine A_istore_n hE 4 dX7_ownerOf_3 rfl rfl rfl ?_
  refine A_iload_n hE 5 dX7_ownerOf_4 rfl rfl ?_
  refine A_iconst hE 6 dX7_ownerOf_5 rfl (2) rfl ?_
  refine A_icmp_ge hE 9 33 dX7_ownerOf_6 rfl rfl (fun c6 => absurd c6 (by decide)) (fun c6 => ?_)
  refine A_gsBodies hE 12 dX7_ownerOf_9 rfl flBod ?_
  refine A_iconst hE 13 dX7_ownerOf_12 rfl (4) rfl ?_
  refine A_iload_n hE 14 dX7_ownerOf_13 rfl rfl ?_
  refine A_imul hE 15 dX7_ownerOf_14 rfl ?_
  refine A_iload_n hE 16 dX7_ownerOf_15 rfl rfl ?_
  refine A_iadd hE 17 dX7_ownerOf_16 rfl ?_
  refine A_tabB hE 18 2 dX7_ownerOf_17 rfl (by decide) (by decide) (12) (by decide) ?_
  refine A_if_ne hE 21 33 dX7_ownerOf_18 rfl rfl (fun c18 => ?_) (fun c18 => absurd c18 (by decide))
  refine A_iload_n hE 34 dX7_ownerOf_33 rfl rfl ?_
  refine A_iret hE dX7_ownerOf_34 ⟨rfl, rfl⟩
set_option maxRecDepth 100000 in
theorem c_own_2_1  : AMet yX7_ownerOf cX7_ownerOf 4 (some (.int)) 0 0 0 [.int 2, .int 1] [] (pI fun r h => r = 0 ∧ h = []) := by
  refine AMet.of (by decide +kernel) rfl (fun E ad0 hE => ?_)
  refine A_iload_n hE 1 dX7_ownerOf_0 rfl rfl ?_
  refine A_istore_n hE 2 dX7_ownerOf_1 rfl rfl rfl ?_
  refine A_iconst hE 3 dX7_ownerOf_2 rfl (0) rfl ?_
  refine A_istore_n hE 4 dX7_ownerOf_3 rfl rfl rfl ?_
  refine A_iload_n hE 5 dX7_ownerOf_4 rfl rfl ?_
  refine A_iconst hE 6 dX7_ownerOf_5 rfl (2) rfl ?_
  refine A_icmp_ge hE 9 33 dX7_ownerOf_6 rfl rfl (fun c6 => absurd c6 (by decide)) (fun c6 => ?_)
  refine A_gsBodies hE 12 dX7_ownerOf_9 rfl flBod ?_
  refine A_iconst hE 13 dX7_ownerOf_12 rfl (4) rfl ?_
  refine A_iload_n hE 14 dX7_ownerOf_13 rfl rfl ?_
  refine A_imul hE 15 dX7_ownerOf_14 rfl ?_
  refine A_iload_n hE 16 dX7_ownerOf_15 rfl rfl ?_
  refine A_iadd hE 17 dX7_ownerOf_16 rfl ?_
  refine A_tabB hE 18 6 dX7_ownerOf_17 rfl (by decide) (by decide) (0) (by decide) ?_
  refine A_if_ne hE 21 33 dX7_ownerOf_18 rfl rfl (fun c18 => absurd rfl c18) (fun c18 => ?_)
  refine A_gsAboveN hE 24 dX7_ownerOf_21 rfl ?_
  refine A_iload_n hE 25 dX7_ownerOf_24 rfl rfl ?_
  refine A_tabA hE 26 1 dX7_ownerOf_25 rfl (by decide) (by decide) (0) (by decide) ?_
  refine A_istore_n hE 27 dX7_ownerOf_26 rfl rfl rfl ?_
  refine A_iinc hE 30 dX7_ownerOf_27 rfl rfl (1) rfl rfl rfl ?_
  refine A_goto hE 4 dX7_ownerOf_30 rfl ?_
  refine A_iload_n hE 5 dX7_ownerOf_4 rfl rfl ?_
  refine A_iconst hE 6 dX7_ownerOf_5 rfl (2) rfl ?_
  refine A_icmp_ge hE 9 33 dX7_ownerOf_6 rfl rfl (fun c6 => absurd c6 (by decide)) (fun c6 => ?_)
  refine A_gsBodies hE 12 dX7_ownerOf_9 rfl flBod ?_
  refine A_iconst hE 13 dX7_ownerOf_12 rfl (4) rfl ?_
  refine A_iload_n hE 14 dX7_ownerOf_13 rfl rfl ?_
  refine A_imul hE 15 dX7_ownerOf_14 rfl ?_
  refine A_iload_n hE 16 dX7_ownerOf_15 rfl rfl ?_
  refine A_iadd hE 17 dX7_ownerOf_16 rfl ?_
  refine A_tabB hE 18 2 dX7_ownerOf_17 rfl (by decide) (by decide) (12) (by decide) ?_
  refine A_if_ne hE 21 33 dX7_ownerOf_18 rfl rfl (fun c18 => ?_) (fun c18 => absurd c18 (by decide))
  refine A_iload_n hE 34 dX7_ownerOf_33 rfl rfl ?_
  refine A_iret hE dX7_ownerOf_34 ⟨rfl, rfl⟩
set_option maxRecDepth 100000 in
theorem c_own_2_2  : AMet yX7_ownerOf cX7_ownerOf 4 (some (.int)) 0 0 0 [.int 2, .int 2] [] (pI fun r h => r = 0 ∧ h = []) := by
  refine AMet.of (by decide +kernel) rfl (fun E ad0 hE => ?_)
  refine A_iload_n hE 1 dX7_ownerOf_0 rfl rfl ?_
  refine A_istore_n hE 2 dX7_ownerOf_1 rfl rfl rfl ?_
  refine A_iconst hE 3 dX7_ownerOf_2 rfl (0) rfl ?_
  refine A_istore_n hE 4 dX7_ownerOf_3 rfl rfl rfl ?_
  refine A_iload_n hE 5 dX7_ownerOf_4 rfl rfl ?_
  refine A_iconst hE 6 dX7_ownerOf_5 rfl (2) rfl ?_
  refine A_icmp_ge hE 9 33 dX7_ownerOf_6 rfl rfl (fun c6 => absurd c6 (by decide)) (fun c6 => ?_)
  refine A_gsBodies hE 12 dX7_ownerOf_9 rfl flBod ?_
  refine A_iconst hE 13 dX7_ownerOf_12 rfl (4) rfl ?_
  refine A_iload_n hE 14 dX7_ownerOf_13 rfl rfl ?_
  refine A_imul hE 15 dX7_ownerOf_14 rfl ?_
  refine A_iload_n hE 16 dX7_ownerOf_15 rfl rfl ?_
  refine A_iadd hE 17 dX7_ownerOf_16 rfl ?_
  refine A_tabB hE 18 10 dX7_ownerOf_17 rfl (by decide) (by decide) (0) (by decide) ?_
  refine A_if_ne hE 21 33 dX7_ownerOf_18 rfl rfl (fun c18 => absurd rfl c18) (fun c18 => ?_)
  refine A_gsAboveN hE 24 dX7_ownerOf_21 rfl ?_
  refine A_iload_n hE 25 dX7_ownerOf_24 rfl rfl ?_
  refine A_tabA hE 26 2 dX7_ownerOf_25 rfl (by decide) (by decide) (0) (by decide) ?_
  refine A_istore_n hE 27 dX7_ownerOf_26 rfl rfl rfl ?_
  refine A_iinc hE 30 dX7_ownerOf_27 rfl rfl (1) rfl rfl rfl ?_
  refine A_goto hE 4 dX7_ownerOf_30 rfl ?_
  refine A_iload_n hE 5 dX7_ownerOf_4 rfl rfl ?_
  refine A_iconst hE 6 dX7_ownerOf_5 rfl (2) rfl ?_
  refine A_icmp_ge hE 9 33 dX7_ownerOf_6 rfl rfl (fun c6 => absurd c6 (by decide)) (fun c6 => ?_)
  refine A_gsBodies hE 12 dX7_ownerOf_9 rfl flBod ?_
  refine A_iconst hE 13 dX7_ownerOf_12 rfl (4) rfl ?_
  refine A_iload_n hE 14 dX7_ownerOf_13 rfl rfl ?_
  refine A_imul hE 15 dX7_ownerOf_14 rfl ?_
  refine A_iload_n hE 16 dX7_ownerOf_15 rfl rfl ?_
  refine A_iadd hE 17 dX7_ownerOf_16 rfl ?_
  refine A_tabB hE 18 2 dX7_ownerOf_17 rfl (by decide) (by decide) (12) (by decide) ?_
  refine A_if_ne hE 21 33 dX7_ownerOf_18 rfl rfl (fun c18 => ?_) (fun c18 => absurd c18 (by decide))
  refine A_iload_n hE 34 dX7_ownerOf_33 rfl rfl ?_
  refine A_iret hE dX7_ownerOf_34 ⟨rfl, rfl⟩
set_option maxRecDepth 100000 in
theorem c_own_2_3  : AMet yX7_ownerOf cX7_ownerOf 4 (some (.int)) 0 0 0 [.int 2, .int 3] [] (pI fun r h => r = 3 ∧ h = []) := by
  refine AMet.of (by decide +kernel) rfl (fun E ad0 hE => ?_)
  refine A_iload_n hE 1 dX7_ownerOf_0 rfl rfl ?_
  refine A_istore_n hE 2 dX7_ownerOf_1 rfl rfl rfl ?_
  refine A_iconst hE 3 dX7_ownerOf_2 rfl (0) rfl ?_
  refine A_istore_n hE 4 dX7_ownerOf_3 rfl rfl rfl ?_
  refine A_iload_n hE 5 dX7_ownerOf_4 rfl rfl ?_
  refine A_iconst hE 6 dX7_ownerOf_5 rfl (2) rfl ?_
  refine A_icmp_ge hE 9 33 dX7_ownerOf_6 rfl rfl (fun c6 => absurd c6 (by decide)) (fun c6 => ?_)
  refine A_gsBodies hE 12 dX7_ownerOf_9 rfl flBod ?_
  refine A_iconst hE 13 dX7_ownerOf_12 rfl (4) rfl ?_
  refine A_iload_n hE 14 dX7_ownerOf_13 rfl rfl ?_
  refine A_imul hE 15 dX7_ownerOf_14 rfl ?_
  refine A_iload_n hE 16 dX7_ownerOf_15 rfl rfl ?_
  refine A_iadd hE 17 dX7_ownerOf_16 rfl ?_
  refine A_tabB hE 18 14 dX7_ownerOf_17 rfl (by decide) (by decide) (40) (by decide) ?_
  refine A_if_ne hE 21 33 dX7_ownerOf_18 rfl rfl (fun c18 => ?_) (fun c18 => absurd c18 (by decide))
  refine A_iload_n hE 34 dX7_ownerOf_33 rfl rfl ?_
  refine A_iret hE dX7_ownerOf_34 ⟨rfl, rfl⟩
set_option maxRecDepth 100000 in
theorem c_own_2_4  : AMet yX7_ownerOf cX7_ownerOf 4 (some (.int)) 0 0 0 [.int 2, .int 4] [] (pI fun r h => r = 4 ∧ h = []) := by
  refine AMet.of (by decide +kernel) rfl (fun E ad0 hE => ?_)
  refine A_iload_n hE 1 dX7_ownerOf_0 rfl rfl ?_
  refine A_istore_n hE 2 dX7_ownerOf_1 rfl rfl rfl ?_
  refine A_iconst hE 3 dX7_ownerOf_2 rfl (0) rfl ?_
  refine A_istore_n hE 4 dX7_ownerOf_3 rfl rfl rfl ?_
  refine A_iload_n hE 5 dX7_ownerOf_4 rfl rfl ?_
  refine A_iconst hE 6 dX7_ownerOf_5 rfl (2) rfl ?_
  refine A_icmp_ge hE 9 33 dX7_ownerOf_6 rfl rfl (fun c6 => absurd c6 (by decide)) (fun c6 => ?_)
  refine A_gsBodies hE 12 dX7_ownerOf_9 rfl flBod ?_
  refine A_iconst hE 13 dX7_ownerOf_12 rfl (4) rfl ?_
  refine A_iload_n hE 14 dX7_ownerOf_13 rfl rfl ?_
  refine A_imul hE 15 dX7_ownerOf_14 rfl ?_
  refine A_iload_n hE 16 dX7_ownerOf_15 rfl rfl ?_
  refine A_iadd hE 17 dX7_ownerOf_16 rfl ?_
  refine A_tabB hE 18 18 dX7_ownerOf_17 rfl (by decide) (by decide) (51) (by decide) ?_
  refine A_if_ne hE 21 33 dX7_ownerOf_18 rfl rfl (fun c18 => ?_) (fun c18 => absurd c18 (by decide))
  refine A_iload_n hE 34 dX7_ownerOf_33 rfl rfl ?_
  refine A_iret hE dX7_ownerOf_34 ⟨rfl, rfl⟩
set_option maxRecDepth 100000 in
theorem c_own_2_5  : AMet yX7_ownerOf cX7_ownerOf 4 (some (.int)) 0 0 0 [.int 2, .int 5] [] (pI fun r h => r = 0 ∧ h = []) := by
  refine AMet.of (by decide +kernel) rfl (fun E ad0 hE => ?_)
  refine A_iload_n hE 1 dX7_ownerOf_0 rfl rfl ?_
  refine A_istore_n hE 2 dX7_ownerOf_1 rfl rfl rfl ?_
  refine A_iconst hE 3 dX7_ownerOf_2 rfl (0) rfl ?_
  refine A_istore_n hE 4 dX7_ownerOf_3 rfl rfl rfl ?_
  refine A_iload_n hE 5 dX7_ownerOf_4 rfl rfl ?_
  refine A_iconst hE 6 dX7_ownerOf_5 rfl (2) rfl ?_
  refine A_icmp_ge hE 9 33 dX7_ownerOf_6 rfl rfl (fun c6 => absurd c6 (by decide)) (fun c6 => ?_)
  refine A_gsBodies hE 12 dX7_ownerOf_9 rfl flBod ?_
  refine A_iconst hE 13 dX7_ownerOf_12 rfl (4) rfl ?_
  refine A_iload_n hE 14 dX7_ownerOf_13 rfl rfl ?_
  refine A_imul hE 15 dX7_ownerOf_14 rfl ?_
  refine A_iload_n hE 16 dX7_ownerOf_15 rfl rfl ?_
  refine A_iadd hE 17 dX7_ownerOf_16 rfl ?_
  refine A_tabB hE 18 22 dX7_ownerOf_17 rfl (by decide) (by decide) (0) (by decide) ?_
  refine A_if_ne hE 21 33 dX7_ownerOf_18 rfl rfl (fun c18 => absurd rfl c18) (fun c18 => ?_)
  refine A_gsAboveN hE 24 dX7_ownerOf_21 rfl ?_
  refine A_iload_n hE 25 dX7_ownerOf_24 rfl rfl ?_
  refine A_tabA hE 26 5 dX7_ownerOf_25 rfl (by decide) (by decide) (2) (by decide) ?_
  refine A_istore_n hE 27 dX7_ownerOf_26 rfl rfl rfl ?_
  refine A_iinc hE 30 dX7_ownerOf_27 rfl rfl (1) rfl rfl rfl ?_
  refine A_goto hE 4 dX7_ownerOf_30 rfl ?_
  refine A_iload_n hE 5 dX7_ownerOf_4 rfl rfl ?_
  refine A_iconst hE 6 dX7_ownerOf_5 rfl (2) rfl ?_
  refine A_icmp_ge hE 9 33 dX7_ownerOf_6 rfl rfl (fun c6 => absurd c6 (by decide)) (fun c6 => ?_)
  refine A_gsBodies hE 12 dX7_ownerOf_9 rfl flBod ?_
  refine A_iconst hE 13 dX7_ownerOf_12 rfl (4) rfl ?_
  refine A_iload_n hE 14 dX7_ownerOf_13 rfl rfl ?_
  refine A_imul hE 15 dX7_ownerOf_14 rfl ?_
  refine A_iload_n hE 16 dX7_ownerOf_15 rfl rfl ?_
  refine A_iadd hE 17 dX7_ownerOf_16 rfl ?_
  refine A_tabB hE 18 10 dX7_ownerOf_17 rfl (by decide) (by decide) (0) (by decide) ?_
  refine A_if_ne hE 21 33 dX7_ownerOf_18 rfl rfl (fun c18 => absurd rfl c18) (fun c18 => ?_)
  refine A_gsAboveN hE 24 dX7_ownerOf_21 rfl ?_
  refine A_iload_n hE 25 dX7_ownerOf_24 rfl rfl ?_
  refine A_tabA hE 26 2 dX7_ownerOf_25 rfl (by decide) (by decide) (0) (by decide) ?_
  refine A_istore_n hE 27 dX7_ownerOf_26 rfl rfl rfl ?_
  refine A_iinc hE 30 dX7_ownerOf_27 rfl rfl (1) rfl rfl rfl ?_
  refine A_goto hE 4 dX7_ownerOf_30 rfl ?_
  refine A_iload_n hE 5 dX7_ownerOf_4 rfl rfl ?_
  refine A_iconst hE 6 dX7_ownerOf_5 rfl (2) rfl ?_
  refine A_icmp_ge hE 9 33 dX7_ownerOf_6 rfl rfl (fun c6 => ?_) (fun c6 => absurd (by decide) c6)
  refine A_iload_n hE 34 dX7_ownerOf_33 rfl rfl ?_
  refine A_iret hE dX7_ownerOf_34 ⟨rfl, rfl⟩
set_option maxRecDepth 100000 in
theorem c_own_2_6  : AMet yX7_ownerOf cX7_ownerOf 4 (some (.int)) 0 0 0 [.int 2, .int 6] [] (pI fun r h => r = 0 ∧ h = []) := by
  refine AMet.of (by decide +kernel) rfl (fun E ad0 hE => ?_)
  refine A_iload_n hE 1 dX7_ownerOf_0 rfl rfl ?_
  refine A_istore_n hE 2 dX7_ownerOf_1 rfl rfl rfl ?_
  refine A_iconst hE 3 dX7_ownerOf_2 rfl (0) rfl ?_
  refine A_istore_n hE 4 dX7_ownerOf_3 rfl rfl rfl ?_
  refine A_iload_n hE 5 dX7_ownerOf_4 rfl rfl ?_
  refine A_iconst hE 6 dX7_ownerOf_5 rfl (2) rfl ?_
  refine A_icmp_ge hE 9 33 dX7_ownerOf_6 rfl rfl (fun c6 => absurd c6 (by decide)) (fun c6 => ?_)
  refine A_gsBodies hE 12 dX7_ownerOf_9 rfl flBod ?_
  refine A_iconst hE 13 dX7_ownerOf_12 rfl (4) rfl ?_
  refine A_iload_n hE 14 dX7_ownerOf_13 rfl rfl ?_
  refine A_imul hE 15 dX7_ownerOf_14 rfl ?_
  refine A_iload_n hE 16 dX7_ownerOf_15 rfl rfl ?_
  refine A_iadd hE 17 dX7_ownerOf_16 rfl ?_
  refine A_tabB hE 18 26 dX7_ownerOf_17 rfl (by decide) (by decide) (0) (by decide) ?_
  refine A_if_ne hE 21 33 dX7_ownerOf_18 rfl rfl (fun c18 => absurd rfl c18) (fun c18 => ?_)
  refine A_gsAboveN hE 24 dX7_ownerOf_21 rfl ?_
  refine A_iload_n hE 25 dX7_ownerOf_24 rfl rfl ?_
  refine A_tabA hE 26 6 dX7_ownerOf_25 rfl (by decide) (by decide) (0) (by decide) ?_
  refine A_istore_n hE 27 dX7_ownerOf_26 rfl rfl rfl ?_
  refine A_iinc hE 30 dX7_ownerOf_27 rfl rfl (1) rfl rfl rfl ?_
  refine A_goto hE 4 dX7_ownerOf_30 rfl ?_
  refine A_iload_n hE 5 dX7_ownerOf_4 rfl rfl ?_
  refine A_iconst hE 6 dX7_ownerOf_5 rfl (2) rfl ?_
  refine A_icmp_ge hE 9 33 dX7_ownerOf_6 rfl rfl (fun c6 => absurd c6 (by decide)) (fun c6 => ?_)
  refine A_gsBodies hE 12 dX7_ownerOf_9 rfl flBod ?_
  refine A_iconst hE 13 dX7_ownerOf_12 rfl (4) rfl ?_
  refine A_iload_n hE 14 dX7_ownerOf_13 rfl rfl ?_
  refine A_imul hE 15 dX7_ownerOf_14 rfl ?_
  refine A_iload_n hE 16 dX7_ownerOf_15 rfl rfl ?_
  refine A_iadd hE 17 dX7_ownerOf_16 rfl ?_
  refine A_tabB hE 18 2 dX7_ownerOf_17 rfl (by decide) (by decide) (12) (by decide) ?_
  refine A_if_ne hE 21 33 dX7_ownerOf_18 rfl rfl (fun c18 => ?_) (fun c18 => absurd c18 (by decide))
  refine A_iload_n hE 34 dX7_ownerOf_33 rfl rfl ?_
  refine A_iret hE dX7_ownerOf_34 ⟨rfl, rfl⟩
set_option maxRecDepth 100000 in
theorem c_own_3_0  : AMet yX7_ownerOf cX7_ownerOf 4 (some (.int)) 0 0 0 [.int 3, .int 0] [] (pI fun r h => r = 0 ∧ h = []) := by
  refine AMet.of (by decide +kernel) rfl (fun E ad0 hE => ?_)
  refine A_iload_n hE 1 dX7_ownerOf_0 rfl rfl ?_
  refine A_istore_n hE 2 dX7_ownerOf_1 rfl rfl rfl ?_
  refine A_iconst hE 3 dX7_ownerOf_2 rfl (0) rfl ?_
  refine A_istore_n hE 4 dX7_ownerOf_3 rfl rfl rfl ?_
  refine A_iload_n hE 5 dX7_ownerOf_4 rfl rfl ?_
  refine A_iconst hE 6 dX7_ownerOf_5 rfl (2) rfl ?_
  refine A_icmp_ge hE 9 33 dX7_ownerOf_6 rfl rfl (fun c6 => absurd c6 (by decide)) (fun c6 => ?_)
  refine A_gsBodies hE 12 dX7_ownerOf_9 rfl flBod ?_
  refine A_iconst hE 13 dX7_ownerOf_12 rfl (4) rfl ?_
  refine A_iload_n hE 14 dX7_ownerOf_13 rfl rfl ?_
  refine A_imul hE 15 dX7_ownerOf_14 rfl ?_
  refine A_iload_n hE 16 dX7_ownerOf_15 rfl rfl ?_
  refine A_iadd hE 17 dX7_ownerOf_16 rfl ?_
  refine A_tabB hE 18 3 dX7_ownerOf_17 rfl (by decide) (by decide) (13) (by decide) ?_
  refine A_if_ne hE 21 33 dX7_ownerOf_18 rfl rfl (fun c18 => ?_) (fun c18 => absurd c18 (by decide))
  refine A_iload_n hE 34 dX7_ownerOf_33 rfl rfl ?_
  refine A_iret hE dX7_ownerOf_34 ⟨rfl, rfl⟩
set_option maxRecDepth 100000 in
theorem c_own_3_1  : AMet yX7_ownerOf cX7_ownerOf 4 (some (.int)) 0 0 0 [.int 3, .int 1] [] (pI fun r h => r = 1 ∧ h = []) := by
  refine AMet.of (by decide +kernel) rfl (fun E ad0 hE => ?_)
  refine A_iload_n hE 1 dX7_ownerOf_0 rfl rfl ?_
  refine A_istore_n hE 2 dX7_ownerOf_1 rfl rfl rfl ?_
  refine A_iconst hE 3 dX7_ownerOf_2 rfl (0) rfl ?_
  refine A_istore_n hE 4 dX7_ownerOf_3 rfl rfl rfl ?_
  refine A_iload_n hE 5 dX7_ownerOf_4 rfl rfl ?_
  refine A_iconst hE 6 dX7_ownerOf_5 rfl (2) rfl ?_
  refine A_icmp_ge hE 9 33 dX7_ownerOf_6 rfl rfl (fun c6 => absurd c6 (by decide)) (fun c6 => ?_)
  refine A_gsBodies hE 12 dX7_ownerOf_9 rfl flBod ?_
  refine A_iconst hE 13 dX7_ownerOf_12 rfl (4) rfl ?_
  refine A_iload_n hE 14 dX7_ownerOf_13 rfl rfl ?_
  refine A_imul hE 15 dX7_ownerOf_14 rfl ?_
  refine A_iload_n hE 16 dX7_ownerOf_15 rfl rfl ?_
  refine A_iadd hE 17 dX7_ownerOf_16 rfl ?_
  refine A_tabB hE 18 7 dX7_ownerOf_17 rfl (by decide) (by decide) (21) (by decide) ?_
  refine A_if_ne hE 21 33 dX7_ownerOf_18 rfl rfl (fun c18 => ?_) (fun c18 => absurd c18 (by decide))
  refine A_iload_n hE 34 dX7_ownerOf_33 rfl rfl ?_
  refine A_iret hE dX7_ownerOf_34 ⟨rfl, rfl⟩
set_option maxRecDepth 100000 in
theorem c_own_3_2  : AMet yX7_ownerOf cX7_ownerOf 4 (some (.int)) 0 0 0 [.int 3, .int 2] [] (pI fun r h => r = 0 ∧ h = []) := by
  refine AMet.of (by decide +kernel) rfl (fun E ad0 hE => ?_)
  refine A_iload_n hE 1 dX7_ownerOf_0 rfl rfl ?_
  refine A_istore_n hE 2 dX7_ownerOf_1 rfl rfl rfl ?_
  refine A_iconst hE 3 dX7_ownerOf_2 rfl (0) rfl ?_
  refine A_istore_n hE 4 dX7_ownerOf_3 rfl rfl rfl ?_
  refine A_iload_n hE 5 dX7_ownerOf_4 rfl rfl ?_
  refine A_iconst hE 6 dX7_ownerOf_5 rfl (2) rfl ?_
  refine A_icmp_ge hE 9 33 dX7_ownerOf_6 rfl rfl (fun c6 => absurd c6 (by decide)) (fun c6 => ?_)
  refine A_gsBodies hE 12 dX7_ownerOf_9 rfl flBod ?_
  refine A_iconst hE 13 dX7_ownerOf_12 rfl (4) rfl ?_
  refine A_iload_n hE 14 dX7_ownerOf_13 rfl rfl ?_
  refine A_imul hE 15 dX7_ownerOf_14 rfl ?_
  refine A_iload_n hE 16 dX7_ownerOf_15 rfl rfl ?_
  refine A_iadd hE 17 dX7_ownerOf_16 rfl ?_
  refine A_tabB hE 18 11 dX7_ownerOf_17 rfl (by decide) (by decide) (0) (by decide) ?_
  refine A_if_ne hE 21 33 dX7_ownerOf_18 rfl rfl (fun c18 => absurd rfl c18) (fun c18 => ?_)
  refine A_gsAboveN hE 24 dX7_ownerOf_21 rfl ?_
  refine A_iload_n hE 25 dX7_ownerOf_24 rfl rfl ?_
  refine A_tabA hE 26 2 dX7_ownerOf_25 rfl (by decide) (by decide) (0) (by decide) ?_
  refine A_istore_n hE 27 dX7_ownerOf_26 rfl rfl rfl ?_
  refine A_iinc hE 30 dX7_ownerOf_27 rfl rfl (1) rfl rfl rfl ?_
  refine A_goto hE 4 dX7_ownerOf_30 rfl ?_
  refine A_iload_n hE 5 dX7_ownerOf_4 rfl rfl ?_
  refine A_iconst hE 6 dX7_ownerOf_5 rfl (2) rfl ?_
  refine A_icmp_ge hE 9 33 dX7_ownerOf_6 rfl rfl (fun c6 => absurd c6 (by decide)) (fun c6 => ?_)
  refine A_gsBodies hE 12 dX7_ownerOf_9 rfl flBod ?_
  refine A_iconst hE 13 dX7_ownerOf_12 rfl (4) rfl ?_
  refine A_iload_n hE 14 dX7_ownerOf_13 rfl rfl ?_
  refine A_imul hE 15 dX7_ownerOf_14 rfl ?_
  refine A_iload_n hE 16 dX7_ownerOf_15 rfl rfl ?_
  refine A_iadd hE 17 dX7_ownerOf_16 rfl ?_
  refine A_tabB hE 18 3 dX7_ownerOf_17 rfl (by decide) (by decide) (13) (by decide) ?_
  refine A_if_ne hE 21 33 dX7_ownerOf_18 rfl rfl (fun c18 => ?_) (fun c18 => absurd c18 (by decide))
  refine A_iload_n hE 34 dX7_ownerOf_33 rfl rfl ?_
  refine A_iret hE dX7_ownerOf_34 ⟨rfl, rfl⟩
set_option maxRecDepth 100000 in
theorem c_own_3_3  : AMet yX7_ownerOf cX7_ownerOf 4 (some (.int)) 0 0 0 [.int 3, .int 3] [] (pI fun r h => r = 0 ∧ h = []) := by
  refine AMet.of (by decide +kernel) rfl (fun E ad0 hE => ?_)
  refine A_iload_n hE 1 dX7_ownerOf_0 rfl rfl ?_
  refine A_istore_n hE 2 dX7_ownerOf_1 rfl rfl rfl ?_
  refine A_iconst hE 3 dX7_ownerOf_2 rfl (0) rfl ?_
  refine A_istore_n hE 4 dX7_ownerOf_3 rfl rfl rfl ?_
  refine A_iload_n hE 5 dX7_ownerOf_4 rfl rfl ?_
  refine A_iconst hE 6 dX7_ownerOf_5 rfl (2) rfl ?_
  refine A_icmp_ge hE 9 33 dX7_ownerOf_6 rfl rfl (fun c6 => absurd c6 (by decide)) (fun c6 => ?_)
  refine A_gsBodies hE 12 dX7_ownerOf_9 rfl flBod ?_
  refine A_iconst hE 13 dX7_ownerOf_12 rfl (4) rfl ?_
  refine A_iload_n hE 14 dX7_ownerOf_13 rfl rfl ?_
  refine A_imul hE 15 dX7_ownerOf_14 rfl ?_
  refine A_iload_n hE 16 dX7_ownerOf_15 rfl rfl ?_
  refine A_iadd hE 17 dX7_ownerOf_16 rfl ?_
  refine A_tabB hE 18 15 dX7_ownerOf_17 rfl (by decide) (by decide) (0) (by decide) ?_
  refine A_if_ne hE 21 33 dX7_ownerOf_18 rfl rfl (fun c18 => absurd rfl c18) (fun c18 => ?_)
  refine A_gsAboveN hE 24 dX7_ownerOf_21 rfl ?_
  refine A_iload_n hE 25 dX7_ownerOf_24 rfl rfl ?_
  refine A_tabA hE 26 3 dX7_ownerOf_25 rfl (by decide) (by decide) (0) (by decide) ?_
  refine A_istore_n hE 27 dX7_ownerOf_26 rfl rfl rfl ?_
  refine A_iinc hE 30 dX7_ownerOf_27 rfl rfl (1) rfl rfl rfl ?_
  refine A_goto hE 4 dX7_ownerOf_30 rfl ?_
  refine A_iload_n hE 5 dX7_ownerOf_4 rfl rfl ?_
  refine A_iconst hE 6 dX7_ownerOf_5 rfl (2) rfl ?_
  refine A_icmp_ge hE 9 33 dX7_ownerOf_6 rfl rfl (fun c6 => absurd c6 (by decide)) (fun c6 => ?_)
  refine A_gsBodies hE 12 dX7_ownerOf_9 rfl flBod ?_
  refine A_iconst hE 13 dX7_ownerOf_12 rfl (4) rfl ?_
  refine A_iload_n hE 14 dX7_ownerOf_13 rfl rfl ?_
  refine A_imul hE 15 dX7_ownerOf_14 rfl ?_
  refine A_iload_n hE 16 dX7_ownerOf_15 rfl rfl ?_
  refine A_iadd hE 17 dX7_ownerOf_16 rfl ?_
  refine A_tabB hE 18 3 dX7_ownerOf_17 rfl (by decide) (by decide) (13) (by decide) ?_
  refine A_if_ne hE 21 33 dX7_ownerOf_18 rfl rfl (fun c18 => ?_) (fun c18 => absurd c18 (by decide))
  refine A_iload_n hE 34 dX7_ownerOf_33 rfl rfl ?_
  refine A_iret hE dX7_ownerOf_34 ⟨rfl, rfl⟩
set_option maxRecDepth 100000 in
theorem c_own_3_4  : AMet yX7_ownerOf cX7_ownerOf 4 (some (.int)) 0 0 0 [.int 3, .int 4] [] (pI fun r h => r = 1 ∧ h = []) := by
  refine AMet.of (by decide +kernel) rfl (fun E ad0 hE => ?_)
  refine A_iload_n hE 1 dX7_ownerOf_0 rfl rfl ?_
  refine A_istore_n hE 2 dX7_ownerOf_1 rfl rfl rfl ?_
  refine A_iconst hE 3 dX7_ownerOf_2 rfl (0) rfl ?_
  refine A_istore_n hE 4 dX7_ownerOf_3 rfl rfl rfl ?_
  refine A_iload_n hE 5 dX7_ownerOf_4 rfl rfl ?_
  refine A_iconst hE 6 dX7_ownerOf_5 rfl (2) rfl ?_
  refine A_icmp_ge hE 9 33 dX7_ownerOf_6 rfl rfl (fun c6 => absurd c6 (by decide)) (fun c6 => ?_)
  refine A_gsBodies hE 12 dX7_ownerOf_9 rfl flBod ?_
  refine A_iconst hE 13 dX7_ownerOf_12 rfl (4) rfl ?_
  refine A_iload_n hE 14 dX7_ownerOf_13 rfl rfl ?_
  refine A_imul hE 15 dX7_ownerOf_14 rfl ?_
  refine A_iload_n hE 16 dX7_ownerOf_15 rfl rfl ?_
  refine A_iadd hE 17 dX7_ownerOf_16 rfl ?_
  refine A_tabB hE 18 19 dX7_ownerOf_17 rfl (by decide) (by decide) (0) (by decide) ?_
  refine A_if_ne hE 21 33 dX7_ownerOf_18 rfl rfl (fun c18 => absurd rfl c18) (fun c18 => ?_)
  refine A_gsAboveN hE 24 dX7_ownerOf_21 rfl ?_
  refine A_iload_n hE 25 dX7_ownerOf_24 rfl rfl ?_
  refine A_tabA hE 26 4 dX7_ownerOf_25 rfl (by decide) (by decide) (1) (by decide) ?_
  refine A_istore_n hE 27 dX7_ownerOf_26 rfl rfl rfl ?_
  refine A_iinc hE 30 dX7_ownerOf_27 rfl rfl (1) rfl rfl rfl ?_
  refine A_goto hE 4 dX7_ownerOf_30 rfl ?_
  refine A_iload_n hE 5 dX7_ownerOf_4 rfl rfl ?_
  refine A_iconst hE 6 dX7_ownerOf_5 rfl (2) rfl ?_
  refine A_icmp_ge hE 9 33 dX7_ownerOf_6 rfl rfl (fun c6 => absurd c6 (by decide)) (fun c6 => ?_)
  refine A_gsBodies hE 12 dX7_ownerOf_9 rfl flBod ?_
  refine A_iconst hE 13 dX7_ownerOf_12 rfl (4) rfl ?_
  refine A_iload_n hE 14 dX7_ownerOf_13 rfl rfl ?_
  refine A_imul hE 15 dX7_ownerOf_14 rfl ?_
  refine A_iload_n hE 16 dX7_ownerOf_15 rfl rfl ?_
  refine A_iadd hE 17 dX7_ownerOf_16 rfl ?_
  refine A_tabB hE 18 7 dX7_ownerOf_17 rfl (by decide) (by decide) (21) (by decide) ?_
  refine A_if_ne hE 21 33 dX7_ownerOf_18 rfl rfl (fun c18 => ?_) (fun c18 => absurd c18 (by decide))
  refine A_iload_n hE 34 dX7_ownerOf_33 rfl rfl ?_
  refine A_iret hE dX7_ownerOf_34 ⟨rfl, rfl⟩
set_option maxRecDepth 100000 in
theorem c_own_3_5  : AMet yX7_ownerOf cX7_ownerOf 4 (some (.int)) 0 0 0 [.int 3, .int 5] [] (pI fun r h => r = 0 ∧ h = []) := by
  refine AMet.of (by decide +kernel) rfl (fun E ad0 hE => ?_)
  refine A_iload_n hE 1 dX7_ownerOf_0 rfl rfl ?_
  refine A_istore_n hE 2 dX7_ownerOf_1 rfl rfl rfl ?_
  refine A_iconst hE 3 dX7_ownerOf_2 rfl (0) rfl ?_
  refine A_istore_n hE 4 dX7_ownerOf_3 rfl rfl rfl ?_
  refine A_iload_n hE 5 dX7_ownerOf_4 rfl rfl ?_
  refine A_iconst hE 6 dX7_ownerOf_5 rfl (2) rfl ?_
  refine A_icmp_ge hE 9 33 dX7_ownerOf_6 rfl rfl (fun c6 => absurd c6 (by decide)) (fun c6 => ?_)
  refine A_gsBodies hE 12 dX7_ownerOf_9 rfl flBod ?_
  refine A_iconst hE 13 dX7_ownerOf_12 rfl (4) rfl ?_
  refine A_iload_n hE 14 dX7_ownerOf_13 rfl rfl ?_
  refine A_imul hE 15 dX7_ownerOf_14 rfl ?_
  refine A_iload_n hE 16 dX7_ownerOf_15 rfl rfl ?_
  refine A_iadd hE 17 dX7_ownerOf_16 rfl ?_
  refine A_tabB hE 18 23 dX7_ownerOf_17 rfl (by decide) (by decide) (0) (by decide) ?_
  refine A_if_ne hE 21 33 dX7_ownerOf_18 rfl rfl (fun c18 => absurd rfl c18) (fun c18 => ?_)
  refine A_gsAboveN hE 24 dX7_ownerOf_21 rfl ?_
  refine A_iload_n hE 25 dX7_ownerOf_24 rfl rfl ?_
  refine A_tabA hE 26 5 dX7_ownerOf_25 rfl (by decide) (by decide) (2) (by decide) ?_
  refine A_istore_n hE 27 dX7_ownerOf_26 rfl rfl rfl ?_
  refine A_iinc hE 30 dX7_ownerOf_27 rfl rfl (1) rfl rfl rfl ?_
  refine A_goto hE 4 dX7_ownerOf_30 rfl ?_
  refine A_iload_n hE 5 dX7_ownerOf_4 rfl rfl ?_
  refine A_iconst hE 6 dX7_ownerOf_5 rfl (2) rfl ?_
  refine A_icmp_ge hE 9 33 dX7_ownerOf_6 rfl rfl (fun c6 => absurd c6 (by decide)) (fun c6 => ?_)
  refine A_gsBodies hE 12 dX7_ownerOf_9 rfl flBod ?_
  refine A_iconst hE 13 dX7_ownerOf_12 rfl (4) rfl ?_
  refine A_iload_n hE 14 dX7_ownerOf_13 rfl rfl ?_
  refine A_imul hE 15 dX7_ownerOf_14 rfl ?_
  refine A_iload_n hE 16 dX7_ownerOf_15 rfl rfl ?_
  refine A_iadd hE 17 dX7_ownerOf_16 rfl ?_
  refine A_tabB hE 18 11 dX7_ownerOf_17 rfl (by decide) (by decide) (0) (by decide) ?_
  refine A_if_ne hE 21 33 dX7_ownerOf_18 rfl rfl (fun c18 => absurd rfl c18) (fun c18 => ?_)
  refine A_gsAboveN hE 24 dX7_ownerOf_21 rfl ?_
  refine A_iload_n hE 25 dX7_ownerOf_24 rfl rfl ?_
  refine A_tabA hE 26 2 dX7_ownerOf_25 rfl (by decide) (by decide) (0) (by decide) ?_
  refine A_istore_n hE 27 dX7_ownerOf_26 rfl rfl rfl ?_
  refine A_iinc hE 30 dX7_ownerOf_27 rfl rfl (1) rfl rfl rfl ?_
  refine A_goto hE 4 dX7_ownerOf_30 rfl ?_
  refine A_iload_n hE 5 dX7_ownerOf_4 rfl rfl ?_
  refine A_iconst hE 6 dX7_ownerOf_5 rfl (2) rfl ?_
  refine A_icmp_ge hE 9 33 dX7_ownerOf_6 rfl rfl (fun c6 => ?_) (fun c6 => absurd (by decide) c6)
  refine A_iload_n hE 34 dX7_ownerOf_33 rfl rfl ?_
  refine A_iret hE dX7_ownerOf_34 ⟨rfl, rfl⟩
set_option maxRecDepth 100000 in
theorem c_own_3_6  : AMet yX7_ownerOf cX7_ownerOf 4 (some (.int)) 0 0 0 [.int 3, .int 6] [] (pI fun r h => r = 0 ∧ h = []) := by
  refine AMet.of (by decide +kernel) rfl (fun E ad0 hE => ?_)
  refine A_iload_n hE 1 dX7_ownerOf_0 rfl rfl ?_
  refine A_istore_n hE 2 dX7_ownerOf_1 rfl rfl rfl ?_
  refine A_iconst hE 3 dX7_ownerOf_2 rfl (0) rfl ?_
  refine A_istore_n hE 4 dX7_ownerOf_3 rfl rfl rfl ?_
  refine A_iload_n hE 5 dX7_ownerOf_4 rfl rfl ?_
  refine A_iconst hE 6 dX7_ownerOf_5 rfl (2) rfl ?_
  refine A_icmp_ge hE 9 33 dX7_ownerOf_6 rfl rfl (fun c6 => absurd c6 (by decide)) (fun c6 => ?_)
  refine A_gsBodies hE 12 dX7_ownerOf_9 rfl flBod ?_
  refine A_iconst hE 13 dX7_ownerOf_12 rfl (4) rfl ?_
  refine A_iload_n hE 14 dX7_ownerOf_13 rfl rfl ?_
  refine A_imul hE 15 dX7_ownerOf_14 rfl ?_
  refine A_iload_n hE 16 dX7_ownerOf_15 rfl rfl ?_
  refine A_iadd hE 17 dX7_ownerOf_16 rfl ?_
  refine A_tabB hE 18 27 dX7_ownerOf_17 rfl (by decide) (by decide) (0) (by decide) ?_
  refine A_if_ne hE 21 33 dX7_ownerOf_18 rfl rfl (fun c18 => absurd rfl c18) (fun c18 => ?_)
  refine A_gsAboveN hE 24 dX7_ownerOf_21 rfl ?_
  refine A_iload_n hE 25 dX7_ownerOf_24 rfl rfl ?_
  refine A_tabA hE 26 6 dX7_ownerOf_25 rfl (by decide) (by decide) (0) (by decide) ?_
  refine A_istore_n hE 27 dX7_ownerOf_26 rfl rfl rfl ?_
  refine A_iinc hE 30 dX7_ownerOf_27 rfl rfl (1) rfl rfl rfl ?_
  refine A_goto hE 4 dX7_ownerOf_30 rfl ?_
  refine A_iload_n hE 5 dX7_ownerOf_4 rfl rfl ?_
  refine A_iconst hE 6 dX7_ownerOf_5 rfl (2) rfl ?_
  refine A_icmp_ge hE 9 33 dX7_ownerOf_6 rfl rfl (fun c6 => absurd c6 (by decide)) (fun c6 => ?_)
  refine A_gsBodies hE 12 dX7_ownerOf_9 rfl flBod ?_
  refine A_iconst hE 13 dX7_ownerOf_12 rfl (4) rfl ?_
  refine A_iload_n hE 14 dX7_ownerOf_13 rfl rfl ?_
  refine A_imul hE 15 dX7_ownerOf_14 rfl ?_
  refine A_iload_n hE 16 dX7_ownerOf_15 rfl rfl ?_
  refine A_iadd hE 17 dX7_ownerOf_16 rfl ?_
  refine A_tabB hE 18 3 dX7_ownerOf_17 rfl (by decide) (by decide) (13) (by decide) ?_
  refine A_if_ne hE 21 33 dX7_ownerOf_18 rfl rfl (fun c18 => ?_) (fun c18 => absurd c18 (by decide))
  refine A_iload_n hE 34 dX7_ownerOf_33 rfl rfl ?_
  refine A_iret hE dX7_ownerOf_34 ⟨rfl, rfl⟩
/-- voices: the cell, and its trace -/
abbrev VW (pt : Int32) (K : Nat) (k m : Int32) (tn : Nat) (tr : Nat → Int32) : List AE := [.inr (7, [.ref 1, .int pt, .int (nI K), .int k, .int m]), cRow 2 (nI tn), cI 30 tr]
def pN (n : Nat) : Nat := if n < 30 then n + 1 else n
def pF (n : Nat) (f : Nat → Int32) (b : Int32) : Nat → Int32 := if n < 30 then upd f n b else f
def apN : List Int32 → Nat → Nat
  | [], n => n
  | _ :: l, n => apN l (pN n)
def apF : List Int32 → Nat → (Nat → Int32) → Nat → Int32
  | [], _, f => f
  | b :: l, n, f => apF l (pN n) (pF n f b)
theorem pN_le {n : Nat} (h : n ≤ 30) : pN n ≤ 30 := by unfold pN; split <;> omega
theorem apN_le : ∀ (l : List Int32) (n : Nat), n ≤ 30 → apN l n ≤ 30
  | [], _, h => h
  | _ :: l, _, h => apN_le l _ (pN_le h)
theorem apN_app : ∀ (a b : List Int32) (n : Nat), apN (a ++ b) n = apN b (apN a n)
  | [], _, _ => rfl
  | _ :: a, b, n => apN_app a b (pN n)
theorem apF_app : ∀ (a b : List Int32) (n : Nat) (f : Nat → Int32), apF (a ++ b) n f = apF b (apN a n) (apF a n f)
  | [], _, _, _ => rfl
  | x :: a, b, n, f => apF_app a b (pN n) (pF n f x)
def cuV (k : Int32) : Nat → Int32 → Int32
  | 1, x => x + k - 4
  | 4, x => (x + k - 4) * 3
  | 6, _ => 9
  | _, x => x + k
def cuT : Nat → List Int32
  | 1 => [20, 10]
  | 4 => [50, 20, 10]
  | 6 => [70]
  | _ => [10]
def saV (k m : Int32) (K : Nat) : Nat → Int32 → Int32
  | 2, x => 0 - cuV k K x * 2
  | 5, x => 0 - cuV k K (x + 1) * 2
  | 6, x => cuV k K x * 2 + m
  | _, x => cuV k K x * 2
def saT (K : Nat) : Nat → List Int32
  | 2 => 30 :: 11 :: cuT K
  | 5 => 60 :: 30 :: 11 :: cuT K
  | 6 => 71 :: 11 :: cuT K
  | _ => 11 :: cuT K
def stV (k m : Int32) (K : Nat) : Nat → Int32 → Int32
  | 3, x => saV k m K K (x / 2) - m
  | 4, x => (saV k m K K x - m) ^^^ k
  | _, x => saV k m K K x - m
def stT (K : Nat) : Nat → List Int32
  | 3 => 40 :: 12 :: saT K K
  | 4 => 51 :: 12 :: saT K K
  | _ => 12 :: saT K K
def paV (k m : Int32) (K : Nat) : Nat → Int32 → Int32
  | 1, x => x / (m - k) + saV k m K K 1
  | 4, x => x / (m - k) + saV k m K K 1
  | _, x => x / (m - k)
def paT (K : Nat) : Nat → List Int32
  | 1 => 21 :: 13 :: saT K K
  | 4 => 21 :: 13 :: saT K K
  | _ => [13]
def paTp : Nat → List Int32
  | 1 => [21, 13]
  | 4 => [21, 13]
  | _ => [13]
theorem sub_ne {m k : Int32} (h : ¬ m = k) : ¬ m - k = 0 := by
  intro z
  apply h
  have e : m - k + k = 0 + k := by rw [z]
  rwa [Int32.sub_add_cancel, Int32.zero_add] at e

set_option maxRecDepth 100000 in
theorem c_part_p (K : Nat) (k m x : Int32) (tn : Nat) (tr : Nat → Int32) (hm : m = k) : AMet yX7_part cX7_part 2 (some (.int)) 0 0 0 [.ref 0, .int x] (VW 0 K k m tn tr) (pI fun r h => r = 0 ∧ h = VW 1 K k m tn tr) := by
  refine AMet.of (by decide +kernel) rfl (fun E ad0 hE => ?_)
  refine A_aload_n hE 1 dX7_part_0 rfl rfl ?_
  refine A_get hE 4 dX7_part_1 rfl fkX7_31 rfl rfl ?_
  refine A_aload_n hE 5 dX7_part_4 rfl rfl ?_
  refine A_get hE 8 dX7_part_5 rfl fkX7_28 rfl rfl ?_
  refine A_icmp_ne hE 11 18 dX7_part_8 rfl rfl (fun c8 => absurd hm c8) (fun c8 => ?_)
  refine A_aload_n hE 12 dX7_part_11 rfl rfl ?_
  refine A_iconst hE 13 dX7_part_12 rfl (1) rfl ?_
  refine A_put hE 16 dX7_part_13 rfl fkX7_20 rfl rfl rfl rfl ?_
  refine A_iconst hE 17 dX7_part_16 rfl (0) rfl ?_
  refine A_iret hE dX7_part_17 ⟨rfl, rfl⟩
set_option maxRecDepth 100000 in
theorem c_part_n (K : Nat) (k m x : Int32) (tn : Nat) (tr : Nat → Int32) (hm : ¬ m = k) : AMet yX7_part cX7_part 2 (some (.int)) 0 0 0 [.ref 0, .int x] (VW 0 K k m tn tr) (pI fun r h => r = x / (m - k) ∧ h = VW 0 K k m tn tr) := by
  refine AMet.of (by decide +kernel) rfl (fun E ad0 hE => ?_)
  refine A_aload_n hE 1 dX7_part_0 rfl rfl ?_
  refine A_get hE 4 dX7_part_1 rfl fkX7_31 rfl rfl ?_
  refine A_aload_n hE 5 dX7_part_4 rfl rfl ?_
  refine A_get hE 8 dX7_part_5 rfl fkX7_28 rfl rfl ?_
  refine A_icmp_ne hE 11 18 dX7_part_8 rfl rfl (fun c8 => ?_) (fun c8 => absurd c8 hm)
  refine A_iload_n hE 19 dX7_part_18 rfl rfl ?_
  refine A_aload_n hE 20 dX7_part_19 rfl rfl ?_
  refine A_get hE 23 dX7_part_20 rfl fkX7_31 rfl rfl ?_
  refine A_aload_n hE 24 dX7_part_23 rfl rfl ?_
  refine A_get hE 27 dX7_part_24 rfl fkX7_28 rfl rfl ?_
  refine A_isub hE 28 dX7_part_27 rfl ?_
  refine A_idiv hE 29 dX7_part_28 rfl (sub_ne hm) ?_
  refine A_iret hE dX7_part_29 ⟨rfl, rfl⟩
set_option maxRecDepth 100000 in
theorem c_speak_p (K : Nat) (k m x v f d : Int32) (tn : Nat) (tr : Nat → Int32) : AMet yX7_speak cX7_speak 9 (some (.int)) 0 0 0 [.ref 0, .int v, .int f, .int x, .int d] (VW 1 K k m tn tr) (pI fun r h => r = 0 ∧ h = VW 1 K k m tn tr) := by
  refine AMet.of (by decide +kernel) rfl (fun E ad0 hE => ?_)
  refine A_aload_n hE 1 dX7_speak_0 rfl rfl ?_
  refine A_get hE 4 dX7_speak_1 rfl fkX7_20 rfl rfl ?_
  refine A_if_ne hE 7 14 dX7_speak_4 rfl rfl (fun c4 => ?_) (fun c4 => absurd c4 (by decide))
  refine A_iconst hE 15 dX7_speak_14 rfl (0) rfl ?_
  refine A_iret hE dX7_speak_15 ⟨rfl, rfl⟩
set_option maxRecDepth 100000 in
theorem c_cu_0 (K : Nat) (k m x : Int32) (tn : Nat) (tr : Nat → Int32) (dep : Nat) (hK : K < 7) (htn : tn ≤ 30) (hd : dep + 0 ≤ 10) : AMet yX7_speak cX7_speak 9 (some (.int)) 1 0 0 [.ref 0, .int 0, .int 0, .int x, .int (nI dep)] (VW 0 K k m tn tr) (pI fun r h => r = cuV k 0 x ∧ h = VW 0 K k m (apN (cuT 0) tn) (apF (cuT 0) tn tr)) := by
  refine AMet.of (by decide +kernel) rfl (fun E ad0 hE => ?_)
  refine A_aload_n hE 1 dX7_speak_0 rfl rfl ?_
  refine A_get hE 4 dX7_speak_1 rfl fkX7_20 rfl rfl ?_
  refine A_if_ne hE 7 14 dX7_speak_4 rfl rfl (fun c4 => absurd rfl c4) (fun c4 => ?_)
  refine A_iload hE 9 dX7_speak_7 rfl rfl ?_
  refine A_bipush hE 11 dX7_speak_9 rfl (10) (by decide) ?_
  refine A_icmp_le hE 14 16 dX7_speak_11 rfl rfl (fun c11 => ?_) (fun c11 => absurd (nI_le (b := 10) (show dep ≤ 10 by omega) (by omega)) c11)
  refine A_iload_n hE 17 dX7_speak_16 rfl rfl ?_
  refine A_iload_n hE 18 dX7_speak_17 rfl rfl ?_
  refine A_callSi hE 21 (c_own_0_0) [] dX7_speak_18 rfl mkX7_50 rfl rfl rfl rfl rfl rfl (Nat.le_of_ble_eq_true rfl) (Nat.le_of_ble_eq_true rfl) rfl (fun x18 h18 g18 hp18 hw18 => ?_)
  obtain ⟨rfl, rfl⟩ := hp18
  obtain rfl := Option.some.inj hw18
  refine A_istore hE 23 dX7_speak_21 rfl rfl rfl ?_
  refine A_gsBodies hE 26 dX7_speak_23 rfl flBod ?_
  refine A_iconst hE 27 dX7_speak_26 rfl (4) rfl ?_
  refine A_iload hE 29 dX7_speak_27 rfl rfl ?_
  refine A_imul hE 30 dX7_speak_29 rfl ?_
  refine A_iload_n hE 31 dX7_speak_30 rfl rfl ?_
  refine A_iadd hE 32 dX7_speak_31 rfl ?_
  refine A_tabB hE 33 0 dX7_speak_32 rfl (by decide) (by decide) (10) (by decide) ?_
  refine A_istore hE 35 dX7_speak_33 rfl rfl rfl ?_
  refine A_gsAboveN hE 38 dX7_speak_35 rfl ?_
  refine A_iload hE 40 dX7_speak_38 rfl rfl ?_
  refine A_tabA hE 41 0 dX7_speak_40 rfl (by decide) (by decide) (0) (by decide) ?_
  refine A_istore hE 43 dX7_speak_41 rfl rfl rfl ?_
  refine A_iload hE 45 dX7_speak_43 rfl rfl ?_
  refine A_iconst hE 46 dX7_speak_45 rfl (1) rfl ?_
  refine A_iadd hE 47 dX7_speak_46 rfl ?_
  rw [nI_1]
  refine A_istore hE 49 dX7_speak_47 rfl rfl rfl ?_
  refine A_aload_n hE 50 dX7_speak_49 rfl rfl ?_
  refine A_get hE 53 dX7_speak_50 rfl fkX7_14 rfl rfl ?_
  refine A_iload hE 55 dX7_speak_53 rfl rfl ?_
  refine A_callVv hE 58 (c_X3_add 30 tr tn 10 htn rfl) [1, 2] dX7_speak_55 rfl mkX7_60 rfl rfl rfl rfl rfl rfl rfl (Nat.le_of_ble_eq_true rfl) (Nat.le_of_ble_eq_true rfl) rfl (fun h55 g55 hp55 hw55 => ?_)
  obtain rfl := hp55
  obtain rfl := Option.some.inj hw55
  refine A_h (VW 0 K k m (pN tn) (pF tn tr 10)) rfl ?_
  refine A_iload hE 60 dX7_speak_58 rfl rfl ?_
  refine A_lookup hE 176 dX7_speak_60 (by decide) (off := 116) (by decide) rfl ?_
  refine A_iload_n hE 177 dX7_speak_176 rfl rfl ?_
  refine A_aload_n hE 178 dX7_speak_177 rfl rfl ?_
  refine A_get hE 181 dX7_speak_178 rfl fkX7_28 rfl rfl ?_
  refine A_iadd hE 182 dX7_speak_181 rfl ?_
  refine A_iret hE dX7_speak_182 ⟨rfl, rfl⟩
set_option maxRecDepth 100000 in
theorem c_cu_2 (K : Nat) (k m x : Int32) (tn : Nat) (tr : Nat → Int32) (dep : Nat) (hK : K < 7) (htn : tn ≤ 30) (hd : dep + 0 ≤ 10) : AMet yX7_speak cX7_speak 9 (some (.int)) 1 0 0 [.ref 0, .int 0, .int 2, .int x, .int (nI dep)] (VW 0 K k m tn tr) (pI fun r h => r = cuV k 2 x ∧ h = VW 0 K k m (apN (cuT 2) tn) (apF (cuT 2) tn tr)) := by
  refine AMet.of (by decide +kernel) rfl (fun E ad0 hE => ?_)
  refine A_aload_n hE 1 dX7_speak_0 rfl rfl ?_
  refine A_get hE 4 dX7_speak_1 rfl fkX7_20 rfl rfl ?_
  refine A_if_ne hE 7 14 dX7_speak_4 rfl rfl (fun c4 => absurd rfl c4) (fun c4 => ?_)
  refine A_iload hE 9 dX7_speak_7 rfl rfl ?_
  refine A_bipush hE 11 dX7_speak_9 rfl (10) (by decide) ?_
  refine A_icmp_le hE 14 16 dX7_speak_11 rfl rfl (fun c11 => ?_) (fun c11 => absurd (nI_le (b := 10) (show dep ≤ 10 by omega) (by omega)) c11)
  refine A_iload_n hE 17 dX7_speak_16 rfl rfl ?_
  refine A_iload_n hE 18 dX7_speak_17 rfl rfl ?_
  refine A_callSi hE 21 (c_own_0_2) [] dX7_speak_18 rfl mkX7_50 rfl rfl rfl rfl rfl rfl (Nat.le_of_ble_eq_true rfl) (Nat.le_of_ble_eq_true rfl) rfl (fun x18 h18 g18 hp18 hw18 => ?_)
  obtain ⟨rfl, rfl⟩ := hp18
  obtain rfl := Option.some.inj hw18
  refine A_istore hE 23 dX7_speak_21 rfl rfl rfl ?_
  refine A_gsBodies hE 26 dX7_speak_23 rfl flBod ?_
  refine A_iconst hE 27 dX7_speak_26 rfl (4) rfl ?_
  refine A_iload hE 29 dX7_speak_27 rfl rfl ?_
  refine A_imul hE 30 dX7_speak_29 rfl ?_
  refine A_iload_n hE 31 dX7_speak_30 rfl rfl ?_
  refine A_iadd hE 32 dX7_speak_31 rfl ?_
  refine A_tabB hE 33 0 dX7_speak_32 rfl (by decide) (by decide) (10) (by decide) ?_
  refine A_istore hE 35 dX7_speak_33 rfl rfl rfl ?_
  refine A_gsAboveN hE 38 dX7_speak_35 rfl ?_
  refine A_iload hE 40 dX7_speak_38 rfl rfl ?_
  refine A_tabA hE 41 0 dX7_speak_40 rfl (by decide) (by decide) (0) (by decide) ?_
  refine A_istore hE 43 dX7_speak_41 rfl rfl rfl ?_
  refine A_iload hE 45 dX7_speak_43 rfl rfl ?_
  refine A_iconst hE 46 dX7_speak_45 rfl (1) rfl ?_
  refine A_iadd hE 47 dX7_speak_46 rfl ?_
  rw [nI_1]
  refine A_istore hE 49 dX7_speak_47 rfl rfl rfl ?_
  refine A_aload_n hE 50 dX7_speak_49 rfl rfl ?_
  refine A_get hE 53 dX7_speak_50 rfl fkX7_14 rfl rfl ?_
  refine A_iload hE 55 dX7_speak_53 rfl rfl ?_
  refine A_callVv hE 58 (c_X3_add 30 tr tn 10 htn rfl) [1, 2] dX7_speak_55 rfl mkX7_60 rfl rfl rfl rfl rfl rfl rfl (Nat.le_of_ble_eq_true rfl) (Nat.le_of_ble_eq_true rfl) rfl (fun h55 g55 hp55 hw55 => ?_)
  obtain rfl := hp55
  obtain rfl := Option.some.inj hw55
  refine A_h (VW 0 K k m (pN tn) (pF tn tr 10)) rfl ?_
  refine A_iload hE 60 dX7_speak_58 rfl rfl ?_
  refine A_lookup hE 176 dX7_speak_60 (by decide) (off := 116) (by decide) rfl ?_
  refine A_iload_n hE 177 dX7_speak_176 rfl rfl ?_
  refine A_aload_n hE 178 dX7_speak_177 rfl rfl ?_
  refine A_get hE 181 dX7_speak_178 rfl fkX7_28 rfl rfl ?_
  refine A_iadd hE 182 dX7_speak_181 rfl ?_
  refine A_iret hE dX7_speak_182 ⟨rfl, rfl⟩
set_option maxRecDepth 100000 in
theorem c_cu_3 (K : Nat) (k m x : Int32) (tn : Nat) (tr : Nat → Int32) (dep : Nat) (hK : K < 7) (htn : tn ≤ 30) (hd : dep + 0 ≤ 10) : AMet yX7_speak cX7_speak 9 (some (.int)) 1 0 0 [.ref 0, .int 0, .int 3, .int x, .int (nI dep)] (VW 0 K k m tn tr) (pI fun r h => r = cuV k 3 x ∧ h = VW 0 K k m (apN (cuT 3) tn) (apF (cuT 3) tn tr)) := by
  refine AMet.of (by decide +kernel) rfl (fun E ad0 hE => ?_)
  refine A_aload_n hE 1 dX7_speak_0 rfl rfl ?_
  refine A_get hE 4 dX7_speak_1 rfl fkX7_20 rfl rfl ?_
  refine A_if_ne hE 7 14 dX7_speak_4 rfl rfl (fun c4 => absurd rfl c4) (fun c4 => ?_)
  refine A_iload hE 9 dX7_speak_7 rfl rfl ?_
  refine A_bipush hE 11 dX7_speak_9 rfl (10) (by decide) ?_
  refine A_icmp_le hE 14 16 dX7_speak_11 rfl rfl (fun c11 => ?_) (fun c11 => absurd (nI_le (b := 10) (show dep ≤ 10 by omega) (by omega)) c11)
  refine A_iload_n hE 17 dX7_speak_16 rfl rfl ?_
  refine A_iload_n hE 18 dX7_speak_17 rfl rfl ?_
  refine A_callSi hE 21 (c_own_0_3) [] dX7_speak_18 rfl mkX7_50 rfl rfl rfl rfl rfl rfl (Nat.le_of_ble_eq_true rfl) (Nat.le_of_ble_eq_true rfl) rfl (fun x18 h18 g18 hp18 hw18 => ?_)
  obtain ⟨rfl, rfl⟩ := hp18
  obtain rfl := Option.some.inj hw18
  refine A_istore hE 23 dX7_speak_21 rfl rfl rfl ?_
  refine A_gsBodies hE 26 dX7_speak_23 rfl flBod ?_
  refine A_iconst hE 27 dX7_speak_26 rfl (4) rfl ?_
  refine A_iload hE 29 dX7_speak_27 rfl rfl ?_
  refine A_imul hE 30 dX7_speak_29 rfl ?_
  refine A_iload_n hE 31 dX7_speak_30 rfl rfl ?_
  refine A_iadd hE 32 dX7_speak_31 rfl ?_
  refine A_tabB hE 33 0 dX7_speak_32 rfl (by decide) (by decide) (10) (by decide) ?_
  refine A_istore hE 35 dX7_speak_33 rfl rfl rfl ?_
  refine A_gsAboveN hE 38 dX7_speak_35 rfl ?_
  refine A_iload hE 40 dX7_speak_38 rfl rfl ?_
  refine A_tabA hE 41 0 dX7_speak_40 rfl (by decide) (by decide) (0) (by decide) ?_
  refine A_istore hE 43 dX7_speak_41 rfl rfl rfl ?_
  refine A_iload hE 45 dX7_speak_43 rfl rfl ?_
  refine A_iconst hE 46 dX7_speak_45 rfl (1) rfl ?_
  refine A_iadd hE 47 dX7_speak_46 rfl ?_
  rw [nI_1]
  refine A_istore hE 49 dX7_speak_47 rfl rfl rfl ?_
  refine A_aload_n hE 50 dX7_speak_49 rfl rfl ?_
  refine A_get hE 53 dX7_speak_50 rfl fkX7_14 rfl rfl ?_
  refine A_iload hE 55 dX7_speak_53 rfl rfl ?_
  refine A_callVv hE 58 (c_X3_add 30 tr tn 10 htn rfl) [1, 2] dX7_speak_55 rfl mkX7_60 rfl rfl rfl rfl rfl rfl rfl (Nat.le_of_ble_eq_true rfl) (Nat.le_of_ble_eq_true rfl) rfl (fun h55 g55 hp55 hw55 => ?_)
  obtain rfl := hp55
  obtain rfl := Option.some.inj hw55
  refine A_h (VW 0 K k m (pN tn) (pF tn tr 10)) rfl ?_
  refine A_iload hE 60 dX7_speak_58 rfl rfl ?_
  refine A_lookup hE 176 dX7_speak_60 (by decide) (off := 116) (by decide) rfl ?_
  refine A_iload_n hE 177 dX7_speak_176 rfl rfl ?_
  refine A_aload_n hE 178 dX7_speak_177 rfl rfl ?_
  refine A_get hE 181 dX7_speak_178 rfl fkX7_28 rfl rfl ?_
  refine A_iadd hE 182 dX7_speak_181 rfl ?_
  refine A_iret hE dX7_speak_182 ⟨rfl, rfl⟩
set_option maxRecDepth 100000 in
theorem c_cu_5 (K : Nat) (k m x : Int32) (tn : Nat) (tr : Nat → Int32) (dep : Nat) (hK : K < 7) (htn : tn ≤ 30) (hd : dep + 0 ≤ 10) : AMet yX7_speak cX7_speak 9 (some (.int)) 1 0 0 [.ref 0, .int 0, .int 5, .int x, .int (nI dep)] (VW 0 K k m tn tr) (pI fun r h => r = cuV k 5 x ∧ h = VW 0 K k m (apN (cuT 5) tn) (apF (cuT 5) tn tr)) := by
  refine AMet.of (by decide +kernel) rfl (fun E ad0 hE => ?_)
  refine A_aload_n hE 1 dX7_speak_0 rfl rfl ?_
  refine A_get hE 4 dX7_speak_1 rfl fkX7_20 rfl rfl ?_
  refine A_if_ne hE 7 14 dX7_speak_4 rfl rfl (fun c4 => absurd rfl c4) (fun c4 => ?_)
  refine A_iload hE 9 dX7_speak_7 rfl rfl ?_
  refine A_bipush hE 11 dX7_speak_9 rfl (10) (by decide) ?_
  refine A_icmp_le hE 14 16 dX7_speak_11 rfl rfl (fun c11 => ?_) (fun c11 => absurd (nI_le (b := 10) (show dep ≤ 10 by omega) (by omega)) c11)
  refine A_iload_n hE 17 dX7_speak_16 rfl rfl ?_
  refine A_iload_n hE 18 dX7_speak_17 rfl rfl ?_
  refine A_callSi hE 21 (c_own_0_5) [] dX7_speak_18 rfl mkX7_50 rfl rfl rfl rfl rfl rfl (Nat.le_of_ble_eq_true rfl) (Nat.le_of_ble_eq_true rfl) rfl (fun x18 h18 g18 hp18 hw18 => ?_)
  obtain ⟨rfl, rfl⟩ := hp18
  obtain rfl := Option.some.inj hw18
  refine A_istore hE 23 dX7_speak_21 rfl rfl rfl ?_
  refine A_gsBodies hE 26 dX7_speak_23 rfl flBod ?_
  refine A_iconst hE 27 dX7_speak_26 rfl (4) rfl ?_
  refine A_iload hE 29 dX7_speak_27 rfl rfl ?_
  refine A_imul hE 30 dX7_speak_29 rfl ?_
  refine A_iload_n hE 31 dX7_speak_30 rfl rfl ?_
  refine A_iadd hE 32 dX7_speak_31 rfl ?_
  refine A_tabB hE 33 0 dX7_speak_32 rfl (by decide) (by decide) (10) (by decide) ?_
  refine A_istore hE 35 dX7_speak_33 rfl rfl rfl ?_
  refine A_gsAboveN hE 38 dX7_speak_35 rfl ?_
  refine A_iload hE 40 dX7_speak_38 rfl rfl ?_
  refine A_tabA hE 41 0 dX7_speak_40 rfl (by decide) (by decide) (0) (by decide) ?_
  refine A_istore hE 43 dX7_speak_41 rfl rfl rfl ?_
  refine A_iload hE 45 dX7_speak_43 rfl rfl ?_
  refine A_iconst hE 46 dX7_speak_45 rfl (1) rfl ?_
  refine A_iadd hE 47 dX7_speak_46 rfl ?_
  rw [nI_1]
  refine A_istore hE 49 dX7_speak_47 rfl rfl rfl ?_
  refine A_aload_n hE 50 dX7_speak_49 rfl rfl ?_
  refine A_get hE 53 dX7_speak_50 rfl fkX7_14 rfl rfl ?_
  refine A_iload hE 55 dX7_speak_53 rfl rfl ?_
  refine A_callVv hE 58 (c_X3_add 30 tr tn 10 htn rfl) [1, 2] dX7_speak_55 rfl mkX7_60 rfl rfl rfl rfl rfl rfl rfl (Nat.le_of_ble_eq_true rfl) (Nat.le_of_ble_eq_true rfl) rfl (fun h55 g55 hp55 hw55 => ?_)
  obtain rfl := hp55
  obtain rfl := Option.some.inj hw55
  refine A_h (VW 0 K k m (pN tn) (pF tn tr 10)) rfl ?_
  refine A_iload hE 60 dX7_speak_58 rfl rfl ?_
  refine A_lookup hE 176 dX7_speak_60 (by decide) (off := 116) (by decide) rfl ?_
  refine A_iload_n hE 177 dX7_speak_176 rfl rfl ?_
  refine A_aload_n hE 178 dX7_speak_177 rfl rfl ?_
  refine A_get hE 181 dX7_speak_178 rfl fkX7_28 rfl rfl ?_
  refine A_iadd hE 182 dX7_speak_181 rfl ?_
  refine A_iret hE dX7_speak_182 ⟨rfl, rfl⟩
set_option maxRecDepth 100000 in
theorem c_cu_6 (K : Nat) (k m x : Int32) (tn : Nat) (tr : Nat → Int32) (dep : Nat) (hK : K < 7) (htn : tn ≤ 30) (hd : dep + 0 ≤ 10) : AMet yX7_speak cX7_speak 9 (some (.int)) 1 0 0 [.ref 0, .int 0, .int 6, .int x, .int (nI dep)] (VW 0 K k m tn tr) (pI fun r h => r = cuV k 6 x ∧ h = VW 0 K k m (apN (cuT 6) tn) (apF (cuT 6) tn tr)) := by
  refine AMet.of (by decide +kernel) rfl (fun E ad0 hE => ?_)
  refine A_aload_n hE 1 dX7_speak_0 rfl rfl ?_
  refine A_get hE 4 dX7_speak_1 rfl fkX7_20 rfl rfl ?_
  refine A_if_ne hE 7 14 dX7_speak_4 rfl rfl (fun c4 => absurd rfl c4) (fun c4 => ?_)
  refine A_iload hE 9 dX7_speak_7 rfl rfl ?_
  refine A_bipush hE 11 dX7_speak_9 rfl (10) (by decide) ?_
  refine A_icmp_le hE 14 16 dX7_speak_11 rfl rfl (fun c11 => ?_) (fun c11 => absurd (nI_le (b := 10) (show dep ≤ 10 by omega) (by omega)) c11)
  refine A_iload_n hE 17 dX7_speak_16 rfl rfl ?_
  refine A_iload_n hE 18 dX7_speak_17 rfl rfl ?_
  refine A_callSi hE 21 (c_own_0_6) [] dX7_speak_18 rfl mkX7_50 rfl rfl rfl rfl rfl rfl (Nat.le_of_ble_eq_true rfl) (Nat.le_of_ble_eq_true rfl) rfl (fun x18 h18 g18 hp18 hw18 => ?_)
  obtain ⟨rfl, rfl⟩ := hp18
  obtain rfl := Option.some.inj hw18
  refine A_istore hE 23 dX7_speak_21 rfl rfl rfl ?_
  refine A_gsBodies hE 26 dX7_speak_23 rfl flBod ?_
  refine A_iconst hE 27 dX7_speak_26 rfl (4) rfl ?_
  refine A_iload hE 29 dX7_speak_27 rfl rfl ?_
  refine A_imul hE 30 dX7_speak_29 rfl ?_
  refine A_iload_n hE 31 dX7_speak_30 rfl rfl ?_
  refine A_iadd hE 32 dX7_speak_31 rfl ?_
  refine A_tabB hE 33 24 dX7_speak_32 rfl (by decide) (by decide) (70) (by decide) ?_
  refine A_istore hE 35 dX7_speak_33 rfl rfl rfl ?_
  refine A_gsAboveN hE 38 dX7_speak_35 rfl ?_
  refine A_iload hE 40 dX7_speak_38 rfl rfl ?_
  refine A_tabA hE 41 6 dX7_speak_40 rfl (by decide) (by decide) (0) (by decide) ?_
  refine A_istore hE 43 dX7_speak_41 rfl rfl rfl ?_
  refine A_iload hE 45 dX7_speak_43 rfl rfl ?_
  refine A_iconst hE 46 dX7_speak_45 rfl (1) rfl ?_
  refine A_iadd hE 47 dX7_speak_46 rfl ?_
  rw [nI_1]
  refine A_istore hE 49 dX7_speak_47 rfl rfl rfl ?_
  refine A_aload_n hE 50 dX7_speak_49 rfl rfl ?_
  refine A_get hE 53 dX7_speak_50 rfl fkX7_14 rfl rfl ?_
  refine A_iload hE 55 dX7_speak_53 rfl rfl ?_
  refine A_callVv hE 58 (c_X3_add 30 tr tn 70 htn rfl) [1, 2] dX7_speak_55 rfl mkX7_60 rfl rfl rfl rfl rfl rfl rfl (Nat.le_of_ble_eq_true rfl) (Nat.le_of_ble_eq_true rfl) rfl (fun h55 g55 hp55 hw55 => ?_)
  obtain rfl := hp55
  obtain rfl := Option.some.inj hw55
  refine A_h (VW 0 K k m (pN tn) (pF tn tr 70)) rfl ?_
  refine A_iload hE 60 dX7_speak_58 rfl rfl ?_
  refine A_lookup hE 327 dX7_speak_60 (by decide) (off := 267) (by decide) rfl ?_
  refine A_bipush hE 329 dX7_speak_327 rfl (9) (by decide) ?_
  refine A_iret hE dX7_speak_329 ⟨rfl, rfl⟩
set_option maxRecDepth 100000 in
theorem c_cu_1 (K : Nat) (k m x : Int32) (tn : Nat) (tr : Nat → Int32) (dep : Nat) (hK : K < 7) (htn : tn ≤ 30) (hd : dep + 1 ≤ 10) : AMet yX7_speak cX7_speak 9 (some (.int)) 2 0 0 [.ref 0, .int 0, .int 1, .int x, .int (nI dep)] (VW 0 K k m tn tr) (pI fun r h => r = cuV k 1 x ∧ h = VW 0 K k m (apN (cuT 1) tn) (apF (cuT 1) tn tr)) := by
  refine AMet.of (by decide +kernel) rfl (fun E ad0 hE => ?_)
  refine A_aload_n hE 1 dX7_speak_0 rfl rfl ?_
  refine A_get hE 4 dX7_speak_1 rfl fkX7_20 rfl rfl ?_
  refine A_if_ne hE 7 14 dX7_speak_4 rfl rfl (fun c4 => absurd rfl c4) (fun c4 => ?_)
  refine A_iload hE 9 dX7_speak_7 rfl rfl ?_
  refine A_bipush hE 11 dX7_speak_9 rfl (10) (by decide) ?_
  refine A_icmp_le hE 14 16 dX7_speak_11 rfl rfl (fun c11 => ?_) (fun c11 => absurd (nI_le (b := 10) (show dep ≤ 10 by omega) (by omega)) c11)
  refine A_iload_n hE 17 dX7_speak_16 rfl rfl ?_
  refine A_iload_n hE 18 dX7_speak_17 rfl rfl ?_
  refine A_callSi hE 21 (c_own_0_1) [] dX7_speak_18 rfl mkX7_50 rfl rfl rfl rfl rfl rfl (Nat.le_of_ble_eq_true rfl) (Nat.le_of_ble_eq_true rfl) rfl (fun x18 h18 g18 hp18 hw18 => ?_)
  obtain ⟨rfl, rfl⟩ := hp18
  obtain rfl := Option.some.inj hw18
  refine A_istore hE 23 dX7_speak_21 rfl rfl rfl ?_
  refine A_gsBodies hE 26 dX7_speak_23 rfl flBod ?_
  refine A_iconst hE 27 dX7_speak_26 rfl (4) rfl ?_
  refine A_iload hE 29 dX7_speak_27 rfl rfl ?_
  refine A_imul hE 30 dX7_speak_29 rfl ?_
  refine A_iload_n hE 31 dX7_speak_30 rfl rfl ?_
  refine A_iadd hE 32 dX7_speak_31 rfl ?_
  refine A_tabB hE 33 4 dX7_speak_32 rfl (by decide) (by decide) (20) (by decide) ?_
  refine A_istore hE 35 dX7_speak_33 rfl rfl rfl ?_
  refine A_gsAboveN hE 38 dX7_speak_35 rfl ?_
  refine A_iload hE 40 dX7_speak_38 rfl rfl ?_
  refine A_tabA hE 41 1 dX7_speak_40 rfl (by decide) (by decide) (0) (by decide) ?_
  refine A_istore hE 43 dX7_speak_41 rfl rfl rfl ?_
  refine A_iload hE 45 dX7_speak_43 rfl rfl ?_
  refine A_iconst hE 46 dX7_speak_45 rfl (1) rfl ?_
  refine A_iadd hE 47 dX7_speak_46 rfl ?_
  rw [nI_1]
  refine A_istore hE 49 dX7_speak_47 rfl rfl rfl ?_
  refine A_aload_n hE 50 dX7_speak_49 rfl rfl ?_
  refine A_get hE 53 dX7_speak_50 rfl fkX7_14 rfl rfl ?_
  refine A_iload hE 55 dX7_speak_53 rfl rfl ?_
  refine A_callVv hE 58 (c_X3_add 30 tr tn 20 htn rfl) [1, 2] dX7_speak_55 rfl mkX7_60 rfl rfl rfl rfl rfl rfl rfl (Nat.le_of_ble_eq_true rfl) (Nat.le_of_ble_eq_true rfl) rfl (fun h55 g55 hp55 hw55 => ?_)
  obtain rfl := hp55
  obtain rfl := Option.some.inj hw55
  refine A_h (VW 0 K k m (pN tn) (pF tn tr 20)) rfl ?_
  refine A_iload hE 60 dX7_speak_58 rfl rfl ?_
  refine A_lookup hE 222 dX7_speak_60 (by decide) (off := 162) (by decide) rfl ?_
  refine A_aload_n hE 223 dX7_speak_222 rfl rfl ?_
  refine A_iconst hE 224 dX7_speak_223 rfl (0) rfl ?_
  refine A_iload hE 226 dX7_speak_224 rfl rfl ?_
  refine A_iload_n hE 227 dX7_speak_226 rfl rfl ?_
  refine A_iload hE 229 dX7_speak_227 rfl rfl ?_
  refine A_callVi hE 232 (c_cu_0 K k m x (pN tn) (pF tn tr 20) (dep + 1) hK (pN_le htn) (by omega)) [0, 1, 2] dX7_speak_229 rfl mkX7_46 rfl rfl rfl rfl rfl rfl rfl (Nat.le_of_ble_eq_true rfl) (Nat.le_of_ble_eq_true rfl) rfl (fun x229 h229 g229 hp229 hw229 => ?_)
  obtain ⟨rfl, rfl⟩ := hp229
  obtain rfl := Option.some.inj hw229
  refine A_h (VW 0 K k m (apN (cuT 0) (pN tn)) (apF (cuT 0) (pN tn) (pF tn tr 20))) rfl ?_
  refine A_iconst hE 233 dX7_speak_232 rfl (4) rfl ?_
  refine A_isub hE 234 dX7_speak_233 rfl ?_
  refine A_iret hE dX7_speak_234 ⟨rfl, rfl⟩
set_option maxRecDepth 100000 in
theorem c_cu_4 (K : Nat) (k m x : Int32) (tn : Nat) (tr : Nat → Int32) (dep : Nat) (hK : K < 7) (htn : tn ≤ 30) (hd : dep + 2 ≤ 10) : AMet yX7_speak cX7_speak 9 (some (.int)) 3 0 0 [.ref 0, .int 0, .int 4, .int x, .int (nI dep)] (VW 0 K k m tn tr) (pI fun r h => r = cuV k 4 x ∧ h = VW 0 K k m (apN (cuT 4) tn) (apF (cuT 4) tn tr)) := by
  refine AMet.of (by decide +kernel) rfl (fun E ad0 hE => ?_)
  refine A_aload_n hE 1 dX7_speak_0 rfl rfl ?_
  refine A_get hE 4 dX7_speak_1 rfl fkX7_20 rfl rfl ?_
  refine A_if_ne hE 7 14 dX7_speak_4 rfl rfl (fun c4 => absurd rfl c4) (fun c4 => ?_)
  refine A_iload hE 9 dX7_speak_7 rfl rfl ?_
  refine A_bipush hE 11 dX7_speak_9 rfl (10) (by decide) ?_
  refine A_icmp_le hE 14 16 dX7_speak_11 rfl rfl (fun c11 => ?_) (fun c11 => absurd (nI_le (b := 10) (show dep ≤ 10 by omega) (by omega)) c11)
  refine A_iload_n hE 17 dX7_speak_16 rfl rfl ?_
  refine A_iload_n hE 18 dX7_speak_17 rfl rfl ?_
  refine A_callSi hE 21 (c_own_0_4) [] dX7_speak_18 rfl mkX7_50 rfl rfl rfl rfl rfl rfl (Nat.le_of_ble_eq_true rfl) (Nat.le_of_ble_eq_true rfl) rfl (fun x18 h18 g18 hp18 hw18 => ?_)
  obtain ⟨rfl, rfl⟩ := hp18
  obtain rfl := Option.some.inj hw18
  refine A_istore hE 23 dX7_speak_21 rfl rfl rfl ?_
  refine A_gsBodies hE 26 dX7_speak_23 rfl flBod ?_
  refine A_iconst hE 27 dX7_speak_26 rfl (4) rfl ?_
  refine A_iload hE 29 dX7_speak_27 rfl rfl ?_
  refine A_imul hE 30 dX7_speak_29 rfl ?_
  refine A_iload_n hE 31 dX7_speak_30 rfl rfl ?_
  refine A_iadd hE 32 dX7_speak_31 rfl ?_
  refine A_tabB hE 33 16 dX7_speak_32 rfl (by decide) (by decide) (50) (by decide) ?_
  refine A_istore hE 35 dX7_speak_33 rfl rfl rfl ?_
  refine A_gsAboveN hE 38 dX7_speak_35 rfl ?_
  refine A_iload hE 40 dX7_speak_38 rfl rfl ?_
  refine A_tabA hE 41 4 dX7_speak_40 rfl (by decide) (by decide) (1) (by decide) ?_
  refine A_istore hE 43 dX7_speak_41 rfl rfl rfl ?_
  refine A_iload hE 45 dX7_speak_43 rfl rfl ?_
  refine A_iconst hE 46 dX7_speak_45 rfl (1) rfl ?_
  refine A_iadd hE 47 dX7_speak_46 rfl ?_
  rw [nI_1]
  refine A_istore hE 49 dX7_speak_47 rfl rfl rfl ?_
  refine A_aload_n hE 50 dX7_speak_49 rfl rfl ?_
  refine A_get hE 53 dX7_speak_50 rfl fkX7_14 rfl rfl ?_
  refine A_iload hE 55 dX7_speak_53 rfl rfl ?_
  refine A_callVv hE 58 (c_X3_add 30 tr tn 50 htn rfl) [1, 2] dX7_speak_55 rfl mkX7_60 rfl rfl rfl rfl rfl rfl rfl (Nat.le_of_ble_eq_true rfl) (Nat.le_of_ble_eq_true rfl) rfl (fun h55 g55 hp55 hw55 => ?_)
  obtain rfl := hp55
  obtain rfl := Option.some.inj hw55
  refine A_h (VW 0 K k m (pN tn) (pF tn tr 50)) rfl ?_
  refine A_iload hE 60 dX7_speak_58 rfl rfl ?_
  refine A_lookup hE 285 dX7_speak_60 (by decide) (off := 225) (by decide) rfl ?_
  refine A_aload_n hE 286 dX7_speak_285 rfl rfl ?_
  refine A_iconst hE 287 dX7_speak_286 rfl (0) rfl ?_
  refine A_iload hE 289 dX7_speak_287 rfl rfl ?_
  refine A_iload_n hE 290 dX7_speak_289 rfl rfl ?_
  refine A_iload hE 292 dX7_speak_290 rfl rfl ?_
  refine A_callVi hE 295 (c_cu_1 K k m x (pN tn) (pF tn tr 50) (dep + 1) hK (pN_le htn) (by omega)) [0, 1, 2] dX7_speak_292 rfl mkX7_46 rfl rfl rfl rfl rfl rfl rfl (Nat.le_of_ble_eq_true rfl) (Nat.le_of_ble_eq_true rfl) rfl (fun x292 h292 g292 hp292 hw292 => ?_)
  obtain ⟨rfl, rfl⟩ := hp292
  obtain rfl := Option.some.inj hw292
  refine A_h (VW 0 K k m (apN (cuT 1) (pN tn)) (apF (cuT 1) (pN tn) (pF tn tr 50))) rfl ?_
  refine A_iconst hE 296 dX7_speak_295 rfl (3) rfl ?_
  refine A_imul hE 297 dX7_speak_296 rfl ?_
  refine A_iret hE dX7_speak_297 ⟨rfl, rfl⟩
theorem c_cu (f : Nat) (K : Nat) (k m x : Int32) (tn : Nat) (tr : Nat → Int32) (dep : Nat) (hf : f < 7) (hK : K < 7) (htn : tn ≤ 30) (hd : dep + 2 ≤ 10) : AMet yX7_speak cX7_speak 9 (some .int) 3 0 0 [.ref 0, .int 0, .int (nI f), .int x, .int (nI dep)] (VW 0 K k m tn tr) (pI fun r h => r = cuV k f x ∧ h = VW 0 K k m (apN (cuT f) tn) (apF (cuT f) tn tr)) := by
  match f, hf with
  | 0, _ => exact (c_cu_0 K k m x tn tr dep hK htn (by omega)).mono rfl
  | 1, _ => exact (c_cu_1 K k m x tn tr dep hK htn (by omega)).mono rfl
  | 2, _ => exact (c_cu_2 K k m x tn tr dep hK htn (by omega)).mono rfl
  | 3, _ => exact (c_cu_3 K k m x tn tr dep hK htn (by omega)).mono rfl
  | 4, _ => exact (c_cu_4 K k m x tn tr dep hK htn (by omega)).mono rfl
  | 5, _ => exact (c_cu_5 K k m x tn tr dep hK htn (by omega)).mono rfl
  | 6, _ => exact (c_cu_6 K k m x tn tr dep hK htn (by omega)).mono rfl
set_option maxRecDepth 100000 in
theorem c_sa_0 (K : Nat) (k m x : Int32) (tn : Nat) (tr : Nat → Int32) (dep : Nat) (hK : K < 7) (htn : tn ≤ 30) (hd : dep + 3 ≤ 10) : AMet yX7_speak cX7_speak 9 (some (.int)) 4 0 0 [.ref 0, .int 1, .int 0, .int x, .int (nI dep)] (VW 0 K k m tn tr) (pI fun r h => r = saV k m K 0 x ∧ h = VW 0 K k m (apN (saT K 0) tn) (apF (saT K 0) tn tr)) := by
  refine AMet.of (by decide +kernel) rfl (fun E ad0 hE => ?_)
  refine A_aload_n hE 1 dX7_speak_0 rfl rfl ?_
  refine A_get hE 4 dX7_speak_1 rfl fkX7_20 rfl rfl ?_
  refine A_if_ne hE 7 14 dX7_speak_4 rfl rfl (fun c4 => absurd rfl c4) (fun c4 => ?_)
  refine A_iload hE 9 dX7_speak_7 rfl rfl ?_
  refine A_bipush hE 11 dX7_speak_9 rfl (10) (by decide) ?_
  refine A_icmp_le hE 14 16 dX7_speak_11 rfl rfl (fun c11 => ?_) (fun c11 => absurd (nI_le (b := 10) (show dep ≤ 10 by omega) (by omega)) c11)
  refine A_iload_n hE 17 dX7_speak_16 rfl rfl ?_
  refine A_iload_n hE 18 dX7_speak_17 rfl rfl ?_
  refine A_callSi hE 21 (c_own_1_0) [] dX7_speak_18 rfl mkX7_50 rfl rfl rfl rfl rfl rfl (Nat.le_of_ble_eq_true rfl) (Nat.le_of_ble_eq_true rfl) rfl (fun x18 h18 g18 hp18 hw18 => ?_)
  obtain ⟨rfl, rfl⟩ := hp18
  obtain rfl := Option.some.inj hw18
  refine A_istore hE 23 dX7_speak_21 rfl rfl rfl ?_
  refine A_gsBodies hE 26 dX7_speak_23 rfl flBod ?_
  refine A_iconst hE 27 dX7_speak_26 rfl (4) rfl ?_
  refine A_iload hE 29 dX7_speak_27 rfl rfl ?_
  refine A_imul hE 30 dX7_speak_29 rfl ?_
  refine A_iload_n hE 31 dX7_speak_30 rfl rfl ?_
  refine A_iadd hE 32 dX7_speak_31 rfl ?_
  refine A_tabB hE 33 1 dX7_speak_32 rfl (by decide) (by decide) (11) (by decide) ?_
  refine A_istore hE 35 dX7_speak_33 rfl rfl rfl ?_
  refine A_gsAboveN hE 38 dX7_speak_35 rfl ?_
  refine A_iload hE 40 dX7_speak_38 rfl rfl ?_
  refine A_tabA hE 41 0 dX7_speak_40 rfl (by decide) (by decide) (0) (by decide) ?_
  refine A_istore hE 43 dX7_speak_41 rfl rfl rfl ?_
  refine A_iload hE 45 dX7_speak_43 rfl rfl ?_
  refine A_iconst hE 46 dX7_speak_45 rfl (1) rfl ?_
  refine A_iadd hE 47 dX7_speak_46 rfl ?_
  rw [nI_1]
  refine A_istore hE 49 dX7_speak_47 rfl rfl rfl ?_
  refine A_aload_n hE 50 dX7_speak_49 rfl rfl ?_
  refine A_get hE 53 dX7_speak_50 rfl fkX7_14 rfl rfl ?_
  refine A_iload hE 55 dX7_speak_53 rfl rfl ?_
  refine A_callVv hE 58 (c_X3_add 30 tr tn 11 htn rfl) [1, 2] dX7_speak_55 rfl mkX7_60 rfl rfl rfl rfl rfl rfl rfl (Nat.le_of_ble_eq_true rfl) (Nat.le_of_ble_eq_true rfl) rfl (fun h55 g55 hp55 hw55 => ?_)
  obtain rfl := hp55
  obtain rfl := Option.some.inj hw55
  refine A_h (VW 0 K k m (pN tn) (pF tn tr 11)) rfl ?_
  refine A_iload hE 60 dX7_speak_58 rfl rfl ?_
  refine A_lookup hE 183 dX7_speak_60 (by decide) (off := 123) (by decide) rfl ?_
  refine A_aload_n hE 184 dX7_speak_183 rfl rfl ?_
  refine A_iconst hE 185 dX7_speak_184 rfl (0) rfl ?_
  refine A_aload_n hE 186 dX7_speak_185 rfl rfl ?_
  refine A_get hE 189 dX7_speak_186 rfl fkX7_24 rfl rfl ?_
  refine A_iload_n hE 190 dX7_speak_189 rfl rfl ?_
  refine A_iload hE 192 dX7_speak_190 rfl rfl ?_
  refine A_callVi hE 195 (c_cu K K k m x (pN tn) (pF tn tr 11) (dep + 1) hK hK (pN_le htn) (by omega)) [0, 1, 2] dX7_speak_192 rfl mkX7_46 rfl rfl rfl rfl rfl rfl rfl (Nat.le_of_ble_eq_true rfl) (Nat.le_of_ble_eq_true rfl) rfl (fun x192 h192 g192 hp192 hw192 => ?_)
  obtain ⟨rfl, rfl⟩ := hp192
  obtain rfl := Option.some.inj hw192
  refine A_h (VW 0 K k m (apN (cuT K) (pN tn)) (apF (cuT K) (pN tn) (pF tn tr 11))) rfl ?_
  refine A_iconst hE 196 dX7_speak_195 rfl (2) rfl ?_
  refine A_imul hE 197 dX7_speak_196 rfl ?_
  refine A_iret hE dX7_speak_197 ⟨rfl, rfl⟩
set_option maxRecDepth 100000 in
theorem c_sa_1 (K : Nat) (k m x : Int32) (tn : Nat) (tr : Nat → Int32) (dep : Nat) (hK : K < 7) (htn : tn ≤ 30) (hd : dep + 3 ≤ 10) : AMet yX7_speak cX7_speak 9 (some (.int)) 4 0 0 [.ref 0, .int 1, .int 1, .int x, .int (nI dep)] (VW 0 K k m tn tr) (pI fun r h => r = saV k m K 1 x ∧ h = VW 0 K k m (apN (saT K 1) tn) (apF (saT K 1) tn tr)) := by
  refine AMet.of (by decide +kernel) rfl (fun E ad0 hE => ?_)
  refine A_aload_n hE 1 dX7_speak_0 rfl rfl ?_
  refine A_get hE 4 dX7_speak_1 rfl fkX7_20 rfl rfl ?_
  refine A_if_ne hE 7 14 dX7_speak_4 rfl rfl (fun c4 => absurd rfl c4) (fun c4 => ?_)
  refine A_iload hE 9 dX7_speak_7 rfl rfl ?_
  refine A_bipush hE 11 dX7_speak_9 rfl (10) (by decide) ?_
  refine A_icmp_le hE 14 16 dX7_speak_11 rfl rfl (fun c11 => ?_) (fun c11 => absurd (nI_le (b := 10) (show dep ≤ 10 by omega) (by omega)) c11)
  refine A_iload_n hE 17 dX7_speak_16 rfl rfl ?_
  refine A_iload_n hE 18 dX7_speak_17 rfl rfl ?_
  refine A_callSi hE 21 (c_own_1_1) [] dX7_speak_18 rfl mkX7_50 rfl rfl rfl rfl rfl rfl (Nat.le_of_ble_eq_true rfl) (Nat.le_of_ble_eq_true rfl) rfl (fun x18 h18 g18 hp18 hw18 => ?_)
  obtain ⟨rfl, rfl⟩ := hp18
  obtain rfl := Option.some.inj hw18
  refine A_istore hE 23 dX7_speak_21 rfl rfl rfl ?_
  refine A_gsBodies hE 26 dX7_speak_23 rfl flBod ?_
  refine A_iconst hE 27 dX7_speak_26 rfl (4) rfl ?_
  refine A_iload hE 29 dX7_speak_27 rfl rfl ?_
  refine A_imul hE 30 dX7_speak_29 rfl ?_
  refine A_iload_n hE 31 dX7_speak_30 rfl rfl ?_
  refine A_iadd hE 32 dX7_speak_31 rfl ?_
  refine A_tabB hE 33 1 dX7_speak_32 rfl (by decide) (by decide) (11) (by decide) ?_
  refine A_istore hE 35 dX7_speak_33 rfl rfl rfl ?_
  refine A_gsAboveN hE 38 dX7_speak_35 rfl ?_
  refine A_iload hE 40 dX7_speak_38 rfl rfl ?_
  refine A_tabA hE 41 0 dX7_speak_40 rfl (by decide) (by decide) (0) (by decide) ?_
  refine A_istore hE 43 dX7_speak_41 rfl rfl rfl ?_
  refine A_iload hE 45 dX7_speak_43 rfl rfl ?_
  refine A_iconst hE 46 dX7_speak_45 rfl (1) rfl ?_
  refine A_iadd hE 47 dX7_speak_46 rfl ?_
  rw [nI_1]
  refine A_istore hE 49 dX7_speak_47 rfl rfl rfl ?_
  refine A_aload_n hE 50 dX7_speak_49 rfl rfl ?_
  refine A_get hE 53 dX7_speak_50 rfl fkX7_14 rfl rfl ?_
  refine A_iload hE 55 dX7_speak_53 rfl rfl ?_
  refine A_callVv hE 58 (c_X3_add 30 tr tn 11 htn rfl) [1, 2] dX7_speak_55 rfl mkX7_60 rfl rfl rfl rfl rfl rfl rfl (Nat.le_of_ble_eq_true rfl) (Nat.le_of_ble_eq_true rfl) rfl (fun h55 g55 hp55 hw55 => ?_)
  obtain rfl := hp55
  obtain rfl := Option.some.inj hw55
  refine A_h (VW 0 K k m (pN tn) (pF tn tr 11)) rfl ?_
  refine A_iload hE 60 dX7_speak_58 rfl rfl ?_
  refine A_lookup hE 183 dX7_speak_60 (by decide) (off := 123) (by decide) rfl ?_
  refine A_aload_n hE 184 dX7_speak_183 rfl rfl ?_
  refine A_iconst hE 185 dX7_speak_184 rfl (0) rfl ?_
  refine A_aload_n hE 186 dX7_speak_185 rfl rfl ?_
  refine A_get hE 189 dX7_speak_186 rfl fkX7_24 rfl rfl ?_
  refine A_iload_n hE 190 dX7_speak_189 rfl rfl ?_
  refine A_iload hE 192 dX7_speak_190 rfl rfl ?_
  refine A_callVi hE 195 (c_cu K K k m x (pN tn) (pF tn tr 11) (dep + 1) hK hK (pN_le htn) (by omega)) [0, 1, 2] dX7_speak_192 rfl mkX7_46 rfl rfl rfl rfl rfl rfl rfl (Nat.le_of_ble_eq_true rfl) (Nat.le_of_ble_eq_true rfl) rfl (fun x192 h192 g192 hp192 hw192 => ?_)
  obtain ⟨rfl, rfl⟩ := hp192
  obtain rfl := Option.some.inj hw192
  refine A_h (VW 0 K k m (apN (cuT K) (pN tn)) (apF (cuT K) (pN tn) (pF tn tr 11))) rfl ?_
  refine A_iconst hE 196 dX7_speak_195 rfl (2) rfl ?_
  refine A_imul hE 197 dX7_speak_196 rfl ?_
  refine A_iret hE dX7_speak_197 ⟨rfl, rfl⟩
set_option maxRecDepth 100000 in
theorem c_sa_3 (K : Nat) (k m x : Int32) (tn : Nat) (tr : Nat → Int32) (dep : Nat) (hK : K < 7) (htn : tn ≤ 30) (hd : dep + 3 ≤ 10) : AMet yX7_speak cX7_speak 9 (some (.int)) 4 0 0 [.ref 0, .int 1, .int 3, .int x, .int (nI dep)] (VW 0 K k m tn tr) (pI fun r h => r = saV k m K 3 x ∧ h = VW 0 K k m (apN (saT K 3) tn) (apF (saT K 3) tn tr)) := by
  refine AMet.of (by decide +kernel) rfl (fun E ad0 hE => ?_)
  refine A_aload_n hE 1 dX7_speak_0 rfl rfl ?_
  refine A_get hE 4 dX7_speak_1 rfl fkX7_20 rfl rfl ?_
  refine A_if_ne hE 7 14 dX7_speak_4 rfl rfl (fun c4 => absurd rfl c4) (fun c4 => ?_)
  refine A_iload hE 9 dX7_speak_7 rfl rfl ?_
  refine A_bipush hE 11 dX7_speak_9 rfl (10) (by decide) ?_
  refine A_icmp_le hE 14 16 dX7_speak_11 rfl rfl (fun c11 => ?_) (fun c11 => absurd (nI_le (b := 10) (show dep ≤ 10 by omega) (by omega)) c11)
  refine A_iload_n hE 17 dX7_speak_16 rfl rfl ?_
  refine A_iload_n hE 18 dX7_speak_17 rfl rfl ?_
  refine A_callSi hE 21 (c_own_1_3) [] dX7_speak_18 rfl mkX7_50 rfl rfl rfl rfl rfl rfl (Nat.le_of_ble_eq_true rfl) (Nat.le_of_ble_eq_true rfl) rfl (fun x18 h18 g18 hp18 hw18 => ?_)
  obtain ⟨rfl, rfl⟩ := hp18
  obtain rfl := Option.some.inj hw18
  refine A_istore hE 23 dX7_speak_21 rfl rfl rfl ?_
  refine A_gsBodies hE 26 dX7_speak_23 rfl flBod ?_
  refine A_iconst hE 27 dX7_speak_26 rfl (4) rfl ?_
  refine A_iload hE 29 dX7_speak_27 rfl rfl ?_
  refine A_imul hE 30 dX7_speak_29 rfl ?_
  refine A_iload_n hE 31 dX7_speak_30 rfl rfl ?_
  refine A_iadd hE 32 dX7_speak_31 rfl ?_
  refine A_tabB hE 33 1 dX7_speak_32 rfl (by decide) (by decide) (11) (by decide) ?_
  refine A_istore hE 35 dX7_speak_33 rfl rfl rfl ?_
  refine A_gsAboveN hE 38 dX7_speak_35 rfl ?_
  refine A_iload hE 40 dX7_speak_38 rfl rfl ?_
  refine A_tabA hE 41 0 dX7_speak_40 rfl (by decide) (by decide) (0) (by decide) ?_
  refine A_istore hE 43 dX7_speak_41 rfl rfl rfl ?_
  refine A_iload hE 45 dX7_speak_43 rfl rfl ?_
  refine A_iconst hE 46 dX7_speak_45 rfl (1) rfl ?_
  refine A_iadd hE 47 dX7_speak_46 rfl ?_
  rw [nI_1]
  refine A_istore hE 49 dX7_speak_47 rfl rfl rfl ?_
  refine A_aload_n hE 50 dX7_speak_49 rfl rfl ?_
  refine A_get hE 53 dX7_speak_50 rfl fkX7_14 rfl rfl ?_
  refine A_iload hE 55 dX7_speak_53 rfl rfl ?_
  refine A_callVv hE 58 (c_X3_add 30 tr tn 11 htn rfl) [1, 2] dX7_speak_55 rfl mkX7_60 rfl rfl rfl rfl rfl rfl rfl (Nat.le_of_ble_eq_true rfl) (Nat.le_of_ble_eq_true rfl) rfl (fun h55 g55 hp55 hw55 => ?_)
  obtain rfl := hp55
  obtain rfl := Option.some.inj hw55
  refine A_h (VW 0 K k m (pN tn) (pF tn tr 11)) rfl ?_
  refine A_iload hE 60 dX7_speak_58 rfl rfl ?_
  refine A_lookup hE 183 dX7_speak_60 (by decide) (off := 123) (by decide) rfl ?_
  refine A_aload_n hE 184 dX7_speak_183 rfl rfl ?_
  refine A_iconst hE 185 dX7_speak_184 rfl (0) rfl ?_
  refine A_aload_n hE 186 dX7_speak_185 rfl rfl ?_
  refine A_get hE 189 dX7_speak_186 rfl fkX7_24 rfl rfl ?_
  refine A_iload_n hE 190 dX7_speak_189 rfl rfl ?_
  refine A_iload hE 192 dX7_speak_190 rfl rfl ?_
  refine A_callVi hE 195 (c_cu K K k m x (pN tn) (pF tn tr 11) (dep + 1) hK hK (pN_le htn) (by omega)) [0, 1, 2] dX7_speak_192 rfl mkX7_46 rfl rfl rfl rfl rfl rfl rfl (Nat.le_of_ble_eq_true rfl) (Nat.le_of_ble_eq_true rfl) rfl (fun x192 h192 g192 hp192 hw192 => ?_)
  obtain ⟨rfl, rfl⟩ := hp192
  obtain rfl := Option.some.inj hw192
  refine A_h (VW 0 K k m (apN (cuT K) (pN tn)) (apF (cuT K) (pN tn) (pF tn tr 11))) rfl ?_
  refine A_iconst hE 196 dX7_speak_195 rfl (2) rfl ?_
  refine A_imul hE 197 dX7_speak_196 rfl ?_
  refine A_iret hE dX7_speak_197 ⟨rfl, rfl⟩
set_option maxRecDepth 100000 in
theorem c_sa_4 (K : Nat) (k m x : Int32) (tn : Nat) (tr : Nat → Int32) (dep : Nat) (hK : K < 7) (htn : tn ≤ 30) (hd : dep + 3 ≤ 10) : AMet yX7_speak cX7_speak 9 (some (.int)) 4 0 0 [.ref 0, .int 1, .int 4, .int x, .int (nI dep)] (VW 0 K k m tn tr) (pI fun r h => r = saV k m K 4 x ∧ h = VW 0 K k m (apN (saT K 4) tn) (apF (saT K 4) tn tr)) := by
  refine AMet.of (by decide +kernel) rfl (fun E ad0 hE => ?_)
  refine A_aload_n hE 1 dX7_speak_0 rfl rfl ?_
  refine A_get hE 4 dX7_speak_1 rfl fkX7_20 rfl rfl ?_
  refine A_if_ne hE 7 14 dX7_speak_4 rfl rfl (fun c4 => absurd rfl c4) (fun c4 => ?_)
  refine A_iload hE 9 dX7_speak_7 rfl rfl ?_
  refine A_bipush hE 11 dX7_speak_9 rfl (10) (by decide) ?_
  refine A_icmp_le hE 14 16 dX7_speak_11 rfl rfl (fun c11 => ?_) (fun c11 => absurd (nI_le (b := 10) (show dep ≤ 10 by omega) (by omega)) c11)
  refine A_iload_n hE 17 dX7_speak_16 rfl rfl ?_
  refine A_iload_n hE 18 dX7_speak_17 rfl rfl ?_
  refine A_callSi hE 21 (c_own_1_4) [] dX7_speak_18 rfl mkX7_50 rfl rfl rfl rfl rfl rfl (Nat.le_of_ble_eq_true rfl) (Nat.le_of_ble_eq_true rfl) rfl (fun x18 h18 g18 hp18 hw18 => ?_)
  obtain ⟨rfl, rfl⟩ := hp18
  obtain rfl := Option.some.inj hw18
  refine A_istore hE 23 dX7_speak_21 rfl rfl rfl ?_
  refine A_gsBodies hE 26 dX7_speak_23 rfl flBod ?_
  refine A_iconst hE 27 dX7_speak_26 rfl (4) rfl ?_
  refine A_iload hE 29 dX7_speak_27 rfl rfl ?_
  refine A_imul hE 30 dX7_speak_29 rfl ?_
  refine A_iload_n hE 31 dX7_speak_30 rfl rfl ?_
  refine A_iadd hE 32 dX7_speak_31 rfl ?_
  refine A_tabB hE 33 1 dX7_speak_32 rfl (by decide) (by decide) (11) (by decide) ?_
  refine A_istore hE 35 dX7_speak_33 rfl rfl rfl ?_
  refine A_gsAboveN hE 38 dX7_speak_35 rfl ?_
  refine A_iload hE 40 dX7_speak_38 rfl rfl ?_
  refine A_tabA hE 41 0 dX7_speak_40 rfl (by decide) (by decide) (0) (by decide) ?_
  refine A_istore hE 43 dX7_speak_41 rfl rfl rfl ?_
  refine A_iload hE 45 dX7_speak_43 rfl rfl ?_
  refine A_iconst hE 46 dX7_speak_45 rfl (1) rfl ?_
  refine A_iadd hE 47 dX7_speak_46 rfl ?_
  rw [nI_1]
  refine A_istore hE 49 dX7_speak_47 rfl rfl rfl ?_
  refine A_aload_n hE 50 dX7_speak_49 rfl rfl ?_
  refine A_get hE 53 dX7_speak_50 rfl fkX7_14 rfl rfl ?_
  refine A_iload hE 55 dX7_speak_53 rfl rfl ?_
  refine A_callVv hE 58 (c_X3_add 30 tr tn 11 htn rfl) [1, 2] dX7_speak_55 rfl mkX7_60 rfl rfl rfl rfl rfl rfl rfl (Nat.le_of_ble_eq_true rfl) (Nat.le_of_ble_eq_true rfl) rfl (fun h55 g55 hp55 hw55 => ?_)
  obtain rfl := hp55
  obtain rfl := Option.some.inj hw55
  refine A_h (VW 0 K k m (pN tn) (pF tn tr 11)) rfl ?_
  refine A_iload hE 60 dX7_speak_58 rfl rfl ?_
  refine A_lookup hE 183 dX7_speak_60 (by decide) (off := 123) (by decide) rfl ?_
  refine A_aload_n hE 184 dX7_speak_183 rfl rfl ?_
  refine A_iconst hE 185 dX7_speak_184 rfl (0) rfl ?_
  refine A_aload_n hE 186 dX7_speak_185 rfl rfl ?_
  refine A_get hE 189 dX7_speak_186 rfl fkX7_24 rfl rfl ?_
  refine A_iload_n hE 190 dX7_speak_189 rfl rfl ?_
  refine A_iload hE 192 dX7_speak_190 rfl rfl ?_
  refine A_callVi hE 195 (c_cu K K k m x (pN tn) (pF tn tr 11) (dep + 1) hK hK (pN_le htn) (by omega)) [0, 1, 2] dX7_speak_192 rfl mkX7_46 rfl rfl rfl rfl rfl rfl rfl (Nat.le_of_ble_eq_true rfl) (Nat.le_of_ble_eq_true rfl) rfl (fun x192 h192 g192 hp192 hw192 => ?_)
  obtain ⟨rfl, rfl⟩ := hp192
  obtain rfl := Option.some.inj hw192
  refine A_h (VW 0 K k m (apN (cuT K) (pN tn)) (apF (cuT K) (pN tn) (pF tn tr 11))) rfl ?_
  refine A_iconst hE 196 dX7_speak_195 rfl (2) rfl ?_
  refine A_imul hE 197 dX7_speak_196 rfl ?_
  refine A_iret hE dX7_speak_197 ⟨rfl, rfl⟩
set_option maxRecDepth 100000 in
theorem c_sa_2 (K : Nat) (k m x : Int32) (tn : Nat) (tr : Nat → Int32) (dep : Nat) (hK : K < 7) (htn : tn ≤ 30) (hd : dep + 4 ≤ 10) : AMet yX7_speak cX7_speak 9 (some (.int)) 5 0 0 [.ref 0, .int 1, .int 2, .int x, .int (nI dep)] (VW 0 K k m tn tr) (pI fun r h => r = saV k m K 2 x ∧ h = VW 0 K k m (apN (saT K 2) tn) (apF (saT K 2) tn tr)) := by
  refine AMet.of (by decide +kernel) rfl (fun E ad0 hE => ?_)
  refine A_aload_n hE 1 dX7_speak_0 rfl rfl ?_
  refine A_get hE 4 dX7_speak_1 rfl fkX7_20 rfl rfl ?_
  refine A_if_ne hE 7 14 dX7_speak_4 rfl rfl (fun c4 => absurd rfl c4) (fun c4 => ?_)
  refine A_iload hE 9 dX7_speak_7 rfl rfl ?_
  refine A_bipush hE 11 dX7_speak_9 rfl (10) (by decide) ?_
  refine A_icmp_le hE 14 16 dX7_speak_11 rfl rfl (fun c11 => ?_) (fun c11 => absurd (nI_le (b := 10) (show dep ≤ 10 by omega) (by omega)) c11)
  refine A_iload_n hE 17 dX7_speak_16 rfl rfl ?_
  refine A_iload_n hE 18 dX7_speak_17 rfl rfl ?_
  refine A_callSi hE 21 (c_own_1_2) [] dX7_speak_18 rfl mkX7_50 rfl rfl rfl rfl rfl rfl (Nat.le_of_ble_eq_true rfl) (Nat.le_of_ble_eq_true rfl) rfl (fun x18 h18 g18 hp18 hw18 => ?_)
  obtain ⟨rfl, rfl⟩ := hp18
  obtain rfl := Option.some.inj hw18
  refine A_istore hE 23 dX7_speak_21 rfl rfl rfl ?_
  refine A_gsBodies hE 26 dX7_speak_23 rfl flBod ?_
  refine A_iconst hE 27 dX7_speak_26 rfl (4) rfl ?_
  refine A_iload hE 29 dX7_speak_27 rfl rfl ?_
  refine A_imul hE 30 dX7_speak_29 rfl ?_
  refine A_iload_n hE 31 dX7_speak_30 rfl rfl ?_
  refine A_iadd hE 32 dX7_speak_31 rfl ?_
  refine A_tabB hE 33 9 dX7_speak_32 rfl (by decide) (by decide) (30) (by decide) ?_
  refine A_istore hE 35 dX7_speak_33 rfl rfl rfl ?_
  refine A_gsAboveN hE 38 dX7_speak_35 rfl ?_
  refine A_iload hE 40 dX7_speak_38 rfl rfl ?_
  refine A_tabA hE 41 2 dX7_speak_40 rfl (by decide) (by decide) (0) (by decide) ?_
  refine A_istore hE 43 dX7_speak_41 rfl rfl rfl ?_
  refine A_iload hE 45 dX7_speak_43 rfl rfl ?_
  refine A_iconst hE 46 dX7_speak_45 rfl (1) rfl ?_
  refine A_iadd hE 47 dX7_speak_46 rfl ?_
  rw [nI_1]
  refine A_istore hE 49 dX7_speak_47 rfl rfl rfl ?_
  refine A_aload_n hE 50 dX7_speak_49 rfl rfl ?_
  refine A_get hE 53 dX7_speak_50 rfl fkX7_14 rfl rfl ?_
  refine A_iload hE 55 dX7_speak_53 rfl rfl ?_
  refine A_callVv hE 58 (c_X3_add 30 tr tn 30 htn rfl) [1, 2] dX7_speak_55 rfl mkX7_60 rfl rfl rfl rfl rfl rfl rfl (Nat.le_of_ble_eq_true rfl) (Nat.le_of_ble_eq_true rfl) rfl (fun h55 g55 hp55 hw55 => ?_)
  obtain rfl := hp55
  obtain rfl := Option.some.inj hw55
  refine A_h (VW 0 K k m (pN tn) (pF tn tr 30)) rfl ?_
  refine A_iload hE 60 dX7_speak_58 rfl rfl ?_
  refine A_lookup hE 259 dX7_speak_60 (by decide) (off := 199) (by decide) rfl ?_
  refine A_iconst hE 260 dX7_speak_259 rfl (0) rfl ?_
  refine A_aload_n hE 261 dX7_speak_260 rfl rfl ?_
  refine A_iconst hE 262 dX7_speak_261 rfl (1) rfl ?_
  refine A_iload hE 264 dX7_speak_262 rfl rfl ?_
  refine A_iload_n hE 265 dX7_speak_264 rfl rfl ?_
  refine A_iload hE 267 dX7_speak_265 rfl rfl ?_
  refine A_callVi hE 270 (c_sa_0 K k m x (pN tn) (pF tn tr 30) (dep + 1) hK (pN_le htn) (by omega)) [0, 1, 2] dX7_speak_267 rfl mkX7_46 rfl rfl rfl rfl rfl rfl rfl (Nat.le_of_ble_eq_true rfl) (Nat.le_of_ble_eq_true rfl) rfl (fun x267 h267 g267 hp267 hw267 => ?_)
  obtain ⟨rfl, rfl⟩ := hp267
  obtain rfl := Option.some.inj hw267
  refine A_h (VW 0 K k m (apN (saT K 0) (pN tn)) (apF (saT K 0) (pN tn) (pF tn tr 30))) rfl ?_
  refine A_isub hE 271 dX7_speak_270 rfl ?_
  refine A_iret hE dX7_speak_271 ⟨rfl, rfl⟩
set_option maxRecDepth 100000 in
theorem c_sa_5 (K : Nat) (k m x : Int32) (tn : Nat) (tr : Nat → Int32) (dep : Nat) (hK : K < 7) (htn : tn ≤ 30) (hd : dep + 5 ≤ 10) : AMet yX7_speak cX7_speak 9 (some (.int)) 6 0 0 [.ref 0, .int 1, .int 5, .int x, .int (nI dep)] (VW 0 K k m tn tr) (pI fun r h => r = saV k m K 5 x ∧ h = VW 0 K k m (apN (saT K 5) tn) (apF (saT K 5) tn tr)) := by
  refine AMet.of (by decide +kernel) rfl (fun E ad0 hE => ?_)
  refine A_aload_n hE 1 dX7_speak_0 rfl rfl ?_
  refine A_get hE 4 dX7_speak_1 rfl fkX7_20 rfl rfl ?_
  refine A_if_ne hE 7 14 dX7_speak_4 rfl rfl (fun c4 => absurd rfl c4) (fun c4 => ?_)
  refine A_iload hE 9 dX7_speak_7 rfl rfl ?_
  refine A_bipush hE 11 dX7_speak_9 rfl (10) (by decide) ?_
  refine A_icmp_le hE 14 16 dX7_speak_11 rfl rfl (fun c11 => ?_) (fun c11 => absurd (nI_le (b := 10) (show dep ≤ 10 by omega) (by omega)) c11)
  refine A_iload_n hE 17 dX7_speak_16 rfl rfl ?_
  refine A_iload_n hE 18 dX7_speak_17 rfl rfl ?_
  refine A_callSi hE 21 (c_own_1_5) [] dX7_speak_18 rfl mkX7_50 rfl rfl rfl rfl rfl rfl (Nat.le_of_ble_eq_true rfl) (Nat.le_of_ble_eq_true rfl) rfl (fun x18 h18 g18 hp18 hw18 => ?_)
  obtain ⟨rfl, rfl⟩ := hp18
  obtain rfl := Option.some.inj hw18
  refine A_istore hE 23 dX7_speak_21 rfl rfl rfl ?_
  refine A_gsBodies hE 26 dX7_speak_23 rfl flBod ?_
  refine A_iconst hE 27 dX7_speak_26 rfl (4) rfl ?_
  refine A_iload hE 29 dX7_speak_27 rfl rfl ?_
  refine A_imul hE 30 dX7_speak_29 rfl ?_
  refine A_iload_n hE 31 dX7_speak_30 rfl rfl ?_
  refine A_iadd hE 32 dX7_speak_31 rfl ?_
  refine A_tabB hE 33 21 dX7_speak_32 rfl (by decide) (by decide) (60) (by decide) ?_
  refine A_istore hE 35 dX7_speak_33 rfl rfl rfl ?_
  refine A_gsAboveN hE 38 dX7_speak_35 rfl ?_
  refine A_iload hE 40 dX7_speak_38 rfl rfl ?_
  refine A_tabA hE 41 5 dX7_speak_40 rfl (by decide) (by decide) (2) (by decide) ?_
  refine A_istore hE 43 dX7_speak_41 rfl rfl rfl ?_
  refine A_iload hE 45 dX7_speak_43 rfl rfl ?_
  refine A_iconst hE 46 dX7_speak_45 rfl (1) rfl ?_
  refine A_iadd hE 47 dX7_speak_46 rfl ?_
  rw [nI_1]
  refine A_istore hE 49 dX7_speak_47 rfl rfl rfl ?_
  refine A_aload_n hE 50 dX7_speak_49 rfl rfl ?_
  refine A_get hE 53 dX7_speak_50 rfl fkX7_14 rfl rfl ?_
  refine A_iload hE 55 dX7_speak_53 rfl rfl ?_
  refine A_callVv hE 58 (c_X3_add 30 tr tn 60 htn rfl) [1, 2] dX7_speak_55 rfl mkX7_60 rfl rfl rfl rfl rfl rfl rfl (Nat.le_of_ble_eq_true rfl) (Nat.le_of_ble_eq_true rfl) rfl (fun h55 g55 hp55 hw55 => ?_)
  obtain rfl := hp55
  obtain rfl := Option.some.inj hw55
  refine A_h (VW 0 K k m (pN tn) (pF tn tr 60)) rfl ?_
  refine A_iload hE 60 dX7_speak_58 rfl rfl ?_
  refine A_lookup hE 314 dX7_speak_60 (by decide) (off := 254) (by decide) rfl ?_
  refine A_aload_n hE 315 dX7_speak_314 rfl rfl ?_
  refine A_iconst hE 316 dX7_speak_315 rfl (1) rfl ?_
  refine A_iload hE 318 dX7_speak_316 rfl rfl ?_
  refine A_iload_n hE 319 dX7_speak_318 rfl rfl ?_
  refine A_iconst hE 320 dX7_speak_319 rfl (1) rfl ?_
  refine A_iadd hE 321 dX7_speak_320 rfl ?_
  refine A_iload hE 323 dX7_speak_321 rfl rfl ?_
  refine A_callVi hE 326 (c_sa_2 K k m (x + 1) (pN tn) (pF tn tr 60) (dep + 1) hK (pN_le htn) (by omega)) [0, 1, 2] dX7_speak_323 rfl mkX7_46 rfl rfl rfl rfl rfl rfl rfl (Nat.le_of_ble_eq_true rfl) (Nat.le_of_ble_eq_true rfl) rfl (fun x323 h323 g323 hp323 hw323 => ?_)
  obtain ⟨rfl, rfl⟩ := hp323
  obtain rfl := Option.some.inj hw323
  refine A_h (VW 0 K k m (apN (saT K 2) (pN tn)) (apF (saT K 2) (pN tn) (pF tn tr 60))) rfl ?_
  refine A_iret hE dX7_speak_326 ⟨rfl, rfl⟩
set_option maxRecDepth 100000 in
theorem c_sa_6 (K : Nat) (k m x : Int32) (tn : Nat) (tr : Nat → Int32) (dep : Nat) (hK : K < 7) (htn : tn ≤ 30) (hd : dep + 4 ≤ 10) : AMet yX7_speak cX7_speak 9 (some (.int)) 5 0 0 [.ref 0, .int 1, .int 6, .int x, .int (nI dep)] (VW 0 K k m tn tr) (pI fun r h => r = saV k m K 6 x ∧ h = VW 0 K k m (apN (saT K 6) tn) (apF (saT K 6) tn tr)) := by
  refine AMet.of (by decide +kernel) rfl (fun E ad0 hE => ?_)
  refine A_aload_n hE 1 dX7_speak_0 rfl rfl ?_
  refine A_get hE 4 dX7_speak_1 rfl fkX7_20 rfl rfl ?_
  refine A_if_ne hE 7 14 dX7_speak_4 rfl rfl (fun c4 => absurd rfl c4) (fun c4 => ?_)
  refine A_iload hE 9 dX7_speak_7 rfl rfl ?_
  refine A_bipush hE 11 dX7_speak_9 rfl (10) (by decide) ?_
  refine A_icmp_le hE 14 16 dX7_speak_11 rfl rfl (fun c11 => ?_) (fun c11 => absurd (nI_le (b := 10) (show dep ≤ 10 by omega) (by omega)) c11)
  refine A_iload_n hE 17 dX7_speak_16 rfl rfl ?_
  refine A_iload_n hE 18 dX7_speak_17 rfl rfl ?_
  refine A_callSi hE 21 (c_own_1_6) [] dX7_speak_18 rfl mkX7_50 rfl rfl rfl rfl rfl rfl (Nat.le_of_ble_eq_true rfl) (Nat.le_of_ble_eq_true rfl) rfl (fun x18 h18 g18 hp18 hw18 => ?_)
  obtain ⟨rfl, rfl⟩ := hp18
  obtain rfl := Option.some.inj hw18
  refine A_istore hE 23 dX7_speak_21 rfl rfl rfl ?_
  refine A_gsBodies hE 26 dX7_speak_23 rfl flBod ?_
  refine A_iconst hE 27 dX7_speak_26 rfl (4) rfl ?_
  refine A_iload hE 29 dX7_speak_27 rfl rfl ?_
  refine A_imul hE 30 dX7_speak_29 rfl ?_
  refine A_iload_n hE 31 dX7_speak_30 rfl rfl ?_
  refine A_iadd hE 32 dX7_speak_31 rfl ?_
  refine A_tabB hE 33 25 dX7_speak_32 rfl (by decide) (by decide) (71) (by decide) ?_
  refine A_istore hE 35 dX7_speak_33 rfl rfl rfl ?_
  refine A_gsAboveN hE 38 dX7_speak_35 rfl ?_
  refine A_iload hE 40 dX7_speak_38 rfl rfl ?_
  refine A_tabA hE 41 6 dX7_speak_40 rfl (by decide) (by decide) (0) (by decide) ?_
  refine A_istore hE 43 dX7_speak_41 rfl rfl rfl ?_
  refine A_iload hE 45 dX7_speak_43 rfl rfl ?_
  refine A_iconst hE 46 dX7_speak_45 rfl (1) rfl ?_
  refine A_iadd hE 47 dX7_speak_46 rfl ?_
  rw [nI_1]
  refine A_istore hE 49 dX7_speak_47 rfl rfl rfl ?_
  refine A_aload_n hE 50 dX7_speak_49 rfl rfl ?_
  refine A_get hE 53 dX7_speak_50 rfl fkX7_14 rfl rfl ?_
  refine A_iload hE 55 dX7_speak_53 rfl rfl ?_
  refine A_callVv hE 58 (c_X3_add 30 tr tn 71 htn rfl) [1, 2] dX7_speak_55 rfl mkX7_60 rfl rfl rfl rfl rfl rfl rfl (Nat.le_of_ble_eq_true rfl) (Nat.le_of_ble_eq_true rfl) rfl (fun h55 g55 hp55 hw55 => ?_)
  obtain rfl := hp55
  obtain rfl := Option.some.inj hw55
  refine A_h (VW 0 K k m (pN tn) (pF tn tr 71)) rfl ?_
  refine A_iload hE 60 dX7_speak_58 rfl rfl ?_
  refine A_lookup hE 330 dX7_speak_60 (by decide) (off := 270) (by decide) rfl ?_
  refine A_aload_n hE 331 dX7_speak_330 rfl rfl ?_
  refine A_iconst hE 332 dX7_speak_331 rfl (1) rfl ?_
  refine A_iload hE 334 dX7_speak_332 rfl rfl ?_
  refine A_iload_n hE 335 dX7_speak_334 rfl rfl ?_
  refine A_iload hE 337 dX7_speak_335 rfl rfl ?_
  refine A_callVi hE 340 (c_sa_0 K k m x (pN tn) (pF tn tr 71) (dep + 1) hK (pN_le htn) (by omega)) [0, 1, 2] dX7_speak_337 rfl mkX7_46 rfl rfl rfl rfl rfl rfl rfl (Nat.le_of_ble_eq_true rfl) (Nat.le_of_ble_eq_true rfl) rfl (fun x337 h337 g337 hp337 hw337 => ?_)
  obtain ⟨rfl, rfl⟩ := hp337
  obtain rfl := Option.some.inj hw337
  refine A_h (VW 0 K k m (apN (saT K 0) (pN tn)) (apF (saT K 0) (pN tn) (pF tn tr 71))) rfl ?_
  refine A_aload_n hE 341 dX7_speak_340 rfl rfl ?_
  refine A_get hE 344 dX7_speak_341 rfl fkX7_31 rfl rfl ?_
  refine A_iadd hE 345 dX7_speak_344 rfl ?_
  refine A_iret hE dX7_speak_345 ⟨rfl, rfl⟩
theorem c_sa (f : Nat) (K : Nat) (k m x : Int32) (tn : Nat) (tr : Nat → Int32) (dep : Nat) (hf : f < 7) (hK : K < 7) (htn : tn ≤ 30) (hd : dep + 5 ≤ 10) : AMet yX7_speak cX7_speak 9 (some .int) 6 0 0 [.ref 0, .int 1, .int (nI f), .int x, .int (nI dep)] (VW 0 K k m tn tr) (pI fun r h => r = saV k m K f x ∧ h = VW 0 K k m (apN (saT K f) tn) (apF (saT K f) tn tr)) := by
  match f, hf with
  | 0, _ => exact (c_sa_0 K k m x tn tr dep hK htn (by omega)).mono rfl
  | 1, _ => exact (c_sa_1 K k m x tn tr dep hK htn (by omega)).mono rfl
  | 2, _ => exact (c_sa_2 K k m x tn tr dep hK htn (by omega)).mono rfl
  | 3, _ => exact (c_sa_3 K k m x tn tr dep hK htn (by omega)).mono rfl
  | 4, _ => exact (c_sa_4 K k m x tn tr dep hK htn (by omega)).mono rfl
  | 5, _ => exact (c_sa_5 K k m x tn tr dep hK htn (by omega)).mono rfl
  | 6, _ => exact (c_sa_6 K k m x tn tr dep hK htn (by omega)).mono rfl
set_option maxRecDepth 100000 in
theorem c_st_0 (K : Nat) (k m x : Int32) (tn : Nat) (tr : Nat → Int32) (dep : Nat) (hK : K < 7) (htn : tn ≤ 30) (hd : dep + 6 ≤ 10) : AMet yX7_speak cX7_speak 9 (some (.int)) 7 0 0 [.ref 0, .int 2, .int 0, .int x, .int (nI dep)] (VW 0 K k m tn tr) (pI fun r h => r = stV k m K 0 x ∧ h = VW 0 K k m (apN (stT K 0) tn) (apF (stT K 0) tn tr)) := by
  refine AMet.of (by decide +kernel) rfl (fun E ad0 hE => ?_)
  refine A_aload_n hE 1 dX7_speak_0 rfl rfl ?_
  refine A_get hE 4 dX7_speak_1 rfl fkX7_20 rfl rfl ?_
  refine A_if_ne hE 7 14 dX7_speak_4 rfl rfl (fun c4 => absurd rfl c4) (fun c4 => ?_)
  refine A_iload hE 9 dX7_speak_7 rfl rfl ?_
  refine A_bipush hE 11 dX7_speak_9 rfl (10) (by decide) ?_
  refine A_icmp_le hE 14 16 dX7_speak_11 rfl rfl (fun c11 => ?_) (fun c11 => absurd (nI_le (b := 10) (show dep ≤ 10 by omega) (by omega)) c11)
  refine A_iload_n hE 17 dX7_speak_16 rfl rfl ?_
  refine A_iload_n hE 18 dX7_speak_17 rfl rfl ?_
  refine A_callSi hE 21 (c_own_2_0) [] dX7_speak_18 rfl mkX7_50 rfl rfl rfl rfl rfl rfl (Nat.le_of_ble_eq_true rfl) (Nat.le_of_ble_eq_true rfl) rfl (fun x18 h18 g18 hp18 hw18 => ?_)
  obtain ⟨rfl, rfl⟩ := hp18
  obtain rfl := Option.some.inj hw18
  refine A_istore hE 23 dX7_speak_21 rfl rfl rfl ?_
  refine A_gsBodies hE 26 dX7_speak_23 rfl flBod ?_
  refine A_iconst hE 27 dX7_speak_26 rfl (4) rfl ?_
  refine A_iload hE 29 dX7_speak_27 rfl rfl ?_
  refine A_imul hE 30 dX7_speak_29 rfl ?_
  refine A_iload_n hE 31 dX7_speak_30 rfl rfl ?_
  refine A_iadd hE 32 dX7_speak_31 rfl ?_
  refine A_tabB hE 33 2 dX7_speak_32 rfl (by decide) (by decide) (12) (by decide) ?_
  refine A_istore hE 35 dX7_speak_33 rfl rfl rfl ?_
  refine A_gsAboveN hE 38 dX7_speak_35 rfl ?_
  refine A_iload hE 40 dX7_speak_38 rfl rfl ?_
  refine A_tabA hE 41 0 dX7_speak_40 rfl (by decide) (by decide) (0) (by decide) ?_
  refine A_istore hE 43 dX7_speak_41 rfl rfl rfl ?_
  refine A_iload hE 45 dX7_speak_43 rfl rfl ?_
  refine A_iconst hE 46 dX7_speak_45 rfl (1) rfl ?_
  refine A_iadd hE 47 dX7_speak_46 rfl ?_
  rw [nI_1]
  refine A_istore hE 49 dX7_speak_47 rfl rfl rfl ?_
  refine A_aload_n hE 50 dX7_speak_49 rfl rfl ?_
  refine A_get hE 53 dX7_speak_50 rfl fkX7_14 rfl rfl ?_
  refine A_iload hE 55 dX7_speak_53 rfl rfl ?_
  refine A_callVv hE 58 (c_X3_add 30 tr tn 12 htn rfl) [1, 2] dX7_speak_55 rfl mkX7_60 rfl rfl rfl rfl rfl rfl rfl (Nat.le_of_ble_eq_true rfl) (Nat.le_of_ble_eq_true rfl) rfl (fun h55 g55 hp55 hw55 => ?_)
  obtain rfl := hp55
  obtain rfl := Option.some.inj hw55
  refine A_h (VW 0 K k m (pN tn) (pF tn tr 12)) rfl ?_
  refine A_iload hE 60 dX7_speak_58 rfl rfl ?_
  refine A_lookup hE 198 dX7_speak_60 (by decide) (off := 138) (by decide) rfl ?_
  refine A_aload_n hE 199 dX7_speak_198 rfl rfl ?_
  refine A_iconst hE 200 dX7_speak_199 rfl (1) rfl ?_
  refine A_aload_n hE 201 dX7_speak_200 rfl rfl ?_
  refine A_get hE 204 dX7_speak_201 rfl fkX7_24 rfl rfl ?_
  refine A_iload_n hE 205 dX7_speak_204 rfl rfl ?_
  refine A_iload hE 207 dX7_speak_205 rfl rfl ?_
  refine A_callVi hE 210 (c_sa K K k m x (pN tn) (pF tn tr 12) (dep + 1) hK hK (pN_le htn) (by omega)) [0, 1, 2] dX7_speak_207 rfl mkX7_46 rfl rfl rfl rfl rfl rfl rfl (Nat.le_of_ble_eq_true rfl) (Nat.le_of_ble_eq_true rfl) rfl (fun x207 h207 g207 hp207 hw207 => ?_)
  obtain ⟨rfl, rfl⟩ := hp207
  obtain rfl := Option.some.inj hw207
  refine A_h (VW 0 K k m (apN (saT K K) (pN tn)) (apF (saT K K) (pN tn) (pF tn tr 12))) rfl ?_
  refine A_aload_n hE 211 dX7_speak_210 rfl rfl ?_
  refine A_get hE 214 dX7_speak_211 rfl fkX7_31 rfl rfl ?_
  refine A_isub hE 215 dX7_speak_214 rfl ?_
  refine A_iret hE dX7_speak_215 ⟨rfl, rfl⟩
set_option maxRecDepth 100000 in
theorem c_st_1 (K : Nat) (k m x : Int32) (tn : Nat) (tr : Nat → Int32) (dep : Nat) (hK : K < 7) (htn : tn ≤ 30) (hd : dep + 6 ≤ 10) : AMet yX7_speak cX7_speak 9 (some (.int)) 7 0 0 [.ref 0, .int 2, .int 1, .int x, .int (nI dep)] (VW 0 K k m tn tr) (pI fun r h => r = stV k m K 1 x ∧ h = VW 0 K k m (apN (stT K 1) tn) (apF (stT K 1) tn tr)) := by
  refine AMet.of (by decide +kernel) rfl (fun E ad0 hE => ?_)
  refine A_aload_n hE 1 dX7_speak_0 rfl rfl ?_
  refine A_get hE 4 dX7_speak_1 rfl fkX7_20 rfl rfl ?_
  refine A_if_ne hE 7 14 dX7_speak_4 rfl rfl (fun c4 => absurd rfl c4) (fun c4 => ?_)
  refine A_iload hE 9 dX7_speak_7 rfl rfl ?_
  refine A_bipush hE 11 dX7_speak_9 rfl (10) (by decide) ?_
  refine A_icmp_le hE 14 16 dX7_speak_11 rfl rfl (fun c11 => ?_) (fun c11 => absurd (nI_le (b := 10) (show dep ≤ 10 by omega) (by omega)) c11)
  refine A_iload_n hE 17 dX7_speak_16 rfl rfl ?_
  refine A_iload_n hE 18 dX7_speak_17 rfl rfl ?_
  refine A_callSi hE 21 (c_own_2_1) [] dX7_speak_18 rfl mkX7_50 rfl rfl rfl rfl rfl rfl (Nat.le_of_ble_eq_true rfl) (Nat.le_of_ble_eq_true rfl) rfl (fun x18 h18 g18 hp18 hw18 => ?_)
  obtain ⟨rfl, rfl⟩ := hp18
  obtain rfl := Option.some.inj hw18
  refine A_istore hE 23 dX7_speak_21 rfl rfl rfl ?_
  refine A_gsBodies hE 26 dX7_speak_23 rfl flBod ?_
  refine A_iconst hE 27 dX7_speak_26 rfl (4) rfl ?_
  refine A_iload hE 29 dX7_speak_27 rfl rfl ?_
  refine A_imul hE 30 dX7_speak_29 rfl ?_
  refine A_iload_n hE 31 dX7_speak_30 rfl rfl ?_
  refine A_iadd hE 32 dX7_speak_31 rfl ?_
  refine A_tabB hE 33 2 dX7_speak_32 rfl (by decide) (by decide) (12) (by decide) ?_
  refine A_istore hE 35 dX7_speak_33 rfl rfl rfl ?_
  refine A_gsAboveN hE 38 dX7_speak_35 rfl ?_
  refine A_iload hE 40 dX7_speak_38 rfl rfl ?_
  refine A_tabA hE 41 0 dX7_speak_40 rfl (by decide) (by decide) (0) (by decide) ?_
  refine A_istore hE 43 dX7_speak_41 rfl rfl rfl ?_
  refine A_iload hE 45 dX7_speak_43 rfl rfl ?_
  refine A_iconst hE 46 dX7_speak_45 rfl (1) rfl ?_
  refine A_iadd hE 47 dX7_speak_46 rfl ?_
  rw [nI_1]
  refine A_istore hE 49 dX7_speak_47 rfl rfl rfl ?_
  refine A_aload_n hE 50 dX7_speak_49 rfl rfl ?_
  refine A_get hE 53 dX7_speak_50 rfl fkX7_14 rfl rfl ?_
  refine A_iload hE 55 dX7_speak_53 rfl rfl ?_
  refine A_callVv hE 58 (c_X3_add 30 tr tn 12 htn rfl) [1, 2] dX7_speak_55 rfl mkX7_60 rfl rfl rfl rfl rfl rfl rfl (Nat.le_of_ble_eq_true rfl) (Nat.le_of_ble_eq_true rfl) rfl (fun h55 g55 hp55 hw55 => ?_)
  obtain rfl := hp55
  obtain rfl := Option.some.inj hw55
  refine A_h (VW 0 K k m (pN tn) (pF tn tr 12)) rfl ?_
  refine A_iload hE 60 dX7_speak_58 rfl rfl ?_
  refine A_lookup hE 198 dX7_speak_60 (by decide) (off := 138) (by decide) rfl ?_
  refine A_aload_n hE 199 dX7_speak_198 rfl rfl ?_
  refine A_iconst hE 200 dX7_speak_199 rfl (1) rfl ?_
  refine A_aload_n hE 201 dX7_speak_200 rfl rfl ?_
  refine A_get hE 204 dX7_speak_201 rfl fkX7_24 rfl rfl ?_
  refine A_iload_n hE 205 dX7_speak_204 rfl rfl ?_
  refine A_iload hE 207 dX7_speak_205 rfl rfl ?_
  refine A_callVi hE 210 (c_sa K K k m x (pN tn) (pF tn tr 12) (dep + 1) hK hK (pN_le htn) (by omega)) [0, 1, 2] dX7_speak_207 rfl mkX7_46 rfl rfl rfl rfl rfl rfl rfl (Nat.le_of_ble_eq_true rfl) (Nat.le_of_ble_eq_true rfl) rfl (fun x207 h207 g207 hp207 hw207 => ?_)
  obtain ⟨rfl, rfl⟩ := hp207
  obtain rfl := Option.some.inj hw207
  refine A_h (VW 0 K k m (apN (saT K K) (pN tn)) (apF (saT K K) (pN tn) (pF tn tr 12))) rfl ?_
  refine A_aload_n hE 211 dX7_speak_210 rfl rfl ?_
  refine A_get hE 214 dX7_speak_211 rfl fkX7_31 rfl rfl ?_
  refine A_isub hE 215 dX7_speak_214 rfl ?_
  refine A_iret hE dX7_speak_215 ⟨rfl, rfl⟩
set_option maxRecDepth 100000 in
theorem c_st_2 (K : Nat) (k m x : Int32) (tn : Nat) (tr : Nat → Int32) (dep : Nat) (hK : K < 7) (htn : tn ≤ 30) (hd : dep + 6 ≤ 10) : AMet yX7_speak cX7_speak 9 (some (.int)) 7 0 0 [.ref 0, .int 2, .int 2, .int x, .int (nI dep)] (VW 0 K k m tn tr) (pI fun r h => r = stV k m K 2 x ∧ h = VW 0 K k m (apN (stT K 2) tn) (apF (stT K 2) tn tr)) := by
  refine AMet.of (by decide +kernel) rfl (fun E ad0 hE => ?_)
  refine A_aload_n hE 1 dX7_speak_0 rfl rfl ?_
  refine A_get hE 4 dX7_speak_1 rfl fkX7_20 rfl rfl ?_
  refine A_if_ne hE 7 14 dX7_speak_4 rfl rfl (fun c4 => absurd rfl c4) (fun c4 => ?_)
  refine A_iload hE 9 dX7_speak_7 rfl rfl ?_
  refine A_bipush hE 11 dX7_speak_9 rfl (10) (by decide) ?_
  refine A_icmp_le hE 14 16 dX7_speak_11 rfl rfl (fun c11 => ?_) (fun c11 => absurd (nI_le (b := 10) (show dep ≤ 10 by omega) (by omega)) c11)
  refine A_iload_n hE 17 dX7_speak_16 rfl rfl ?_
  refine A_iload_n hE 18 dX7_speak_17 rfl rfl ?_
  refine A_callSi hE 21 (c_own_2_2) [] dX7_speak_18 rfl mkX7_50 rfl rfl rfl rfl rfl rfl (Nat.le_of_ble_eq_true rfl) (Nat.le_of_ble_eq_true rfl) rfl (fun x18 h18 g18 hp18 hw18 => ?_)
  obtain ⟨rfl, rfl⟩ := hp18
  obtain rfl := Option.some.inj hw18
  refine A_istore hE 23 dX7_speak_21 rfl rfl rfl ?_
  refine A_gsBodies hE 26 dX7_speak_23 rfl flBod ?_
  refine A_iconst hE 27 dX7_speak_26 rfl (4) rfl ?_
  refine A_iload hE 29 dX7_speak_27 rfl rfl ?_
  refine A_imul hE 30 dX7_speak_29 rfl ?_
  refine A_iload_n hE 31 dX7_speak_30 rfl rfl ?_
  refine A_iadd hE 32 dX7_speak_31 rfl ?_
  refine A_tabB hE 33 2 dX7_speak_32 rfl (by decide) (by decide) (12) (by decide) ?_
  refine A_istore hE 35 dX7_speak_33 rfl rfl rfl ?_
  refine A_gsAboveN hE 38 dX7_speak_35 rfl ?_
  refine A_iload hE 40 dX7_speak_38 rfl rfl ?_
  refine A_tabA hE 41 0 dX7_speak_40 rfl (by decide) (by decide) (0) (by decide) ?_
  refine A_istore hE 43 dX7_speak_41 rfl rfl rfl ?_
  refine A_iload hE 45 dX7_speak_43 rfl rfl ?_
  refine A_iconst hE 46 dX7_speak_45 rfl (1) rfl ?_
  refine A_iadd hE 47 dX7_speak_46 rfl ?_
  rw [nI_1]
  refine A_istore hE 49 dX7_speak_47 rfl rfl rfl ?_
  refine A_aload_n hE 50 dX7_speak_49 rfl rfl ?_
  refine A_get hE 53 dX7_speak_50 rfl fkX7_14 rfl rfl ?_
  refine A_iload hE 55 dX7_speak_53 rfl rfl ?_
  refine A_callVv hE 58 (c_X3_add 30 tr tn 12 htn rfl) [1, 2] dX7_speak_55 rfl mkX7_60 rfl rfl rfl rfl rfl rfl rfl (Nat.le_of_ble_eq_true rfl) (Nat.le_of_ble_eq_true rfl) rfl (fun h55 g55 hp55 hw55 => ?_)
  obtain rfl := hp55
  obtain rfl := Option.some.inj hw55
  refine A_h (VW 0 K k m (pN tn) (pF tn tr 12)) rfl ?_
  refine A_iload hE 60 dX7_speak_58 rfl rfl ?_
  refine A_lookup hE 198 dX7_speak_60 (by decide) (off := 138) (by decide) rfl ?_
  refine A_aload_n hE 199 dX7_speak_198 rfl rfl ?_
  refine A_iconst hE 200 dX7_speak_199 rfl (1) rfl ?_
  refine A_aload_n hE 201 dX7_speak_200 rfl rfl ?_
  refine A_get hE 204 dX7_speak_201 rfl fkX7_24 rfl rfl ?_
  refine A_iload_n hE 205 dX7_speak_204 rfl rfl ?_
  refine A_iload hE 207 dX7_speak_205 rfl rfl ?_
  refine A_callVi hE 210 (c_sa K K k m x (pN tn) (pF tn tr 12) (dep + 1) hK hK (pN_le htn) (by omega)) [0, 1, 2] dX7_speak_207 rfl mkX7_46 rfl rfl rfl rfl rfl rfl rfl (Nat.le_of_ble_eq_true rfl) (Nat.le_of_ble_eq_true rfl) rfl (fun x207 h207 g207 hp207 hw207 => ?_)
  obtain ⟨rfl, rfl⟩ := hp207
  obtain rfl := Option.some.inj hw207
  refine A_h (VW 0 K k m (apN (saT K K) (pN tn)) (apF (saT K K) (pN tn) (pF tn tr 12))) rfl ?_
  refine A_aload_n hE 211 dX7_speak_210 rfl rfl ?_
  refine A_get hE 214 dX7_speak_211 rfl fkX7_31 rfl rfl ?_
  refine A_isub hE 215 dX7_speak_214 rfl ?_
  refine A_iret hE dX7_speak_215 ⟨rfl, rfl⟩
set_option maxRecDepth 100000 in
theorem c_st_5 (K : Nat) (k m x : Int32) (tn : Nat) (tr : Nat → Int32) (dep : Nat) (hK : K < 7) (htn : tn ≤ 30) (hd : dep + 6 ≤ 10) : AMet yX7_speak cX7_speak 9 (some (.int)) 7 0 0 [.ref 0, .int 2, .int 5, .int x, .int (nI dep)] (VW 0 K k m tn tr) (pI fun r h => r = stV k m K 5 x ∧ h = VW 0 K k m (apN (stT K 5) tn) (apF (stT K 5) tn tr)) := by
  refine AMet.of (by decide +kernel) rfl (fun E ad0 hE => ?_)
  refine A_aload_n hE 1 dX7_speak_0 rfl rfl ?_
  refine A_get hE 4 dX7_speak_1 rfl fkX7_20 rfl rfl ?_
  refine A_if_ne hE 7 14 dX7_speak_4 rfl rfl (fun c4 => absurd rfl c4) (fun c4 => ?_)
  refine A_iload hE 9 dX7_speak_7 rfl rfl ?_
  refine A_bipush hE 11 dX7_speak_9 rfl (10) (by decide) ?_
  refine A_icmp_le hE 14 16 dX7_speak_11 rfl rfl (fun c11 => ?_) (fun c11 => absurd (nI_le (b := 10) (show dep ≤ 10 by omega) (by omega)) c11)
  refine A_iload_n hE 17 dX7_speak_16 rfl rfl ?_
  refine A_iload_n hE 18 dX7_speak_17 rfl rfl ?_
  refine A_callSi hE 21 (c_own_2_5) [] dX7_speak_18 rfl mkX7_50 rfl rfl rfl rfl rfl rfl (Nat.le_of_ble_eq_true rfl) (Nat.le_of_ble_eq_true rfl) rfl (fun x18 h18 g18 hp18 hw18 => ?_)
  obtain ⟨rfl, rfl⟩ := hp18
  obtain rfl := Option.some.inj hw18
  refine A_istore hE 23 dX7_speak_21 rfl rfl rfl ?_
  refine A_gsBodies hE 26 dX7_speak_23 rfl flBod ?_
  refine A_iconst hE 27 dX7_speak_26 rfl (4) rfl ?_
  refine A_iload hE 29 dX7_speak_27 rfl rfl ?_
  refine A_imul hE 30 dX7_speak_29 rfl ?_
  refine A_iload_n hE 31 dX7_speak_30 rfl rfl ?_
  refine A_iadd hE 32 dX7_speak_31 rfl ?_
  refine A_tabB hE 33 2 dX7_speak_32 rfl (by decide) (by decide) (12) (by decide) ?_
  refine A_istore hE 35 dX7_speak_33 rfl rfl rfl ?_
  refine A_gsAboveN hE 38 dX7_speak_35 rfl ?_
  refine A_iload hE 40 dX7_speak_38 rfl rfl ?_
  refine A_tabA hE 41 0 dX7_speak_40 rfl (by decide) (by decide) (0) (by decide) ?_
  refine A_istore hE 43 dX7_speak_41 rfl rfl rfl ?_
  refine A_iload hE 45 dX7_speak_43 rfl rfl ?_
  refine A_iconst hE 46 dX7_speak_45 rfl (1) rfl ?_
  refine A_iadd hE 47 dX7_speak_46 rfl ?_
  rw [nI_1]
  refine A_istore hE 49 dX7_speak_47 rfl rfl rfl ?_
  refine A_aload_n hE 50 dX7_speak_49 rfl rfl ?_
  refine A_get hE 53 dX7_speak_50 rfl fkX7_14 rfl rfl ?_
  refine A_iload hE 55 dX7_speak_53 rfl rfl ?_
  refine A_callVv hE 58 (c_X3_add 30 tr tn 12 htn rfl) [1, 2] dX7_speak_55 rfl mkX7_60 rfl rfl rfl rfl rfl rfl rfl (Nat.le_of_ble_eq_true rfl) (Nat.le_of_ble_eq_true rfl) rfl (fun h55 g55 hp55 hw55 => ?_)
  obtain rfl := hp55
  obtain rfl := Option.some.inj hw55
  refine A_h (VW 0 K k m (pN tn) (pF tn tr 12)) rfl ?_
  refine A_iload hE 60 dX7_speak_58 rfl rfl ?_
  refine A_lookup hE 198 dX7_speak_60 (by decide) (off := 138) (by decide) rfl ?_
  refine A_aload_n hE 199 dX7_speak_198 rfl rfl ?_
  refine A_iconst hE 200 dX7_speak_199 rfl (1) rfl ?_
  refine A_aload_n hE 201 dX7_speak_200 rfl rfl ?_
  refine A_get hE 204 dX7_speak_201 rfl fkX7_24 rfl rfl ?_
  refine A_iload_n hE 205 dX7_speak_204 rfl rfl ?_
  refine A_iload hE 207 dX7_speak_205 rfl rfl ?_
  refine A_callVi hE 210 (c_sa K K k m x (pN tn) (pF tn tr 12) (dep + 1) hK hK (pN_le htn) (by omega)) [0, 1, 2] dX7_speak_207 rfl mkX7_46 rfl rfl rfl rfl rfl rfl rfl (Nat.le_of_ble_eq_true rfl) (Nat.le_of_ble_eq_true rfl) rfl (fun x207 h207 g207 hp207 hw207 => ?_)
  obtain ⟨rfl, rfl⟩ := hp207
  obtain rfl := Option.some.inj hw207
  refine A_h (VW 0 K k m (apN (saT K K) (pN tn)) (apF (saT K K) (pN tn) (pF tn tr 12))) rfl ?_
  refine A_aload_n hE 211 dX7_speak_210 rfl rfl ?_
  refine A_get hE 214 dX7_speak_211 rfl fkX7_31 rfl rfl ?_
  refine A_isub hE 215 dX7_speak_214 rfl ?_
  refine A_iret hE dX7_speak_215 ⟨rfl, rfl⟩
set_option maxRecDepth 100000 in
theorem c_st_6 (K : Nat) (k m x : Int32) (tn : Nat) (tr : Nat → Int32) (dep : Nat) (hK : K < 7) (htn : tn ≤ 30) (hd : dep + 6 ≤ 10) : AMet yX7_speak cX7_speak 9 (some (.int)) 7 0 0 [.ref 0, .int 2, .int 6, .int x, .int (nI dep)] (VW 0 K k m tn tr) (pI fun r h => r = stV k m K 6 x ∧ h = VW 0 K k m (apN (stT K 6) tn) (apF (stT K 6) tn tr)) := by
  refine AMet.of (by decide +kernel) rfl (fun E ad0 hE => ?_)
  refine A_aload_n hE 1 dX7_speak_0 rfl rfl ?_
  refine A_get hE 4 dX7_speak_1 rfl fkX7_20 rfl rfl ?_
  refine A_if_ne hE 7 14 dX7_speak_4 rfl rfl (fun c4 => absurd rfl c4) (fun c4 => ?_)
  refine A_iload hE 9 dX7_speak_7 rfl rfl ?_
  refine A_bipush hE 11 dX7_speak_9 rfl (10) (by decide) ?_
  refine A_icmp_le hE 14 16 dX7_speak_11 rfl rfl (fun c11 => ?_) (fun c11 => absurd (nI_le (b := 10) (show dep ≤ 10 by omega) (by omega)) c11)
  refine A_iload_n hE 17 dX7_speak_16 rfl rfl ?_
  refine A_iload_n hE 18 dX7_speak_17 rfl rfl ?_
  refine A_callSi hE 21 (c_own_2_6) [] dX7_speak_18 rfl mkX7_50 rfl rfl rfl rfl rfl rfl (Nat.le_of_ble_eq_true rfl) (Nat.le_of_ble_eq_true rfl) rfl (fun x18 h18 g18 hp18 hw18 => ?_)
  obtain ⟨rfl, rfl⟩ := hp18
  obtain rfl := Option.some.inj hw18
  refine A_istore hE 23 dX7_speak_21 rfl rfl rfl ?_
  refine A_gsBodies hE 26 dX7_speak_23 rfl flBod ?_
  refine A_iconst hE 27 dX7_speak_26 rfl (4) rfl ?_
  refine A_iload hE 29 dX7_speak_27 rfl rfl ?_
  refine A_imul hE 30 dX7_speak_29 rfl ?_
  refine A_iload_n hE 31 dX7_speak_30 rfl rfl ?_
  refine A_iadd hE 32 dX7_speak_31 rfl ?_
  refine A_tabB hE 33 2 dX7_speak_32 rfl (by decide) (by decide) (12) (by decide) ?_
  refine A_istore hE 35 dX7_speak_33 rfl rfl rfl ?_
  refine A_gsAboveN hE 38 dX7_speak_35 rfl ?_
  refine A_iload hE 40 dX7_speak_38 rfl rfl ?_
  refine A_tabA hE 41 0 dX7_speak_40 rfl (by decide) (by decide) (0) (by decide) ?_
  refine A_istore hE 43 dX7_speak_41 rfl rfl rfl ?_
  refine A_iload hE 45 dX7_speak_43 rfl rfl ?_
  refine A_iconst hE 46 dX7_speak_45 rfl (1) rfl ?_
  refine A_iadd hE 47 dX7_speak_46 rfl ?_
  rw [nI_1]
  refine A_istore hE 49 dX7_speak_47 rfl rfl rfl ?_
  refine A_aload_n hE 50 dX7_speak_49 rfl rfl ?_
  refine A_get hE 53 dX7_speak_50 rfl fkX7_14 rfl rfl ?_
  refine A_iload hE 55 dX7_speak_53 rfl rfl ?_
  refine A_callVv hE 58 (c_X3_add 30 tr tn 12 htn rfl) [1, 2] dX7_speak_55 rfl mkX7_60 rfl rfl rfl rfl rfl rfl rfl (Nat.le_of_ble_eq_true rfl) (Nat.le_of_ble_eq_true rfl) rfl (fun h55 g55 hp55 hw55 => ?_)
  obtain rfl := hp55
  obtain rfl := Option.some.inj hw55
  refine A_h (VW 0 K k m (pN tn) (pF tn tr 12)) rfl ?_
  refine A_iload hE 60 dX7_speak_58 rfl rfl ?_
  refine A_lookup hE 198 dX7_speak_60 (by decide) (off := 138) (by decide) rfl ?_
  refine A_aload_n hE 199 dX7_speak_198 rfl rfl ?_
  refine A_iconst hE 200 dX7_speak_199 rfl (1) rfl ?_
  refine A_aload_n hE 201 dX7_speak_200 rfl rfl ?_
  refine A_get hE 204 dX7_speak_201 rfl fkX7_24 rfl rfl ?_
  refine A_iload_n hE 205 dX7_speak_204 rfl rfl ?_
  refine A_iload hE 207 dX7_speak_205 rfl rfl ?_
  refine A_callVi hE 210 (c_sa K K k m x (pN tn) (pF tn tr 12) (dep + 1) hK hK (pN_le htn) (by omega)) [0, 1, 2] dX7_speak_207 rfl mkX7_46 rfl rfl rfl rfl rfl rfl rfl (Nat.le_of_ble_eq_true rfl) (Nat.le_of_ble_eq_true rfl) rfl (fun x207 h207 g207 hp207 hw207 => ?_)
  obtain ⟨rfl, rfl⟩ := hp207
  obtain rfl := Option.some.inj hw207
  refine A_h (VW 0 K k m (apN (saT K K) (pN tn)) (apF (saT K K) (pN tn) (pF tn tr 12))) rfl ?_
  refine A_aload_n hE 211 dX7_speak_210 rfl rfl ?_
  refine A_get hE 214 dX7_speak_211 rfl fkX7_31 rfl rfl ?_
  refine A_isub hE 215 dX7_speak_214 rfl ?_
  refine A_iret hE dX7_speak_215 ⟨rfl, rfl⟩
set_option maxRecDepth 100000 in
theorem c_st_3 (K : Nat) (k m x : Int32) (tn : Nat) (tr : Nat → Int32) (dep : Nat) (hK : K < 7) (htn : tn ≤ 30) (hd : dep + 7 ≤ 10) : AMet yX7_speak cX7_speak 9 (some (.int)) 8 0 0 [.ref 0, .int 2, .int 3, .int x, .int (nI dep)] (VW 0 K k m tn tr) (pI fun r h => r = stV k m K 3 x ∧ h = VW 0 K k m (apN (stT K 3) tn) (apF (stT K 3) tn tr)) := by
  refine AMet.of (by decide +kernel) rfl (fun E ad0 hE => ?_)
  refine A_aload_n hE 1 dX7_speak_0 rfl rfl ?_
  refine A_get hE 4 dX7_speak_1 rfl fkX7_20 rfl rfl ?_
  refine A_if_ne hE 7 14 dX7_speak_4 rfl rfl (fun c4 => absurd rfl c4) (fun c4 => ?_)
  refine A_iload hE 9 dX7_speak_7 rfl rfl ?_
  refine A_bipush hE 11 dX7_speak_9 rfl (10) (by decide) ?_
  refine A_icmp_le hE 14 16 dX7_speak_11 rfl rfl (fun c11 => ?_) (fun c11 => absurd (nI_le (b := 10) (show dep ≤ 10 by omega) (by omega)) c11)
  refine A_iload_n hE 17 dX7_speak_16 rfl rfl ?_
  refine A_iload_n hE 18 dX7_speak_17 rfl rfl ?_
  refine A_callSi hE 21 (c_own_2_3) [] dX7_speak_18 rfl mkX7_50 rfl rfl rfl rfl rfl rfl (Nat.le_of_ble_eq_true rfl) (Nat.le_of_ble_eq_true rfl) rfl (fun x18 h18 g18 hp18 hw18 => ?_)
  obtain ⟨rfl, rfl⟩ := hp18
  obtain rfl := Option.some.inj hw18
  refine A_istore hE 23 dX7_speak_21 rfl rfl rfl ?_
  refine A_gsBodies hE 26 dX7_speak_23 rfl flBod ?_
  refine A_iconst hE 27 dX7_speak_26 rfl (4) rfl ?_
  refine A_iload hE 29 dX7_speak_27 rfl rfl ?_
  refine A_imul hE 30 dX7_speak_29 rfl ?_
  refine A_iload_n hE 31 dX7_speak_30 rfl rfl ?_
  refine A_iadd hE 32 dX7_speak_31 rfl ?_
  refine A_tabB hE 33 14 dX7_speak_32 rfl (by decide) (by decide) (40) (by decide) ?_
  refine A_istore hE 35 dX7_speak_33 rfl rfl rfl ?_
  refine A_gsAboveN hE 38 dX7_speak_35 rfl ?_
  refine A_iload hE 40 dX7_speak_38 rfl rfl ?_
  refine A_tabA hE 41 3 dX7_speak_40 rfl (by decide) (by decide) (0) (by decide) ?_
  refine A_istore hE 43 dX7_speak_41 rfl rfl rfl ?_
  refine A_iload hE 45 dX7_speak_43 rfl rfl ?_
  refine A_iconst hE 46 dX7_speak_45 rfl (1) rfl ?_
  refine A_iadd hE 47 dX7_speak_46 rfl ?_
  rw [nI_1]
  refine A_istore hE 49 dX7_speak_47 rfl rfl rfl ?_
  refine A_aload_n hE 50 dX7_speak_49 rfl rfl ?_
  refine A_get hE 53 dX7_speak_50 rfl fkX7_14 rfl rfl ?_
  refine A_iload hE 55 dX7_speak_53 rfl rfl ?_
  refine A_callVv hE 58 (c_X3_add 30 tr tn 40 htn rfl) [1, 2] dX7_speak_55 rfl mkX7_60 rfl rfl rfl rfl rfl rfl rfl (Nat.le_of_ble_eq_true rfl) (Nat.le_of_ble_eq_true rfl) rfl (fun h55 g55 hp55 hw55 => ?_)
  obtain rfl := hp55
  obtain rfl := Option.some.inj hw55
  refine A_h (VW 0 K k m (pN tn) (pF tn tr 40)) rfl ?_
  refine A_iload hE 60 dX7_speak_58 rfl rfl ?_
  refine A_lookup hE 272 dX7_speak_60 (by decide) (off := 212) (by decide) rfl ?_
  refine A_aload_n hE 273 dX7_speak_272 rfl rfl ?_
  refine A_iconst hE 274 dX7_speak_273 rfl (2) rfl ?_
  refine A_iload hE 276 dX7_speak_274 rfl rfl ?_
  refine A_iload_n hE 277 dX7_speak_276 rfl rfl ?_
  refine A_iconst hE 278 dX7_speak_277 rfl (2) rfl ?_
  refine A_idiv hE 279 dX7_speak_278 rfl (by decide) ?_
  refine A_iload hE 281 dX7_speak_279 rfl rfl ?_
  refine A_callVi hE 284 (c_st_0 K k m (x / 2) (pN tn) (pF tn tr 40) (dep + 1) hK (pN_le htn) (by omega)) [0, 1, 2] dX7_speak_281 rfl mkX7_46 rfl rfl rfl rfl rfl rfl rfl (Nat.le_of_ble_eq_true rfl) (Nat.le_of_ble_eq_true rfl) rfl (fun x281 h281 g281 hp281 hw281 => ?_)
  obtain ⟨rfl, rfl⟩ := hp281
  obtain rfl := Option.some.inj hw281
  refine A_h (VW 0 K k m (apN (stT K 0) (pN tn)) (apF (stT K 0) (pN tn) (pF tn tr 40))) rfl ?_
  refine A_iret hE dX7_speak_284 ⟨rfl, rfl⟩
set_option maxRecDepth 100000 in
theorem c_st_4 (K : Nat) (k m x : Int32) (tn : Nat) (tr : Nat → Int32) (dep : Nat) (hK : K < 7) (htn : tn ≤ 30) (hd : dep + 7 ≤ 10) : AMet yX7_speak cX7_speak 9 (some (.int)) 8 0 0 [.ref 0, .int 2, .int 4, .int x, .int (nI dep)] (VW 0 K k m tn tr) (pI fun r h => r = stV k m K 4 x ∧ h = VW 0 K k m (apN (stT K 4) tn) (apF (stT K 4) tn tr)) := by
  refine AMet.of (by decide +kernel) rfl (fun E ad0 hE => ?_)
  refine A_aload_n hE 1 dX7_speak_0 rfl rfl ?_
  refine A_get hE 4 dX7_speak_1 rfl fkX7_20 rfl rfl ?_
  refine A_if_ne hE 7 14 dX7_speak_4 rfl rfl (fun c4 => absurd rfl c4) (fun c4 => ?_)
  refine A_iload hE 9 dX7_speak_7 rfl rfl ?_
  refine A_bipush hE 11 dX7_speak_9 rfl (10) (by decide) ?_
  refine A_icmp_le hE 14 16 dX7_speak_11 rfl rfl (fun c11 => ?_) (fun c11 => absurd (nI_le (b := 10) (show dep ≤ 10 by omega) (by omega)) c11)
  refine A_iload_n hE 17 dX7_speak_16 rfl rfl ?_
  refine A_iload_n hE 18 dX7_speak_17 rfl rfl ?_
  refine A_callSi hE 21 (c_own_2_4) [] dX7_speak_18 rfl mkX7_50 rfl rfl rfl rfl rfl rfl (Nat.le_of_ble_eq_true rfl) (Nat.le_of_ble_eq_true rfl) rfl (fun x18 h18 g18 hp18 hw18 => ?_)
  obtain ⟨rfl, rfl⟩ := hp18
  obtain rfl := Option.some.inj hw18
  refine A_istore hE 23 dX7_speak_21 rfl rfl rfl ?_
  refine A_gsBodies hE 26 dX7_speak_23 rfl flBod ?_
  refine A_iconst hE 27 dX7_speak_26 rfl (4) rfl ?_
  refine A_iload hE 29 dX7_speak_27 rfl rfl ?_
  refine A_imul hE 30 dX7_speak_29 rfl ?_
  refine A_iload_n hE 31 dX7_speak_30 rfl rfl ?_
  refine A_iadd hE 32 dX7_speak_31 rfl ?_
  refine A_tabB hE 33 18 dX7_speak_32 rfl (by decide) (by decide) (51) (by decide) ?_
  refine A_istore hE 35 dX7_speak_33 rfl rfl rfl ?_
  refine A_gsAboveN hE 38 dX7_speak_35 rfl ?_
  refine A_iload hE 40 dX7_speak_38 rfl rfl ?_
  refine A_tabA hE 41 4 dX7_speak_40 rfl (by decide) (by decide) (1) (by decide) ?_
  refine A_istore hE 43 dX7_speak_41 rfl rfl rfl ?_
  refine A_iload hE 45 dX7_speak_43 rfl rfl ?_
  refine A_iconst hE 46 dX7_speak_45 rfl (1) rfl ?_
  refine A_iadd hE 47 dX7_speak_46 rfl ?_
  rw [nI_1]
  refine A_istore hE 49 dX7_speak_47 rfl rfl rfl ?_
  refine A_aload_n hE 50 dX7_speak_49 rfl rfl ?_
  refine A_get hE 53 dX7_speak_50 rfl fkX7_14 rfl rfl ?_
  refine A_iload hE 55 dX7_speak_53 rfl rfl ?_
  refine A_callVv hE 58 (c_X3_add 30 tr tn 51 htn rfl) [1, 2] dX7_speak_55 rfl mkX7_60 rfl rfl rfl rfl rfl rfl rfl (Nat.le_of_ble_eq_true rfl) (Nat.le_of_ble_eq_true rfl) rfl (fun h55 g55 hp55 hw55 => ?_)
  obtain rfl := hp55
  obtain rfl := Option.some.inj hw55
  refine A_h (VW 0 K k m (pN tn) (pF tn tr 51)) rfl ?_
  refine A_iload hE 60 dX7_speak_58 rfl rfl ?_
  refine A_lookup hE 298 dX7_speak_60 (by decide) (off := 238) (by decide) rfl ?_
  refine A_aload_n hE 299 dX7_speak_298 rfl rfl ?_
  refine A_iconst hE 300 dX7_speak_299 rfl (2) rfl ?_
  refine A_iload hE 302 dX7_speak_300 rfl rfl ?_
  refine A_iload_n hE 303 dX7_speak_302 rfl rfl ?_
  refine A_iload hE 305 dX7_speak_303 rfl rfl ?_
  refine A_callVi hE 308 (c_st_1 K k m x (pN tn) (pF tn tr 51) (dep + 1) hK (pN_le htn) (by omega)) [0, 1, 2] dX7_speak_305 rfl mkX7_46 rfl rfl rfl rfl rfl rfl rfl (Nat.le_of_ble_eq_true rfl) (Nat.le_of_ble_eq_true rfl) rfl (fun x305 h305 g305 hp305 hw305 => ?_)
  obtain ⟨rfl, rfl⟩ := hp305
  obtain rfl := Option.some.inj hw305
  refine A_h (VW 0 K k m (apN (stT K 1) (pN tn)) (apF (stT K 1) (pN tn) (pF tn tr 51))) rfl ?_
  refine A_aload_n hE 309 dX7_speak_308 rfl rfl ?_
  refine A_get hE 312 dX7_speak_309 rfl fkX7_28 rfl rfl ?_
  refine A_ixor hE 313 dX7_speak_312 rfl ?_
  refine A_iret hE dX7_speak_313 ⟨rfl, rfl⟩
theorem c_st (f : Nat) (K : Nat) (k m x : Int32) (tn : Nat) (tr : Nat → Int32) (dep : Nat) (hf : f < 7) (hK : K < 7) (htn : tn ≤ 30) (hd : dep + 7 ≤ 10) : AMet yX7_speak cX7_speak 9 (some .int) 8 0 0 [.ref 0, .int 2, .int (nI f), .int x, .int (nI dep)] (VW 0 K k m tn tr) (pI fun r h => r = stV k m K f x ∧ h = VW 0 K k m (apN (stT K f) tn) (apF (stT K f) tn tr)) := by
  match f, hf with
  | 0, _ => exact (c_st_0 K k m x tn tr dep hK htn (by omega)).mono rfl
  | 1, _ => exact (c_st_1 K k m x tn tr dep hK htn (by omega)).mono rfl
  | 2, _ => exact (c_st_2 K k m x tn tr dep hK htn (by omega)).mono rfl
  | 3, _ => exact (c_st_3 K k m x tn tr dep hK htn (by omega)).mono rfl
  | 4, _ => exact (c_st_4 K k m x tn tr dep hK htn (by omega)).mono rfl
  | 5, _ => exact (c_st_5 K k m x tn tr dep hK htn (by omega)).mono rfl
  | 6, _ => exact (c_st_6 K k m x tn tr dep hK htn (by omega)).mono rfl
set_option maxRecDepth 100000 in
theorem c_pap_0 (K : Nat) (k m x : Int32) (tn : Nat) (tr : Nat → Int32) (dep : Nat) (hK : K < 7) (htn : tn ≤ 30) (hd : dep + 0 ≤ 10) (hm : m = k) : AMet yX7_speak cX7_speak 9 (some (.int)) 1 0 0 [.ref 0, .int 3, .int 0, .int x, .int (nI dep)] (VW 0 K k m tn tr) (pI fun r h => r = 0 ∧ h = VW 1 K k m (apN (paTp 0) tn) (apF (paTp 0) tn tr)) := by
  refine AMet.of (by decide +kernel) rfl (fun E ad0 hE => ?_)
  refine A_aload_n hE 1 dX7_speak_0 rfl rfl ?_
  refine A_get hE 4 dX7_speak_1 rfl fkX7_20 rfl rfl ?_
  refine A_if_ne hE 7 14 dX7_speak_4 rfl rfl (fun c4 => absurd rfl c4) (fun c4 => ?_)
  refine A_iload hE 9 dX7_speak_7 rfl rfl ?_
  refine A_bipush hE 11 dX7_speak_9 rfl (10) (by decide) ?_
  refine A_icmp_le hE 14 16 dX7_speak_11 rfl rfl (fun c11 => ?_) (fun c11 => absurd (nI_le (b := 10) (show dep ≤ 10 by omega) (by omega)) c11)
  refine A_iload_n hE 17 dX7_speak_16 rfl rfl ?_
  refine A_iload_n hE 18 dX7_speak_17 rfl rfl ?_
  refine A_callSi hE 21 (c_own_3_0) [] dX7_speak_18 rfl mkX7_50 rfl rfl rfl rfl rfl rfl (Nat.le_of_ble_eq_true rfl) (Nat.le_of_ble_eq_true rfl) rfl (fun x18 h18 g18 hp18 hw18 => ?_)
  obtain ⟨rfl, rfl⟩ := hp18
  obtain rfl := Option.some.inj hw18
  refine A_istore hE 23 dX7_speak_21 rfl rfl rfl ?_
  refine A_gsBodies hE 26 dX7_speak_23 rfl flBod ?_
  refine A_iconst hE 27 dX7_speak_26 rfl (4) rfl ?_
  refine A_iload hE 29 dX7_speak_27 rfl rfl ?_
  refine A_imul hE 30 dX7_speak_29 rfl ?_
  refine A_iload_n hE 31 dX7_speak_30 rfl rfl ?_
  refine A_iadd hE 32 dX7_speak_31 rfl ?_
  refine A_tabB hE 33 3 dX7_speak_32 rfl (by decide) (by decide) (13) (by decide) ?_
  refine A_istore hE 35 dX7_speak_33 rfl rfl rfl ?_
  refine A_gsAboveN hE 38 dX7_speak_35 rfl ?_
  refine A_iload hE 40 dX7_speak_38 rfl rfl ?_
  refine A_tabA hE 41 0 dX7_speak_40 rfl (by decide) (by decide) (0) (by decide) ?_
  refine A_istore hE 43 dX7_speak_41 rfl rfl rfl ?_
  refine A_iload hE 45 dX7_speak_43 rfl rfl ?_
  refine A_iconst hE 46 dX7_speak_45 rfl (1) rfl ?_
  refine A_iadd hE 47 dX7_speak_46 rfl ?_
  rw [nI_1]
  refine A_istore hE 49 dX7_speak_47 rfl rfl rfl ?_
  refine A_aload_n hE 50 dX7_speak_49 rfl rfl ?_
  refine A_get hE 53 dX7_speak_50 rfl fkX7_14 rfl rfl ?_
  refine A_iload hE 55 dX7_speak_53 rfl rfl ?_
  refine A_callVv hE 58 (c_X3_add 30 tr tn 13 htn rfl) [1, 2] dX7_speak_55 rfl mkX7_60 rfl rfl rfl rfl rfl rfl rfl (Nat.le_of_ble_eq_true rfl) (Nat.le_of_ble_eq_true rfl) rfl (fun h55 g55 hp55 hw55 => ?_)
  obtain rfl := hp55
  obtain rfl := Option.some.inj hw55
  refine A_h (VW 0 K k m (pN tn) (pF tn tr 13)) rfl ?_
  refine A_iload hE 60 dX7_speak_58 rfl rfl ?_
  refine A_lookup hE 216 dX7_speak_60 (by decide) (off := 156) (by decide) rfl ?_
  refine A_aload_n hE 217 dX7_speak_216 rfl rfl ?_
  refine A_iload_n hE 218 dX7_speak_217 rfl rfl ?_
  refine A_callVi hE 221 (c_part_p K k m x (pN tn) (pF tn tr 13) hm) [0, 1, 2] dX7_speak_218 rfl mkX7_63 rfl rfl rfl rfl rfl rfl rfl (Nat.le_of_ble_eq_true rfl) (Nat.le_of_ble_eq_true rfl) rfl (fun x218 h218 g218 hp218 hw218 => ?_)
  obtain ⟨rfl, rfl⟩ := hp218
  obtain rfl := Option.some.inj hw218
  refine A_h (VW 1 K k m (pN tn) (pF tn tr 13)) rfl ?_
  refine A_iret hE dX7_speak_221 ⟨rfl, rfl⟩
set_option maxRecDepth 100000 in
theorem c_pap_2 (K : Nat) (k m x : Int32) (tn : Nat) (tr : Nat → Int32) (dep : Nat) (hK : K < 7) (htn : tn ≤ 30) (hd : dep + 0 ≤ 10) (hm : m = k) : AMet yX7_speak cX7_speak 9 (some (.int)) 1 0 0 [.ref 0, .int 3, .int 2, .int x, .int (nI dep)] (VW 0 K k m tn tr) (pI fun r h => r = 0 ∧ h = VW 1 K k m (apN (paTp 2) tn) (apF (paTp 2) tn tr)) := by
  refine AMet.of (by decide +kernel) rfl (fun E ad0 hE => ?_)
  refine A_aload_n hE 1 dX7_speak_0 rfl rfl ?_
  refine A_get hE 4 dX7_speak_1 rfl fkX7_20 rfl rfl ?_
  refine A_if_ne hE 7 14 dX7_speak_4 rfl rfl (fun c4 => absurd rfl c4) (fun c4 => ?_)
  refine A_iload hE 9 dX7_speak_7 rfl rfl ?_
  refine A_bipush hE 11 dX7_speak_9 rfl (10) (by decide) ?_
  refine A_icmp_le hE 14 16 dX7_speak_11 rfl rfl (fun c11 => ?_) (fun c11 => absurd (nI_le (b := 10) (show dep ≤ 10 by omega) (by omega)) c11)
  refine A_iload_n hE 17 dX7_speak_16 rfl rfl ?_
  refine A_iload_n hE 18 dX7_speak_17 rfl rfl ?_
  refine A_callSi hE 21 (c_own_3_2) [] dX7_speak_18 rfl mkX7_50 rfl rfl rfl rfl rfl rfl (Nat.le_of_ble_eq_true rfl) (Nat.le_of_ble_eq_true rfl) rfl (fun x18 h18 g18 hp18 hw18 => ?_)
  obtain ⟨rfl, rfl⟩ := hp18
  obtain rfl := Option.some.inj hw18
  refine A_istore hE 23 dX7_speak_21 rfl rfl rfl ?_
  refine A_gsBodies hE 26 dX7_speak_23 rfl flBod ?_
  refine A_iconst hE 27 dX7_speak_26 rfl (4) rfl ?_
  refine A_iload hE 29 dX7_speak_27 rfl rfl ?_
  refine A_imul hE 30 dX7_speak_29 rfl ?_
  refine A_iload_n hE 31 dX7_speak_30 rfl rfl ?_
  refine A_iadd hE 32 dX7_speak_31 rfl ?_
  refine A_tabB hE 33 3 dX7_speak_32 rfl (by decide) (by decide) (13) (by decide) ?_
  refine A_istore hE 35 dX7_speak_33 rfl rfl rfl ?_
  refine A_gsAboveN hE 38 dX7_speak_35 rfl ?_
  refine A_iload hE 40 dX7_speak_38 rfl rfl ?_
  refine A_tabA hE 41 0 dX7_speak_40 rfl (by decide) (by decide) (0) (by decide) ?_
  refine A_istore hE 43 dX7_speak_41 rfl rfl rfl ?_
  refine A_iload hE 45 dX7_speak_43 rfl rfl ?_
  refine A_iconst hE 46 dX7_speak_45 rfl (1) rfl ?_
  refine A_iadd hE 47 dX7_speak_46 rfl ?_
  rw [nI_1]
  refine A_istore hE 49 dX7_speak_47 rfl rfl rfl ?_
  refine A_aload_n hE 50 dX7_speak_49 rfl rfl ?_
  refine A_get hE 53 dX7_speak_50 rfl fkX7_14 rfl rfl ?_
  refine A_iload hE 55 dX7_speak_53 rfl rfl ?_
  refine A_callVv hE 58 (c_X3_add 30 tr tn 13 htn rfl) [1, 2] dX7_speak_55 rfl mkX7_60 rfl rfl rfl rfl rfl rfl rfl (Nat.le_of_ble_eq_true rfl) (Nat.le_of_ble_eq_true rfl) rfl (fun h55 g55 hp55 hw55 => ?_)
  obtain rfl := hp55
  obtain rfl := Option.some.inj hw55
  refine A_h (VW 0 K k m (pN tn) (pF tn tr 13)) rfl ?_
  refine A_iload hE 60 dX7_speak_58 rfl rfl ?_
  refine A_lookup hE 216 dX7_speak_60 (by decide) (off := 156) (by decide) rfl ?_
  refine A_aload_n hE 217 dX7_speak_216 rfl rfl ?_
  refine A_iload_n hE 218 dX7_speak_217 rfl rfl ?_
  refine A_callVi hE 221 (c_part_p K k m x (pN tn) (pF tn tr 13) hm) [0, 1, 2] dX7_speak_218 rfl mkX7_63 rfl rfl rfl rfl rfl rfl rfl (Nat.le_of_ble_eq_true rfl) (Nat.le_of_ble_eq_true rfl) rfl (fun x218 h218 g218 hp218 hw218 => ?_)
  obtain ⟨rfl, rfl⟩ := hp218
  obtain rfl := Option.some.inj hw218
  refine A_h (VW 1 K k m (pN tn) (pF tn tr 13)) rfl ?_
  refine A_iret hE dX7_speak_221 ⟨rfl, rfl⟩
set_option maxRecDepth 100000 in
theorem c_pap_3 (K : Nat) (k m x : Int32) (tn : Nat) (tr : Nat → Int32) (dep : Nat) (hK : K < 7) (htn : tn ≤ 30) (hd : dep + 0 ≤ 10) (hm : m = k) : AMet yX7_speak cX7_speak 9 (some (.int)) 1 0 0 [.ref 0, .int 3, .int 3, .int x, .int (nI dep)] (VW 0 K k m tn tr) (pI fun r h => r = 0 ∧ h = VW 1 K k m (apN (paTp 3) tn) (apF (paTp 3) tn tr)) := by
  refine AMet.of (by decide +kernel) rfl (fun E ad0 hE => ?_)
  refine A_aload_n hE 1 dX7_speak_0 rfl rfl ?_
  refine A_get hE 4 dX7_speak_1 rfl fkX7_20 rfl rfl ?_
  refine A_if_ne hE 7 14 dX7_speak_4 rfl rfl (fun c4 => absurd rfl c4) (fun c4 => ?_)
  refine A_iload hE 9 dX7_speak_7 rfl rfl ?_
  refine A_bipush hE 11 dX7_speak_9 rfl (10) (by decide) ?_
  refine A_icmp_le hE 14 16 dX7_speak_11 rfl rfl (fun c11 => ?_) (fun c11 => absurd (nI_le (b := 10) (show dep ≤ 10 by omega) (by omega)) c11)
  refine A_iload_n hE 17 dX7_speak_16 rfl rfl ?_
  refine A_iload_n hE 18 dX7_speak_17 rfl rfl ?_
  refine A_callSi hE 21 (c_own_3_3) [] dX7_speak_18 rfl mkX7_50 rfl rfl rfl rfl rfl rfl (Nat.le_of_ble_eq_true rfl) (Nat.le_of_ble_eq_true rfl) rfl (fun x18 h18 g18 hp18 hw18 => ?_)
  obtain ⟨rfl, rfl⟩ := hp18
  obtain rfl := Option.some.inj hw18
  refine A_istore hE 23 dX7_speak_21 rfl rfl rfl ?_
  refine A_gsBodies hE 26 dX7_speak_23 rfl flBod ?_
  refine A_iconst hE 27 dX7_speak_26 rfl (4) rfl ?_
  refine A_iload hE 29 dX7_speak_27 rfl rfl ?_
  refine A_imul hE 30 dX7_speak_29 rfl ?_
  refine A_iload_n hE 31 dX7_speak_30 rfl rfl ?_
  refine A_iadd hE 32 dX7_speak_31 rfl ?_
  refine A_tabB hE 33 3 dX7_speak_32 rfl (by decide) (by decide) (13) (by decide) ?_
  refine A_istore hE 35 dX7_speak_33 rfl rfl rfl ?_
  refine A_gsAboveN hE 38 dX7_speak_35 rfl ?_
  refine A_iload hE 40 dX7_speak_38 rfl rfl ?_
  refine A_tabA hE 41 0 dX7_speak_40 rfl (by decide) (by decide) (0) (by decide) ?_
  refine A_istore hE 43 dX7_speak_41 rfl rfl rfl ?_
  refine A_iload hE 45 dX7_speak_43 rfl rfl ?_
  refine A_iconst hE 46 dX7_speak_45 rfl (1) rfl ?_
  refine A_iadd hE 47 dX7_speak_46 rfl ?_
  rw [nI_1]
  refine A_istore hE 49 dX7_speak_47 rfl rfl rfl ?_
  refine A_aload_n hE 50 dX7_speak_49 rfl rfl ?_
  refine A_get hE 53 dX7_speak_50 rfl fkX7_14 rfl rfl ?_
  refine A_iload hE 55 dX7_speak_53 rfl rfl ?_
  refine A_callVv hE 58 (c_X3_add 30 tr tn 13 htn rfl) [1, 2] dX7_speak_55 rfl mkX7_60 rfl rfl rfl rfl rfl rfl rfl (Nat.le_of_ble_eq_true rfl) (Nat.le_of_ble_eq_true rfl) rfl (fun h55 g55 hp55 hw55 => ?_)
  obtain rfl := hp55
  obtain rfl := Option.some.inj hw55
  refine A_h (VW 0 K k m (pN tn) (pF tn tr 13)) rfl ?_
  refine A_iload hE 60 dX7_speak_58 rfl rfl ?_
  refine A_lookup hE 216 dX7_speak_60 (by decide) (off := 156) (by decide) rfl ?_
  refine A_aload_n hE 217 dX7_speak_216 rfl rfl ?_
  refine A_iload_n hE 218 dX7_speak_217 rfl rfl ?_
  refine A_callVi hE 221 (c_part_p K k m x (pN tn) (pF tn tr 13) hm) [0, 1, 2] dX7_speak_218 rfl mkX7_63 rfl rfl rfl rfl rfl rfl rfl (Nat.le_of_ble_eq_true rfl) (Nat.le_of_ble_eq_true rfl) rfl (fun x218 h218 g218 hp218 hw218 => ?_)
  obtain ⟨rfl, rfl⟩ := hp218
  obtain rfl := Option.some.inj hw218
  refine A_h (VW 1 K k m (pN tn) (pF tn tr 13)) rfl ?_
  refine A_iret hE dX7_speak_221 ⟨rfl, rfl⟩
set_option maxRecDepth 100000 in
theorem c_pap_5 (K : Nat) (k m x : Int32) (tn : Nat) (tr : Nat → Int32) (dep : Nat) (hK : K < 7) (htn : tn ≤ 30) (hd : dep + 0 ≤ 10) (hm : m = k) : AMet yX7_speak cX7_speak 9 (some (.int)) 1 0 0 [.ref 0, .int 3, .int 5, .int x, .int (nI dep)] (VW 0 K k m tn tr) (pI fun r h => r = 0 ∧ h = VW 1 K k m (apN (paTp 5) tn) (apF (paTp 5) tn tr)) := by
  refine AMet.of (by decide +kernel) rfl (fun E ad0 hE => ?_)
  refine A_aload_n hE 1 dX7_speak_0 rfl rfl ?_
  refine A_get hE 4 dX7_speak_1 rfl fkX7_20 rfl rfl ?_
  refine A_if_ne hE 7 14 dX7_speak_4 rfl rfl (fun c4 => absurd rfl c4) (fun c4 => ?_)
  refine A_iload hE 9 dX7_speak_7 rfl rfl ?_
  refine A_bipush hE 11 dX7_speak_9 rfl (10) (by decide) ?_
  refine A_icmp_le hE 14 16 dX7_speak_11 rfl rfl (fun c11 => ?_) (fun c11 => absurd (nI_le (b := 10) (show dep ≤ 10 by omega) (by omega)) c11)
  refine A_iload_n hE 17 dX7_speak_16 rfl rfl ?_
  refine A_iload_n hE 18 dX7_speak_17 rfl rfl ?_
  refine A_callSi hE 21 (c_own_3_5) [] dX7_speak_18 rfl mkX7_50 rfl rfl rfl rfl rfl rfl (Nat.le_of_ble_eq_true rfl) (Nat.le_of_ble_eq_true rfl) rfl (fun x18 h18 g18 hp18 hw18 => ?_)
  obtain ⟨rfl, rfl⟩ := hp18
  obtain rfl := Option.some.inj hw18
  refine A_istore hE 23 dX7_speak_21 rfl rfl rfl ?_
  refine A_gsBodies hE 26 dX7_speak_23 rfl flBod ?_
  refine A_iconst hE 27 dX7_speak_26 rfl (4) rfl ?_
  refine A_iload hE 29 dX7_speak_27 rfl rfl ?_
  refine A_imul hE 30 dX7_speak_29 rfl ?_
  refine A_iload_n hE 31 dX7_speak_30 rfl rfl ?_
  refine A_iadd hE 32 dX7_speak_31 rfl ?_
  refine A_tabB hE 33 3 dX7_speak_32 rfl (by decide) (by decide) (13) (by decide) ?_
  refine A_istore hE 35 dX7_speak_33 rfl rfl rfl ?_
  refine A_gsAboveN hE 38 dX7_speak_35 rfl ?_
  refine A_iload hE 40 dX7_speak_38 rfl rfl ?_
  refine A_tabA hE 41 0 dX7_speak_40 rfl (by decide) (by decide) (0) (by decide) ?_
  refine A_istore hE 43 dX7_speak_41 rfl rfl rfl ?_
  refine A_iload hE 45 dX7_speak_43 rfl rfl ?_
  refine A_iconst hE 46 dX7_speak_45 rfl (1) rfl ?_
  refine A_iadd hE 47 dX7_speak_46 rfl ?_
  rw [nI_1]
  refine A_istore hE 49 dX7_speak_47 rfl rfl rfl ?_
  refine A_aload_n hE 50 dX7_speak_49 rfl rfl ?_
  refine A_get hE 53 dX7_speak_50 rfl fkX7_14 rfl rfl ?_
  refine A_iload hE 55 dX7_speak_53 rfl rfl ?_
  refine A_callVv hE 58 (c_X3_add 30 tr tn 13 htn rfl) [1, 2] dX7_speak_55 rfl mkX7_60 rfl rfl rfl rfl rfl rfl rfl (Nat.le_of_ble_eq_true rfl) (Nat.le_of_ble_eq_true rfl) rfl (fun h55 g55 hp55 hw55 => ?_)
  obtain rfl := hp55
  obtain rfl := Option.some.inj hw55
  refine A_h (VW 0 K k m (pN tn) (pF tn tr 13)) rfl ?_
  refine A_iload hE 60 dX7_speak_58 rfl rfl ?_
  refine A_lookup hE 216 dX7_speak_60 (by decide) (off := 156) (by decide) rfl ?_
  refine A_aload_n hE 217 dX7_speak_216 rfl rfl ?_
  refine A_iload_n hE 218 dX7_speak_217 rfl rfl ?_
  refine A_callVi hE 221 (c_part_p K k m x (pN tn) (pF tn tr 13) hm) [0, 1, 2] dX7_speak_218 rfl mkX7_63 rfl rfl rfl rfl rfl rfl rfl (Nat.le_of_ble_eq_true rfl) (Nat.le_of_ble_eq_true rfl) rfl (fun x218 h218 g218 hp218 hw218 => ?_)
  obtain ⟨rfl, rfl⟩ := hp218
  obtain rfl := Option.some.inj hw218
  refine A_h (VW 1 K k m (pN tn) (pF tn tr 13)) rfl ?_
  refine A_iret hE dX7_speak_221 ⟨rfl, rfl⟩
set_option maxRecDepth 100000 in
theorem c_pap_6 (K : Nat) (k m x : Int32) (tn : Nat) (tr : Nat → Int32) (dep : Nat) (hK : K < 7) (htn : tn ≤ 30) (hd : dep + 0 ≤ 10) (hm : m = k) : AMet yX7_speak cX7_speak 9 (some (.int)) 1 0 0 [.ref 0, .int 3, .int 6, .int x, .int (nI dep)] (VW 0 K k m tn tr) (pI fun r h => r = 0 ∧ h = VW 1 K k m (apN (paTp 6) tn) (apF (paTp 6) tn tr)) := by
  refine AMet.of (by decide +kernel) rfl (fun E ad0 hE => ?_)
  refine A_aload_n hE 1 dX7_speak_0 rfl rfl ?_
  refine A_get hE 4 dX7_speak_1 rfl fkX7_20 rfl rfl ?_
  refine A_if_ne hE 7 14 dX7_speak_4 rfl rfl (fun c4 => absurd rfl c4) (fun c4 => ?_)
  refine A_iload hE 9 dX7_speak_7 rfl rfl ?_
  refine A_bipush hE 11 dX7_speak_9 rfl (10) (by decide) ?_
  refine A_icmp_le hE 14 16 dX7_speak_11 rfl rfl (fun c11 => ?_) (fun c11 => absurd (nI_le (b := 10) (show dep ≤ 10 by omega) (by omega)) c11)
  refine A_iload_n hE 17 dX7_speak_16 rfl rfl ?_
  refine A_iload_n hE 18 dX7_speak_17 rfl rfl ?_
  refine A_callSi hE 21 (c_own_3_6) [] dX7_speak_18 rfl mkX7_50 rfl rfl rfl rfl rfl rfl (Nat.le_of_ble_eq_true rfl) (Nat.le_of_ble_eq_true rfl) rfl (fun x18 h18 g18 hp18 hw18 => ?_)
  obtain ⟨rfl, rfl⟩ := hp18
  obtain rfl := Option.some.inj hw18
  refine A_istore hE 23 dX7_speak_21 rfl rfl rfl ?_
  refine A_gsBodies hE 26 dX7_speak_23 rfl flBod ?_
  refine A_iconst hE 27 dX7_speak_26 rfl (4) rfl ?_
  refine A_iload hE 29 dX7_speak_27 rfl rfl ?_
  refine A_imul hE 30 dX7_speak_29 rfl ?_
  refine A_iload_n hE 31 dX7_speak_30 rfl rfl ?_
  refine A_iadd hE 32 dX7_speak_31 rfl ?_
  refine A_tabB hE 33 3 dX7_speak_32 rfl (by decide) (by decide) (13) (by decide) ?_
  refine A_istore hE 35 dX7_speak_33 rfl rfl rfl ?_
  refine A_gsAboveN hE 38 dX7_speak_35 rfl ?_
  refine A_iload hE 40 dX7_speak_38 rfl rfl ?_
  refine A_tabA hE 41 0 dX7_speak_40 rfl (by decide) (by decide) (0) (by decide) ?_
  refine A_istore hE 43 dX7_speak_41 rfl rfl rfl ?_
  refine A_iload hE 45 dX7_speak_43 rfl rfl ?_
  refine A_iconst hE 46 dX7_speak_45 rfl (1) rfl ?_
  refine A_iadd hE 47 dX7_speak_46 rfl ?_
  rw [nI_1]
  refine A_istore hE 49 dX7_speak_47 rfl rfl rfl ?_
  refine A_aload_n hE 50 dX7_speak_49 rfl rfl ?_
  refine A_get hE 53 dX7_speak_50 rfl fkX7_14 rfl rfl ?_
  refine A_iload hE 55 dX7_speak_53 rfl rfl ?_
  refine A_callVv hE 58 (c_X3_add 30 tr tn 13 htn rfl) [1, 2] dX7_speak_55 rfl mkX7_60 rfl rfl rfl rfl rfl rfl rfl (Nat.le_of_ble_eq_true rfl) (Nat.le_of_ble_eq_true rfl) rfl (fun h55 g55 hp55 hw55 => ?_)
  obtain rfl := hp55
  obtain rfl := Option.some.inj hw55
  refine A_h (VW 0 K k m (pN tn) (pF tn tr 13)) rfl ?_
  refine A_iload hE 60 dX7_speak_58 rfl rfl ?_
  refine A_lookup hE 216 dX7_speak_60 (by decide) (off := 156) (by decide) rfl ?_
  refine A_aload_n hE 217 dX7_speak_216 rfl rfl ?_
  refine A_iload_n hE 218 dX7_speak_217 rfl rfl ?_
  refine A_callVi hE 221 (c_part_p K k m x (pN tn) (pF tn tr 13) hm) [0, 1, 2] dX7_speak_218 rfl mkX7_63 rfl rfl rfl rfl rfl rfl rfl (Nat.le_of_ble_eq_true rfl) (Nat.le_of_ble_eq_true rfl) rfl (fun x218 h218 g218 hp218 hw218 => ?_)
  obtain ⟨rfl, rfl⟩ := hp218
  obtain rfl := Option.some.inj hw218
  refine A_h (VW 1 K k m (pN tn) (pF tn tr 13)) rfl ?_
  refine A_iret hE dX7_speak_221 ⟨rfl, rfl⟩
set_option maxRecDepth 100000 in
theorem c_pap_1 (K : Nat) (k m x : Int32) (tn : Nat) (tr : Nat → Int32) (dep : Nat) (hK : K < 7) (htn : tn ≤ 30) (hd : dep + 6 ≤ 10) (hm : m = k) : AMet yX7_speak cX7_speak 9 (some (.int)) 7 0 0 [.ref 0, .int 3, .int 1, .int x, .int (nI dep)] (VW 0 K k m tn tr) (pI fun r h => r = 0 ∧ h = VW 1 K k m (apN (paTp 1) tn) (apF (paTp 1) tn tr)) := by
  refine AMet.of (by decide +kernel) rfl (fun E ad0 hE => ?_)
  refine A_aload_n hE 1 dX7_speak_0 rfl rfl ?_
  refine A_get hE 4 dX7_speak_1 rfl fkX7_20 rfl rfl ?_
  refine A_if_ne hE 7 14 dX7_speak_4 rfl rfl (fun c4 => absurd rfl c4) (fun c4 => ?_)
  refine A_iload hE 9 dX7_speak_7 rfl rfl ?_
  refine A_bipush hE 11 dX7_speak_9 rfl (10) (by decide) ?_
  refine A_icmp_le hE 14 16 dX7_speak_11 rfl rfl (fun c11 => ?_) (fun c11 => absurd (nI_le (b := 10) (show dep ≤ 10 by omega) (by omega)) c11)
  refine A_iload_n hE 17 dX7_speak_16 rfl rfl ?_
  refine A_iload_n hE 18 dX7_speak_17 rfl rfl ?_
  refine A_callSi hE 21 (c_own_3_1) [] dX7_speak_18 rfl mkX7_50 rfl rfl rfl rfl rfl rfl (Nat.le_of_ble_eq_true rfl) (Nat.le_of_ble_eq_true rfl) rfl (fun x18 h18 g18 hp18 hw18 => ?_)
  obtain ⟨rfl, rfl⟩ := hp18
  obtain rfl := Option.some.inj hw18
  refine A_istore hE 23 dX7_speak_21 rfl rfl rfl ?_
  refine A_gsBodies hE 26 dX7_speak_23 rfl flBod ?_
  refine A_iconst hE 27 dX7_speak_26 rfl (4) rfl ?_
  refine A_iload hE 29 dX7_speak_27 rfl rfl ?_
  refine A_imul hE 30 dX7_speak_29 rfl ?_
  refine A_iload_n hE 31 dX7_speak_30 rfl rfl ?_
  refine A_iadd hE 32 dX7_speak_31 rfl ?_
  refine A_tabB hE 33 7 dX7_speak_32 rfl (by decide) (by decide) (21) (by decide) ?_
  refine A_istore hE 35 dX7_speak_33 rfl rfl rfl ?_
  refine A_gsAboveN hE 38 dX7_speak_35 rfl ?_
  refine A_iload hE 40 dX7_speak_38 rfl rfl ?_
  refine A_tabA hE 41 1 dX7_speak_40 rfl (by decide) (by decide) (0) (by decide) ?_
  refine A_istore hE 43 dX7_speak_41 rfl rfl rfl ?_
  refine A_iload hE 45 dX7_speak_43 rfl rfl ?_
  refine A_iconst hE 46 dX7_speak_45 rfl (1) rfl ?_
  refine A_iadd hE 47 dX7_speak_46 rfl ?_
  rw [nI_1]
  refine A_istore hE 49 dX7_speak_47 rfl rfl rfl ?_
  refine A_aload_n hE 50 dX7_speak_49 rfl rfl ?_
  refine A_get hE 53 dX7_speak_50 rfl fkX7_14 rfl rfl ?_
  refine A_iload hE 55 dX7_speak_53 rfl rfl ?_
  refine A_callVv hE 58 (c_X3_add 30 tr tn 21 htn rfl) [1, 2] dX7_speak_55 rfl mkX7_60 rfl rfl rfl rfl rfl rfl rfl (Nat.le_of_ble_eq_true rfl) (Nat.le_of_ble_eq_true rfl) rfl (fun h55 g55 hp55 hw55 => ?_)
  obtain rfl := hp55
  obtain rfl := Option.some.inj hw55
  refine A_h (VW 0 K k m (pN tn) (pF tn tr 21)) rfl ?_
  refine A_iload hE 60 dX7_speak_58 rfl rfl ?_
  refine A_lookup hE 235 dX7_speak_60 (by decide) (off := 175) (by decide) rfl ?_
  refine A_aload_n hE 236 dX7_speak_235 rfl rfl ?_
  refine A_iconst hE 237 dX7_speak_236 rfl (3) rfl ?_
  refine A_iload hE 239 dX7_speak_237 rfl rfl ?_
  refine A_iload_n hE 240 dX7_speak_239 rfl rfl ?_
  refine A_iload hE 242 dX7_speak_240 rfl rfl ?_
  refine A_callVi hE 245 (c_pap_0 K k m x (pN tn) (pF tn tr 21) (dep + 1) hK (pN_le htn) (by omega) hm) [0, 1, 2] dX7_speak_242 rfl mkX7_46 rfl rfl rfl rfl rfl rfl rfl (Nat.le_of_ble_eq_true rfl) (Nat.le_of_ble_eq_true rfl) rfl (fun x242 h242 g242 hp242 hw242 => ?_)
  obtain ⟨rfl, rfl⟩ := hp242
  obtain rfl := Option.some.inj hw242
  refine A_h (VW 1 K k m (apN (paTp 0) (pN tn)) (apF (paTp 0) (pN tn) (pF tn tr 21))) rfl ?_
  refine A_aload_n hE 246 dX7_speak_245 rfl rfl ?_
  refine A_iconst hE 247 dX7_speak_246 rfl (1) rfl ?_
  refine A_aload_n hE 248 dX7_speak_247 rfl rfl ?_
  refine A_get hE 251 dX7_speak_248 rfl fkX7_24 rfl rfl ?_
  refine A_iconst hE 252 dX7_speak_251 rfl (1) rfl ?_
  refine A_iload hE 254 dX7_speak_252 rfl rfl ?_
  refine A_callVi hE 257 (c_speak_p K k m 1 1 (nI K) (nI (dep + 1)) (apN (paTp 0) (pN tn)) (apF (paTp 0) (pN tn) (pF tn tr 21))) [0, 1, 2] dX7_speak_254 rfl mkX7_46 rfl rfl rfl rfl rfl rfl rfl (Nat.le_of_ble_eq_true rfl) (Nat.le_of_ble_eq_true rfl) rfl (fun x254 h254 g254 hp254 hw254 => ?_)
  obtain ⟨rfl, rfl⟩ := hp254
  obtain rfl := Option.some.inj hw254
  refine A_h (VW 1 K k m (apN (paTp 0) (pN tn)) (apF (paTp 0) (pN tn) (pF tn tr 21))) rfl ?_
  refine A_iadd hE 258 dX7_speak_257 rfl ?_
  refine A_iret hE dX7_speak_258 ⟨rfl, rfl⟩
set_option maxRecDepth 100000 in
theorem c_pap_4 (K : Nat) (k m x : Int32) (tn : Nat) (tr : Nat → Int32) (dep : Nat) (hK : K < 7) (htn : tn ≤ 30) (hd : dep + 6 ≤ 10) (hm : m = k) : AMet yX7_speak cX7_speak 9 (some (.int)) 7 0 0 [.ref 0, .int 3, .int 4, .int x, .int (nI dep)] (VW 0 K k m tn tr) (pI fun r h => r = 0 ∧ h = VW 1 K k m (apN (paTp 4) tn) (apF (paTp 4) tn tr)) := by
  refine AMet.of (by decide +kernel) rfl (fun E ad0 hE => ?_)
  refine A_aload_n hE 1 dX7_speak_0 rfl rfl ?_
  refine A_get hE 4 dX7_speak_1 rfl fkX7_20 rfl rfl ?_
  refine A_if_ne hE 7 14 dX7_speak_4 rfl rfl (fun c4 => absurd rfl c4) (fun c4 => ?_)
  refine A_iload hE 9 dX7_speak_7 rfl rfl ?_
  refine A_bipush hE 11 dX7_speak_9 rfl (10) (by decide) ?_
  refine A_icmp_le hE 14 16 dX7_speak_11 rfl rfl (fun c11 => ?_) (fun c11 => absurd (nI_le (b := 10) (show dep ≤ 10 by omega) (by omega)) c11)
  refine A_iload_n hE 17 dX7_speak_16 rfl rfl ?_
  refine A_iload_n hE 18 dX7_speak_17 rfl rfl ?_
  refine A_callSi hE 21 (c_own_3_4) [] dX7_speak_18 rfl mkX7_50 rfl rfl rfl rfl rfl rfl (Nat.le_of_ble_eq_true rfl) (Nat.le_of_ble_eq_true rfl) rfl (fun x18 h18 g18 hp18 hw18 => ?_)
  obtain ⟨rfl, rfl⟩ := hp18
  obtain rfl := Option.some.inj hw18
  refine A_istore hE 23 dX7_speak_21 rfl rfl rfl ?_
  refine A_gsBodies hE 26 dX7_speak_23 rfl flBod ?_
  refine A_iconst hE 27 dX7_speak_26 rfl (4) rfl ?_
  refine A_iload hE 29 dX7_speak_27 rfl rfl ?_
  refine A_imul hE 30 dX7_speak_29 rfl ?_
  refine A_iload_n hE 31 dX7_speak_30 rfl rfl ?_
  refine A_iadd hE 32 dX7_speak_31 rfl ?_
  refine A_tabB hE 33 7 dX7_speak_32 rfl (by decide) (by decide) (21) (by decide) ?_
  refine A_istore hE 35 dX7_speak_33 rfl rfl rfl ?_
  refine A_gsAboveN hE 38 dX7_speak_35 rfl ?_
  refine A_iload hE 40 dX7_speak_38 rfl rfl ?_
  refine A_tabA hE 41 1 dX7_speak_40 rfl (by decide) (by decide) (0) (by decide) ?_
  refine A_istore hE 43 dX7_speak_41 rfl rfl rfl ?_
  refine A_iload hE 45 dX7_speak_43 rfl rfl ?_
  refine A_iconst hE 46 dX7_speak_45 rfl (1) rfl ?_
  refine A_iadd hE 47 dX7_speak_46 rfl ?_
  rw [nI_1]
  refine A_istore hE 49 dX7_speak_47 rfl rfl rfl ?_
  refine A_aload_n hE 50 dX7_speak_49 rfl rfl ?_
  refine A_get hE 53 dX7_speak_50 rfl fkX7_14 rfl rfl ?_
  refine A_iload hE 55 dX7_speak_53 rfl rfl ?_
  refine A_callVv hE 58 (c_X3_add 30 tr tn 21 htn rfl) [1, 2] dX7_speak_55 rfl mkX7_60 rfl rfl rfl rfl rfl rfl rfl (Nat.le_of_ble_eq_true rfl) (Nat.le_of_ble_eq_true rfl) rfl (fun h55 g55 hp55 hw55 => ?_)
  obtain rfl := hp55
  obtain rfl := Option.some.inj hw55
  refine A_h (VW 0 K k m (pN tn) (pF tn tr 21)) rfl ?_
  refine A_iload hE 60 dX7_speak_58 rfl rfl ?_
  refine A_lookup hE 235 dX7_speak_60 (by decide) (off := 175) (by decide) rfl ?_
  refine A_aload_n hE 236 dX7_speak_235 rfl rfl ?_
  refine A_iconst hE 237 dX7_speak_236 rfl (3) rfl ?_
  refine A_iload hE 239 dX7_speak_237 rfl rfl ?_
  refine A_iload_n hE 240 dX7_speak_239 rfl rfl ?_
  refine A_iload hE 242 dX7_speak_240 rfl rfl ?_
  refine A_callVi hE 245 (c_pap_0 K k m x (pN tn) (pF tn tr 21) (dep + 1) hK (pN_le htn) (by omega) hm) [0, 1, 2] dX7_speak_242 rfl mkX7_46 rfl rfl rfl rfl rfl rfl rfl (Nat.le_of_ble_eq_true rfl) (Nat.le_of_ble_eq_true rfl) rfl (fun x242 h242 g242 hp242 hw242 => ?_)
  obtain ⟨rfl, rfl⟩ := hp242
  obtain rfl := Option.some.inj hw242
  refine A_h (VW 1 K k m (apN (paTp 0) (pN tn)) (apF (paTp 0) (pN tn) (pF tn tr 21))) rfl ?_
  refine A_aload_n hE 246 dX7_speak_245 rfl rfl ?_
  refine A_iconst hE 247 dX7_speak_246 rfl (1) rfl ?_
  refine A_aload_n hE 248 dX7_speak_247 rfl rfl ?_
  refine A_get hE 251 dX7_speak_248 rfl fkX7_24 rfl rfl ?_
  refine A_iconst hE 252 dX7_speak_251 rfl (1) rfl ?_
  refine A_iload hE 254 dX7_speak_252 rfl rfl ?_
  refine A_callVi hE 257 (c_speak_p K k m 1 1 (nI K) (nI (dep + 1)) (apN (paTp 0) (pN tn)) (apF (paTp 0) (pN tn) (pF tn tr 21))) [0, 1, 2] dX7_speak_254 rfl mkX7_46 rfl rfl rfl rfl rfl rfl rfl (Nat.le_of_ble_eq_true rfl) (Nat.le_of_ble_eq_true rfl) rfl (fun x254 h254 g254 hp254 hw254 => ?_)
  obtain ⟨rfl, rfl⟩ := hp254
  obtain rfl := Option.some.inj hw254
  refine A_h (VW 1 K k m (apN (paTp 0) (pN tn)) (apF (paTp 0) (pN tn) (pF tn tr 21))) rfl ?_
  refine A_iadd hE 258 dX7_speak_257 rfl ?_
  refine A_iret hE dX7_speak_258 ⟨rfl, rfl⟩
set_option maxRecDepth 100000 in
theorem c_pan_0 (K : Nat) (k m x : Int32) (tn : Nat) (tr : Nat → Int32) (dep : Nat) (hK : K < 7) (htn : tn ≤ 30) (hd : dep + 0 ≤ 10) (hm : ¬ m = k) : AMet yX7_speak cX7_speak 9 (some (.int)) 1 0 0 [.ref 0, .int 3, .int 0, .int x, .int (nI dep)] (VW 0 K k m tn tr) (pI fun r h => r = paV k m K 0 x ∧ h = VW 0 K k m (apN (paT K 0) tn) (apF (paT K 0) tn tr)) := by
  refine AMet.of (by decide +kernel) rfl (fun E ad0 hE => ?_)
  refine A_aload_n hE 1 dX7_speak_0 rfl rfl ?_
  refine A_get hE 4 dX7_speak_1 rfl fkX7_20 rfl rfl ?_
  refine A_if_ne hE 7 14 dX7_speak_4 rfl rfl (fun c4 => absurd rfl c4) (fun c4 => ?_)
  refine A_iload hE 9 dX7_speak_7 rfl rfl ?_
  refine A_bipush hE 11 dX7_speak_9 rfl (10) (by decide) ?_
  refine A_icmp_le hE 14 16 dX7_speak_11 rfl rfl (fun c11 => ?_) (fun c11 => absurd (nI_le (b := 10) (show dep ≤ 10 by omega) (by omega)) c11)
  refine A_iload_n hE 17 dX7_speak_16 rfl rfl ?_
  refine A_iload_n hE 18 dX7_speak_17 rfl rfl ?_
  refine A_callSi hE 21 (c_own_3_0) [] dX7_speak_18 rfl mkX7_50 rfl rfl rfl rfl rfl rfl (Nat.le_of_ble_eq_true rfl) (Nat.le_of_ble_eq_true rfl) rfl (fun x18 h18 g18 hp18 hw18 => ?_)
  obtain ⟨rfl, rfl⟩ := hp18
  obtain rfl := Option.some.inj hw18
  refine A_istore hE 23 dX7_speak_21 rfl rfl rfl ?_
  refine A_gsBodies hE 26 dX7_speak_23 rfl flBod ?_
  refine A_iconst hE 27 dX7_speak_26 rfl (4) rfl ?_
  refine A_iload hE 29 dX7_speak_27 rfl rfl ?_
  refine A_imul hE 30 dX7_speak_29 rfl ?_
  refine A_iload_n hE 31 dX7_speak_30 rfl rfl ?_
  refine A_iadd hE 32 dX7_speak_31 rfl ?_
  refine A_tabB hE 33 3 dX7_speak_32 rfl (by decide) (by decide) (13) (by decide) ?_
  refine A_istore hE 35 dX7_speak_33 rfl rfl rfl ?_
  refine A_gsAboveN hE 38 dX7_speak_35 rfl ?_
  refine A_iload hE 40 dX7_speak_38 rfl rfl ?_
  refine A_tabA hE 41 0 dX7_speak_40 rfl (by decide) (by decide) (0) (by decide) ?_
  refine A_istore hE 43 dX7_speak_41 rfl rfl rfl ?_
  refine A_iload hE 45 dX7_speak_43 rfl rfl ?_
  refine A_iconst hE 46 dX7_speak_45 rfl (1) rfl ?_
  refine A_iadd hE 47 dX7_speak_46 rfl ?_
  rw [nI_1]
  refine A_istore hE 49 dX7_speak_47 rfl rfl rfl ?_
  refine A_aload_n hE 50 dX7_speak_49 rfl rfl ?_
  refine A_get hE 53 dX7_speak_50 rfl fkX7_14 rfl rfl ?_
  refine A_iload hE 55 dX7_speak_53 rfl rfl ?_
  refine A_callVv hE 58 (c_X3_add 30 tr tn 13 htn rfl) [1, 2] dX7_speak_55 rfl mkX7_60 rfl rfl rfl rfl rfl rfl rfl (Nat.le_of_ble_eq_true rfl) (Nat.le_of_ble_eq_true rfl) rfl (fun h55 g55 hp55 hw55 => ?_)
  obtain rfl := hp55
  obtain rfl := Option.some.inj hw55
  refine A_h (VW 0 K k m (pN tn) (pF tn tr 13)) rfl ?_
  refine A_iload hE 60 dX7_speak_58 rfl rfl ?_
  refine A_lookup hE 216 dX7_speak_60 (by decide) (off := 156) (by decide) rfl ?_
  refine A_aload_n hE 217 dX7_speak_216 rfl rfl ?_
  refine A_iload_n hE 218 dX7_speak_217 rfl rfl ?_
  refine A_callVi hE 221 (c_part_n K k m x (pN tn) (pF tn tr 13) hm) [0, 1, 2] dX7_speak_218 rfl mkX7_63 rfl rfl rfl rfl rfl rfl rfl (Nat.le_of_ble_eq_true rfl) (Nat.le_of_ble_eq_true rfl) rfl (fun x218 h218 g218 hp218 hw218 => ?_)
  obtain ⟨rfl, rfl⟩ := hp218
  obtain rfl := Option.some.inj hw218
  refine A_h (VW 0 K k m (pN tn) (pF tn tr 13)) rfl ?_
  refine A_iret hE dX7_speak_221 ⟨rfl, rfl⟩
set_option maxRecDepth 100000 in
theorem c_pan_2 (K : Nat) (k m x : Int32) (tn : Nat) (tr : Nat → Int32) (dep : Nat) (hK : K < 7) (htn : tn ≤ 30) (hd : dep + 0 ≤ 10) (hm : ¬ m = k) : AMet yX7_speak cX7_speak 9 (some (.int)) 1 0 0 [.ref 0, .int 3, .int 2, .int x, .int (nI dep)] (VW 0 K k m tn tr) (pI fun r h => r = paV k m K 2 x ∧ h = VW 0 K k m (apN (paT K 2) tn) (apF (paT K 2) tn tr)) := by
  refine AMet.of (by decide +kernel) rfl (fun E ad0 hE => ?_)
  refine A_aload_n hE 1 dX7_speak_0 rfl rfl ?_
  refine A_get hE 4 dX7_speak_1 rfl fkX7_20 rfl rfl ?_
  refine A_if_ne hE 7 14 dX7_speak_4 rfl rfl (fun c4 => absurd rfl c4) (fun c4 => ?_)
  refine A_iload hE 9 dX7_speak_7 rfl rfl ?_
  refine A_bipush hE 11 dX7_speak_9 rfl (10) (by decide) ?_
  refine A_icmp_le hE 14 16 dX7_speak_11 rfl rfl (fun c11 => ?_) (fun c11 => absurd (nI_le (b := 10) (show dep ≤ 10 by omega) (by omega)) c11)
  refine A_iload_n hE 17 dX7_speak_16 rfl rfl ?_
  refine A_iload_n hE 18 dX7_speak_17 rfl rfl ?_
  refine A_callSi hE 21 (c_own_3_2) [] dX7_speak_18 rfl mkX7_50 rfl rfl rfl rfl rfl rfl (Nat.le_of_ble_eq_true rfl) (Nat.le_of_ble_eq_true rfl) rfl (fun x18 h18 g18 hp18 hw18 => ?_)
  obtain ⟨rfl, rfl⟩ := hp18
  obtain rfl := Option.some.inj hw18
  refine A_istore hE 23 dX7_speak_21 rfl rfl rfl ?_
  refine A_gsBodies hE 26 dX7_speak_23 rfl flBod ?_
  refine A_iconst hE 27 dX7_speak_26 rfl (4) rfl ?_
  refine A_iload hE 29 dX7_speak_27 rfl rfl ?_
  refine A_imul hE 30 dX7_speak_29 rfl ?_
  refine A_iload_n hE 31 dX7_speak_30 rfl rfl ?_
  refine A_iadd hE 32 dX7_speak_31 rfl ?_
  refine A_tabB hE 33 3 dX7_speak_32 rfl (by decide) (by decide) (13) (by decide) ?_
  refine A_istore hE 35 dX7_speak_33 rfl rfl rfl ?_
  refine A_gsAboveN hE 38 dX7_speak_35 rfl ?_
  refine A_iload hE 40 dX7_speak_38 rfl rfl ?_
  refine A_tabA hE 41 0 dX7_speak_40 rfl (by decide) (by decide) (0) (by decide) ?_
  refine A_istore hE 43 dX7_speak_41 rfl rfl rfl ?_
  refine A_iload hE 45 dX7_speak_43 rfl rfl ?_
  refine A_iconst hE 46 dX7_speak_45 rfl (1) rfl ?_
  refine A_iadd hE 47 dX7_speak_46 rfl ?_
  rw [nI_1]
  refine A_istore hE 49 dX7_speak_47 rfl rfl rfl ?_
  refine A_aload_n hE 50 dX7_speak_49 rfl rfl ?_
  refine A_get hE 53 dX7_speak_50 rfl fkX7_14 rfl rfl ?_
  refine A_iload hE 55 dX7_speak_53 rfl rfl ?_
  refine A_callVv hE 58 (c_X3_add 30 tr tn 13 htn rfl) [1, 2] dX7_speak_55 rfl mkX7_60 rfl rfl rfl rfl rfl rfl rfl (Nat.le_of_ble_eq_true rfl) (Nat.le_of_ble_eq_true rfl) rfl (fun h55 g55 hp55 hw55 => ?_)
  obtain rfl := hp55
  obtain rfl := Option.some.inj hw55
  refine A_h (VW 0 K k m (pN tn) (pF tn tr 13)) rfl ?_
  refine A_iload hE 60 dX7_speak_58 rfl rfl ?_
  refine A_lookup hE 216 dX7_speak_60 (by decide) (off := 156) (by decide) rfl ?_
  refine A_aload_n hE 217 dX7_speak_216 rfl rfl ?_
  refine A_iload_n hE 218 dX7_speak_217 rfl rfl ?_
  refine A_callVi hE 221 (c_part_n K k m x (pN tn) (pF tn tr 13) hm) [0, 1, 2] dX7_speak_218 rfl mkX7_63 rfl rfl rfl rfl rfl rfl rfl (Nat.le_of_ble_eq_true rfl) (Nat.le_of_ble_eq_true rfl) rfl (fun x218 h218 g218 hp218 hw218 => ?_)
  obtain ⟨rfl, rfl⟩ := hp218
  obtain rfl := Option.some.inj hw218
  refine A_h (VW 0 K k m (pN tn) (pF tn tr 13)) rfl ?_
  refine A_iret hE dX7_speak_221 ⟨rfl, rfl⟩
set_option maxRecDepth 100000 in
theorem c_pan_3 (K : Nat) (k m x : Int32) (tn : Nat) (tr : Nat → Int32) (dep : Nat) (hK : K < 7) (htn : tn ≤ 30) (hd : dep + 0 ≤ 10) (hm : ¬ m = k) : AMet yX7_speak cX7_speak 9 (some (.int)) 1 0 0 [.ref 0, .int 3, .int 3, .int x, .int (nI dep)] (VW 0 K k m tn tr) (pI fun r h => r = paV k m K 3 x ∧ h = VW 0 K k m (apN (paT K 3) tn) (apF (paT K 3) tn tr)) := by
  refine AMet.of (by decide +kernel) rfl (fun E ad0 hE => ?_)
  refine A_aload_n hE 1 dX7_speak_0 rfl rfl ?_
  refine A_get hE 4 dX7_speak_1 rfl fkX7_20 rfl rfl ?_
  refine A_if_ne hE 7 14 dX7_speak_4 rfl rfl (fun c4 => absurd rfl c4) (fun c4 => ?_)
  refine A_iload hE 9 dX7_speak_7 rfl rfl ?_
  refine A_bipush hE 11 dX7_speak_9 rfl (10) (by decide) ?_
  refine A_icmp_le hE 14 16 dX7_speak_11 rfl rfl (fun c11 => ?_) (fun c11 => absurd (nI_le (b := 10) (show dep ≤ 10 by omega) (by omega)) c11)
  refine A_iload_n hE 17 dX7_speak_16 rfl rfl ?_
  refine A_iload_n hE 18 dX7_speak_17 rfl rfl ?_
  refine A_callSi hE 21 (c_own_3_3) [] dX7_speak_18 rfl mkX7_50 rfl rfl rfl rfl rfl rfl (Nat.le_of_ble_eq_true rfl) (Nat.le_of_ble_eq_true rfl) rfl (fun x18 h18 g18 hp18 hw18 => ?_)
  obtain ⟨rfl, rfl⟩ := hp18
  obtain rfl := Option.some.inj hw18
  refine A_istore hE 23 dX7_speak_21 rfl rfl rfl ?_
  refine A_gsBodies hE 26 dX7_speak_23 rfl flBod ?_
  refine A_iconst hE 27 dX7_speak_26 rfl (4) rfl ?_
  refine A_iload hE 29 dX7_speak_27 rfl rfl ?_
  refine A_imul hE 30 dX7_speak_29 rfl ?_
  refine A_iload_n hE 31 dX7_speak_30 rfl rfl ?_
  refine A_iadd hE 32 dX7_speak_31 rfl ?_
  refine A_tabB hE 33 3 dX7_speak_32 rfl (by decide) (by decide) (13) (by decide) ?_
  refine A_istore hE 35 dX7_speak_33 rfl rfl rfl ?_
  refine A_gsAboveN hE 38 dX7_speak_35 rfl ?_
  refine A_iload hE 40 dX7_speak_38 rfl rfl ?_
  refine A_tabA hE 41 0 dX7_speak_40 rfl (by decide) (by decide) (0) (by decide) ?_
  refine A_istore hE 43 dX7_speak_41 rfl rfl rfl ?_
  refine A_iload hE 45 dX7_speak_43 rfl rfl ?_
  refine A_iconst hE 46 dX7_speak_45 rfl (1) rfl ?_
  refine A_iadd hE 47 dX7_speak_46 rfl ?_
  rw [nI_1]
  refine A_istore hE 49 dX7_speak_47 rfl rfl rfl ?_
  refine A_aload_n hE 50 dX7_speak_49 rfl rfl ?_
  refine A_get hE 53 dX7_speak_50 rfl fkX7_14 rfl rfl ?_
  refine A_iload hE 55 dX7_speak_53 rfl rfl ?_
  refine A_callVv hE 58 (c_X3_add 30 tr tn 13 htn rfl) [1, 2] dX7_speak_55 rfl mkX7_60 rfl rfl rfl rfl rfl rfl rfl (Nat.le_of_ble_eq_true rfl) (Nat.le_of_ble_eq_true rfl) rfl (fun h55 g55 hp55 hw55 => ?_)
  obtain rfl := hp55
  obtain rfl := Option.some.inj hw55
  refine A_h (VW 0 K k m (pN tn) (pF tn tr 13)) rfl ?_
  refine A_iload hE 60 dX7_speak_58 rfl rfl ?_
  refine A_lookup hE 216 dX7_speak_60 (by decide) (off := 156) (by decide) rfl ?_
  refine A_aload_n hE 217 dX7_speak_216 rfl rfl ?_
  refine A_iload_n hE 218 dX7_speak_217 rfl rfl ?_
  refine A_callVi hE 221 (c_part_n K k m x (pN tn) (pF tn tr 13) hm) [0, 1, 2] dX7_speak_218 rfl mkX7_63 rfl rfl rfl rfl rfl rfl rfl (Nat.le_of_ble_eq_true rfl) (Nat.le_of_ble_eq_true rfl) rfl (fun x218 h218 g218 hp218 hw218 => ?_)
  obtain ⟨rfl, rfl⟩ := hp218
  obtain rfl := Option.some.inj hw218
  refine A_h (VW 0 K k m (pN tn) (pF tn tr 13)) rfl ?_
  refine A_iret hE dX7_speak_221 ⟨rfl, rfl⟩
set_option maxRecDepth 100000 in
theorem c_pan_5 (K : Nat) (k m x : Int32) (tn : Nat) (tr : Nat → Int32) (dep : Nat) (hK : K < 7) (htn : tn ≤ 30) (hd : dep + 0 ≤ 10) (hm : ¬ m = k) : AMet yX7_speak cX7_speak 9 (some (.int)) 1 0 0 [.ref 0, .int 3, .int 5, .int x, .int (nI dep)] (VW 0 K k m tn tr) (pI fun r h => r = paV k m K 5 x ∧ h = VW 0 K k m (apN (paT K 5) tn) (apF (paT K 5) tn tr)) := by
  refine AMet.of (by decide +kernel) rfl (fun E ad0 hE => ?_)
  refine A_aload_n hE 1 dX7_speak_0 rfl rfl ?_
  refine A_get hE 4 dX7_speak_1 rfl fkX7_20 rfl rfl ?_
  refine A_if_ne hE 7 14 dX7_speak_4 rfl rfl (fun c4 => absurd rfl c4) (fun c4 => ?_)
  refine A_iload hE 9 dX7_speak_7 rfl rfl ?_
  refine A_bipush hE 11 dX7_speak_9 rfl (10) (by decide) ?_
  refine A_icmp_le hE 14 16 dX7_speak_11 rfl rfl (fun c11 => ?_) (fun c11 => absurd (nI_le (b := 10) (show dep ≤ 10 by omega) (by omega)) c11)
  refine A_iload_n hE 17 dX7_speak_16 rfl rfl ?_
  refine A_iload_n hE 18 dX7_speak_17 rfl rfl ?_
  refine A_callSi hE 21 (c_own_3_5) [] dX7_speak_18 rfl mkX7_50 rfl rfl rfl rfl rfl rfl (Nat.le_of_ble_eq_true rfl) (Nat.le_of_ble_eq_true rfl) rfl (fun x18 h18 g18 hp18 hw18 => ?_)
  obtain ⟨rfl, rfl⟩ := hp18
  obtain rfl := Option.some.inj hw18
  refine A_istore hE 23 dX7_speak_21 rfl rfl rfl ?_
  refine A_gsBodies hE 26 dX7_speak_23 rfl flBod ?_
  refine A_iconst hE 27 dX7_speak_26 rfl (4) rfl ?_
  refine A_iload hE 29 dX7_speak_27 rfl rfl ?_
  refine A_imul hE 30 dX7_speak_29 rfl ?_
  refine A_iload_n hE 31 dX7_speak_30 rfl rfl ?_
  refine A_iadd hE 32 dX7_speak_31 rfl ?_
  refine A_tabB hE 33 3 dX7_speak_32 rfl (by decide) (by decide) (13) (by decide) ?_
  refine A_istore hE 35 dX7_speak_33 rfl rfl rfl ?_
  refine A_gsAboveN hE 38 dX7_speak_35 rfl ?_
  refine A_iload hE 40 dX7_speak_38 rfl rfl ?_
  refine A_tabA hE 41 0 dX7_speak_40 rfl (by decide) (by decide) (0) (by decide) ?_
  refine A_istore hE 43 dX7_speak_41 rfl rfl rfl ?_
  refine A_iload hE 45 dX7_speak_43 rfl rfl ?_
  refine A_iconst hE 46 dX7_speak_45 rfl (1) rfl ?_
  refine A_iadd hE 47 dX7_speak_46 rfl ?_
  rw [nI_1]
  refine A_istore hE 49 dX7_speak_47 rfl rfl rfl ?_
  refine A_aload_n hE 50 dX7_speak_49 rfl rfl ?_
  refine A_get hE 53 dX7_speak_50 rfl fkX7_14 rfl rfl ?_
  refine A_iload hE 55 dX7_speak_53 rfl rfl ?_
  refine A_callVv hE 58 (c_X3_add 30 tr tn 13 htn rfl) [1, 2] dX7_speak_55 rfl mkX7_60 rfl rfl rfl rfl rfl rfl rfl (Nat.le_of_ble_eq_true rfl) (Nat.le_of_ble_eq_true rfl) rfl (fun h55 g55 hp55 hw55 => ?_)
  obtain rfl := hp55
  obtain rfl := Option.some.inj hw55
  refine A_h (VW 0 K k m (pN tn) (pF tn tr 13)) rfl ?_
  refine A_iload hE 60 dX7_speak_58 rfl rfl ?_
  refine A_lookup hE 216 dX7_speak_60 (by decide) (off := 156) (by decide) rfl ?_
  refine A_aload_n hE 217 dX7_speak_216 rfl rfl ?_
  refine A_iload_n hE 218 dX7_speak_217 rfl rfl ?_
  refine A_callVi hE 221 (c_part_n K k m x (pN tn) (pF tn tr 13) hm) [0, 1, 2] dX7_speak_218 rfl mkX7_63 rfl rfl rfl rfl rfl rfl rfl (Nat.le_of_ble_eq_true rfl) (Nat.le_of_ble_eq_true rfl) rfl (fun x218 h218 g218 hp218 hw218 => ?_)
  obtain ⟨rfl, rfl⟩ := hp218
  obtain rfl := Option.some.inj hw218
  refine A_h (VW 0 K k m (pN tn) (pF tn tr 13)) rfl ?_
  refine A_iret hE dX7_speak_221 ⟨rfl, rfl⟩
set_option maxRecDepth 100000 in
theorem c_pan_6 (K : Nat) (k m x : Int32) (tn : Nat) (tr : Nat → Int32) (dep : Nat) (hK : K < 7) (htn : tn ≤ 30) (hd : dep + 0 ≤ 10) (hm : ¬ m = k) : AMet yX7_speak cX7_speak 9 (some (.int)) 1 0 0 [.ref 0, .int 3, .int 6, .int x, .int (nI dep)] (VW 0 K k m tn tr) (pI fun r h => r = paV k m K 6 x ∧ h = VW 0 K k m (apN (paT K 6) tn) (apF (paT K 6) tn tr)) := by
  refine AMet.of (by decide +kernel) rfl (fun E ad0 hE => ?_)
  refine A_aload_n hE 1 dX7_speak_0 rfl rfl ?_
  refine A_get hE 4 dX7_speak_1 rfl fkX7_20 rfl rfl ?_
  refine A_if_ne hE 7 14 dX7_speak_4 rfl rfl (fun c4 => absurd rfl c4) (fun c4 => ?_)
  refine A_iload hE 9 dX7_speak_7 rfl rfl ?_
  refine A_bipush hE 11 dX7_speak_9 rfl (10) (by decide) ?_
  refine A_icmp_le hE 14 16 dX7_speak_11 rfl rfl (fun c11 => ?_) (fun c11 => absurd (nI_le (b := 10) (show dep ≤ 10 by omega) (by omega)) c11)
  refine A_iload_n hE 17 dX7_speak_16 rfl rfl ?_
  refine A_iload_n hE 18 dX7_speak_17 rfl rfl ?_
  refine A_callSi hE 21 (c_own_3_6) [] dX7_speak_18 rfl mkX7_50 rfl rfl rfl rfl rfl rfl (Nat.le_of_ble_eq_true rfl) (Nat.le_of_ble_eq_true rfl) rfl (fun x18 h18 g18 hp18 hw18 => ?_)
  obtain ⟨rfl, rfl⟩ := hp18
  obtain rfl := Option.some.inj hw18
  refine A_istore hE 23 dX7_speak_21 rfl rfl rfl ?_
  refine A_gsBodies hE 26 dX7_speak_23 rfl flBod ?_
  refine A_iconst hE 27 dX7_speak_26 rfl (4) rfl ?_
  refine A_iload hE 29 dX7_speak_27 rfl rfl ?_
  refine A_imul hE 30 dX7_speak_29 rfl ?_
  refine A_iload_n hE 31 dX7_speak_30 rfl rfl ?_
  refine A_iadd hE 32 dX7_speak_31 rfl ?_
  refine A_tabB hE 33 3 dX7_speak_32 rfl (by decide) (by decide) (13) (by decide) ?_
  refine A_istore hE 35 dX7_speak_33 rfl rfl rfl ?_
  refine A_gsAboveN hE 38 dX7_speak_35 rfl ?_
  refine A_iload hE 40 dX7_speak_38 rfl rfl ?_
  refine A_tabA hE 41 0 dX7_speak_40 rfl (by decide) (by decide) (0) (by decide) ?_
  refine A_istore hE 43 dX7_speak_41 rfl rfl rfl ?_
  refine A_iload hE 45 dX7_speak_43 rfl rfl ?_
  refine A_iconst hE 46 dX7_speak_45 rfl (1) rfl ?_
  refine A_iadd hE 47 dX7_speak_46 rfl ?_
  rw [nI_1]
  refine A_istore hE 49 dX7_speak_47 rfl rfl rfl ?_
  refine A_aload_n hE 50 dX7_speak_49 rfl rfl ?_
  refine A_get hE 53 dX7_speak_50 rfl fkX7_14 rfl rfl ?_
  refine A_iload hE 55 dX7_speak_53 rfl rfl ?_
  refine A_callVv hE 58 (c_X3_add 30 tr tn 13 htn rfl) [1, 2] dX7_speak_55 rfl mkX7_60 rfl rfl rfl rfl rfl rfl rfl (Nat.le_of_ble_eq_true rfl) (Nat.le_of_ble_eq_true rfl) rfl (fun h55 g55 hp55 hw55 => ?_)
  obtain rfl := hp55
  obtain rfl := Option.some.inj hw55
  refine A_h (VW 0 K k m (pN tn) (pF tn tr 13)) rfl ?_
  refine A_iload hE 60 dX7_speak_58 rfl rfl ?_
  refine A_lookup hE 216 dX7_speak_60 (by decide) (off := 156) (by decide) rfl ?_
  refine A_aload_n hE 217 dX7_speak_216 rfl rfl ?_
  refine A_iload_n hE 218 dX7_speak_217 rfl rfl ?_
  refine A_callVi hE 221 (c_part_n K k m x (pN tn) (pF tn tr 13) hm) [0, 1, 2] dX7_speak_218 rfl mkX7_63 rfl rfl rfl rfl rfl rfl rfl (Nat.le_of_ble_eq_true rfl) (Nat.le_of_ble_eq_true rfl) rfl (fun x218 h218 g218 hp218 hw218 => ?_)
  obtain ⟨rfl, rfl⟩ := hp218
  obtain rfl := Option.some.inj hw218
  refine A_h (VW 0 K k m (pN tn) (pF tn tr 13)) rfl ?_
  refine A_iret hE dX7_speak_221 ⟨rfl, rfl⟩
set_option maxRecDepth 100000 in
theorem c_pan_1 (K : Nat) (k m x : Int32) (tn : Nat) (tr : Nat → Int32) (dep : Nat) (hK : K < 7) (htn : tn ≤ 30) (hd : dep + 6 ≤ 10) (hm : ¬ m = k) : AMet yX7_speak cX7_speak 9 (some (.int)) 7 0 0 [.ref 0, .int 3, .int 1, .int x, .int (nI dep)] (VW 0 K k m tn tr) (pI fun r h => r = paV k m K 1 x ∧ h = VW 0 K k m (apN (paT K 1) tn) (apF (paT K 1) tn tr)) := by
  refine AMet.of (by decide +kernel) rfl (fun E ad0 hE => ?_)
  refine A_aload_n hE 1 dX7_speak_0 rfl rfl ?_
  refine A_get hE 4 dX7_speak_1 rfl fkX7_20 rfl rfl ?_
  refine A_if_ne hE 7 14 dX7_speak_4 rfl rfl (fun c4 => absurd rfl c4) (fun c4 => ?_)
  refine A_iload hE 9 dX7_speak_7 rfl rfl ?_
  refine A_bipush hE 11 dX7_speak_9 rfl (10) (by decide) ?_
  refine A_icmp_le hE 14 16 dX7_speak_11 rfl rfl (fun c11 => ?_) (fun c11 => absurd (nI_le (b := 10) (show dep ≤ 10 by omega) (by omega)) c11)
  refine A_iload_n hE 17 dX7_speak_16 rfl rfl ?_
  refine A_iload_n hE 18 dX7_speak_17 rfl rfl ?_
  refine A_callSi hE 21 (c_own_3_1) [] dX7_speak_18 rfl mkX7_50 rfl rfl rfl rfl rfl rfl (Nat.le_of_ble_eq_true rfl) (Nat.le_of_ble_eq_true rfl) rfl (fun x18 h18 g18 hp18 hw18 => ?_)
  obtain ⟨rfl, rfl⟩ := hp18
  obtain rfl := Option.some.inj hw18
  refine A_istore hE 23 dX7_speak_21 rfl rfl rfl ?_
  refine A_gsBodies hE 26 dX7_speak_23 rfl flBod ?_
  refine A_iconst hE 27 dX7_speak_26 rfl (4) rfl ?_
  refine A_iload hE 29 dX7_speak_27 rfl rfl ?_
  refine A_imul hE 30 dX7_speak_29 rfl ?_
  refine A_iload_n hE 31 dX7_speak_30 rfl rfl ?_
  refine A_iadd hE 32 dX7_speak_31 rfl ?_
  refine A_tabB hE 33 7 dX7_speak_32 rfl (by decide) (by decide) (21) (by decide) ?_
  refine A_istore hE 35 dX7_speak_33 rfl rfl rfl ?_
  refine A_gsAboveN hE 38 dX7_speak_35 rfl ?_
  refine A_iload hE 40 dX7_speak_38 rfl rfl ?_
  refine A_tabA hE 41 1 dX7_speak_40 rfl (by decide) (by decide) (0) (by decide) ?_
  refine A_istore hE 43 dX7_speak_41 rfl rfl rfl ?_
  refine A_iload hE 45 dX7_speak_43 rfl rfl ?_
  refine A_iconst hE 46 dX7_speak_45 rfl (1) rfl ?_
  refine A_iadd hE 47 dX7_speak_46 rfl ?_
  rw [nI_1]
  refine A_istore hE 49 dX7_speak_47 rfl rfl rfl ?_
  refine A_aload_n hE 50 dX7_speak_49 rfl rfl ?_
  refine A_get hE 53 dX7_speak_50 rfl fkX7_14 rfl rfl ?_
  refine A_iload hE 55 dX7_speak_53 rfl rfl ?_
  refine A_callVv hE 58 (c_X3_add 30 tr tn 21 htn rfl) [1, 2] dX7_speak_55 rfl mkX7_60 rfl rfl rfl rfl rfl rfl rfl (Nat.le_of_ble_eq_true rfl) (Nat.le_of_ble_eq_true rfl) rfl (fun h55 g55 hp55 hw55 => ?_)
  obtain rfl := hp55
  obtain rfl := Option.some.inj hw55
  refine A_h (VW 0 K k m (pN tn) (pF tn tr 21)) rfl ?_
  refine A_iload hE 60 dX7_speak_58 rfl rfl ?_
  refine A_lookup hE 235 dX7_speak_60 (by decide) (off := 175) (by decide) rfl ?_
  refine A_aload_n hE 236 dX7_speak_235 rfl rfl ?_
  refine A_iconst hE 237 dX7_speak_236 rfl (3) rfl ?_
  refine A_iload hE 239 dX7_speak_237 rfl rfl ?_
  refine A_iload_n hE 240 dX7_speak_239 rfl rfl ?_
  refine A_iload hE 242 dX7_speak_240 rfl rfl ?_
  refine A_callVi hE 245 (c_pan_0 K k m x (pN tn) (pF tn tr 21) (dep + 1) hK (pN_le htn) (by omega) hm) [0, 1, 2] dX7_speak_242 rfl mkX7_46 rfl rfl rfl rfl rfl rfl rfl (Nat.le_of_ble_eq_true rfl) (Nat.le_of_ble_eq_true rfl) rfl (fun x242 h242 g242 hp242 hw242 => ?_)
  obtain ⟨rfl, rfl⟩ := hp242
  obtain rfl := Option.some.inj hw242
  refine A_h (VW 0 K k m (apN (paT K 0) (pN tn)) (apF (paT K 0) (pN tn) (pF tn tr 21))) rfl ?_
  refine A_aload_n hE 246 dX7_speak_245 rfl rfl ?_
  refine A_iconst hE 247 dX7_speak_246 rfl (1) rfl ?_
  refine A_aload_n hE 248 dX7_speak_247 rfl rfl ?_
  refine A_get hE 251 dX7_speak_248 rfl fkX7_24 rfl rfl ?_
  refine A_iconst hE 252 dX7_speak_251 rfl (1) rfl ?_
  refine A_iload hE 254 dX7_speak_252 rfl rfl ?_
  refine A_callVi hE 257 (c_sa K K k m 1 (apN (paT K 0) (pN tn)) (apF (paT K 0) (pN tn) (pF tn tr 21)) (dep + 1) hK hK (apN_le _ _ (pN_le htn)) (by omega)) [0, 1, 2] dX7_speak_254 rfl mkX7_46 rfl rfl rfl rfl rfl rfl rfl (Nat.le_of_ble_eq_true rfl) (Nat.le_of_ble_eq_true rfl) rfl (fun x254 h254 g254 hp254 hw254 => ?_)
  obtain ⟨rfl, rfl⟩ := hp254
  obtain rfl := Option.some.inj hw254
  refine A_h (VW 0 K k m (apN (saT K K) (apN (paT K 0) (pN tn))) (apF (saT K K) (apN (paT K 0) (pN tn)) (apF (paT K 0) (pN tn) (pF tn tr 21)))) rfl ?_
  refine A_iadd hE 258 dX7_speak_257 rfl ?_
  refine A_iret hE dX7_speak_258 ⟨rfl, rfl⟩
set_option maxRecDepth 100000 in
theorem c_pan_4 (K : Nat) (k m x : Int32) (tn : Nat) (tr : Nat → Int32) (dep : Nat) (hK : K < 7) (htn : tn ≤ 30) (hd : dep + 6 ≤ 10) (hm : ¬ m = k) : AMet yX7_speak cX7_speak 9 (some (.int)) 7 0 0 [.ref 0, .int 3, .int 4, .int x, .int (nI dep)] (VW 0 K k m tn tr) (pI fun r h => r = paV k m K 4 x ∧ h = VW 0 K k m (apN (paT K 4) tn) (apF (paT K 4) tn tr)) := by
  refine AMet.of (by decide +kernel) rfl (fun E ad0 hE => ?_)
  refine A_aload_n hE 1 dX7_speak_0 rfl rfl ?_
  refine A_get hE 4 dX7_speak_1 rfl fkX7_20 rfl rfl ?_
  refine A_if_ne hE 7 14 dX7_speak_4 rfl rfl (fun c4 => absurd rfl c4) (fun c4 => ?_)
  refine A_iload hE 9 dX7_speak_7 rfl rfl ?_
  refine A_bipush hE 11 dX7_speak_9 rfl (10) (by decide) ?_
  refine A_icmp_le hE 14 16 dX7_speak_11 rfl rfl (fun c11 => ?_) (fun c11 => absurd (nI_le (b := 10) (show dep ≤ 10 by omega) (by omega)) c11)
  refine A_iload_n hE 17 dX7_speak_16 rfl rfl ?_
  refine A_iload_n hE 18 dX7_speak_17 rfl rfl ?_
  refine A_callSi hE 21 (c_own_3_4) [] dX7_speak_18 rfl mkX7_50 rfl rfl rfl rfl rfl rfl (Nat.le_of_ble_eq_true rfl) (Nat.le_of_ble_eq_true rfl) rfl (fun x18 h18 g18 hp18 hw18 => ?_)
  obtain ⟨rfl, rfl⟩ := hp18
  obtain rfl := Option.some.inj hw18
  refine A_istore hE 23 dX7_speak_21 rfl rfl rfl ?_
  refine A_gsBodies hE 26 dX7_speak_23 rfl flBod ?_
  refine A_iconst hE 27 dX7_speak_26 rfl (4) rfl ?_
  refine A_iload hE 29 dX7_speak_27 rfl rfl ?_
  refine A_imul hE 30 dX7_speak_29 rfl ?_
  refine A_iload_n hE 31 dX7_speak_30 rfl rfl ?_
  refine A_iadd hE 32 dX7_speak_31 rfl ?_
  refine A_tabB hE 33 7 dX7_speak_32 rfl (by decide) (by decide) (21) (by decide) ?_
  refine A_istore hE 35 dX7_speak_33 rfl rfl rfl ?_
  refine A_gsAboveN hE 38 dX7_speak_35 rfl ?_
  refine A_iload hE 40 dX7_speak_38 rfl rfl ?_
  refine A_tabA hE 41 1 dX7_speak_40 rfl (by decide) (by decide) (0) (by decide) ?_
  refine A_istore hE 43 dX7_speak_41 rfl rfl rfl ?_
  refine A_iload hE 45 dX7_speak_43 rfl rfl ?_
  refine A_iconst hE 46 dX7_speak_45 rfl (1) rfl ?_
  refine A_iadd hE 47 dX7_speak_46 rfl ?_
  rw [nI_1]
  refine A_istore hE 49 dX7_speak_47 rfl rfl rfl ?_
  refine A_aload_n hE 50 dX7_speak_49 rfl rfl ?_
  refine A_get hE 53 dX7_speak_50 rfl fkX7_14 rfl rfl ?_
  refine A_iload hE 55 dX7_speak_53 rfl rfl ?_
  refine A_callVv hE 58 (c_X3_add 30 tr tn 21 htn rfl) [1, 2] dX7_speak_55 rfl mkX7_60 rfl rfl rfl rfl rfl rfl rfl (Nat.le_of_ble_eq_true rfl) (Nat.le_of_ble_eq_true rfl) rfl (fun h55 g55 hp55 hw55 => ?_)
  obtain rfl := hp55
  obtain rfl := Option.some.inj hw55
  refine A_h (VW 0 K k m (pN tn) (pF tn tr 21)) rfl ?_
  refine A_iload hE 60 dX7_speak_58 rfl rfl ?_
  refine A_lookup hE 235 dX7_speak_60 (by decide) (off := 175) (by decide) rfl ?_
  refine A_aload_n hE 236 dX7_speak_235 rfl rfl ?_
  refine A_iconst hE 237 dX7_speak_236 rfl (3) rfl ?_
  refine A_iload hE 239 dX7_speak_237 rfl rfl ?_
  refine A_iload_n hE 240 dX7_speak_239 rfl rfl ?_
  refine A_iload hE 242 dX7_speak_240 rfl rfl ?_
  refine A_callVi hE 245 (c_pan_0 K k m x (pN tn) (pF tn tr 21) (dep + 1) hK (pN_le htn) (by omega) hm) [0, 1, 2] dX7_speak_242 rfl mkX7_46 rfl rfl rfl rfl rfl rfl rfl (Nat.le_of_ble_eq_true rfl) (Nat.le_of_ble_eq_true rfl) rfl (fun x242 h242 g242 hp242 hw242 => ?_)
  obtain ⟨rfl, rfl⟩ := hp242
  obtain rfl := Option.some.inj hw242
  refine A_h (VW 0 K k m (apN (paT K 0) (pN tn)) (apF (paT K 0) (pN tn) (pF tn tr 21))) rfl ?_
  refine A_aload_n hE 246 dX7_speak_245 rfl rfl ?_
  refine A_iconst hE 247 dX7_speak_246 rfl (1) rfl ?_
  refine A_aload_n hE 248 dX7_speak_247 rfl rfl ?_
  refine A_get hE 251 dX7_speak_248 rfl fkX7_24 rfl rfl ?_
  refine A_iconst hE 252 dX7_speak_251 rfl (1) rfl ?_
  refine A_iload hE 254 dX7_speak_252 rfl rfl ?_
  refine A_callVi hE 257 (c_sa K K k m 1 (apN (paT K 0) (pN tn)) (apF (paT K 0) (pN tn) (pF tn tr 21)) (dep + 1) hK hK (apN_le _ _ (pN_le htn)) (by omega)) [0, 1, 2] dX7_speak_254 rfl mkX7_46 rfl rfl rfl rfl rfl rfl rfl (Nat.le_of_ble_eq_true rfl) (Nat.le_of_ble_eq_true rfl) rfl (fun x254 h254 g254 hp254 hw254 => ?_)
  obtain ⟨rfl, rfl⟩ := hp254
  obtain rfl := Option.some.inj hw254
  refine A_h (VW 0 K k m (apN (saT K K) (apN (paT K 0) (pN tn))) (apF (saT K K) (apN (paT K 0) (pN tn)) (apF (paT K 0) (pN tn) (pF tn tr 21)))) rfl ?_
  refine A_iadd hE 258 dX7_speak_257 rfl ?_
  refine A_iret hE dX7_speak_258 ⟨rfl, rfl⟩
theorem c_pap (f : Nat) (K : Nat) (k m x : Int32) (tn : Nat) (tr : Nat → Int32) (dep : Nat) (hf : f < 7) (hK : K < 7) (htn : tn ≤ 30) (hd : dep + 6 ≤ 10) (hm : m = k) : AMet yX7_speak cX7_speak 9 (some .int) 7 0 0 [.ref 0, .int 3, .int (nI f), .int x, .int (nI dep)] (VW 0 K k m tn tr) (pI fun r h => r = 0 ∧ h = VW 1 K k m (apN (paTp f) tn) (apF (paTp f) tn tr)) := by
  match f, hf with
  | 0, _ => exact (c_pap_0 K k m x tn tr dep hK htn (by omega) hm).mono rfl
  | 1, _ => exact (c_pap_1 K k m x tn tr dep hK htn (by omega) hm).mono rfl
  | 2, _ => exact (c_pap_2 K k m x tn tr dep hK htn (by omega) hm).mono rfl
  | 3, _ => exact (c_pap_3 K k m x tn tr dep hK htn (by omega) hm).mono rfl
  | 4, _ => exact (c_pap_4 K k m x tn tr dep hK htn (by omega) hm).mono rfl
  | 5, _ => exact (c_pap_5 K k m x tn tr dep hK htn (by omega) hm).mono rfl
  | 6, _ => exact (c_pap_6 K k m x tn tr dep hK htn (by omega) hm).mono rfl
theorem c_pan (f : Nat) (K : Nat) (k m x : Int32) (tn : Nat) (tr : Nat → Int32) (dep : Nat) (hf : f < 7) (hK : K < 7) (htn : tn ≤ 30) (hd : dep + 6 ≤ 10) (hm : ¬ m = k) : AMet yX7_speak cX7_speak 9 (some .int) 7 0 0 [.ref 0, .int 3, .int (nI f), .int x, .int (nI dep)] (VW 0 K k m tn tr) (pI fun r h => r = paV k m K f x ∧ h = VW 0 K k m (apN (paT K f) tn) (apF (paT K f) tn tr)) := by
  match f, hf with
  | 0, _ => exact (c_pan_0 K k m x tn tr dep hK htn (by omega) hm).mono rfl
  | 1, _ => exact (c_pan_1 K k m x tn tr dep hK htn (by omega) hm).mono rfl
  | 2, _ => exact (c_pan_2 K k m x tn tr dep hK htn (by omega) hm).mono rfl
  | 3, _ => exact (c_pan_3 K k m x tn tr dep hK htn (by omega) hm).mono rfl
  | 4, _ => exact (c_pan_4 K k m x tn tr dep hK htn (by omega) hm).mono rfl
  | 5, _ => exact (c_pan_5 K k m x tn tr dep hK htn (by omega) hm).mono rfl
  | 6, _ => exact (c_pan_6 K k m x tn tr dep hK htn (by omega) hm).mono rfl
