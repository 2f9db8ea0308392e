set_option maxRecDepth 100000 in
theorem c_X1_readP (q : Nat → Int32) (n u o : Nat) (tp : Nat → Int32) (h60 : n ≤ 60) (hu : u < 2) (ho : o ≤ 5) (hq : ∀ i, i < n → tp i = q i) (hby : ∀ i, i < n → ∃ b : Nat, b < 256 ∧ q i = nI b) (d : Nat) (hd : 5 ≤ d) (P : Pz) (hgo : GoP n u P) (hsub : ∀ (a : Nat) (ss : Sp) (f : Nat → Int32), a ≤ n → ss.length ≤ a → StepC u f ss → AMet yX1_readQ cX1_readQ 2 none (d) 0 0 [.ref 0, .int (nI o)] (RdW u n tp (nI a) (-1) ss.length f) (pV (PstC u n tp (P a ss)))) (a0 : Nat) (ss0 : Sp) (f0 : Nat → Int32) (ha : a0 ≤ n) (hss : ss0.length ≤ a0) (hf : StepC u f0 ss0) : AMet yX1_readP cX1_readP 4 none (d + 1) 0 0 [.ref 0, .int (nI o)] (RdW u n tp (nI a0) (-1) ss0.length f0) (pV (PstC u n tp (chP q n opP P a0 ss0))) := by
  refine AMet.of (by decide +kernel) rfl (fun E ad0 hE => ?_)
  have loop : ∀ (m i a : Nat) (ss : Sp) (f : Nat → Int32), i + m = 60 → a ≤ n → ss.length ≤ a → StepC u f ss → chP q n opP P a0 ss0 = tlP q n opP P m a ss → AW E (rmD (d + 1) 0 0) 4 (QM E ad0 5 0 0 (pV (PstC u n tp (chP q n opP P a0 ss0)))) ad0 5 0 0 7 [(0, .ref 0), (1, .int (nI o)), (2, .int (nI i))] [] (RdW u n tp (nI a) (-1) ss.length f) := by
    intro m
    induction m with
    | zero =>
      intro i a ss f hi ha hss hf hx
      obtain rfl : i = 60 := by omega
      refine A_iload_n hE 8 dX1_readP_7 rfl rfl ?_
      refine A_bipush hE 10 dX1_readP_8 rfl (60) (by decide) ?_
      refine A_icmp_ge hE 13 75 dX1_readP_10 rfl rfl (fun c10 => ?_) (fun c10 => absurd (by decide) c10)
      refine A_vret hE dX1_readP_75 ?_
      exact Or.inl ⟨a, ss, f, hx, hf, rfl⟩
    | succ m ih =>
      intro i a ss f hi ha hss hf hx
      refine A_iload_n hE 8 dX1_readP_7 rfl rfl ?_
      refine A_bipush hE 10 dX1_readP_8 rfl (60) (by decide) ?_
      refine A_icmp_ge hE 13 75 dX1_readP_10 rfl rfl (fun c10 => absurd c10 (nI_ge (b := 60) (by omega) (by omega))) (fun c10 => ?_)
      refine A_aload_n hE 14 dX1_readP_13 rfl rfl ?_
      refine A_bipush hE 16 dX1_readP_14 rfl (42) (by decide) ?_
      refine A_callVi hE 19 (c_isNext q n u tp h60 hq a (ss.length) (42) f (by omega)) [0, 1, 2, 3, 4] dX1_readP_16 rfl mkX1_64 rfl rfl rfl rfl rfl (frN (show 2 < d + 1 by omega)) (loB (by show _ ≤ 32 * (d + 1) + 20; omega)) (Nat.le_of_ble_eq_true rfl) (Nat.le_of_ble_eq_true rfl) rfl (fun x16 h16 g16 hp16 hw16 => ?_)
      obtain ⟨rfl, rfl⟩ := hp16
      obtain rfl := Option.some.inj hw16
      refine A_h (RdW u n tp (nI a) (-1) ss.length f) rfl ?_
      refine A_if_ne hE 22 40 dX1_readP_19 rfl rfl (fun c19 => ?_) (fun c19 => ?_)
      · have q19 := bI_1 c19
        have hc : opP (lk q n a) = true := decide_eq_true (Or.inl q19)
        have hlt : a < n := lk_lt (fun z => opC_m1 (z ▸ opP_C _ hc))
        refine A_aload_n hE 41 dX1_readP_40 rfl rfl ?_
        refine A_callVi hE 44 (c_next q n u tp h60 hq a (ss.length) f (by omega)) [0, 1, 2, 3, 4] dX1_readP_41 rfl mkX1_46 rfl rfl rfl rfl rfl (frN (show 1 < d + 1 by omega)) (loB (by show _ ≤ 32 * (d + 1) + 20; omega)) (Nat.le_of_ble_eq_true rfl) (Nat.le_of_ble_eq_true rfl) rfl (fun x41 h41 g41 hp41 hw41 => ?_)
        obtain ⟨rfl, rfl⟩ := hp41
        obtain rfl := Option.some.inj hw41
        refine A_h (RdW u n tp (nI a) (-1) ss.length f) rfl ?_
        refine A_istore_n hE 45 dX1_readP_44 rfl rfl rfl ?_
        refine A_aload_n hE 46 dX1_readP_45 rfl rfl ?_
        refine A_dup hE 47 dX1_readP_46 rfl rfl ?_
        refine A_get hE 50 dX1_readP_47 rfl fkX1_29 rfl rfl ?_
        refine A_iconst hE 51 dX1_readP_50 rfl (1) rfl ?_
        refine A_iadd hE 52 dX1_readP_51 rfl ?_
        rw [nI_1]
        refine A_put hE 55 dX1_readP_52 rfl fkX1_29 rfl rfl rfl rfl ?_
        refine A_aload_n hE 56 dX1_readP_55 rfl rfl ?_
        refine A_iload_n hE 57 dX1_readP_56 rfl rfl ?_
        refine A_callVv hE 60 (hsub (a + 1) ss f hlt (by omega) hf) [0, 1, 2, 3, 4] dX1_readP_57 rfl mkX1_80 rfl rfl rfl rfl rfl (frN (show d < d + 1 by omega)) (loB (by show _ ≤ 32 * (d + 1) + 20; omega)) (Nat.le_of_ble_eq_true rfl) (Nat.le_of_ble_eq_true rfl) rfl (fun h57 g57 hp57 hw57 => ?_)
        rcases hp57 with ⟨b, s2, f2, e57, hs57, rfl⟩ | ⟨b3, pl3, k3, f3, e57, hb3, hk3, rfl⟩
        · obtain rfl := Option.some.inj hw57
          refine A_h (RdW u n tp (nI b) (-1) s2.length f2) rfl ?_
          obtain ⟨g1, g2, g3⟩ := hgo.get hlt e57
          refine A_aload_n hE 61 dX1_readP_60 rfl rfl ?_
          refine A_get hE 64 dX1_readP_61 rfl fkX1_14 rfl rfl ?_
          refine A_iload_n hE 65 dX1_readP_64 rfl rfl ?_
          refine A_ineg hE 66 dX1_readP_65 rfl ?_
          refine A_callVv hE 69 (c_X3_add 60 f2 s2.length (-(lk q n a)) (by omega) rfl) [1, 2] dX1_readP_66 rfl mkX1_68 rfl rfl rfl rfl rfl (frN (show 0 < d + 1 by omega)) (loB (by show _ ≤ 32 * (d + 1) + 20; omega)) (Nat.le_of_ble_eq_true rfl) (Nat.le_of_ble_eq_true rfl) rfl (fun h66 g66 hp66 hw66 => ?_)
          obtain rfl := hp66
          obtain rfl := Option.some.inj hw66
          refine A_h (RdW u n tp (nI b) (-1) (s2 ++ [(3, (lk q n a))]).length (upd f2 s2.length (-(lk q n a)))) (by rw [if_pos (show s2.length < 60 by omega), if_pos (show s2.length < 60 by omega), len_push]; rfl) ?_
          refine A_iinc hE 72 dX1_readP_69 rfl rfl (1) rfl rfl rfl ?_
          rw [nI_1]
          refine A_lv [0, 1, 2] rfl ?_
          refine A_goto hE 7 dX1_readP_72 rfl ?_
          exact ih (i + 1) b (s2 ++ [(3, (lk q n a))]) _ (by omega) g2 (by rw [len_push]; omega) (hs57.push (3, (lk q n a)) (enc_3 u (lk q n a))) (hx.trans (by rw [tlP, if_pos hc, e57]; rfl))
        · obtain rfl := Option.some.inj hw57
          refine A_h (RdW u n tp pl3 (nI b3) k3 f3) rfl ?_
          refine A_aload_n hE 61 dX1_readP_60 rfl rfl ?_
          refine A_get hE 64 dX1_readP_61 rfl fkX1_14 rfl rfl ?_
          refine A_iload_n hE 65 dX1_readP_64 rfl rfl ?_
          refine A_ineg hE 66 dX1_readP_65 rfl ?_
          refine A_callVv hE 69 (c_X3_add 60 f3 k3 (-(lk q n a)) hk3 rfl) [1, 2] dX1_readP_66 rfl mkX1_68 rfl rfl rfl rfl rfl (frN (show 0 < d + 1 by omega)) (loB (by show _ ≤ 32 * (d + 1) + 20; omega)) (Nat.le_of_ble_eq_true rfl) (Nat.le_of_ble_eq_true rfl) rfl (fun h66 g66 hp66 hw66 => ?_)
          obtain rfl := hp66
          obtain rfl := Option.some.inj hw66
          refine A_h (RdW u n tp pl3 (nI b3) (if k3 < 60 then k3 + 1 else k3) (if k3 < 60 then upd f3 k3 (-(lk q n a)) else f3)) rfl ?_
          refine A_iinc hE 72 dX1_readP_69 rfl rfl (1) rfl rfl rfl ?_
          rw [nI_1]
          refine A_goto hE 7 dX1_readP_72 rfl ?_
          refine A_iload_n hE 8 dX1_readP_7 rfl rfl ?_
          refine A_bipush hE 10 dX1_readP_8 rfl (60) (by decide) ?_
          refine A_icmp_ge hE 13 75 dX1_readP_10 rfl rfl (fun c10 => ?_) (fun c10 => ?_)
          · refine A_vret hE dX1_readP_75 ?_
            exact Or.inr ⟨b3, pl3, (if k3 < 60 then k3 + 1 else k3), (if k3 < 60 then upd f3 k3 (-(lk q n a)) else f3), hx.trans (by rw [tlP, if_pos hc, e57]; rfl), hb3, (by split <;> omega), rfl⟩
          · refine A_aload_n hE 14 dX1_readP_13 rfl rfl ?_
            refine A_bipush hE 16 dX1_readP_14 rfl (42) (by decide) ?_
            refine A_callVi hE 19 (c_isNextF u n tp pl3 (nI b3) ((if k3 < 60 then k3 + 1 else k3)) (if k3 < 60 then upd f3 k3 (-(lk q n a)) else f3) (42) (nI_pos' (by omega)) (by decide)) [0, 1, 2, 3, 4] dX1_readP_16 rfl mkX1_64 rfl rfl rfl rfl rfl (frN (show 2 < d + 1 by omega)) (loB (by show _ ≤ 32 * (d + 1) + 20; omega)) (Nat.le_of_ble_eq_true rfl) (Nat.le_of_ble_eq_true rfl) rfl (fun x16 h16 g16 hp16 hw16 => ?_)
            obtain ⟨rfl, rfl⟩ := hp16
            obtain rfl := Option.some.inj hw16
            refine A_h (RdW u n tp pl3 (nI b3) (if k3 < 60 then k3 + 1 else k3) (if k3 < 60 then upd f3 k3 (-(lk q n a)) else f3)) rfl ?_
            refine A_if_ne hE 22 40 dX1_readP_19 rfl rfl (fun c19 => absurd rfl c19) (fun c19 => ?_)
            refine A_aload_n hE 23 dX1_readP_22 rfl rfl ?_
            refine A_bipush hE 25 dX1_readP_23 rfl (47) (by decide) ?_
            refine A_callVi hE 28 (c_isNextF u n tp pl3 (nI b3) ((if k3 < 60 then k3 + 1 else k3)) (if k3 < 60 then upd f3 k3 (-(lk q n a)) else f3) (47) (nI_pos' (by omega)) (by decide)) [0, 1, 2, 3, 4] dX1_readP_25 rfl mkX1_64 rfl rfl rfl rfl rfl (frN (show 2 < d + 1 by omega)) (loB (by show _ ≤ 32 * (d + 1) + 20; omega)) (Nat.le_of_ble_eq_true rfl) (Nat.le_of_ble_eq_true rfl) rfl (fun x25 h25 g25 hp25 hw25 => ?_)
            obtain ⟨rfl, rfl⟩ := hp25
            obtain rfl := Option.some.inj hw25
            refine A_h (RdW u n tp pl3 (nI b3) (if k3 < 60 then k3 + 1 else k3) (if k3 < 60 then upd f3 k3 (-(lk q n a)) else f3)) rfl ?_
            refine A_if_ne hE 31 40 dX1_readP_28 rfl rfl (fun c28 => absurd rfl c28) (fun c28 => ?_)
            refine A_aload_n hE 32 dX1_readP_31 rfl rfl ?_
            refine A_bipush hE 34 dX1_readP_32 rfl (37) (by decide) ?_
            refine A_callVi hE 37 (c_isNextF u n tp pl3 (nI b3) ((if k3 < 60 then k3 + 1 else k3)) (if k3 < 60 then upd f3 k3 (-(lk q n a)) else f3) (37) (nI_pos' (by omega)) (by decide)) [0, 1, 2, 3, 4] dX1_readP_34 rfl mkX1_64 rfl rfl rfl rfl rfl (frN (show 2 < d + 1 by omega)) (loB (by show _ ≤ 32 * (d + 1) + 20; omega)) (Nat.le_of_ble_eq_true rfl) (Nat.le_of_ble_eq_true rfl) rfl (fun x34 h34 g34 hp34 hw34 => ?_)
            obtain ⟨rfl, rfl⟩ := hp34
            obtain rfl := Option.some.inj hw34
            refine A_h (RdW u n tp pl3 (nI b3) (if k3 < 60 then k3 + 1 else k3) (if k3 < 60 then upd f3 k3 (-(lk q n a)) else f3)) rfl ?_
            refine A_if_eq hE 40 75 dX1_readP_37 rfl rfl (fun c37 => ?_) (fun c37 => absurd rfl c37)
            refine A_vret hE dX1_readP_75 ?_
            exact Or.inr ⟨b3, pl3, (if k3 < 60 then k3 + 1 else k3), (if k3 < 60 then upd f3 k3 (-(lk q n a)) else f3), hx.trans (by rw [tlP, if_pos hc, e57]; rfl), hb3, (by split <;> omega), rfl⟩
      · have q19 := bI_0 c19
        refine A_aload_n hE 23 dX1_readP_22 rfl rfl ?_
        refine A_bipush hE 25 dX1_readP_23 rfl (47) (by decide) ?_
        refine A_callVi hE 28 (c_isNext q n u tp h60 hq a (ss.length) (47) f (by omega)) [0, 1, 2, 3, 4] dX1_readP_25 rfl mkX1_64 rfl rfl rfl rfl rfl (frN (show 2 < d + 1 by omega)) (loB (by show _ ≤ 32 * (d + 1) + 20; omega)) (Nat.le_of_ble_eq_true rfl) (Nat.le_of_ble_eq_true rfl) rfl (fun x25 h25 g25 hp25 hw25 => ?_)
        obtain ⟨rfl, rfl⟩ := hp25
        obtain rfl := Option.some.inj hw25
        refine A_h (RdW u n tp (nI a) (-1) ss.length f) rfl ?_
        refine A_if_ne hE 31 40 dX1_readP_28 rfl rfl (fun c28 => ?_) (fun c28 => ?_)
        · have q28 := bI_1 c28
          have hc : opP (lk q n a) = true := decide_eq_true (Or.inr (Or.inl q28))
          have hlt : a < n := lk_lt (fun z => opC_m1 (z ▸ opP_C _ hc))
          refine A_aload_n hE 41 dX1_readP_40 rfl rfl ?_
          refine A_callVi hE 44 (c_next q n u tp h60 hq a (ss.length) f (by omega)) [0, 1, 2, 3, 4] dX1_readP_41 rfl mkX1_46 rfl rfl rfl rfl rfl (frN (show 1 < d + 1 by omega)) (loB (by show _ ≤ 32 * (d + 1) + 20; omega)) (Nat.le_of_ble_eq_true rfl) (Nat.le_of_ble_eq_true rfl) rfl (fun x41 h41 g41 hp41 hw41 => ?_)
          obtain ⟨rfl, rfl⟩ := hp41
          obtain rfl := Option.some.inj hw41
          refine A_h (RdW u n tp (nI a) (-1) ss.length f) rfl ?_
          refine A_istore_n hE 45 dX1_readP_44 rfl rfl rfl ?_
          refine A_aload_n hE 46 dX1_readP_45 rfl rfl ?_
          refine A_dup hE 47 dX1_readP_46 rfl rfl ?_
          refine A_get hE 50 dX1_readP_47 rfl fkX1_29 rfl rfl ?_
          refine A_iconst hE 51 dX1_readP_50 rfl (1) rfl ?_
          refine A_iadd hE 52 dX1_readP_51 rfl ?_
          rw [nI_1]
          refine A_put hE 55 dX1_readP_52 rfl fkX1_29 rfl rfl rfl rfl ?_
          refine A_aload_n hE 56 dX1_readP_55 rfl rfl ?_
          refine A_iload_n hE 57 dX1_readP_56 rfl rfl ?_
          refine A_callVv hE 60 (hsub (a + 1) ss f hlt (by omega) hf) [0, 1, 2, 3, 4] dX1_readP_57 rfl mkX1_80 rfl rfl rfl rfl rfl (frN (show d < d + 1 by omega)) (loB (by show _ ≤ 32 * (d + 1) + 20; omega)) (Nat.le_of_ble_eq_true rfl) (Nat.le_of_ble_eq_true rfl) rfl (fun h57 g57 hp57 hw57 => ?_)
          rcases hp57 with ⟨b, s2, f2, e57, hs57, rfl⟩ | ⟨b3, pl3, k3, f3, e57, hb3, hk3, rfl⟩
          · obtain rfl := Option.some.inj hw57
            refine A_h (RdW u n tp (nI b) (-1) s2.length f2) rfl ?_
            obtain ⟨g1, g2, g3⟩ := hgo.get hlt e57
            refine A_aload_n hE 61 dX1_readP_60 rfl rfl ?_
            refine A_get hE 64 dX1_readP_61 rfl fkX1_14 rfl rfl ?_
            refine A_iload_n hE 65 dX1_readP_64 rfl rfl ?_
            refine A_ineg hE 66 dX1_readP_65 rfl ?_
            refine A_callVv hE 69 (c_X3_add 60 f2 s2.length (-(lk q n a)) (by omega) rfl) [1, 2] dX1_readP_66 rfl mkX1_68 rfl rfl rfl rfl rfl (frN (show 0 < d + 1 by omega)) (loB (by show _ ≤ 32 * (d + 1) + 20; omega)) (Nat.le_of_ble_eq_true rfl) (Nat.le_of_ble_eq_true rfl) rfl (fun h66 g66 hp66 hw66 => ?_)
            obtain rfl := hp66
            obtain rfl := Option.some.inj hw66
            refine A_h (RdW u n tp (nI b) (-1) (s2 ++ [(3, (lk q n a))]).length (upd f2 s2.length (-(lk q n a)))) (by rw [if_pos (show s2.length < 60 by omega), if_pos (show s2.length < 60 by omega), len_push]; rfl) ?_
            refine A_iinc hE 72 dX1_readP_69 rfl rfl (1) rfl rfl rfl ?_
            rw [nI_1]
            refine A_lv [0, 1, 2] rfl ?_
            refine A_goto hE 7 dX1_readP_72 rfl ?_
            exact ih (i + 1) b (s2 ++ [(3, (lk q n a))]) _ (by omega) g2 (by rw [len_push]; omega) (hs57.push (3, (lk q n a)) (enc_3 u (lk q n a))) (hx.trans (by rw [tlP, if_pos hc, e57]; rfl))
          · obtain rfl := Option.some.inj hw57
            refine A_h (RdW u n tp pl3 (nI b3) k3 f3) rfl ?_
            refine A_aload_n hE 61 dX1_readP_60 rfl rfl ?_
            refine A_get hE 64 dX1_readP_61 rfl fkX1_14 rfl rfl ?_
            refine A_iload_n hE 65 dX1_readP_64 rfl rfl ?_
            refine A_ineg hE 66 dX1_readP_65 rfl ?_
            refine A_callVv hE 69 (c_X3_add 60 f3 k3 (-(lk q n a)) hk3 rfl) [1, 2] dX1_readP_66 rfl mkX1_68 rfl rfl rfl rfl rfl (frN (show 0 < d + 1 by omega)) (loB (by show _ ≤ 32 * (d + 1) + 20; omega)) (Nat.le_of_ble_eq_true rfl) (Nat.le_of_ble_eq_true rfl) rfl (fun h66 g66 hp66 hw66 => ?_)
            obtain rfl := hp66
            obtain rfl := Option.some.inj hw66
            refine A_h (RdW u n tp pl3 (nI b3) (if k3 < 60 then k3 + 1 else k3) (if k3 < 60 then upd f3 k3 (-(lk q n a)) else f3)) rfl ?_
            refine A_iinc hE 72 dX1_readP_69 rfl rfl (1) rfl rfl rfl ?_
            rw [nI_1]
            refine A_goto hE 7 dX1_readP_72 rfl ?_
            refine A_iload_n hE 8 dX1_readP_7 rfl rfl ?_
            refine A_bipush hE 10 dX1_readP_8 rfl (60) (by decide) ?_
            refine A_icmp_ge hE 13 75 dX1_readP_10 rfl rfl (fun c10 => ?_) (fun c10 => ?_)
            · refine A_vret hE dX1_readP_75 ?_
              exact Or.inr ⟨b3, pl3, (if k3 < 60 then k3 + 1 else k3), (if k3 < 60 then upd f3 k3 (-(lk q n a)) else f3), hx.trans (by rw [tlP, if_pos hc, e57]; rfl), hb3, (by split <;> omega), rfl⟩
            · refine A_aload_n hE 14 dX1_readP_13 rfl rfl ?_
              refine A_bipush hE 16 dX1_readP_14 rfl (42) (by decide) ?_
              refine A_callVi hE 19 (c_isNextF u n tp pl3 (nI b3) ((if k3 < 60 then k3 + 1 else k3)) (if k3 < 60 then upd f3 k3 (-(lk q n a)) else f3) (42) (nI_pos' (by omega)) (by decide)) [0, 1, 2, 3, 4] dX1_readP_16 rfl mkX1_64 rfl rfl rfl rfl rfl (frN (show 2 < d + 1 by omega)) (loB (by show _ ≤ 32 * (d + 1) + 20; omega)) (Nat.le_of_ble_eq_true rfl) (Nat.le_of_ble_eq_true rfl) rfl (fun x16 h16 g16 hp16 hw16 => ?_)
              obtain ⟨rfl, rfl⟩ := hp16
              obtain rfl := Option.some.inj hw16
              refine A_h (RdW u n tp pl3 (nI b3) (if k3 < 60 then k3 + 1 else k3) (if k3 < 60 then upd f3 k3 (-(lk q n a)) else f3)) rfl ?_
              refine A_if_ne hE 22 40 dX1_readP_19 rfl rfl (fun c19 => absurd rfl c19) (fun c19 => ?_)
              refine A_aload_n hE 23 dX1_readP_22 rfl rfl ?_
              refine A_bipush hE 25 dX1_readP_23 rfl (47) (by decide) ?_
              refine A_callVi hE 28 (c_isNextF u n tp pl3 (nI b3) ((if k3 < 60 then k3 + 1 else k3)) (if k3 < 60 then upd f3 k3 (-(lk q n a)) else f3) (47) (nI_pos' (by omega)) (by decide)) [0, 1, 2, 3, 4] dX1_readP_25 rfl mkX1_64 rfl rfl rfl rfl rfl (frN (show 2 < d + 1 by omega)) (loB (by show _ ≤ 32 * (d + 1) + 20; omega)) (Nat.le_of_ble_eq_true rfl) (Nat.le_of_ble_eq_true rfl) rfl (fun x25 h25 g25 hp25 hw25 => ?_)
              obtain ⟨rfl, rfl⟩ := hp25
              obtain rfl := Option.some.inj hw25
              refine A_h (RdW u n tp pl3 (nI b3) (if k3 < 60 then k3 + 1 else k3) (if k3 < 60 then upd f3 k3 (-(lk q n a)) else f3)) rfl ?_
              refine A_if_ne hE 31 40 dX1_readP_28 rfl rfl (fun c28 => absurd rfl c28) (fun c28 => ?_)
              refine A_aload_n hE 32 dX1_readP_31 rfl rfl ?_
              refine A_bipush hE 34 dX1_readP_32 rfl (37) (by decide) ?_
              refine A_callVi hE 37 (c_isNextF u n tp pl3 (nI b3) ((if k3 < 60 then k3 + 1 else k3)) (if k3 < 60 then upd f3 k3 (-(lk q n a)) else f3) (37) (nI_pos' (by omega)) (by decide)) [0, 1, 2, 3, 4] dX1_readP_34 rfl mkX1_64 rfl rfl rfl rfl rfl (frN (show 2 < d + 1 by omega)) (loB (by show _ ≤ 32 * (d + 1) + 20; omega)) (Nat.le_of_ble_eq_true rfl) (Nat.le_of_ble_eq_true rfl) rfl (fun x34 h34 g34 hp34 hw34 => ?_)
              obtain ⟨rfl, rfl⟩ := hp34
              obtain rfl := Option.some.inj hw34
              refine A_h (RdW u n tp pl3 (nI b3) (if k3 < 60 then k3 + 1 else k3) (if k3 < 60 then upd f3 k3 (-(lk q n a)) else f3)) rfl ?_
              refine A_if_eq hE 40 75 dX1_readP_37 rfl rfl (fun c37 => ?_) (fun c37 => absurd rfl c37)
              refine A_vret hE dX1_readP_75 ?_
              exact Or.inr ⟨b3, pl3, (if k3 < 60 then k3 + 1 else k3), (if k3 < 60 then upd f3 k3 (-(lk q n a)) else f3), hx.trans (by rw [tlP, if_pos hc, e57]; rfl), hb3, (by split <;> omega), rfl⟩
        · have q28 := bI_0 c28
          refine A_aload_n hE 32 dX1_readP_31 rfl rfl ?_
          refine A_bipush hE 34 dX1_readP_32 rfl (37) (by decide) ?_
          refine A_callVi hE 37 (c_isNext q n u tp h60 hq a (ss.length) (37) f (by omega)) [0, 1, 2, 3, 4] dX1_readP_34 rfl mkX1_64 rfl rfl rfl rfl rfl (frN (show 2 < d + 1 by omega)) (loB (by show _ ≤ 32 * (d + 1) + 20; omega)) (Nat.le_of_ble_eq_true rfl) (Nat.le_of_ble_eq_true rfl) rfl (fun x34 h34 g34 hp34 hw34 => ?_)
          obtain ⟨rfl, rfl⟩ := hp34
          obtain rfl := Option.some.inj hw34
          refine A_h (RdW u n tp (nI a) (-1) ss.length f) rfl ?_
          refine A_if_eq hE 40 75 dX1_readP_37 rfl rfl (fun c37 => ?_) (fun c37 => ?_)
          · have q37 := bI_0 c37
            refine A_vret hE dX1_readP_75 ?_
            exact Or.inl ⟨a, ss, f, hx.trans (by rw [tlP, if_neg (fun (z : opP (lk q n a) = true) => (of_decide_eq_true z).elim q19 (fun z => z.elim q28 q37))]), hf, rfl⟩
          · have q37 := bI_1 c37
            have hc : opP (lk q n a) = true := decide_eq_true (Or.inr (Or.inr q37))
            have hlt : a < n := lk_lt (fun z => opC_m1 (z ▸ opP_C _ hc))
            refine A_aload_n hE 41 dX1_readP_40 rfl rfl ?_
            refine A_callVi hE 44 (c_next q n u tp h60 hq a (ss.length) f (by omega)) [0, 1, 2, 3, 4] dX1_readP_41 rfl mkX1_46 rfl rfl rfl rfl rfl (frN (show 1 < d + 1 by omega)) (loB (by show _ ≤ 32 * (d + 1) + 20; omega)) (Nat.le_of_ble_eq_true rfl) (Nat.le_of_ble_eq_true rfl) rfl (fun x41 h41 g41 hp41 hw41 => ?_)
            obtain ⟨rfl, rfl⟩ := hp41
            obtain rfl := Option.some.inj hw41
            refine A_h (RdW u n tp (nI a) (-1) ss.length f) rfl ?_
            refine A_istore_n hE 45 dX1_readP_44 rfl rfl rfl ?_
            refine A_aload_n hE 46 dX1_readP_45 rfl rfl ?_
            refine A_dup hE 47 dX1_readP_46 rfl rfl ?_
            refine A_get hE 50 dX1_readP_47 rfl fkX1_29 rfl rfl ?_
            refine A_iconst hE 51 dX1_readP_50 rfl (1) rfl ?_
            refine A_iadd hE 52 dX1_readP_51 rfl ?_
            rw [nI_1]
            refine A_put hE 55 dX1_readP_52 rfl fkX1_29 rfl rfl rfl rfl ?_
            refine A_aload_n hE 56 dX1_readP_55 rfl rfl ?_
            refine A_iload_n hE 57 dX1_readP_56 rfl rfl ?_
            refine A_callVv hE 60 (hsub (a + 1) ss f hlt (by omega) hf) [0, 1, 2, 3, 4] dX1_readP_57 rfl mkX1_80 rfl rfl rfl rfl rfl (frN (show d < d + 1 by omega)) (loB (by show _ ≤ 32 * (d + 1) + 20; omega)) (Nat.le_of_ble_eq_true rfl) (Nat.le_of_ble_eq_true rfl) rfl (fun h57 g57 hp57 hw57 => ?_)
            rcases hp57 with ⟨b, s2, f2, e57, hs57, rfl⟩ | ⟨b3, pl3, k3, f3, e57, hb3, hk3, rfl⟩
            · obtain rfl := Option.some.inj hw57
              refine A_h (RdW u n tp (nI b) (-1) s2.length f2) rfl ?_
              obtain ⟨g1, g2, g3⟩ := hgo.get hlt e57
              refine A_aload_n hE 61 dX1_readP_60 rfl rfl ?_
              refine A_get hE 64 dX1_readP_61 rfl fkX1_14 rfl rfl ?_
              refine A_iload_n hE 65 dX1_readP_64 rfl rfl ?_
              refine A_ineg hE 66 dX1_readP_65 rfl ?_
              refine A_callVv hE 69 (c_X3_add 60 f2 s2.length (-(lk q n a)) (by omega) rfl) [1, 2] dX1_readP_66 rfl mkX1_68 rfl rfl rfl rfl rfl (frN (show 0 < d + 1 by omega)) (loB (by show _ ≤ 32 * (d + 1) + 20; omega)) (Nat.le_of_ble_eq_true rfl) (Nat.le_of_ble_eq_true rfl) rfl (fun h66 g66 hp66 hw66 => ?_)
              obtain rfl := hp66
              obtain rfl := Option.some.inj hw66
              refine A_h (RdW u n tp (nI b) (-1) (s2 ++ [(3, (lk q n a))]).length (upd f2 s2.length (-(lk q n a)))) (by rw [if_pos (show s2.length < 60 by omega), if_pos (show s2.length < 60 by omega), len_push]; rfl) ?_
              refine A_iinc hE 72 dX1_readP_69 rfl rfl (1) rfl rfl rfl ?_
              rw [nI_1]
              refine A_lv [0, 1, 2] rfl ?_
              refine A_goto hE 7 dX1_readP_72 rfl ?_
              exact ih (i + 1) b (s2 ++ [(3, (lk q n a))]) _ (by omega) g2 (by rw [len_push]; omega) (hs57.push (3, (lk q n a)) (enc_3 u (lk q n a))) (hx.trans (by rw [tlP, if_pos hc, e57]; rfl))
            · obtain rfl := Option.some.inj hw57
              refine A_h (RdW u n tp pl3 (nI b3) k3 f3) rfl ?_
              refine A_aload_n hE 61 dX1_readP_60 rfl rfl ?_
              refine A_get hE 64 dX1_readP_61 rfl fkX1_14 rfl rfl ?_
              refine A_iload_n hE 65 dX1_readP_64 rfl rfl ?_
              refine A_ineg hE 66 dX1_readP_65 rfl ?_
              refine A_callVv hE 69 (c_X3_add 60 f3 k3 (-(lk q n a)) hk3 rfl) [1, 2] dX1_readP_66 rfl mkX1_68 rfl rfl rfl rfl rfl (frN (show 0 < d + 1 by omega)) (loB (by show _ ≤ 32 * (d + 1) + 20; omega)) (Nat.le_of_ble_eq_true rfl) (Nat.le_of_ble_eq_true rfl) rfl (fun h66 g66 hp66 hw66 => ?_)
              obtain rfl := hp66
              obtain rfl := Option.some.inj hw66
              refine A_h (RdW u n tp pl3 (nI b3) (if k3 < 60 then k3 + 1 else k3) (if k3 < 60 then upd f3 k3 (-(lk q n a)) else f3)) rfl ?_
              refine A_iinc hE 72 dX1_readP_69 rfl rfl (1) rfl rfl rfl ?_
              rw [nI_1]
              refine A_goto hE 7 dX1_readP_72 rfl ?_
              refine A_iload_n hE 8 dX1_readP_7 rfl rfl ?_
              refine A_bipush hE 10 dX1_readP_8 rfl (60) (by decide) ?_
              refine A_icmp_ge hE 13 75 dX1_readP_10 rfl rfl (fun c10 => ?_) (fun c10 => ?_)
              · refine A_vret hE dX1_readP_75 ?_
                exact Or.inr ⟨b3, pl3, (if k3 < 60 then k3 + 1 else k3), (if k3 < 60 then upd f3 k3 (-(lk q n a)) else f3), hx.trans (by rw [tlP, if_pos hc, e57]; rfl), hb3, (by split <;> omega), rfl⟩
              · refine A_aload_n hE 14 dX1_readP_13 rfl rfl ?_
                refine A_bipush hE 16 dX1_readP_14 rfl (42) (by decide) ?_
                refine A_callVi hE 19 (c_isNextF u n tp pl3 (nI b3) ((if k3 < 60 then k3 + 1 else k3)) (if k3 < 60 then upd f3 k3 (-(lk q n a)) else f3) (42) (nI_pos' (by omega)) (by decide)) [0, 1, 2, 3, 4] dX1_readP_16 rfl mkX1_64 rfl rfl rfl rfl rfl (frN (show 2 < d + 1 by omega)) (loB (by show _ ≤ 32 * (d + 1) + 20; omega)) (Nat.le_of_ble_eq_true rfl) (Nat.le_of_ble_eq_true rfl) rfl (fun x16 h16 g16 hp16 hw16 => ?_)
                obtain ⟨rfl, rfl⟩ := hp16
                obtain rfl := Option.some.inj hw16
                refine A_h (RdW u n tp pl3 (nI b3) (if k3 < 60 then k3 + 1 else k3) (if k3 < 60 then upd f3 k3 (-(lk q n a)) else f3)) rfl ?_
                refine A_if_ne hE 22 40 dX1_readP_19 rfl rfl (fun c19 => absurd rfl c19) (fun c19 => ?_)
                refine A_aload_n hE 23 dX1_readP_22 rfl rfl ?_
                refine A_bipush hE 25 dX1_readP_23 rfl (47) (by decide) ?_
                refine A_callVi hE 28 (c_isNextF u n tp pl3 (nI b3) ((if k3 < 60 then k3 + 1 else k3)) (if k3 < 60 then upd f3 k3 (-(lk q n a)) else f3) (47) (nI_pos' (by omega)) (by decide)) [0, 1, 2, 3, 4] dX1_readP_25 rfl mkX1_64 rfl rfl rfl rfl rfl (frN (show 2 < d + 1 by omega)) (loB (by show _ ≤ 32 * (d + 1) + 20; omega)) (Nat.le_of_ble_eq_true rfl) (Nat.le_of_ble_eq_true rfl) rfl (fun x25 h25 g25 hp25 hw25 => ?_)
                obtain ⟨rfl, rfl⟩ := hp25
                obtain rfl := Option.some.inj hw25
                refine A_h (RdW u n tp pl3 (nI b3) (if k3 < 60 then k3 + 1 else k3) (if k3 < 60 then upd f3 k3 (-(lk q n a)) else f3)) rfl ?_
                refine A_if_ne hE 31 40 dX1_readP_28 rfl rfl (fun c28 => absurd rfl c28) (fun c28 => ?_)
                refine A_aload_n hE 32 dX1_readP_31 rfl rfl ?_
                refine A_bipush hE 34 dX1_readP_32 rfl (37) (by decide) ?_
                refine A_callVi hE 37 (c_isNextF u n tp pl3 (nI b3) ((if k3 < 60 then k3 + 1 else k3)) (if k3 < 60 then upd f3 k3 (-(lk q n a)) else f3) (37) (nI_pos' (by omega)) (by decide)) [0, 1, 2, 3, 4] dX1_readP_34 rfl mkX1_64 rfl rfl rfl rfl rfl (frN (show 2 < d + 1 by omega)) (loB (by show _ ≤ 32 * (d + 1) + 20; omega)) (Nat.le_of_ble_eq_true rfl) (Nat.le_of_ble_eq_true rfl) rfl (fun x34 h34 g34 hp34 hw34 => ?_)
                obtain ⟨rfl, rfl⟩ := hp34
                obtain rfl := Option.some.inj hw34
                refine A_h (RdW u n tp pl3 (nI b3) (if k3 < 60 then k3 + 1 else k3) (if k3 < 60 then upd f3 k3 (-(lk q n a)) else f3)) rfl ?_
                refine A_if_eq hE 40 75 dX1_readP_37 rfl rfl (fun c37 => ?_) (fun c37 => absurd rfl c37)
                refine A_vret hE dX1_readP_75 ?_
                exact Or.inr ⟨b3, pl3, (if k3 < 60 then k3 + 1 else k3), (if k3 < 60 then upd f3 k3 (-(lk q n a)) else f3), hx.trans (by rw [tlP, if_pos hc, e57]; rfl), hb3, (by split <;> omega), rfl⟩
  refine A_aload_n hE 1 dX1_readP_0 rfl rfl ?_
  refine A_iload_n hE 2 dX1_readP_1 rfl rfl ?_
  refine A_callVv hE 5 (hsub a0 ss0 f0 ha hss hf) [0, 1, 2, 3, 4] dX1_readP_2 rfl mkX1_80 rfl rfl rfl rfl rfl (frN (show d < d + 1 by omega)) (loB (by show _ ≤ 32 * (d + 1) + 20; omega)) (Nat.le_of_ble_eq_true rfl) (Nat.le_of_ble_eq_true rfl) rfl (fun h2 g2 hp2 hw2 => ?_)
  rcases hp2 with ⟨b, s2, f2, e2, hs2, rfl⟩ | ⟨b3, pl3, k3, f3, e2, hb3, hk3, rfl⟩
  · obtain rfl := Option.some.inj hw2
    refine A_h (RdW u n tp (nI b) (-1) s2.length f2) rfl ?_
    obtain ⟨g1, g2, g3⟩ := hgo.get ha e2
    refine A_iconst hE 6 dX1_readP_5 rfl (0) rfl ?_
    refine A_istore_n hE 7 dX1_readP_6 rfl rfl rfl ?_
    refine A_lv [0, 1, 2] rfl ?_
    exact loop 60 0 b s2 f2 rfl g2 (by omega) hs2 (by rw [chP, e2]; rfl)
  · obtain rfl := Option.some.inj hw2
    refine A_h (RdW u n tp pl3 (nI b3) k3 f3) rfl ?_
    refine A_iconst hE 6 dX1_readP_5 rfl (0) rfl ?_
    refine A_istore_n hE 7 dX1_readP_6 rfl rfl rfl ?_
    refine A_iload_n hE 8 dX1_readP_7 rfl rfl ?_
    refine A_bipush hE 10 dX1_readP_8 rfl (60) (by decide) ?_
    refine A_icmp_ge hE 13 75 dX1_readP_10 rfl rfl (fun c10 => absurd c10 (by decide)) (fun c10 => ?_)
    refine A_aload_n hE 14 dX1_readP_13 rfl rfl ?_
    refine A_bipush hE 16 dX1_readP_14 rfl (42) (by decide) ?_
    refine A_callVi hE 19 (c_isNextF u n tp pl3 (nI b3) (k3) f3 (42) (nI_pos' (by omega)) (by decide)) [0, 1, 2, 3, 4] dX1_readP_16 rfl mkX1_64 rfl rfl rfl rfl rfl (frN (show 2 < d + 1 by omega)) (loB (by show _ ≤ 32 * (d + 1) + 20; omega)) (Nat.le_of_ble_eq_true rfl) (Nat.le_of_ble_eq_true rfl) rfl (fun x16 h16 g16 hp16 hw16 => ?_)
    obtain ⟨rfl, rfl⟩ := hp16
    obtain rfl := Option.some.inj hw16
    refine A_h (RdW u n tp pl3 (nI b3) k3 f3) rfl ?_
    refine A_if_ne hE 22 40 dX1_readP_19 rfl rfl (fun c19 => absurd rfl c19) (fun c19 => ?_)
    refine A_aload_n hE 23 dX1_readP_22 rfl rfl ?_
    refine A_bipush hE 25 dX1_readP_23 rfl (47) (by decide) ?_
    refine A_callVi hE 28 (c_isNextF u n tp pl3 (nI b3) (k3) f3 (47) (nI_pos' (by omega)) (by decide)) [0, 1, 2, 3, 4] dX1_readP_25 rfl mkX1_64 rfl rfl rfl rfl rfl (frN (show 2 < d + 1 by omega)) (loB (by show _ ≤ 32 * (d + 1) + 20; omega)) (Nat.le_of_ble_eq_true rfl) (Nat.le_of_ble_eq_true rfl) rfl (fun x25 h25 g25 hp25 hw25 => ?_)
    obtain ⟨rfl, rfl⟩ := hp25
    obtain rfl := Option.some.inj hw25
    refine A_h (RdW u n tp pl3 (nI b3) k3 f3) rfl ?_
    refine A_if_ne hE 31 40 dX1_readP_28 rfl rfl (fun c28 => absurd rfl c28) (fun c28 => ?_)
    refine A_aload_n hE 32 dX1_readP_31 rfl rfl ?_
    refine A_bipush hE 34 dX1_readP_32 rfl (37) (by decide) ?_
    refine A_callVi hE 37 (c_isNextF u n tp pl3 (nI b3) (k3) f3 (37) (nI_pos' (by omega)) (by decide)) [0, 1, 2, 3, 4] dX1_readP_34 rfl mkX1_64 rfl rfl rfl rfl rfl (frN (show 2 < d + 1 by omega)) (loB (by show _ ≤ 32 * (d + 1) + 20; omega)) (Nat.le_of_ble_eq_true rfl) (Nat.le_of_ble_eq_true rfl) rfl (fun x34 h34 g34 hp34 hw34 => ?_)
    obtain ⟨rfl, rfl⟩ := hp34
    obtain rfl := Option.some.inj hw34
    refine A_h (RdW u n tp pl3 (nI b3) k3 f3) rfl ?_
    refine A_if_eq hE 40 75 dX1_readP_37 rfl rfl (fun c37 => ?_) (fun c37 => absurd rfl c37)
    refine A_vret hE dX1_readP_75 ?_
    exact Or.inr ⟨b3, pl3, k3, f3, by rw [chP, e2]; rfl, hb3, hk3, rfl⟩
set_option maxRecDepth 100000 in
theorem c_X1_readS (q : Nat → Int32) (n u o : Nat) (tp : Nat → Int32) (h60 : n ≤ 60) (hu : u < 2) (ho : o ≤ 5) (hq : ∀ i, i < n → tp i = q i) (hby : ∀ i, i < n → ∃ b : Nat, b < 256 ∧ q i = nI b) (d : Nat) (hd : 5 ≤ d) (P : Pz) (hgo : GoP n u P) (hsub : ∀ (a : Nat) (ss : Sp) (f : Nat → Int32), a ≤ n → ss.length ≤ a → StepC u f ss → AMet yX1_readP cX1_readP 4 none (d) 0 0 [.ref 0, .int (nI o)] (RdW u n tp (nI a) (-1) ss.length f) (pV (PstC u n tp (P a ss)))) (a0 : Nat) (ss0 : Sp) (f0 : Nat → Int32) (ha : a0 ≤ n) (hss : ss0.length ≤ a0) (hf : StepC u f0 ss0) : AMet yX1_readS cX1_readS 4 none (d + 1) 0 0 [.ref 0, .int (nI o)] (RdW u n tp (nI a0) (-1) ss0.length f0) (pV (PstC u n tp (chP q n opS P a0 ss0))) := by
  refine AMet.of (by decide +kernel) rfl (fun E ad0 hE => ?_)
  have loop : ∀ (m i a : Nat) (ss : Sp) (f : Nat → Int32), i + m = 60 → a ≤ n → ss.length ≤ a → StepC u f ss → chP q n opS P a0 ss0 = tlP q n opS P m a ss → AW E (rmD (d + 1) 0 0) 4 (QM E ad0 5 0 0 (pV (PstC u n tp (chP q n opS P a0 ss0)))) ad0 5 0 0 7 [(0, .ref 0), (1, .int (nI o)), (2, .int (nI i))] [] (RdW u n tp (nI a) (-1) ss.length f) := by
    intro m
    induction m with
    | zero =>
      intro i a ss f hi ha hss hf hx
      obtain rfl : i = 60 := by omega
      refine A_iload_n hE 8 dX1_readS_7 rfl rfl ?_
      refine A_bipush hE 10 dX1_readS_8 rfl (60) (by decide) ?_
      refine A_icmp_ge hE 13 66 dX1_readS_10 rfl rfl (fun c10 => ?_) (fun c10 => absurd (by decide) c10)
      refine A_vret hE dX1_readS_66 ?_
      exact Or.inl ⟨a, ss, f, hx, hf, rfl⟩
    | succ m ih =>
      intro i a ss f hi ha hss hf hx
      refine A_iload_n hE 8 dX1_readS_7 rfl rfl ?_
      refine A_bipush hE 10 dX1_readS_8 rfl (60) (by decide) ?_
      refine A_icmp_ge hE 13 66 dX1_readS_10 rfl rfl (fun c10 => absurd c10 (nI_ge (b := 60) (by omega) (by omega))) (fun c10 => ?_)
      refine A_aload_n hE 14 dX1_readS_13 rfl rfl ?_
      refine A_bipush hE 16 dX1_readS_14 rfl (43) (by decide) ?_
      refine A_callVi hE 19 (c_isNext q n u tp h60 hq a (ss.length) (43) f (by omega)) [0, 1, 2, 3, 4] dX1_readS_16 rfl mkX1_64 rfl rfl rfl rfl rfl (frN (show 2 < d + 1 by omega)) (loB (by show _ ≤ 32 * (d + 1) + 20; omega)) (Nat.le_of_ble_eq_true rfl) (Nat.le_of_ble_eq_true rfl) rfl (fun x16 h16 g16 hp16 hw16 => ?_)
      obtain ⟨rfl, rfl⟩ := hp16
      obtain rfl := Option.some.inj hw16
      refine A_h (RdW u n tp (nI a) (-1) ss.length f) rfl ?_
      refine A_if_ne hE 22 31 dX1_readS_19 rfl rfl (fun c19 => ?_) (fun c19 => ?_)
      · have q19 := bI_1 c19
        have hc : opS (lk q n a) = true := decide_eq_true (Or.inl q19)
        have hlt : a < n := lk_lt (fun z => opC_m1 (z ▸ opS_C _ hc))
        refine A_aload_n hE 32 dX1_readS_31 rfl rfl ?_
        refine A_callVi hE 35 (c_next q n u tp h60 hq a (ss.length) f (by omega)) [0, 1, 2, 3, 4] dX1_readS_32 rfl mkX1_46 rfl rfl rfl rfl rfl (frN (show 1 < d + 1 by omega)) (loB (by show _ ≤ 32 * (d + 1) + 20; omega)) (Nat.le_of_ble_eq_true rfl) (Nat.le_of_ble_eq_true rfl) rfl (fun x32 h32 g32 hp32 hw32 => ?_)
        obtain ⟨rfl, rfl⟩ := hp32
        obtain rfl := Option.some.inj hw32
        refine A_h (RdW u n tp (nI a) (-1) ss.length f) rfl ?_
        refine A_istore_n hE 36 dX1_readS_35 rfl rfl rfl ?_
        refine A_aload_n hE 37 dX1_readS_36 rfl rfl ?_
        refine A_dup hE 38 dX1_readS_37 rfl rfl ?_
        refine A_get hE 41 dX1_readS_38 rfl fkX1_29 rfl rfl ?_
        refine A_iconst hE 42 dX1_readS_41 rfl (1) rfl ?_
        refine A_iadd hE 43 dX1_readS_42 rfl ?_
        rw [nI_1]
        refine A_put hE 46 dX1_readS_43 rfl fkX1_29 rfl rfl rfl rfl ?_
        refine A_aload_n hE 47 dX1_readS_46 rfl rfl ?_
        refine A_iload_n hE 48 dX1_readS_47 rfl rfl ?_
        refine A_callVv hE 51 (hsub (a + 1) ss f hlt (by omega) hf) [0, 1, 2, 3, 4] dX1_readS_48 rfl mkX1_77 rfl rfl rfl rfl rfl (frN (show d < d + 1 by omega)) (loB (by show _ ≤ 32 * (d + 1) + 20; omega)) (Nat.le_of_ble_eq_true rfl) (Nat.le_of_ble_eq_true rfl) rfl (fun h48 g48 hp48 hw48 => ?_)
        rcases hp48 with ⟨b, s2, f2, e48, hs48, rfl⟩ | ⟨b3, pl3, k3, f3, e48, hb3, hk3, rfl⟩
        · obtain rfl := Option.some.inj hw48
          refine A_h (RdW u n tp (nI b) (-1) s2.length f2) rfl ?_
          obtain ⟨g1, g2, g3⟩ := hgo.get hlt e48
          refine A_aload_n hE 52 dX1_readS_51 rfl rfl ?_
          refine A_get hE 55 dX1_readS_52 rfl fkX1_14 rfl rfl ?_
          refine A_iload_n hE 56 dX1_readS_55 rfl rfl ?_
          refine A_ineg hE 57 dX1_readS_56 rfl ?_
          refine A_callVv hE 60 (c_X3_add 60 f2 s2.length (-(lk q n a)) (by omega) rfl) [1, 2] dX1_readS_57 rfl mkX1_68 rfl rfl rfl rfl rfl (frN (show 0 < d + 1 by omega)) (loB (by show _ ≤ 32 * (d + 1) + 20; omega)) (Nat.le_of_ble_eq_true rfl) (Nat.le_of_ble_eq_true rfl) rfl (fun h57 g57 hp57 hw57 => ?_)
          obtain rfl := hp57
          obtain rfl := Option.some.inj hw57
          refine A_h (RdW u n tp (nI b) (-1) (s2 ++ [(3, (lk q n a))]).length (upd f2 s2.length (-(lk q n a)))) (by rw [if_pos (show s2.length < 60 by omega), if_pos (show s2.length < 60 by omega), len_push]; rfl) ?_
          refine A_iinc hE 63 dX1_readS_60 rfl rfl (1) rfl rfl rfl ?_
          rw [nI_1]
          refine A_lv [0, 1, 2] rfl ?_
          refine A_goto hE 7 dX1_readS_63 rfl ?_
          exact ih (i + 1) b (s2 ++ [(3, (lk q n a))]) _ (by omega) g2 (by rw [len_push]; omega) (hs48.push (3, (lk q n a)) (enc_3 u (lk q n a))) (hx.trans (by rw [tlP, if_pos hc, e48]; rfl))
        · obtain rfl := Option.some.inj hw48
          refine A_h (RdW u n tp pl3 (nI b3) k3 f3) rfl ?_
          refine A_aload_n hE 52 dX1_readS_51 rfl rfl ?_
          refine A_get hE 55 dX1_readS_52 rfl fkX1_14 rfl rfl ?_
          refine A_iload_n hE 56 dX1_readS_55 rfl rfl ?_
          refine A_ineg hE 57 dX1_readS_56 rfl ?_
          refine A_callVv hE 60 (c_X3_add 60 f3 k3 (-(lk q n a)) hk3 rfl) [1, 2] dX1_readS_57 rfl mkX1_68 rfl rfl rfl rfl rfl (frN (show 0 < d + 1 by omega)) (loB (by show _ ≤ 32 * (d + 1) + 20; omega)) (Nat.le_of_ble_eq_true rfl) (Nat.le_of_ble_eq_true rfl) rfl (fun h57 g57 hp57 hw57 => ?_)
          obtain rfl := hp57
          obtain rfl := Option.some.inj hw57
          refine A_h (RdW u n tp pl3 (nI b3) (if k3 < 60 then k3 + 1 else k3) (if k3 < 60 then upd f3 k3 (-(lk q n a)) else f3)) rfl ?_
          refine A_iinc hE 63 dX1_readS_60 rfl rfl (1) rfl rfl rfl ?_
          rw [nI_1]
          refine A_goto hE 7 dX1_readS_63 rfl ?_
          refine A_iload_n hE 8 dX1_readS_7 rfl rfl ?_
          refine A_bipush hE 10 dX1_readS_8 rfl (60) (by decide) ?_
          refine A_icmp_ge hE 13 66 dX1_readS_10 rfl rfl (fun c10 => ?_) (fun c10 => ?_)
          · refine A_vret hE dX1_readS_66 ?_
            exact Or.inr ⟨b3, pl3, (if k3 < 60 then k3 + 1 else k3), (if k3 < 60 then upd f3 k3 (-(lk q n a)) else f3), hx.trans (by rw [tlP, if_pos hc, e48]; rfl), hb3, (by split <;> omega), rfl⟩
          · refine A_aload_n hE 14 dX1_readS_13 rfl rfl ?_
            refine A_bipush hE 16 dX1_readS_14 rfl (43) (by decide) ?_
            refine A_callVi hE 19 (c_isNextF u n tp pl3 (nI b3) ((if k3 < 60 then k3 + 1 else k3)) (if k3 < 60 then upd f3 k3 (-(lk q n a)) else f3) (43) (nI_pos' (by omega)) (by decide)) [0, 1, 2, 3, 4] dX1_readS_16 rfl mkX1_64 rfl rfl rfl rfl rfl (frN (show 2 < d + 1 by omega)) (loB (by show _ ≤ 32 * (d + 1) + 20; omega)) (Nat.le_of_ble_eq_true rfl) (Nat.le_of_ble_eq_true rfl) rfl (fun x16 h16 g16 hp16 hw16 => ?_)
            obtain ⟨rfl, rfl⟩ := hp16
            obtain rfl := Option.some.inj hw16
            refine A_h (RdW u n tp pl3 (nI b3) (if k3 < 60 then k3 + 1 else k3) (if k3 < 60 then upd f3 k3 (-(lk q n a)) else f3)) rfl ?_
            refine A_if_ne hE 22 31 dX1_readS_19 rfl rfl (fun c19 => absurd rfl c19) (fun c19 => ?_)
            refine A_aload_n hE 23 dX1_readS_22 rfl rfl ?_
            refine A_bipush hE 25 dX1_readS_23 rfl (45) (by decide) ?_
            refine A_callVi hE 28 (c_isNextF u n tp pl3 (nI b3) ((if k3 < 60 then k3 + 1 else k3)) (if k3 < 60 then upd f3 k3 (-(lk q n a)) else f3) (45) (nI_pos' (by omega)) (by decide)) [0, 1, 2, 3, 4] dX1_readS_25 rfl mkX1_64 rfl rfl rfl rfl rfl (frN (show 2 < d + 1 by omega)) (loB (by show _ ≤ 32 * (d + 1) + 20; omega)) (Nat.le_of_ble_eq_true rfl) (Nat.le_of_ble_eq_true rfl) rfl (fun x25 h25 g25 hp25 hw25 => ?_)
            obtain ⟨rfl, rfl⟩ := hp25
            obtain rfl := Option.some.inj hw25
            refine A_h (RdW u n tp pl3 (nI b3) (if k3 < 60 then k3 + 1 else k3) (if k3 < 60 then upd f3 k3 (-(lk q n a)) else f3)) rfl ?_
            refine A_if_eq hE 31 66 dX1_readS_28 rfl rfl (fun c28 => ?_) (fun c28 => absurd rfl c28)
            refine A_vret hE dX1_readS_66 ?_
            exact Or.inr ⟨b3, pl3, (if k3 < 60 then k3 + 1 else k3), (if k3 < 60 then upd f3 k3 (-(lk q n a)) else f3), hx.trans (by rw [tlP, if_pos hc, e48]; rfl), hb3, (by split <;> omega), rfl⟩
      · have q19 := bI_0 c19
        refine A_aload_n hE 23 dX1_readS_22 rfl rfl ?_
        refine A_bipush hE 25 dX1_readS_23 rfl (45) (by decide) ?_
        refine A_callVi hE 28 (c_isNext q n u tp h60 hq a (ss.length) (45) f (by omega)) [0, 1, 2, 3, 4] dX1_readS_25 rfl mkX1_64 rfl rfl rfl rfl rfl (frN (show 2 < d + 1 by omega)) (loB (by show _ ≤ 32 * (d + 1) + 20; omega)) (Nat.le_of_ble_eq_true rfl) (Nat.le_of_ble_eq_true rfl) rfl (fun x25 h25 g25 hp25 hw25 => ?_)
        obtain ⟨rfl, rfl⟩ := hp25
        obtain rfl := Option.some.inj hw25
        refine A_h (RdW u n tp (nI a) (-1) ss.length f) rfl ?_
        refine A_if_eq hE 31 66 dX1_readS_28 rfl rfl (fun c28 => ?_) (fun c28 => ?_)
        · have q28 := bI_0 c28
          refine A_vret hE dX1_readS_66 ?_
          exact Or.inl ⟨a, ss, f, hx.trans (by rw [tlP, if_neg (fun (z : opS (lk q n a) = true) => (of_decide_eq_true z).elim q19 q28)]), hf, rfl⟩
        · have q28 := bI_1 c28
          have hc : opS (lk q n a) = true := decide_eq_true (Or.inr q28)
          have hlt : a < n := lk_lt (fun z => opC_m1 (z ▸ opS_C _ hc))
          refine A_aload_n hE 32 dX1_readS_31 rfl rfl ?_
          refine A_callVi hE 35 (c_next q n u tp h60 hq a (ss.length) f (by omega)) [0, 1, 2, 3, 4] dX1_readS_32 rfl mkX1_46 rfl rfl rfl rfl rfl (frN (show 1 < d + 1 by omega)) (loB (by show _ ≤ 32 * (d + 1) + 20; omega)) (Nat.le_of_ble_eq_true rfl) (Nat.le_of_ble_eq_true rfl) rfl (fun x32 h32 g32 hp32 hw32 => ?_)
          obtain ⟨rfl, rfl⟩ := hp32
          obtain rfl := Option.some.inj hw32
          refine A_h (RdW u n tp (nI a) (-1) ss.length f) rfl ?_
          refine A_istore_n hE 36 dX1_readS_35 rfl rfl rfl ?_
          refine A_aload_n hE 37 dX1_readS_36 rfl rfl ?_
          refine A_dup hE 38 dX1_readS_37 rfl rfl ?_
          refine A_get hE 41 dX1_readS_38 rfl fkX1_29 rfl rfl ?_
          refine A_iconst hE 42 dX1_readS_41 rfl (1) rfl ?_
          refine A_iadd hE 43 dX1_readS_42 rfl ?_
          rw [nI_1]
          refine A_put hE 46 dX1_readS_43 rfl fkX1_29 rfl rfl rfl rfl ?_
          refine A_aload_n hE 47 dX1_readS_46 rfl rfl ?_
          refine A_iload_n hE 48 dX1_readS_47 rfl rfl ?_
          refine A_callVv hE 51 (hsub (a + 1) ss f hlt (by omega) hf) [0, 1, 2, 3, 4] dX1_readS_48 rfl mkX1_77 rfl rfl rfl rfl rfl (frN (show d < d + 1 by omega)) (loB (by show _ ≤ 32 * (d + 1) + 20; omega)) (Nat.le_of_ble_eq_true rfl) (Nat.le_of_ble_eq_true rfl) rfl (fun h48 g48 hp48 hw48 => ?_)
          rcases hp48 with ⟨b, s2, f2, e48, hs48, rfl⟩ | ⟨b3, pl3, k3, f3, e48, hb3, hk3, rfl⟩
          · obtain rfl := Option.some.inj hw48
            refine A_h (RdW u n tp (nI b) (-1) s2.length f2) rfl ?_
            obtain ⟨g1, g2, g3⟩ := hgo.get hlt e48
            refine A_aload_n hE 52 dX1_readS_51 rfl rfl ?_
            refine A_get hE 55 dX1_readS_52 rfl fkX1_14 rfl rfl ?_
            refine A_iload_n hE 56 dX1_readS_55 rfl rfl ?_
            refine A_ineg hE 57 dX1_readS_56 rfl ?_
            refine A_callVv hE 60 (c_X3_add 60 f2 s2.length (-(lk q n a)) (by omega) rfl) [1, 2] dX1_readS_57 rfl mkX1_68 rfl rfl rfl rfl rfl (frN (show 0 < d + 1 by omega)) (loB (by show _ ≤ 32 * (d + 1) + 20; omega)) (Nat.le_of_ble_eq_true rfl) (Nat.le_of_ble_eq_true rfl) rfl (fun h57 g57 hp57 hw57 => ?_)
            obtain rfl := hp57
            obtain rfl := Option.some.inj hw57
            refine A_h (RdW u n tp (nI b) (-1) (s2 ++ [(3, (lk q n a))]).length (upd f2 s2.length (-(lk q n a)))) (by rw [if_pos (show s2.length < 60 by omega), if_pos (show s2.length < 60 by omega), len_push]; rfl) ?_
            refine A_iinc hE 63 dX1_readS_60 rfl rfl (1) rfl rfl rfl ?_
            rw [nI_1]
            refine A_lv [0, 1, 2] rfl ?_
            refine A_goto hE 7 dX1_readS_63 rfl ?_
            exact ih (i + 1) b (s2 ++ [(3, (lk q n a))]) _ (by omega) g2 (by rw [len_push]; omega) (hs48.push (3, (lk q n a)) (enc_3 u (lk q n a))) (hx.trans (by rw [tlP, if_pos hc, e48]; rfl))
          · obtain rfl := Option.some.inj hw48
            refine A_h (RdW u n tp pl3 (nI b3) k3 f3) rfl ?_
            refine A_aload_n hE 52 dX1_readS_51 rfl rfl ?_
            refine A_get hE 55 dX1_readS_52 rfl fkX1_14 rfl rfl ?_
            refine A_iload_n hE 56 dX1_readS_55 rfl rfl ?_
            refine A_ineg hE 57 dX1_readS_56 rfl ?_
            refine A_callVv hE 60 (c_X3_add 60 f3 k3 (-(lk q n a)) hk3 rfl) [1, 2] dX1_readS_57 rfl mkX1_68 rfl rfl rfl rfl rfl (frN (show 0 < d + 1 by omega)) (loB (by show _ ≤ 32 * (d + 1) + 20; omega)) (Nat.le_of_ble_eq_true rfl) (Nat.le_of_ble_eq_true rfl) rfl (fun h57 g57 hp57 hw57 => ?_)
            obtain rfl := hp57
            obtain rfl := Option.some.inj hw57
            refine A_h (RdW u n tp pl3 (nI b3) (if k3 < 60 then k3 + 1 else k3) (if k3 < 60 then upd f3 k3 (-(lk q n a)) else f3)) rfl ?_
            refine A_iinc hE 63 dX1_readS_60 rfl rfl (1) rfl rfl rfl ?_
            rw [nI_1]
            refine A_goto hE 7 dX1_readS_63 rfl ?_
            refine A_iload_n hE 8 dX1_readS_7 rfl rfl ?_
            refine A_bipush hE 10 dX1_readS_8 rfl (60) (by decide) ?_
            refine A_icmp_ge hE 13 66 dX1_readS_10 rfl rfl (fun c10 => ?_) (fun c10 => ?_)
            · refine A_vret hE dX1_readS_66 ?_
              exact Or.inr ⟨b3, pl3, (if k3 < 60 then k3 + 1 else k3), (if k3 < 60 then upd f3 k3 (-(lk q n a)) else f3), hx.trans (by rw [tlP, if_pos hc, e48]; rfl), hb3, (by split <;> omega), rfl⟩
            · refine A_aload_n hE 14 dX1_readS_13 rfl rfl ?_
              refine A_bipush hE 16 dX1_readS_14 rfl (43) (by decide) ?_
              refine A_callVi hE 19 (c_isNextF u n tp pl3 (nI b3) ((if k3 < 60 then k3 + 1 else k3)) (if k3 < 60 then upd f3 k3 (-(lk q n a)) else f3) (43) (nI_pos' (by omega)) (by decide)) [0, 1, 2, 3, 4] dX1_readS_16 rfl mkX1_64 rfl rfl rfl rfl rfl (frN (show 2 < d + 1 by omega)) (loB (by show _ ≤ 32 * (d + 1) + 20; omega)) (Nat.le_of_ble_eq_true rfl) (Nat.le_of_ble_eq_true rfl) rfl (fun x16 h16 g16 hp16 hw16 => ?_)
              obtain ⟨rfl, rfl⟩ := hp16
              obtain rfl := Option.some.inj hw16
              refine A_h (RdW u n tp pl3 (nI b3) (if k3 < 60 then k3 + 1 else k3) (if k3 < 60 then upd f3 k3 (-(lk q n a)) else f3)) rfl ?_
              refine A_if_ne hE 22 31 dX1_readS_19 rfl rfl (fun c19 => absurd rfl c19) (fun c19 => ?_)
              refine A_aload_n hE 23 dX1_readS_22 rfl rfl ?_
              refine A_bipush hE 25 dX1_readS_23 rfl (45) (by decide) ?_
              refine A_callVi hE 28 (c_isNextF u n tp pl3 (nI b3) ((if k3 < 60 then k3 + 1 else k3)) (if k3 < 60 then upd f3 k3 (-(lk q n a)) else f3) (45) (nI_pos' (by omega)) (by decide)) [0, 1, 2, 3, 4] dX1_readS_25 rfl mkX1_64 rfl rfl rfl rfl rfl (frN (show 2 < d + 1 by omega)) (loB (by show _ ≤ 32 * (d + 1) + 20; omega)) (Nat.le_of_ble_eq_true rfl) (Nat.le_of_ble_eq_true rfl) rfl (fun x25 h25 g25 hp25 hw25 => ?_)
              obtain ⟨rfl, rfl⟩ := hp25
              obtain rfl := Option.some.inj hw25
              refine A_h (RdW u n tp pl3 (nI b3) (if k3 < 60 then k3 + 1 else k3) (if k3 < 60 then upd f3 k3 (-(lk q n a)) else f3)) rfl ?_
              refine A_if_eq hE 31 66 dX1_readS_28 rfl rfl (fun c28 => ?_) (fun c28 => absurd rfl c28)
              refine A_vret hE dX1_readS_66 ?_
              exact Or.inr ⟨b3, pl3, (if k3 < 60 then k3 + 1 else k3), (if k3 < 60 then upd f3 k3 (-(lk q n a)) else f3), hx.trans (by rw [tlP, if_pos hc, e48]; rfl), hb3, (by split <;> omega), rfl⟩
  refine A_aload_n hE 1 dX1_readS_0 rfl rfl ?_
  refine A_iload_n hE 2 dX1_readS_1 rfl rfl ?_
  refine A_callVv hE 5 (hsub a0 ss0 f0 ha hss hf) [0, 1, 2, 3, 4] dX1_readS_2 rfl mkX1_77 rfl rfl rfl rfl rfl (frN (show d < d + 1 by omega)) (loB (by show _ ≤ 32 * (d + 1) + 20; omega)) (Nat.le_of_ble_eq_true rfl) (Nat.le_of_ble_eq_true rfl) rfl (fun h2 g2 hp2 hw2 => ?_)
  rcases hp2 with ⟨b, s2, f2, e2, hs2, rfl⟩ | ⟨b3, pl3, k3, f3, e2, hb3, hk3, rfl⟩
  · obtain rfl := Option.some.inj hw2
    refine A_h (RdW u n tp (nI b) (-1) s2.length f2) rfl ?_
    obtain ⟨g1, g2, g3⟩ := hgo.get ha e2
    refine A_iconst hE 6 dX1_readS_5 rfl (0) rfl ?_
    refine A_istore_n hE 7 dX1_readS_6 rfl rfl rfl ?_
    refine A_lv [0, 1, 2] rfl ?_
    exact loop 60 0 b s2 f2 rfl g2 (by omega) hs2 (by rw [chP, e2]; rfl)
  · obtain rfl := Option.some.inj hw2
    refine A_h (RdW u n tp pl3 (nI b3) k3 f3) rfl ?_
    refine A_iconst hE 6 dX1_readS_5 rfl (0) rfl ?_
    refine A_istore_n hE 7 dX1_readS_6 rfl rfl rfl ?_
    refine A_iload_n hE 8 dX1_readS_7 rfl rfl ?_
    refine A_bipush hE 10 dX1_readS_8 rfl (60) (by decide) ?_
    refine A_icmp_ge hE 13 66 dX1_readS_10 rfl rfl (fun c10 => absurd c10 (by decide)) (fun c10 => ?_)
    refine A_aload_n hE 14 dX1_readS_13 rfl rfl ?_
    refine A_bipush hE 16 dX1_readS_14 rfl (43) (by decide) ?_
    refine A_callVi hE 19 (c_isNextF u n tp pl3 (nI b3) (k3) f3 (43) (nI_pos' (by omega)) (by decide)) [0, 1, 2, 3, 4] dX1_readS_16 rfl mkX1_64 rfl rfl rfl rfl rfl (frN (show 2 < d + 1 by omega)) (loB (by show _ ≤ 32 * (d + 1) + 20; omega)) (Nat.le_of_ble_eq_true rfl) (Nat.le_of_ble_eq_true rfl) rfl (fun x16 h16 g16 hp16 hw16 => ?_)
    obtain ⟨rfl, rfl⟩ := hp16
    obtain rfl := Option.some.inj hw16
    refine A_h (RdW u n tp pl3 (nI b3) k3 f3) rfl ?_
    refine A_if_ne hE 22 31 dX1_readS_19 rfl rfl (fun c19 => absurd rfl c19) (fun c19 => ?_)
    refine A_aload_n hE 23 dX1_readS_22 rfl rfl ?_
    refine A_bipush hE 25 dX1_readS_23 rfl (45) (by decide) ?_
    refine A_callVi hE 28 (c_isNextF u n tp pl3 (nI b3) (k3) f3 (45) (nI_pos' (by omega)) (by decide)) [0, 1, 2, 3, 4] dX1_readS_25 rfl mkX1_64 rfl rfl rfl rfl rfl (frN (show 2 < d + 1 by omega)) (loB (by show _ ≤ 32 * (d + 1) + 20; omega)) (Nat.le_of_ble_eq_true rfl) (Nat.le_of_ble_eq_true rfl) rfl (fun x25 h25 g25 hp25 hw25 => ?_)
    obtain ⟨rfl, rfl⟩ := hp25
    obtain rfl := Option.some.inj hw25
    refine A_h (RdW u n tp pl3 (nI b3) k3 f3) rfl ?_
    refine A_if_eq hE 31 66 dX1_readS_28 rfl rfl (fun c28 => ?_) (fun c28 => absurd rfl c28)
    refine A_vret hE dX1_readS_66 ?_
    exact Or.inr ⟨b3, pl3, k3, f3, by rw [chP, e2]; rfl, hb3, hk3, rfl⟩
set_option maxRecDepth 100000 in
theorem c_X1_readB (q : Nat → Int32) (n u o : Nat) (tp : Nat → Int32) (h60 : n ≤ 60) (hu : u < 2) (ho : o ≤ 5) (hq : ∀ i, i < n → tp i = q i) (hby : ∀ i, i < n → ∃ b : Nat, b < 256 ∧ q i = nI b) (d : Nat) (hd : 5 ≤ d) (P : Pz) (hgo : GoP n u P) (hsub : ∀ (a : Nat) (ss : Sp) (f : Nat → Int32), a ≤ n → ss.length ≤ a → StepC u f ss → AMet yX1_readS cX1_readS 4 none (d) 0 0 [.ref 0, .int (nI o)] (RdW u n tp (nI a) (-1) ss.length f) (pV (PstC u n tp (P a ss)))) (a : Nat) (ss : Sp) (f : Nat → Int32) (ha : a ≤ n) (hss : ss.length ≤ a) (hf : StepC u f ss) : AMet yX1_readB cX1_readB 3 none (d + 1) 0 0 [.ref 0, .int (nI o)] (RdW u n tp (nI a) (-1) ss.length f) (pV (PstC u n tp (cmP q n P a ss))) := by
  refine AMet.of (by decide +kernel) rfl (fun E ad0 hE => ?_)
  refine A_aload_n hE 1 dX1_readB_0 rfl rfl ?_
  refine A_iload_n hE 2 dX1_readB_1 rfl rfl ?_
  refine A_callVv hE 5 (hsub a ss f ha hss hf) [0, 1, 2, 3, 4] dX1_readB_2 rfl mkX1_74 rfl rfl rfl rfl rfl (frN (show d < d + 1 by omega)) (loB (by show _ ≤ 32 * (d + 1) + 20; omega)) (Nat.le_of_ble_eq_true rfl) (Nat.le_of_ble_eq_true rfl) rfl (fun h2 g2 hp2 hw2 => ?_)
  rcases hp2 with ⟨b, s2, f2, e2, hs2, rfl⟩ | ⟨b3, pl3, k3, f3, e2, hb3, hk3, rfl⟩
  · obtain rfl := Option.some.inj hw2
    refine A_h (RdW u n tp (nI b) (-1) s2.length f2) rfl ?_
    obtain ⟨g1, g2, g3⟩ := hgo.get ha e2
    refine A_aload_n hE 6 dX1_readB_5 rfl rfl ?_
    refine A_bipush hE 8 dX1_readB_6 rfl (60) (by decide) ?_
    refine A_callVi hE 11 (c_isNext q n u tp h60 hq b (s2.length) (60) f2 (by omega)) [0, 1, 2, 3, 4] dX1_readB_8 rfl mkX1_64 rfl rfl rfl rfl rfl (frN (show 2 < d + 1 by omega)) (loB (by show _ ≤ 32 * (d + 1) + 20; omega)) (Nat.le_of_ble_eq_true rfl) (Nat.le_of_ble_eq_true rfl) rfl (fun x8 h8 g8 hp8 hw8 => ?_)
    obtain ⟨rfl, rfl⟩ := hp8
    obtain rfl := Option.some.inj hw8
    refine A_h (RdW u n tp (nI b) (-1) s2.length f2) rfl ?_
    refine A_if_ne hE 14 32 dX1_readB_11 rfl rfl (fun c11 => ?_) (fun c11 => ?_)
    · have q11 := bI_1 c11
      have hc : opB (lk q n b) = true := decide_eq_true (Or.inl q11)
      have hlt : b < n := lk_lt (fun z => opC_m1 (z ▸ opB_C _ hc))
      refine A_aload_n hE 33 dX1_readB_32 rfl rfl ?_
      refine A_callVi hE 36 (c_next q n u tp h60 hq b (s2.length) f2 (by omega)) [0, 1, 2, 3, 4] dX1_readB_33 rfl mkX1_46 rfl rfl rfl rfl rfl (frN (show 1 < d + 1 by omega)) (loB (by show _ ≤ 32 * (d + 1) + 20; omega)) (Nat.le_of_ble_eq_true rfl) (Nat.le_of_ble_eq_true rfl) rfl (fun x33 h33 g33 hp33 hw33 => ?_)
      obtain ⟨rfl, rfl⟩ := hp33
      obtain rfl := Option.some.inj hw33
      refine A_h (RdW u n tp (nI b) (-1) s2.length f2) rfl ?_
      refine A_istore_n hE 37 dX1_readB_36 rfl rfl rfl ?_
      refine A_aload_n hE 38 dX1_readB_37 rfl rfl ?_
      refine A_dup hE 39 dX1_readB_38 rfl rfl ?_
      refine A_get hE 42 dX1_readB_39 rfl fkX1_29 rfl rfl ?_
      refine A_iconst hE 43 dX1_readB_42 rfl (1) rfl ?_
      refine A_iadd hE 44 dX1_readB_43 rfl ?_
      rw [nI_1]
      refine A_put hE 47 dX1_readB_44 rfl fkX1_29 rfl rfl rfl rfl ?_
      refine A_aload_n hE 48 dX1_readB_47 rfl rfl ?_
      refine A_iload_n hE 49 dX1_readB_48 rfl rfl ?_
      refine A_callVv hE 52 (hsub (b + 1) s2 f2 hlt (by omega) hs2) [0, 1, 2, 3, 4] dX1_readB_49 rfl mkX1_74 rfl rfl rfl rfl rfl (frN (show d < d + 1 by omega)) (loB (by show _ ≤ 32 * (d + 1) + 20; omega)) (Nat.le_of_ble_eq_true rfl) (Nat.le_of_ble_eq_true rfl) rfl (fun h49 g49 hp49 hw49 => ?_)
      rcases hp49 with ⟨b4, s4, f4, e49, hs49, rfl⟩ | ⟨b3, pl3, k3, f3, e49, hb3, hk3, rfl⟩
      · obtain rfl := Option.some.inj hw49
        refine A_h (RdW u n tp (nI b4) (-1) s4.length f4) rfl ?_
        obtain ⟨g4, g5, g6⟩ := hgo.get hlt e49
        refine A_aload_n hE 53 dX1_readB_52 rfl rfl ?_
        refine A_get hE 56 dX1_readB_53 rfl fkX1_14 rfl rfl ?_
        refine A_iload_n hE 57 dX1_readB_56 rfl rfl ?_
        refine A_ineg hE 58 dX1_readB_57 rfl ?_
        refine A_callVv hE 61 (c_X3_add 60 f4 s4.length (-lk q n b) (by omega) rfl) [1, 2] dX1_readB_58 rfl mkX1_68 rfl rfl rfl rfl rfl (frN (show 0 < d + 1 by omega)) (loB (by show _ ≤ 32 * (d + 1) + 20; omega)) (Nat.le_of_ble_eq_true rfl) (Nat.le_of_ble_eq_true rfl) rfl (fun h58 g58 hp58 hw58 => ?_)
        obtain rfl := hp58
        obtain rfl := Option.some.inj hw58
        refine A_h (RdW u n tp (nI b4) (-1) (s4 ++ [(3, lk q n b)]).length (upd f4 s4.length (-lk q n b))) (by rw [if_pos (show s4.length < 60 by omega), if_pos (show s4.length < 60 by omega), len_push]; rfl) ?_
        refine A_vret hE dX1_readB_61 ?_
        exact Or.inl ⟨b4, s4 ++ [(3, lk q n b)], _, by rw [cmP, e2]; show (if opB (lk q n b) = true then _ else _) = _; rw [if_pos hc, e49]; rfl, hs49.push (3, lk q n b) (enc_3 u _), rfl⟩
      · obtain rfl := Option.some.inj hw49
        refine A_h (RdW u n tp pl3 (nI b3) k3 f3) rfl ?_
        refine A_aload_n hE 53 dX1_readB_52 rfl rfl ?_
        refine A_get hE 56 dX1_readB_53 rfl fkX1_14 rfl rfl ?_
        refine A_iload_n hE 57 dX1_readB_56 rfl rfl ?_
        refine A_ineg hE 58 dX1_readB_57 rfl ?_
        refine A_callVv hE 61 (c_X3_add 60 f3 k3 (-lk q n b) hk3 rfl) [1, 2] dX1_readB_58 rfl mkX1_68 rfl rfl rfl rfl rfl (frN (show 0 < d + 1 by omega)) (loB (by show _ ≤ 32 * (d + 1) + 20; omega)) (Nat.le_of_ble_eq_true rfl) (Nat.le_of_ble_eq_true rfl) rfl (fun h58 g58 hp58 hw58 => ?_)
        obtain rfl := hp58
        obtain rfl := Option.some.inj hw58
        refine A_h (RdW u n tp pl3 (nI b3) (if k3 < 60 then k3 + 1 else k3) (if k3 < 60 then upd f3 k3 (-lk q n b) else f3)) rfl ?_
        refine A_vret hE dX1_readB_61 ?_
        exact Or.inr ⟨b3, pl3, (if k3 < 60 then k3 + 1 else k3), (if k3 < 60 then upd f3 k3 (-lk q n b) else f3), by rw [cmP, e2]; show (if opB (lk q n b) = true then _ else _) = _; rw [if_pos hc, e49]; rfl, hb3, (by split <;> omega), rfl⟩
    · have q11 := bI_0 c11
      refine A_aload_n hE 15 dX1_readB_14 rfl rfl ?_
      refine A_bipush hE 17 dX1_readB_15 rfl (61) (by decide) ?_
      refine A_callVi hE 20 (c_isNext q n u tp h60 hq b (s2.length) (61) f2 (by omega)) [0, 1, 2, 3, 4] dX1_readB_17 rfl mkX1_64 rfl rfl rfl rfl rfl (frN (show 2 < d + 1 by omega)) (loB (by show _ ≤ 32 * (d + 1) + 20; omega)) (Nat.le_of_ble_eq_true rfl) (Nat.le_of_ble_eq_true rfl) rfl (fun x17 h17 g17 hp17 hw17 => ?_)
      obtain ⟨rfl, rfl⟩ := hp17
      obtain rfl := Option.some.inj hw17
      refine A_h (RdW u n tp (nI b) (-1) s2.length f2) rfl ?_
      refine A_if_ne hE 23 32 dX1_readB_20 rfl rfl (fun c20 => ?_) (fun c20 => ?_)
      · have q20 := bI_1 c20
        have hc : opB (lk q n b) = true := decide_eq_true (Or.inr (Or.inl q20))
        have hlt : b < n := lk_lt (fun z => opC_m1 (z ▸ opB_C _ hc))
        refine A_aload_n hE 33 dX1_readB_32 rfl rfl ?_
        refine A_callVi hE 36 (c_next q n u tp h60 hq b (s2.length) f2 (by omega)) [0, 1, 2, 3, 4] dX1_readB_33 rfl mkX1_46 rfl rfl rfl rfl rfl (frN (show 1 < d + 1 by omega)) (loB (by show _ ≤ 32 * (d + 1) + 20; omega)) (Nat.le_of_ble_eq_true rfl) (Nat.le_of_ble_eq_true rfl) rfl (fun x33 h33 g33 hp33 hw33 => ?_)
        obtain ⟨rfl, rfl⟩ := hp33
        obtain rfl := Option.some.inj hw33
        refine A_h (RdW u n tp (nI b) (-1) s2.length f2) rfl ?_
        refine A_istore_n hE 37 dX1_readB_36 rfl rfl rfl ?_
        refine A_aload_n hE 38 dX1_readB_37 rfl rfl ?_
        refine A_dup hE 39 dX1_readB_38 rfl rfl ?_
        refine A_get hE 42 dX1_readB_39 rfl fkX1_29 rfl rfl ?_
        refine A_iconst hE 43 dX1_readB_42 rfl (1) rfl ?_
        refine A_iadd hE 44 dX1_readB_43 rfl ?_
        rw [nI_1]
        refine A_put hE 47 dX1_readB_44 rfl fkX1_29 rfl rfl rfl rfl ?_
        refine A_aload_n hE 48 dX1_readB_47 rfl rfl ?_
        refine A_iload_n hE 49 dX1_readB_48 rfl rfl ?_
        refine A_callVv hE 52 (hsub (b + 1) s2 f2 hlt (by omega) hs2) [0, 1, 2, 3, 4] dX1_readB_49 rfl mkX1_74 rfl rfl rfl rfl rfl (frN (show d < d + 1 by omega)) (loB (by show _ ≤ 32 * (d + 1) + 20; omega)) (Nat.le_of_ble_eq_true rfl) (Nat.le_of_ble_eq_true rfl) rfl (fun h49 g49 hp49 hw49 => ?_)
        rcases hp49 with ⟨b4, s4, f4, e49, hs49, rfl⟩ | ⟨b3, pl3, k3, f3, e49, hb3, hk3, rfl⟩
        · obtain rfl := Option.some.inj hw49
          refine A_h (RdW u n tp (nI b4) (-1) s4.length f4) rfl ?_
          obtain ⟨g4, g5, g6⟩ := hgo.get hlt e49
          refine A_aload_n hE 53 dX1_readB_52 rfl rfl ?_
          refine A_get hE 56 dX1_readB_53 rfl fkX1_14 rfl rfl ?_
          refine A_iload_n hE 57 dX1_readB_56 rfl rfl ?_
          refine A_ineg hE 58 dX1_readB_57 rfl ?_
          refine A_callVv hE 61 (c_X3_add 60 f4 s4.length (-lk q n b) (by omega) rfl) [1, 2] dX1_readB_58 rfl mkX1_68 rfl rfl rfl rfl rfl (frN (show 0 < d + 1 by omega)) (loB (by show _ ≤ 32 * (d + 1) + 20; omega)) (Nat.le_of_ble_eq_true rfl) (Nat.le_of_ble_eq_true rfl) rfl (fun h58 g58 hp58 hw58 => ?_)
          obtain rfl := hp58
          obtain rfl := Option.some.inj hw58
          refine A_h (RdW u n tp (nI b4) (-1) (s4 ++ [(3, lk q n b)]).length (upd f4 s4.length (-lk q n b))) (by rw [if_pos (show s4.length < 60 by omega), if_pos (show s4.length < 60 by omega), len_push]; rfl) ?_
          refine A_vret hE dX1_readB_61 ?_
          exact Or.inl ⟨b4, s4 ++ [(3, lk q n b)], _, by rw [cmP, e2]; show (if opB (lk q n b) = true then _ else _) = _; rw [if_pos hc, e49]; rfl, hs49.push (3, lk q n b) (enc_3 u _), rfl⟩
        · obtain rfl := Option.some.inj hw49
          refine A_h (RdW u n tp pl3 (nI b3) k3 f3) rfl ?_
          refine A_aload_n hE 53 dX1_readB_52 rfl rfl ?_
          refine A_get hE 56 dX1_readB_53 rfl fkX1_14 rfl rfl ?_
          refine A_iload_n hE 57 dX1_readB_56 rfl rfl ?_
          refine A_ineg hE 58 dX1_readB_57 rfl ?_
          refine A_callVv hE 61 (c_X3_add 60 f3 k3 (-lk q n b) hk3 rfl) [1, 2] dX1_readB_58 rfl mkX1_68 rfl rfl rfl rfl rfl (frN (show 0 < d + 1 by omega)) (loB (by show _ ≤ 32 * (d + 1) + 20; omega)) (Nat.le_of_ble_eq_true rfl) (Nat.le_of_ble_eq_true rfl) rfl (fun h58 g58 hp58 hw58 => ?_)
          obtain rfl := hp58
          obtain rfl := Option.some.inj hw58
          refine A_h (RdW u n tp pl3 (nI b3) (if k3 < 60 then k3 + 1 else k3) (if k3 < 60 then upd f3 k3 (-lk q n b) else f3)) rfl ?_
          refine A_vret hE dX1_readB_61 ?_
          exact Or.inr ⟨b3, pl3, (if k3 < 60 then k3 + 1 else k3), (if k3 < 60 then upd f3 k3 (-lk q n b) else f3), by rw [cmP, e2]; show (if opB (lk q n b) = true then _ else _) = _; rw [if_pos hc, e49]; rfl, hb3, (by split <;> omega), rfl⟩
      · have q20 := bI_0 c20
        refine A_aload_n hE 24 dX1_readB_23 rfl rfl ?_
        refine A_bipush hE 26 dX1_readB_24 rfl (62) (by decide) ?_
        refine A_callVi hE 29 (c_isNext q n u tp h60 hq b (s2.length) (62) f2 (by omega)) [0, 1, 2, 3, 4] dX1_readB_26 rfl mkX1_64 rfl rfl rfl rfl rfl (frN (show 2 < d + 1 by omega)) (loB (by show _ ≤ 32 * (d + 1) + 20; omega)) (Nat.le_of_ble_eq_true rfl) (Nat.le_of_ble_eq_true rfl) rfl (fun x26 h26 g26 hp26 hw26 => ?_)
        obtain ⟨rfl, rfl⟩ := hp26
        obtain rfl := Option.some.inj hw26
        refine A_h (RdW u n tp (nI b) (-1) s2.length f2) rfl ?_
        refine A_if_eq hE 32 61 dX1_readB_29 rfl rfl (fun c29 => ?_) (fun c29 => ?_)
        · have q29 := bI_0 c29
          refine A_vret hE dX1_readB_61 ?_
          exact Or.inl ⟨b, s2, f2, by rw [cmP, e2]; show (if opB (lk q n b) = true then _ else _) = _; rw [if_neg (fun z => (of_decide_eq_true z).elim q11 (fun z => z.elim q20 q29))], hs2, rfl⟩
        · have q29 := bI_1 c29
          have hc : opB (lk q n b) = true := decide_eq_true (Or.inr (Or.inr q29))
          have hlt : b < n := lk_lt (fun z => opC_m1 (z ▸ opB_C _ hc))
          refine A_aload_n hE 33 dX1_readB_32 rfl rfl ?_
          refine A_callVi hE 36 (c_next q n u tp h60 hq b (s2.length) f2 (by omega)) [0, 1, 2, 3, 4] dX1_readB_33 rfl mkX1_46 rfl rfl rfl rfl rfl (frN (show 1 < d + 1 by omega)) (loB (by show _ ≤ 32 * (d + 1) + 20; omega)) (Nat.le_of_ble_eq_true rfl) (Nat.le_of_ble_eq_true rfl) rfl (fun x33 h33 g33 hp33 hw33 => ?_)
          obtain ⟨rfl, rfl⟩ := hp33
          obtain rfl := Option.some.inj hw33
          refine A_h (RdW u n tp (nI b) (-1) s2.length f2) rfl ?_
          refine A_istore_n hE 37 dX1_readB_36 rfl rfl rfl ?_
          refine A_aload_n hE 38 dX1_readB_37 rfl rfl ?_
          refine A_dup hE 39 dX1_readB_38 rfl rfl ?_
          refine A_get hE 42 dX1_readB_39 rfl fkX1_29 rfl rfl ?_
          refine A_iconst hE 43 dX1_readB_42 rfl (1) rfl ?_
          refine A_iadd hE 44 dX1_readB_43 rfl ?_
          rw [nI_1]
          refine A_put hE 47 dX1_readB_44 rfl fkX1_29 rfl rfl rfl rfl ?_
          refine A_aload_n hE 48 dX1_readB_47 rfl rfl ?_
          refine A_iload_n hE 49 dX1_readB_48 rfl rfl ?_
          refine A_callVv hE 52 (hsub (b + 1) s2 f2 hlt (by omega) hs2) [0, 1, 2, 3, 4] dX1_readB_49 rfl mkX1_74 rfl rfl rfl rfl rfl (frN (show d < d + 1 by omega)) (loB (by show _ ≤ 32 * (d + 1) + 20; omega)) (Nat.le_of_ble_eq_true rfl) (Nat.le_of_ble_eq_true rfl) rfl (fun h49 g49 hp49 hw49 => ?_)
          rcases hp49 with ⟨b4, s4, f4, e49, hs49, rfl⟩ | ⟨b3, pl3, k3, f3, e49, hb3, hk3, rfl⟩
          · obtain rfl := Option.some.inj hw49
            refine A_h (RdW u n tp (nI b4) (-1) s4.length f4) rfl ?_
            obtain ⟨g4, g5, g6⟩ := hgo.get hlt e49
            refine A_aload_n hE 53 dX1_readB_52 rfl rfl ?_
            refine A_get hE 56 dX1_readB_53 rfl fkX1_14 rfl rfl ?_
            refine A_iload_n hE 57 dX1_readB_56 rfl rfl ?_
            refine A_ineg hE 58 dX1_readB_57 rfl ?_
            refine A_callVv hE 61 (c_X3_add 60 f4 s4.length (-lk q n b) (by omega) rfl) [1, 2] dX1_readB_58 rfl mkX1_68 rfl rfl rfl rfl rfl (frN (show 0 < d + 1 by omega)) (loB (by show _ ≤ 32 * (d + 1) + 20; omega)) (Nat.le_of_ble_eq_true rfl) (Nat.le_of_ble_eq_true rfl) rfl (fun h58 g58 hp58 hw58 => ?_)
            obtain rfl := hp58
            obtain rfl := Option.some.inj hw58
            refine A_h (RdW u n tp (nI b4) (-1) (s4 ++ [(3, lk q n b)]).length (upd f4 s4.length (-lk q n b))) (by rw [if_pos (show s4.length < 60 by omega), if_pos (show s4.length < 60 by omega), len_push]; rfl) ?_
            refine A_vret hE dX1_readB_61 ?_
            exact Or.inl ⟨b4, s4 ++ [(3, lk q n b)], _, by rw [cmP, e2]; show (if opB (lk q n b) = true then _ else _) = _; rw [if_pos hc, e49]; rfl, hs49.push (3, lk q n b) (enc_3 u _), rfl⟩
          · obtain rfl := Option.some.inj hw49
            refine A_h (RdW u n tp pl3 (nI b3) k3 f3) rfl ?_
            refine A_aload_n hE 53 dX1_readB_52 rfl rfl ?_
            refine A_get hE 56 dX1_readB_53 rfl fkX1_14 rfl rfl ?_
            refine A_iload_n hE 57 dX1_readB_56 rfl rfl ?_
            refine A_ineg hE 58 dX1_readB_57 rfl ?_
            refine A_callVv hE 61 (c_X3_add 60 f3 k3 (-lk q n b) hk3 rfl) [1, 2] dX1_readB_58 rfl mkX1_68 rfl rfl rfl rfl rfl (frN (show 0 < d + 1 by omega)) (loB (by show _ ≤ 32 * (d + 1) + 20; omega)) (Nat.le_of_ble_eq_true rfl) (Nat.le_of_ble_eq_true rfl) rfl (fun h58 g58 hp58 hw58 => ?_)
            obtain rfl := hp58
            obtain rfl := Option.some.inj hw58
            refine A_h (RdW u n tp pl3 (nI b3) (if k3 < 60 then k3 + 1 else k3) (if k3 < 60 then upd f3 k3 (-lk q n b) else f3)) rfl ?_
            refine A_vret hE dX1_readB_61 ?_
            exact Or.inr ⟨b3, pl3, (if k3 < 60 then k3 + 1 else k3), (if k3 < 60 then upd f3 k3 (-lk q n b) else f3), by rw [cmP, e2]; show (if opB (lk q n b) = true then _ else _) = _; rw [if_pos hc, e49]; rfl, hb3, (by split <;> omega), rfl⟩
  · obtain rfl := Option.some.inj hw2
    refine A_h (RdW u n tp pl3 (nI b3) k3 f3) rfl ?_
    refine A_aload_n hE 6 dX1_readB_5 rfl rfl ?_
    refine A_bipush hE 8 dX1_readB_6 rfl (60) (by decide) ?_
    refine A_callVi hE 11 (c_isNextF u n tp pl3 (nI b3) (k3) f3 (60) (nI_pos' (by omega)) (by decide)) [0, 1, 2, 3, 4] dX1_readB_8 rfl mkX1_64 rfl rfl rfl rfl rfl (frN (show 2 < d + 1 by omega)) (loB (by show _ ≤ 32 * (d + 1) + 20; omega)) (Nat.le_of_ble_eq_true rfl) (Nat.le_of_ble_eq_true rfl) rfl (fun x8 h8 g8 hp8 hw8 => ?_)
    obtain ⟨rfl, rfl⟩ := hp8
    obtain rfl := Option.some.inj hw8
    refine A_h (RdW u n tp pl3 (nI b3) k3 f3) rfl ?_
    refine A_if_ne hE 14 32 dX1_readB_11 rfl rfl (fun c11 => absurd rfl c11) (fun c11 => ?_)
    refine A_aload_n hE 15 dX1_readB_14 rfl rfl ?_
    refine A_bipush hE 17 dX1_readB_15 rfl (61) (by decide) ?_
    refine A_callVi hE 20 (c_isNextF u n tp pl3 (nI b3) (k3) f3 (61) (nI_pos' (by omega)) (by decide)) [0, 1, 2, 3, 4] dX1_readB_17 rfl mkX1_64 rfl rfl rfl rfl rfl (frN (show 2 < d + 1 by omega)) (loB (by show _ ≤ 32 * (d + 1) + 20; omega)) (Nat.le_of_ble_eq_true rfl) (Nat.le_of_ble_eq_true rfl) rfl (fun x17 h17 g17 hp17 hw17 => ?_)
    obtain ⟨rfl, rfl⟩ := hp17
    obtain rfl := Option.some.inj hw17
    refine A_h (RdW u n tp pl3 (nI b3) k3 f3) rfl ?_
    refine A_if_ne hE 23 32 dX1_readB_20 rfl rfl (fun c20 => absurd rfl c20) (fun c20 => ?_)
    refine A_aload_n hE 24 dX1_readB_23 rfl rfl ?_
    refine A_bipush hE 26 dX1_readB_24 rfl (62) (by decide) ?_
    refine A_callVi hE 29 (c_isNextF u n tp pl3 (nI b3) (k3) f3 (62) (nI_pos' (by omega)) (by decide)) [0, 1, 2, 3, 4] dX1_readB_26 rfl mkX1_64 rfl rfl rfl rfl rfl (frN (show 2 < d + 1 by omega)) (loB (by show _ ≤ 32 * (d + 1) + 20; omega)) (Nat.le_of_ble_eq_true rfl) (Nat.le_of_ble_eq_true rfl) rfl (fun x26 h26 g26 hp26 hw26 => ?_)
    obtain ⟨rfl, rfl⟩ := hp26
    obtain rfl := Option.some.inj hw26
    refine A_h (RdW u n tp pl3 (nI b3) k3 f3) rfl ?_
    refine A_if_eq hE 32 61 dX1_readB_29 rfl rfl (fun c29 => ?_) (fun c29 => absurd rfl c29)
    refine A_vret hE dX1_readB_61 ?_
    exact Or.inr ⟨b3, pl3, k3, f3, by rw [cmP, e2]; rfl, hb3, hk3, rfl⟩
set_option maxRecDepth 100000 in
theorem c_X1_readA (q : Nat → Int32) (n u o : Nat) (tp : Nat → Int32) (h60 : n ≤ 60) (hu : u < 2) (ho : o ≤ 5) (hq : ∀ i, i < n → tp i = q i) (hby : ∀ i, i < n → ∃ b : Nat, b < 256 ∧ q i = nI b) (d : Nat) (hd : 5 ≤ d) (P : Pz) (hgo : GoP n u P) (hsub : ∀ (a : Nat) (ss : Sp) (f : Nat → Int32), a ≤ n → ss.length ≤ a → StepC u f ss → AMet yX1_readB cX1_readB 3 none (d) 0 0 [.ref 0, .int (nI o)] (RdW u n tp (nI a) (-1) ss.length f) (pV (PstC u n tp (P a ss)))) (a0 : Nat) (ss0 : Sp) (f0 : Nat → Int32) (ha : a0 ≤ n) (hss : ss0.length ≤ a0) (hf : StepC u f0 ss0) : AMet yX1_readA cX1_readA 3 none (d + 1) 0 0 [.ref 0, .int (nI o)] (RdW u n tp (nI a0) (-1) ss0.length f0) (pV (PstC u n tp (chP q n opA P a0 ss0))) := by
  refine AMet.of (by decide +kernel) rfl (fun E ad0 hE => ?_)
  have loop : ∀ (m i a : Nat) (ss : Sp) (f : Nat → Int32), i + m = 60 → a ≤ n → ss.length ≤ a → StepC u f ss → chP q n opA P a0 ss0 = tlP q n opA P m a ss → AW E (rmD (d + 1) 0 0) 3 (QM E ad0 5 0 0 (pV (PstC u n tp (chP q n opA P a0 ss0)))) ad0 5 0 0 7 [(0, .ref 0), (1, .int (nI o)), (2, .int (nI i))] [] (RdW u n tp (nI a) (-1) ss.length f) := by
    intro m
    induction m with
    | zero =>
      intro i a ss f hi ha hss hf hx
      obtain rfl : i = 60 := by omega
      refine A_iload_n hE 8 dX1_readA_7 rfl rfl ?_
      refine A_bipush hE 10 dX1_readA_8 rfl (60) (by decide) ?_
      refine A_icmp_ge hE 13 52 dX1_readA_10 rfl rfl (fun c10 => ?_) (fun c10 => absurd (by decide) c10)
      refine A_vret hE dX1_readA_52 ?_
      exact Or.inl ⟨a, ss, f, hx, hf, rfl⟩
    | succ m ih =>
      intro i a ss f hi ha hss hf hx
      refine A_iload_n hE 8 dX1_readA_7 rfl rfl ?_
      refine A_bipush hE 10 dX1_readA_8 rfl (60) (by decide) ?_
      refine A_icmp_ge hE 13 52 dX1_readA_10 rfl rfl (fun c10 => absurd c10 (nI_ge (b := 60) (by omega) (by omega))) (fun c10 => ?_)
      refine A_aload_n hE 14 dX1_readA_13 rfl rfl ?_
      refine A_bipush hE 16 dX1_readA_14 rfl (38) (by decide) ?_
      refine A_callVi hE 19 (c_isNext q n u tp h60 hq a (ss.length) (38) f (by omega)) [0, 1, 2, 3, 4] dX1_readA_16 rfl mkX1_64 rfl rfl rfl rfl rfl (frN (show 2 < d + 1 by omega)) (loB (by show _ ≤ 32 * (d + 1) + 20; omega)) (Nat.le_of_ble_eq_true rfl) (Nat.le_of_ble_eq_true rfl) rfl (fun x16 h16 g16 hp16 hw16 => ?_)
      obtain ⟨rfl, rfl⟩ := hp16
      obtain rfl := Option.some.inj hw16
      refine A_h (RdW u n tp (nI a) (-1) ss.length f) rfl ?_
      refine A_if_eq hE 22 52 dX1_readA_19 rfl rfl (fun c19 => ?_) (fun c19 => ?_)
      · have q19 := bI_0 c19
        refine A_vret hE dX1_readA_52 ?_
        exact Or.inl ⟨a, ss, f, hx.trans (by rw [tlP, if_neg (fun (z : opA (lk q n a) = true) => q19 (of_decide_eq_true z))]), hf, rfl⟩
      · have q19 := bI_1 c19
        have hc : opA (lk q n a) = true := decide_eq_true (q19)
        have hlt : a < n := lk_lt (fun z => opC_m1 (z ▸ opA_C _ hc))
        refine A_aload_n hE 23 dX1_readA_22 rfl rfl ?_
        refine A_dup hE 24 dX1_readA_23 rfl rfl ?_
        refine A_get hE 27 dX1_readA_24 rfl fkX1_29 rfl rfl ?_
        refine A_iconst hE 28 dX1_readA_27 rfl (1) rfl ?_
        refine A_iadd hE 29 dX1_readA_28 rfl ?_
        rw [nI_1]
        refine A_put hE 32 dX1_readA_29 rfl fkX1_29 rfl rfl rfl rfl ?_
        refine A_aload_n hE 33 dX1_readA_32 rfl rfl ?_
        refine A_iload_n hE 34 dX1_readA_33 rfl rfl ?_
        refine A_callVv hE 37 (hsub (a + 1) ss f hlt (by omega) hf) [0, 1, 2, 3, 4] dX1_readA_34 rfl mkX1_71 rfl rfl rfl rfl rfl (frN (show d < d + 1 by omega)) (loB (by show _ ≤ 32 * (d + 1) + 20; omega)) (Nat.le_of_ble_eq_true rfl) (Nat.le_of_ble_eq_true rfl) rfl (fun h34 g34 hp34 hw34 => ?_)
        rcases hp34 with ⟨b, s2, f2, e34, hs34, rfl⟩ | ⟨b3, pl3, k3, f3, e34, hb3, hk3, rfl⟩
        · obtain rfl := Option.some.inj hw34
          refine A_h (RdW u n tp (nI b) (-1) s2.length f2) rfl ?_
          obtain ⟨g1, g2, g3⟩ := hgo.get hlt e34
          refine A_aload_n hE 38 dX1_readA_37 rfl rfl ?_
          refine A_get hE 41 dX1_readA_38 rfl fkX1_14 rfl rfl ?_
          refine A_bipush hE 43 dX1_readA_41 rfl (-38) (by decide) ?_
          refine A_callVv hE 46 (c_X3_add 60 f2 s2.length (-38) (by omega) rfl) [1, 2] dX1_readA_43 rfl mkX1_68 rfl rfl rfl rfl rfl (frN (show 0 < d + 1 by omega)) (loB (by show _ ≤ 32 * (d + 1) + 20; omega)) (Nat.le_of_ble_eq_true rfl) (Nat.le_of_ble_eq_true rfl) rfl (fun h43 g43 hp43 hw43 => ?_)
          obtain rfl := hp43
          obtain rfl := Option.some.inj hw43
          refine A_h (RdW u n tp (nI b) (-1) (s2 ++ [(3, 38)]).length (upd f2 s2.length (-38))) (by rw [if_pos (show s2.length < 60 by omega), if_pos (show s2.length < 60 by omega), len_push]; rfl) ?_
          refine A_iinc hE 49 dX1_readA_46 rfl rfl (1) rfl rfl rfl ?_
          rw [nI_1]
          refine A_lv [0, 1, 2] rfl ?_
          refine A_goto hE 7 dX1_readA_49 rfl ?_
          exact ih (i + 1) b (s2 ++ [(3, 38)]) _ (by omega) g2 (by rw [len_push]; omega) (hs34.push (3, 38) (enc_3 u 38)) (hx.trans (by rw [tlP, if_pos hc, q19, e34]; rfl))
        · obtain rfl := Option.some.inj hw34
          refine A_h (RdW u n tp pl3 (nI b3) k3 f3) rfl ?_
          refine A_aload_n hE 38 dX1_readA_37 rfl rfl ?_
          refine A_get hE 41 dX1_readA_38 rfl fkX1_14 rfl rfl ?_
          refine A_bipush hE 43 dX1_readA_41 rfl (-38) (by decide) ?_
          refine A_callVv hE 46 (c_X3_add 60 f3 k3 (-38) hk3 rfl) [1, 2] dX1_readA_43 rfl mkX1_68 rfl rfl rfl rfl rfl (frN (show 0 < d + 1 by omega)) (loB (by show _ ≤ 32 * (d + 1) + 20; omega)) (Nat.le_of_ble_eq_true rfl) (Nat.le_of_ble_eq_true rfl) rfl (fun h43 g43 hp43 hw43 => ?_)
          obtain rfl := hp43
          obtain rfl := Option.some.inj hw43
          refine A_h (RdW u n tp pl3 (nI b3) (if k3 < 60 then k3 + 1 else k3) (if k3 < 60 then upd f3 k3 (-38) else f3)) rfl ?_
          refine A_iinc hE 49 dX1_readA_46 rfl rfl (1) rfl rfl rfl ?_
          rw [nI_1]
          refine A_goto hE 7 dX1_readA_49 rfl ?_
          refine A_iload_n hE 8 dX1_readA_7 rfl rfl ?_
          refine A_bipush hE 10 dX1_readA_8 rfl (60) (by decide) ?_
          refine A_icmp_ge hE 13 52 dX1_readA_10 rfl rfl (fun c10 => ?_) (fun c10 => ?_)
          · refine A_vret hE dX1_readA_52 ?_
            exact Or.inr ⟨b3, pl3, (if k3 < 60 then k3 + 1 else k3), (if k3 < 60 then upd f3 k3 (-38) else f3), hx.trans (by rw [tlP, if_pos hc, e34]; rfl), hb3, (by split <;> omega), rfl⟩
          · refine A_aload_n hE 14 dX1_readA_13 rfl rfl ?_
            refine A_bipush hE 16 dX1_readA_14 rfl (38) (by decide) ?_
            refine A_callVi hE 19 (c_isNextF u n tp pl3 (nI b3) ((if k3 < 60 then k3 + 1 else k3)) (if k3 < 60 then upd f3 k3 (-38) else f3) (38) (nI_pos' (by omega)) (by decide)) [0, 1, 2, 3, 4] dX1_readA_16 rfl mkX1_64 rfl rfl rfl rfl rfl (frN (show 2 < d + 1 by omega)) (loB (by show _ ≤ 32 * (d + 1) + 20; omega)) (Nat.le_of_ble_eq_true rfl) (Nat.le_of_ble_eq_true rfl) rfl (fun x16 h16 g16 hp16 hw16 => ?_)
            obtain ⟨rfl, rfl⟩ := hp16
            obtain rfl := Option.some.inj hw16
            refine A_h (RdW u n tp pl3 (nI b3) (if k3 < 60 then k3 + 1 else k3) (if k3 < 60 then upd f3 k3 (-38) else f3)) rfl ?_
            refine A_if_eq hE 22 52 dX1_readA_19 rfl rfl (fun c19 => ?_) (fun c19 => absurd rfl c19)
            refine A_vret hE dX1_readA_52 ?_
            exact Or.inr ⟨b3, pl3, (if k3 < 60 then k3 + 1 else k3), (if k3 < 60 then upd f3 k3 (-38) else f3), hx.trans (by rw [tlP, if_pos hc, e34]; rfl), hb3, (by split <;> omega), rfl⟩
  refine A_aload_n hE 1 dX1_readA_0 rfl rfl ?_
  refine A_iload_n hE 2 dX1_readA_1 rfl rfl ?_
  refine A_callVv hE 5 (hsub a0 ss0 f0 ha hss hf) [0, 1, 2, 3, 4] dX1_readA_2 rfl mkX1_71 rfl rfl rfl rfl rfl (frN (show d < d + 1 by omega)) (loB (by show _ ≤ 32 * (d + 1) + 20; omega)) (Nat.le_of_ble_eq_true rfl) (Nat.le_of_ble_eq_true rfl) rfl (fun h2 g2 hp2 hw2 => ?_)
  rcases hp2 with ⟨b, s2, f2, e2, hs2, rfl⟩ | ⟨b3, pl3, k3, f3, e2, hb3, hk3, rfl⟩
  · obtain rfl := Option.some.inj hw2
    refine A_h (RdW u n tp (nI b) (-1) s2.length f2) rfl ?_
    obtain ⟨g1, g2, g3⟩ := hgo.get ha e2
    refine A_iconst hE 6 dX1_readA_5 rfl (0) rfl ?_
    refine A_istore_n hE 7 dX1_readA_6 rfl rfl rfl ?_
    refine A_lv [0, 1, 2] rfl ?_
    exact loop 60 0 b s2 f2 rfl g2 (by omega) hs2 (by rw [chP, e2]; rfl)
  · obtain rfl := Option.some.inj hw2
    refine A_h (RdW u n tp pl3 (nI b3) k3 f3) rfl ?_
    refine A_iconst hE 6 dX1_readA_5 rfl (0) rfl ?_
    refine A_istore_n hE 7 dX1_readA_6 rfl rfl rfl ?_
    refine A_iload_n hE 8 dX1_readA_7 rfl rfl ?_
    refine A_bipush hE 10 dX1_readA_8 rfl (60) (by decide) ?_
    refine A_icmp_ge hE 13 52 dX1_readA_10 rfl rfl (fun c10 => absurd c10 (by decide)) (fun c10 => ?_)
    refine A_aload_n hE 14 dX1_readA_13 rfl rfl ?_
    refine A_bipush hE 16 dX1_readA_14 rfl (38) (by decide) ?_
    refine A_callVi hE 19 (c_isNextF u n tp pl3 (nI b3) (k3) f3 (38) (nI_pos' (by omega)) (by decide)) [0, 1, 2, 3, 4] dX1_readA_16 rfl mkX1_64 rfl rfl rfl rfl rfl (frN (show 2 < d + 1 by omega)) (loB (by show _ ≤ 32 * (d + 1) + 20; omega)) (Nat.le_of_ble_eq_true rfl) (Nat.le_of_ble_eq_true rfl) rfl (fun x16 h16 g16 hp16 hw16 => ?_)
    obtain ⟨rfl, rfl⟩ := hp16
    obtain rfl := Option.some.inj hw16
    refine A_h (RdW u n tp pl3 (nI b3) k3 f3) rfl ?_
    refine A_if_eq hE 22 52 dX1_readA_19 rfl rfl (fun c19 => ?_) (fun c19 => absurd rfl c19)
    refine A_vret hE dX1_readA_52 ?_
    exact Or.inr ⟨b3, pl3, k3, f3, by rw [chP, e2]; rfl, hb3, hk3, rfl⟩
set_option maxRecDepth 100000 in
theorem c_X1_readT (q : Nat → Int32) (n u o : Nat) (tp : Nat → Int32) (h60 : n ≤ 60) (hu : u < 2) (ho : o ≤ 5) (hq : ∀ i, i < n → tp i = q i) (hby : ∀ i, i < n → ∃ b : Nat, b < 256 ∧ q i = nI b) (d : Nat) (hd : 5 ≤ d) (P : Pz) (hgo : GoP n u P) (hsub : ∀ (a : Nat) (ss : Sp) (f : Nat → Int32), a ≤ n → ss.length ≤ a → StepC u f ss → AMet yX1_readA cX1_readA 3 none (d) 0 0 [.ref 0, .int (nI o)] (RdW u n tp (nI a) (-1) ss.length f) (pV (PstC u n tp (P a ss)))) (a0 : Nat) (ss0 : Sp) (f0 : Nat → Int32) (ha : a0 ≤ n) (hss : ss0.length ≤ a0) (hf : StepC u f0 ss0) : AMet yX1_readT cX1_readT 3 none (d + 1) 0 0 [.ref 0, .int (nI o)] (RdW u n tp (nI a0) (-1) ss0.length f0) (pV (PstC u n tp (chP q n opW P a0 ss0))) := by
  refine AMet.of (by decide +kernel) rfl (fun E ad0 hE => ?_)
  have loop : ∀ (m i a : Nat) (ss : Sp) (f : Nat → Int32), i + m = 60 → a ≤ n → ss.length ≤ a → StepC u f ss → chP q n opW P a0 ss0 = tlP q n opW P m a ss → AW E (rmD (d + 1) 0 0) 3 (QM E ad0 5 0 0 (pV (PstC u n tp (chP q n opW P a0 ss0)))) ad0 5 0 0 7 [(0, .ref 0), (1, .int (nI o)), (2, .int (nI i))] [] (RdW u n tp (nI a) (-1) ss.length f) := by
    intro m
    induction m with
    | zero =>
      intro i a ss f hi ha hss hf hx
      obtain rfl : i = 60 := by omega
      refine A_iload_n hE 8 dX1_readT_7 rfl rfl ?_
      refine A_bipush hE 10 dX1_readT_8 rfl (60) (by decide) ?_
      refine A_icmp_ge hE 13 52 dX1_readT_10 rfl rfl (fun c10 => ?_) (fun c10 => absurd (by decide) c10)
      refine A_vret hE dX1_readT_52 ?_
      exact Or.inl ⟨a, ss, f, hx, hf, rfl⟩
    | succ m ih =>
      intro i a ss f hi ha hss hf hx
      refine A_iload_n hE 8 dX1_readT_7 rfl rfl ?_
      refine A_bipush hE 10 dX1_readT_8 rfl (60) (by decide) ?_
      refine A_icmp_ge hE 13 52 dX1_readT_10 rfl rfl (fun c10 => absurd c10 (nI_ge (b := 60) (by omega) (by omega))) (fun c10 => ?_)
      refine A_aload_n hE 14 dX1_readT_13 rfl rfl ?_
      refine A_bipush hE 16 dX1_readT_14 rfl (124) (by decide) ?_
      refine A_callVi hE 19 (c_isNext q n u tp h60 hq a (ss.length) (124) f (by omega)) [0, 1, 2, 3, 4] dX1_readT_16 rfl mkX1_64 rfl rfl rfl rfl rfl (frN (show 2 < d + 1 by omega)) (loB (by show _ ≤ 32 * (d + 1) + 20; omega)) (Nat.le_of_ble_eq_true rfl) (Nat.le_of_ble_eq_true rfl) rfl (fun x16 h16 g16 hp16 hw16 => ?_)
      obtain ⟨rfl, rfl⟩ := hp16
      obtain rfl := Option.some.inj hw16
      refine A_h (RdW u n tp (nI a) (-1) ss.length f) rfl ?_
      refine A_if_eq hE 22 52 dX1_readT_19 rfl rfl (fun c19 => ?_) (fun c19 => ?_)
      · have q19 := bI_0 c19
        refine A_vret hE dX1_readT_52 ?_
        exact Or.inl ⟨a, ss, f, hx.trans (by rw [tlP, if_neg (fun (z : opW (lk q n a) = true) => q19 (of_decide_eq_true z))]), hf, rfl⟩
      · have q19 := bI_1 c19
        have hc : opW (lk q n a) = true := decide_eq_true (q19)
        have hlt : a < n := lk_lt (fun z => opC_m1 (z ▸ opW_C _ hc))
        refine A_aload_n hE 23 dX1_readT_22 rfl rfl ?_
        refine A_dup hE 24 dX1_readT_23 rfl rfl ?_
        refine A_get hE 27 dX1_readT_24 rfl fkX1_29 rfl rfl ?_
        refine A_iconst hE 28 dX1_readT_27 rfl (1) rfl ?_
        refine A_iadd hE 29 dX1_readT_28 rfl ?_
        rw [nI_1]
        refine A_put hE 32 dX1_readT_29 rfl fkX1_29 rfl rfl rfl rfl ?_
        refine A_aload_n hE 33 dX1_readT_32 rfl rfl ?_
        refine A_iload_n hE 34 dX1_readT_33 rfl rfl ?_
        refine A_callVv hE 37 (hsub (a + 1) ss f hlt (by omega) hf) [0, 1, 2, 3, 4] dX1_readT_34 rfl mkX1_61 rfl rfl rfl rfl rfl (frN (show d < d + 1 by omega)) (loB (by show _ ≤ 32 * (d + 1) + 20; omega)) (Nat.le_of_ble_eq_true rfl) (Nat.le_of_ble_eq_true rfl) rfl (fun h34 g34 hp34 hw34 => ?_)
        rcases hp34 with ⟨b, s2, f2, e34, hs34, rfl⟩ | ⟨b3, pl3, k3, f3, e34, hb3, hk3, rfl⟩
        · obtain rfl := Option.some.inj hw34
          refine A_h (RdW u n tp (nI b) (-1) s2.length f2) rfl ?_
          obtain ⟨g1, g2, g3⟩ := hgo.get hlt e34
          refine A_aload_n hE 38 dX1_readT_37 rfl rfl ?_
          refine A_get hE 41 dX1_readT_38 rfl fkX1_14 rfl rfl ?_
          refine A_bipush hE 43 dX1_readT_41 rfl (-124) (by decide) ?_
          refine A_callVv hE 46 (c_X3_add 60 f2 s2.length (-124) (by omega) rfl) [1, 2] dX1_readT_43 rfl mkX1_68 rfl rfl rfl rfl rfl (frN (show 0 < d + 1 by omega)) (loB (by show _ ≤ 32 * (d + 1) + 20; omega)) (Nat.le_of_ble_eq_true rfl) (Nat.le_of_ble_eq_true rfl) rfl (fun h43 g43 hp43 hw43 => ?_)
          obtain rfl := hp43
          obtain rfl := Option.some.inj hw43
          refine A_h (RdW u n tp (nI b) (-1) (s2 ++ [(3, 124)]).length (upd f2 s2.length (-124))) (by rw [if_pos (show s2.length < 60 by omega), if_pos (show s2.length < 60 by omega), len_push]; rfl) ?_
          refine A_iinc hE 49 dX1_readT_46 rfl rfl (1) rfl rfl rfl ?_
          rw [nI_1]
          refine A_lv [0, 1, 2] rfl ?_
          refine A_goto hE 7 dX1_readT_49 rfl ?_
          exact ih (i + 1) b (s2 ++ [(3, 124)]) _ (by omega) g2 (by rw [len_push]; omega) (hs34.push (3, 124) (enc_3 u 124)) (hx.trans (by rw [tlP, if_pos hc, q19, e34]; rfl))
        · obtain rfl := Option.some.inj hw34
          refine A_h (RdW u n tp pl3 (nI b3) k3 f3) rfl ?_
          refine A_aload_n hE 38 dX1_readT_37 rfl rfl ?_
          refine A_get hE 41 dX1_readT_38 rfl fkX1_14 rfl rfl ?_
          refine A_bipush hE 43 dX1_readT_41 rfl (-124) (by decide) ?_
          refine A_callVv hE 46 (c_X3_add 60 f3 k3 (-124) hk3 rfl) [1, 2] dX1_readT_43 rfl mkX1_68 rfl rfl rfl rfl rfl (frN (show 0 < d + 1 by omega)) (loB (by show _ ≤ 32 * (d + 1) + 20; omega)) (Nat.le_of_ble_eq_true rfl) (Nat.le_of_ble_eq_true rfl) rfl (fun h43 g43 hp43 hw43 => ?_)
          obtain rfl := hp43
          obtain rfl := Option.some.inj hw43
          refine A_h (RdW u n tp pl3 (nI b3) (if k3 < 60 then k3 + 1 else k3) (if k3 < 60 then upd f3 k3 (-124) else f3)) rfl ?_
          refine A_iinc hE 49 dX1_readT_46 rfl rfl (1) rfl rfl rfl ?_
          rw [nI_1]
          refine A_goto hE 7 dX1_readT_49 rfl ?_
          refine A_iload_n hE 8 dX1_readT_7 rfl rfl ?_
          refine A_bipush hE 10 dX1_readT_8 rfl (60) (by decide) ?_
          refine A_icmp_ge hE 13 52 dX1_readT_10 rfl rfl (fun c10 => ?_) (fun c10 => ?_)
          · refine A_vret hE dX1_readT_52 ?_
            exact Or.inr ⟨b3, pl3, (if k3 < 60 then k3 + 1 else k3), (if k3 < 60 then upd f3 k3 (-124) else f3), hx.trans (by rw [tlP, if_pos hc, e34]; rfl), hb3, (by split <;> omega), rfl⟩
          · refine A_aload_n hE 14 dX1_readT_13 rfl rfl ?_
            refine A_bipush hE 16 dX1_readT_14 rfl (124) (by decide) ?_
            refine A_callVi hE 19 (c_isNextF u n tp pl3 (nI b3) ((if k3 < 60 then k3 + 1 else k3)) (if k3 < 60 then upd f3 k3 (-124) else f3) (124) (nI_pos' (by omega)) (by decide)) [0, 1, 2, 3, 4] dX1_readT_16 rfl mkX1_64 rfl rfl rfl rfl rfl (frN (show 2 < d + 1 by omega)) (loB (by show _ ≤ 32 * (d + 1) + 20; omega)) (Nat.le_of_ble_eq_true rfl) (Nat.le_of_ble_eq_true rfl) rfl (fun x16 h16 g16 hp16 hw16 => ?_)
            obtain ⟨rfl, rfl⟩ := hp16
            obtain rfl := Option.some.inj hw16
            refine A_h (RdW u n tp pl3 (nI b3) (if k3 < 60 then k3 + 1 else k3) (if k3 < 60 then upd f3 k3 (-124) else f3)) rfl ?_
            refine A_if_eq hE 22 52 dX1_readT_19 rfl rfl (fun c19 => ?_) (fun c19 => absurd rfl c19)
            refine A_vret hE dX1_readT_52 ?_
            exact Or.inr ⟨b3, pl3, (if k3 < 60 then k3 + 1 else k3), (if k3 < 60 then upd f3 k3 (-124) else f3), hx.trans (by rw [tlP, if_pos hc, e34]; rfl), hb3, (by split <;> omega), rfl⟩
  refine A_aload_n hE 1 dX1_readT_0 rfl rfl ?_
  refine A_iload_n hE 2 dX1_readT_1 rfl rfl ?_
  refine A_callVv hE 5 (hsub a0 ss0 f0 ha hss hf) [0, 1, 2, 3, 4] dX1_readT_2 rfl mkX1_61 rfl rfl rfl rfl rfl (frN (show d < d + 1 by omega)) (loB (by show _ ≤ 32 * (d + 1) + 20; omega)) (Nat.le_of_ble_eq_true rfl) (Nat.le_of_ble_eq_true rfl) rfl (fun h2 g2 hp2 hw2 => ?_)
  rcases hp2 with ⟨b, s2, f2, e2, hs2, rfl⟩ | ⟨b3, pl3, k3, f3, e2, hb3, hk3, rfl⟩
  · obtain rfl := Option.some.inj hw2
    refine A_h (RdW u n tp (nI b) (-1) s2.length f2) rfl ?_
    obtain ⟨g1, g2, g3⟩ := hgo.get ha e2
    refine A_iconst hE 6 dX1_readT_5 rfl (0) rfl ?_
    refine A_istore_n hE 7 dX1_readT_6 rfl rfl rfl ?_
    refine A_lv [0, 1, 2] rfl ?_
    exact loop 60 0 b s2 f2 rfl g2 (by omega) hs2 (by rw [chP, e2]; rfl)
  · obtain rfl := Option.some.inj hw2
    refine A_h (RdW u n tp pl3 (nI b3) k3 f3) rfl ?_
    refine A_iconst hE 6 dX1_readT_5 rfl (0) rfl ?_
    refine A_istore_n hE 7 dX1_readT_6 rfl rfl rfl ?_
    refine A_iload_n hE 8 dX1_readT_7 rfl rfl ?_
    refine A_bipush hE 10 dX1_readT_8 rfl (60) (by decide) ?_
    refine A_icmp_ge hE 13 52 dX1_readT_10 rfl rfl (fun c10 => absurd c10 (by decide)) (fun c10 => ?_)
    refine A_aload_n hE 14 dX1_readT_13 rfl rfl ?_
    refine A_bipush hE 16 dX1_readT_14 rfl (124) (by decide) ?_
    refine A_callVi hE 19 (c_isNextF u n tp pl3 (nI b3) (k3) f3 (124) (nI_pos' (by omega)) (by decide)) [0, 1, 2, 3, 4] dX1_readT_16 rfl mkX1_64 rfl rfl rfl rfl rfl (frN (show 2 < d + 1 by omega)) (loB (by show _ ≤ 32 * (d + 1) + 20; omega)) (Nat.le_of_ble_eq_true rfl) (Nat.le_of_ble_eq_true rfl) rfl (fun x16 h16 g16 hp16 hw16 => ?_)
    obtain ⟨rfl, rfl⟩ := hp16
    obtain rfl := Option.some.inj hw16
    refine A_h (RdW u n tp pl3 (nI b3) k3 f3) rfl ?_
    refine A_if_eq hE 22 52 dX1_readT_19 rfl rfl (fun c19 => ?_) (fun c19 => absurd rfl c19)
    refine A_vret hE dX1_readT_52 ?_
    exact Or.inr ⟨b3, pl3, k3, f3, by rw [chP, e2]; rfl, hb3, hk3, rfl⟩
set_option maxRecDepth 100000 in
theorem c_X1_readNot (q : Nat → Int32) (n u o : Nat) (tp : Nat → Int32) (h60 : n ≤ 60) (hu : u < 2) (ho : o ≤ 5) (hq : ∀ i, i < n → tp i = q i) (hby : ∀ i, i < n → ∃ b : Nat, b < 256 ∧ q i = nI b) (j : Nat) (hr : ∀ (a : Nat) (ss : Sp) (f : Nat → Int32), a ≤ n → ss.length ≤ a → StepC u f ss → AMet yX1_readQ cX1_readQ 2 none (dc j) 0 0 [.ref 0, .int (nI o)] (RdW u n tp (nI a) (-1) ss.length f) (pV (PstC u n tp (onP q n u j a ss)))) (a : Nat) (ss : Sp) (f : Nat → Int32) (hlt : a < n) (hss : ss.length ≤ a) (hf : StepC u f ss) (hN : isN u (lk q n a) = false) (hD : isD (lk q n a) = false) (q33 : lk q n a = 33) : AMet yX1_readNot cX1_readNot 2 none (dc j + 1) 0 0 [.ref 0, .int (nI o)] (RdW u n tp (nI a) (-1) ss.length f) (pV (PstC u n tp (onP q n u (j + 1) a ss))) := by
  refine AMet.of (by decide +kernel) rfl (fun E ad0 hE => ?_)
  have hdk := dc_ge j
  refine A_aload_n hE 1 dX1_readNot_0 rfl rfl ?_
  refine A_dup hE 2 dX1_readNot_1 rfl rfl ?_
  refine A_get hE 5 dX1_readNot_2 rfl fkX1_29 rfl rfl ?_
  refine A_iconst hE 6 dX1_readNot_5 rfl (1) rfl ?_
  refine A_iadd hE 7 dX1_readNot_6 rfl ?_
  rw [nI_1]
  refine A_put hE 10 dX1_readNot_7 rfl fkX1_29 rfl rfl rfl rfl ?_
  refine A_aload_n hE 11 dX1_readNot_10 rfl rfl ?_
  refine A_iload_n hE 12 dX1_readNot_11 rfl rfl ?_
  refine A_callVv hE 15 (hr (a + 1) ss f hlt (by omega) hf) [0, 1, 2, 3, 4] dX1_readNot_12 rfl mkX1_80 rfl rfl rfl rfl rfl (frN (show dc j < dc j + 1 by omega)) (loB (by show _ ≤ 32 * (dc j + 1) + 20; omega)) (Nat.le_of_ble_eq_true rfl) (Nat.le_of_ble_eq_true rfl) rfl (fun h12 g12 hp12 hw12 => ?_)
  rcases hp12 with ⟨b, s2, f2, e12, hs12, rfl⟩ | ⟨b3, pl3, k3, f3, e12, hb3, hk3, rfl⟩
  · obtain rfl := Option.some.inj hw12
    refine A_h (RdW u n tp (nI b) (-1) s2.length f2) rfl ?_
    obtain ⟨g1, g2, g3⟩ := (on_go j).get hlt e12
    refine A_aload_n hE 16 dX1_readNot_15 rfl rfl ?_
    refine A_get hE 19 dX1_readNot_16 rfl fkX1_14 rfl rfl ?_
    refine A_bipush hE 21 dX1_readNot_19 rfl (-33) (by decide) ?_
    refine A_callVv hE 24 (c_X3_add 60 f2 s2.length (-33) (by omega) rfl) [1, 2] dX1_readNot_21 rfl mkX1_68 rfl rfl rfl rfl rfl (frN (show 0 < dc j + 1 by omega)) (loB (by show _ ≤ 32 * (dc j + 1) + 20; omega)) (Nat.le_of_ble_eq_true rfl) (Nat.le_of_ble_eq_true rfl) rfl (fun h21 g21 hp21 hw21 => ?_)
    obtain rfl := hp21
    obtain rfl := Option.some.inj hw21
    refine A_h (RdW u n tp (nI b) (-1) (s2 ++ [(2, 0)]).length (upd f2 s2.length (-33))) (by rw [if_pos (show s2.length < 60 by omega), if_pos (show s2.length < 60 by omega), len_push]; rfl) ?_
    refine A_vret hE dX1_readNot_24 ?_
    exact Or.inl ⟨b, s2 ++ [(2, 0)], _, by rw [on_bg j hN hD q33, e12]; rfl, hs12.push (2, 0) (enc_2 u), rfl⟩
  · obtain rfl := Option.some.inj hw12
    refine A_h (RdW u n tp pl3 (nI b3) k3 f3) rfl ?_
    refine A_aload_n hE 16 dX1_readNot_15 rfl rfl ?_
    refine A_get hE 19 dX1_readNot_16 rfl fkX1_14 rfl rfl ?_
    refine A_bipush hE 21 dX1_readNot_19 rfl (-33) (by decide) ?_
    refine A_callVv hE 24 (c_X3_add 60 f3 k3 (-33) hk3 rfl) [1, 2] dX1_readNot_21 rfl mkX1_68 rfl rfl rfl rfl rfl (frN (show 0 < dc j + 1 by omega)) (loB (by show _ ≤ 32 * (dc j + 1) + 20; omega)) (Nat.le_of_ble_eq_true rfl) (Nat.le_of_ble_eq_true rfl) rfl (fun h21 g21 hp21 hw21 => ?_)
    obtain rfl := hp21
    obtain rfl := Option.some.inj hw21
    refine A_h (RdW u n tp pl3 (nI b3) (if k3 < 60 then k3 + 1 else k3) (if k3 < 60 then upd f3 k3 (-33) else f3)) rfl ?_
    refine A_vret hE dX1_readNot_24 ?_
    exact Or.inr ⟨b3, pl3, (if k3 < 60 then k3 + 1 else k3), (if k3 < 60 then upd f3 k3 (-33) else f3), by rw [on_bg j hN hD q33, e12]; rfl, hb3, (by split <;> omega), rfl⟩
set_option maxRecDepth 100000 in
theorem c_X1_readInner (q : Nat → Int32) (n u o : Nat) (tp : Nat → Int32) (h60 : n ≤ 60) (hu : u < 2) (ho : o ≤ 5) (hq : ∀ i, i < n → tp i = q i) (hby : ∀ i, i < n → ∃ b : Nat, b < 256 ∧ q i = nI b) (j : Nat) (hr : ∀ (a : Nat) (ss : Sp) (f : Nat → Int32), a ≤ n → ss.length ≤ a → StepC u f ss → AMet yX1_readT cX1_readT 3 none (dc j + 1 + 1 + 1 + 1 + 1) 0 0 [.ref 0, .int (nI o)] (RdW u n tp (nI a) (-1) ss.length f) (pV (PstC u n tp (whP q n (onP q n u j) a ss)))) (a : Nat) (ss : Sp) (f : Nat → Int32) (hlt : a < n) (hss : ss.length ≤ a) (hf : StepC u f ss) (hN : isN u (lk q n a) = false) (hD : isD (lk q n a) = false) (q40 : lk q n a = 40) : AMet yX1_readInner cX1_readInner 2 none (dc j + 6) 0 0 [.ref 0, .int (nI o)] (RdW u n tp (nI a) (-1) ss.length f) (pV (PstC u n tp (onP q n u (j + 1) a ss))) := by
  refine AMet.of (by decide +kernel) rfl (fun E ad0 hE => ?_)
  have hdk := dc_ge j
  have n33 : ¬ lk q n a = 33 := by rw [q40]; decide
  refine A_aload_n hE 1 dX1_readInner_0 rfl rfl ?_
  refine A_dup hE 2 dX1_readInner_1 rfl rfl ?_
  refine A_get hE 5 dX1_readInner_2 rfl fkX1_29 rfl rfl ?_
  refine A_iconst hE 6 dX1_readInner_5 rfl (1) rfl ?_
  refine A_iadd hE 7 dX1_readInner_6 rfl ?_
  rw [nI_1]
  refine A_put hE 10 dX1_readInner_7 rfl fkX1_29 rfl rfl rfl rfl ?_
  refine A_aload_n hE 11 dX1_readInner_10 rfl rfl ?_
  refine A_iload_n hE 12 dX1_readInner_11 rfl rfl ?_
  refine A_callVv hE 15 (hr (a + 1) ss f hlt (by omega) hf) [0, 1, 2, 3, 4] dX1_readInner_12 rfl mkX1_43 rfl rfl rfl rfl rfl (frN (show dc j + 1 + 1 + 1 + 1 + 1 < dc j + 6 by omega)) (loB (by show _ ≤ 32 * (dc j + 6) + 20; omega)) (Nat.le_of_ble_eq_true rfl) (Nat.le_of_ble_eq_true rfl) rfl (fun h12 g12 hp12 hw12 => ?_)
  rcases hp12 with ⟨b, s2, f2, e12, hs12, rfl⟩ | ⟨b3, pl3, k3, f3, e12, hb3, hk3, rfl⟩
  · obtain rfl := Option.some.inj hw12
    refine A_h (RdW u n tp (nI b) (-1) s2.length f2) rfl ?_
    obtain ⟨g1, g2, g3⟩ := (wh_go (on_go j)).2.2.2.2.get hlt e12
    refine A_aload_n hE 16 dX1_readInner_15 rfl rfl ?_
    refine A_bipush hE 18 dX1_readInner_16 rfl (41) (by decide) ?_
    refine A_callVi hE 21 (c_isNext q n u tp h60 hq b s2.length 41 f2 (by omega)) [0, 1, 2, 3, 4] dX1_readInner_18 rfl mkX1_64 rfl rfl rfl rfl rfl (frN (show 2 < dc j + 6 by omega)) (loB (by show _ ≤ 32 * (dc j + 6) + 20; omega)) (Nat.le_of_ble_eq_true rfl) (Nat.le_of_ble_eq_true rfl) rfl (fun x18 h18 g18 hp18 hw18 => ?_)
    obtain ⟨rfl, rfl⟩ := hp18
    obtain rfl := Option.some.inj hw18
    refine A_h (RdW u n tp (nI b) (-1) s2.length f2) rfl ?_
    refine A_if_eq hE 24 37 dX1_readInner_21 rfl rfl (fun c21 => ?_) (fun c21 => ?_)
    · have h41 := bI_0 c21
      refine A_aload_n hE 38 dX1_readInner_37 rfl rfl ?_
      refine A_callVv hE 41 (c_fail u n tp b s2.length f2) [0, 1, 2, 3, 4] dX1_readInner_38 rfl mkX1_50 rfl rfl rfl rfl rfl (frN (show 0 < dc j + 6 by omega)) (loB (by show _ ≤ 32 * (dc j + 6) + 20; omega)) (Nat.le_of_ble_eq_true rfl) (Nat.le_of_ble_eq_true rfl) rfl (fun h38 g38 hp38 hw38 => ?_)
      obtain rfl := hp38
      obtain rfl := Option.some.inj hw38
      refine A_h (RdW u n tp (nI b) (nI b) s2.length f2) rfl ?_
      refine A_vret hE dX1_readInner_41 ?_
      exact Or.inr ⟨b, nI b, s2.length, f2, by rw [on_pr j hN hD n33 q40, e12]; show (if lk q n b = 41 then _ else _) = _; rw [if_neg h41], g2, by omega, rfl⟩
    · have h41 := bI_1 c21
      refine A_aload_n hE 25 dX1_readInner_24 rfl rfl ?_
      refine A_dup hE 26 dX1_readInner_25 rfl rfl ?_
      refine A_get hE 29 dX1_readInner_26 rfl fkX1_29 rfl rfl ?_
      refine A_iconst hE 30 dX1_readInner_29 rfl (1) rfl ?_
      refine A_iadd hE 31 dX1_readInner_30 rfl ?_
      rw [nI_1]
      refine A_put hE 34 dX1_readInner_31 rfl fkX1_29 rfl rfl rfl rfl ?_
      refine A_goto hE 41 dX1_readInner_34 rfl ?_
      refine A_vret hE dX1_readInner_41 ?_
      exact Or.inl ⟨b + 1, s2, f2, by rw [on_pr j hN hD n33 q40, e12]; show (if lk q n b = 41 then _ else _) = _; rw [if_pos h41], hs12, rfl⟩
  · obtain rfl := Option.some.inj hw12
    refine A_h (RdW u n tp pl3 (nI b3) k3 f3) rfl ?_
    refine A_aload_n hE 16 dX1_readInner_15 rfl rfl ?_
    refine A_bipush hE 18 dX1_readInner_16 rfl (41) (by decide) ?_
    refine A_callVi hE 21 (c_isNextF u n tp pl3 (nI b3) (k3) f3 (41) (nI_pos' (by omega)) (by decide)) [0, 1, 2, 3, 4] dX1_readInner_18 rfl mkX1_64 rfl rfl rfl rfl rfl (frN (show 2 < dc j + 6 by omega)) (loB (by show _ ≤ 32 * (dc j + 6) + 20; omega)) (Nat.le_of_ble_eq_true rfl) (Nat.le_of_ble_eq_true rfl) rfl (fun x18 h18 g18 hp18 hw18 => ?_)
    obtain ⟨rfl, rfl⟩ := hp18
    obtain rfl := Option.some.inj hw18
    refine A_h (RdW u n tp pl3 (nI b3) k3 f3) rfl ?_
    refine A_if_eq hE 24 37 dX1_readInner_21 rfl rfl (fun c21 => ?_) (fun c21 => absurd rfl c21)
    refine A_aload_n hE 38 dX1_readInner_37 rfl rfl ?_
    refine A_callVv hE 41 (c_failF u n tp pl3 (nI b3) k3 f3 (nI_pos' (by omega))) [0, 1, 2, 3, 4] dX1_readInner_38 rfl mkX1_50 rfl rfl rfl rfl rfl (frN (show 0 < dc j + 6 by omega)) (loB (by show _ ≤ 32 * (dc j + 6) + 20; omega)) (Nat.le_of_ble_eq_true rfl) (Nat.le_of_ble_eq_true rfl) rfl (fun h38 g38 hp38 hw38 => ?_)
    obtain rfl := hp38
    obtain rfl := Option.some.inj hw38
    refine A_h (RdW u n tp pl3 (nI b3) k3 f3) rfl ?_
    refine A_vret hE dX1_readInner_41 ?_
    exact Or.inr ⟨b3, pl3, k3, f3, by rw [on_pr j hN hD n33 q40, e12]; rfl, hb3, hk3, rfl⟩
theorem nm_m1 {u : Nat} : ¬ isN u (-1) = true := by
  intro z
  rcases of_decide_eq_true z with h | h | h
  · exact absurd h (by decide)
  · exact absurd h (by decide)
  · by_cases hu : u = 0
    · rw [if_pos hu] at h; exact absurd h (by decide)
    · rw [if_neg hu] at h; exact absurd h (by decide)
theorem nmF_yes (u : Nat) (hu : u < 2) {q : Nat → Int32} {n a : Nat} (h : ¬ (if isN u (lk q n a) = true then nmI u (lk q n a) else -1) < 0) : isN u (lk q n a) = true := by
  by_cases z : isN u (lk q n a) = true
  · exact z
  · rw [if_neg z] at h; exact absurd (by decide) h
theorem nmF_no (u : Nat) (hu : u < 2) {q : Nat → Int32} {n a : Nat} (hby : ∀ i, i < n → ∃ b : Nat, b < 256 ∧ q i = nI b) (h : (if isN u (lk q n a) = true then nmI u (lk q n a) else -1) < 0) : isN u (lk q n a) = false := by
  cases z : isN u (lk q n a) with
  | false => rfl
  | true =>
    rw [if_pos z] at h
    by_cases hm : lk q n a = -1
    · rw [hm] at z
      obtain rfl | rfl : u = 0 ∨ u = 1 := by omega
      · exact absurd z (by decide)
      · exact absurd z (by decide)
    · obtain ⟨b, hb, e⟩ := lk_by hby hm
      rw [e] at h
      rcases nm_rng u hu b hb with g | g | g <;> rw [g] at h <;> exact absurd h (by decide)
theorem dig_nm {u : Nat} {c : Int32} (h : isN u c = true) : ¬ isD c = true := by
  have h := of_decide_eq_true h
  intro z
  rcases h with h | h | h
  · rw [h] at z; exact absurd z (by decide)
  · rw [h] at z; exact absurd z (by decide)
  · by_cases hu : u = 0
    · rw [if_pos hu] at h; rw [h] at z; exact absurd z (by decide)
    · rw [if_neg hu] at h; rw [h] at z; exact absurd z (by decide)
theorem enc_1 (u : Nat) {c : Int32} (h : isN u c = true) : (10000 + nmI u c) = encS u (1, c) := rfl

set_option maxRecDepth 100000 in
theorem c_readQ_of (q : Nat → Int32) (n u o : Nat) (tp : Nat → Int32) (h60 : n ≤ 60) (hu : u < 2) (ho : o ≤ 5) (hq : ∀ i, i < n → tp i = q i) (hby : ∀ i, i < n → ∃ b : Nat, b < 256 ∧ q i = nI b) (k : Nat) (hok : o + k = 5) (hr1 : ∀ j, k = j + 1 → ∀ (a : Nat) (ss : Sp) (f : Nat → Int32), a ≤ n → ss.length ≤ a → StepC u f ss → AMet yX1_readQ cX1_readQ 2 none (dc j) 0 0 [.ref 0, .int (nI (o + 1))] (RdW u n tp (nI a) (-1) ss.length f) (pV (PstC u n tp (onP q n u j a ss)))) (hr2 : ∀ j, k = j + 1 → ∀ (a : Nat) (ss : Sp) (f : Nat → Int32), a ≤ n → ss.length ≤ a → StepC u f ss → AMet yX1_readT cX1_readT 3 none (dc j + 1 + 1 + 1 + 1 + 1) 0 0 [.ref 0, .int (nI (o + 1))] (RdW u n tp (nI a) (-1) ss.length f) (pV (PstC u n tp (whP q n (onP q n u j) a ss)))) (a : Nat) (ss : Sp) (f : Nat → Int32) (ha : a ≤ n) (hss : ss.length ≤ a) (hf : StepC u f ss) : AMet yX1_readQ cX1_readQ 2 none (dc k) 0 0 [.ref 0, .int (nI o)] (RdW u n tp (nI a) (-1) ss.length f) (pV (PstC u n tp (onP q n u k a ss))) := by
  refine AMet.of (by decide +kernel) rfl (fun E ad0 hE => ?_)
  have hdk := dc_ge k
  refine A_aload_n hE 1 dX1_readQ_0 rfl rfl ?_
  refine A_callVi hE 4 (c_isDigit q n u tp h60 hq a ss.length f (by omega)) [0, 1, 2, 3, 4] dX1_readQ_1 rfl mkX1_83 rfl rfl rfl rfl rfl (frN (show 2 < dc k by omega)) (loB (by show _ ≤ 32 * (dc k) + 20; omega)) (Nat.le_of_ble_eq_true rfl) (Nat.le_of_ble_eq_true rfl) rfl (fun x1 h1 g1 hp1 hw1 => ?_)
  obtain ⟨rfl, rfl⟩ := hp1
  obtain rfl := Option.some.inj hw1
  refine A_h (RdW u n tp (nI a) (-1) ss.length f) rfl ?_
  refine A_if_eq hE 7 14 dX1_readQ_4 rfl rfl (fun c4 => ?_) (fun c4 => ?_)
  · have hD := biF c4
    refine A_aload_n hE 15 dX1_readQ_14 rfl rfl ?_
    refine A_callVi hE 18 (c_nameNext q n u tp h60 hq a ss.length f (by omega) hu hby) [0, 1, 2, 3, 4] dX1_readQ_15 rfl mkX1_90 rfl rfl rfl rfl rfl (frN (show 4 < dc k by omega)) (loB (by show _ ≤ 32 * (dc k) + 20; omega)) (Nat.le_of_ble_eq_true rfl) (Nat.le_of_ble_eq_true rfl) rfl (fun x15 h15 g15 hp15 hw15 => ?_)
    obtain ⟨rfl, rfl⟩ := hp15
    obtain rfl := Option.some.inj hw15
    refine A_h (RdW u n tp (nI a) (-1) ss.length f) rfl ?_
    refine A_if_lt hE 21 49 dX1_readQ_18 rfl rfl (fun c18 => ?_) (fun c18 => ?_)
    · have hN := nmF_no u hu (q := q) (n := n) (a := a) hby c18
      refine A_aload_n hE 50 dX1_readQ_49 rfl rfl ?_
      refine A_bipush hE 52 dX1_readQ_50 rfl (33) (by decide) ?_
      refine A_callVi hE 55 (c_isNext q n u tp h60 hq a ss.length 33 f (by omega)) [0, 1, 2, 3, 4] dX1_readQ_52 rfl mkX1_64 rfl rfl rfl rfl rfl (frN (show 2 < dc k by omega)) (loB (by show _ ≤ 32 * (dc k) + 20; omega)) (Nat.le_of_ble_eq_true rfl) (Nat.le_of_ble_eq_true rfl) rfl (fun x52 h52 g52 hp52 hw52 => ?_)
      obtain ⟨rfl, rfl⟩ := hp52
      obtain rfl := Option.some.inj hw52
      refine A_h (RdW u n tp (nI a) (-1) ss.length f) rfl ?_
      refine A_if_eq hE 58 73 dX1_readQ_55 rfl rfl (fun c55 => ?_) (fun c55 => ?_)
      · have q55 := bI_0 c55
        refine A_aload_n hE 74 dX1_readQ_73 rfl rfl ?_
        refine A_bipush hE 76 dX1_readQ_74 rfl (40) (by decide) ?_
        refine A_callVi hE 79 (c_isNext q n u tp h60 hq a ss.length 40 f (by omega)) [0, 1, 2, 3, 4] dX1_readQ_76 rfl mkX1_64 rfl rfl rfl rfl rfl (frN (show 2 < dc k by omega)) (loB (by show _ ≤ 32 * (dc k) + 20; omega)) (Nat.le_of_ble_eq_true rfl) (Nat.le_of_ble_eq_true rfl) rfl (fun x76 h76 g76 hp76 hw76 => ?_)
        obtain ⟨rfl, rfl⟩ := hp76
        obtain rfl := Option.some.inj hw76
        refine A_h (RdW u n tp (nI a) (-1) ss.length f) rfl ?_
        refine A_if_eq hE 82 97 dX1_readQ_79 rfl rfl (fun c79 => ?_) (fun c79 => ?_)
        · have q79 := bI_0 c79
          refine A_aload_n hE 98 dX1_readQ_97 rfl rfl ?_
          refine A_callVv hE 101 (c_fail u n tp a ss.length f) [0, 1, 2, 3, 4] dX1_readQ_98 rfl mkX1_50 rfl rfl rfl rfl rfl (frN (show 0 < dc k by omega)) (loB (by show _ ≤ 32 * (dc k) + 20; omega)) (Nat.le_of_ble_eq_true rfl) (Nat.le_of_ble_eq_true rfl) rfl (fun h98 g98 hp98 hw98 => ?_)
          obtain rfl := hp98
          obtain rfl := Option.some.inj hw98
          refine A_h (RdW u n tp (nI a) (nI a) ss.length f) rfl ?_
          refine A_vret hE dX1_readQ_101 ?_
          exact Or.inr ⟨a, nI a, ss.length, f, on_ot k hN hD q55 q79, ha, by omega, rfl⟩
        · have q79 := bI_1 c79
          refine A_iload_n hE 83 dX1_readQ_82 rfl rfl ?_
          refine A_iconst hE 84 dX1_readQ_83 rfl (5) rfl ?_
          refine A_icmp_ge hE 87 97 dX1_readQ_84 rfl rfl (fun c84 => ?_) (fun c84 => ?_)
          · refine A_aload_n hE 98 dX1_readQ_97 rfl rfl ?_
            refine A_callVv hE 101 (c_fail u n tp a ss.length f) [0, 1, 2, 3, 4] dX1_readQ_98 rfl mkX1_50 rfl rfl rfl rfl rfl (frN (show 0 < dc k by omega)) (loB (by show _ ≤ 32 * (dc k) + 20; omega)) (Nat.le_of_ble_eq_true rfl) (Nat.le_of_ble_eq_true rfl) rfl (fun h98 g98 hp98 hw98 => ?_)
            obtain rfl := hp98
            obtain rfl := Option.some.inj hw98
            refine A_h (RdW u n tp (nI a) (nI a) ss.length f) rfl ?_
            refine A_vret hE dX1_readQ_101 ?_
            exact Or.inr ⟨a, nI a, ss.length, f, by obtain rfl : k = 0 := (by rcases Nat.eq_zero_or_pos k with z | z; exact z; exact absurd (nI_lt (show o < 5 by omega) (by omega)) (iN c84)); exact on_0 hN hD, ha, by omega, rfl⟩
          · have c84 : nI o < 5 := iG c84
            rcases k with _ | j
            · exact absurd c84 (by rw [show o = 5 by omega]; decide)
            · have hlt : a < n := lk_lt (fun z => by rw [z] at q79; exact absurd q79 (by decide))
              refine A_aload_n hE 88 dX1_readQ_87 rfl rfl ?_
              refine A_iload_n hE 89 dX1_readQ_88 rfl rfl ?_
              refine A_iconst hE 90 dX1_readQ_89 rfl (1) rfl ?_
              refine A_iadd hE 91 dX1_readQ_90 rfl ?_
              rw [nI_1]
              refine A_callVv hE 94 (c_X1_readInner q n u (o + 1) tp h60 hu (by omega) hq hby j (hr2 j rfl) a ss f hlt hss hf hN hD q79) [0, 1, 2, 3, 4] dX1_readQ_91 rfl mkX1_98 rfl rfl rfl rfl rfl (frN (show dc j + 6 < dc (j + 1) by simp only [dc]; omega)) (loB (by show _ ≤ 32 * (dc (j + 1)) + 20; simp only [dc]; omega)) (Nat.le_of_ble_eq_true rfl) (Nat.le_of_ble_eq_true rfl) rfl (fun h91 g91 hp91 hw91 => ?_)
              rcases hp91 with ⟨b, s2, f2, e91, hs91, rfl⟩ | ⟨b3, pl3, k3, f3, e91, hb3, hk3, rfl⟩
              · obtain rfl := Option.some.inj hw91
                refine A_h (RdW u n tp (nI b) (-1) s2.length f2) rfl ?_
                refine A_goto hE 101 dX1_readQ_94 rfl ?_
                refine A_vret hE dX1_readQ_101 ?_
                exact Or.inl ⟨b, s2, f2, e91, hs91, rfl⟩
              · obtain rfl := Option.some.inj hw91
                refine A_h (RdW u n tp pl3 (nI b3) k3 f3) rfl ?_
                refine A_goto hE 101 dX1_readQ_94 rfl ?_
                refine A_vret hE dX1_readQ_101 ?_
                exact Or.inr ⟨b3, pl3, k3, f3, e91, hb3, hk3, rfl⟩
      · have q55 := bI_1 c55
        refine A_iload_n hE 59 dX1_readQ_58 rfl rfl ?_
        refine A_iconst hE 60 dX1_readQ_59 rfl (5) rfl ?_
        refine A_icmp_ge hE 63 73 dX1_readQ_60 rfl rfl (fun c60 => ?_) (fun c60 => ?_)
        · refine A_aload_n hE 74 dX1_readQ_73 rfl rfl ?_
          refine A_bipush hE 76 dX1_readQ_74 rfl (40) (by decide) ?_
          refine A_callVi hE 79 (c_isNext q n u tp h60 hq a ss.length 40 f (by omega)) [0, 1, 2, 3, 4] dX1_readQ_76 rfl mkX1_64 rfl rfl rfl rfl rfl (frN (show 2 < dc k by omega)) (loB (by show _ ≤ 32 * (dc k) + 20; omega)) (Nat.le_of_ble_eq_true rfl) (Nat.le_of_ble_eq_true rfl) rfl (fun x76 h76 g76 hp76 hw76 => ?_)
          obtain ⟨rfl, rfl⟩ := hp76
          obtain rfl := Option.some.inj hw76
          refine A_h (RdW u n tp (nI a) (-1) ss.length f) rfl ?_
          refine A_if_eq hE 82 97 dX1_readQ_79 rfl rfl (fun c79 => ?_) (fun c79 => ?_)
          · have q79 := bI_0 c79
            refine A_aload_n hE 98 dX1_readQ_97 rfl rfl ?_
            refine A_callVv hE 101 (c_fail u n tp a ss.length f) [0, 1, 2, 3, 4] dX1_readQ_98 rfl mkX1_50 rfl rfl rfl rfl rfl (frN (show 0 < dc k by omega)) (loB (by show _ ≤ 32 * (dc k) + 20; omega)) (Nat.le_of_ble_eq_true rfl) (Nat.le_of_ble_eq_true rfl) rfl (fun h98 g98 hp98 hw98 => ?_)
            obtain rfl := hp98
            obtain rfl := Option.some.inj hw98
            refine A_h (RdW u n tp (nI a) (nI a) ss.length f) rfl ?_
            refine A_vret hE dX1_readQ_101 ?_
            exact Or.inr ⟨a, nI a, ss.length, f, by obtain rfl : k = 0 := (by rcases Nat.eq_zero_or_pos k with z | z; exact z; exact absurd (nI_lt (show o < 5 by omega) (by omega)) (iN c60)); exact on_0 hN hD, ha, by omega, rfl⟩
          · have q79 := bI_1 c79
            refine A_iload_n hE 83 dX1_readQ_82 rfl rfl ?_
            refine A_iconst hE 84 dX1_readQ_83 rfl (5) rfl ?_
            refine A_icmp_ge hE 87 97 dX1_readQ_84 rfl rfl (fun c84 => ?_) (fun c84 => ?_)
            · refine A_aload_n hE 98 dX1_readQ_97 rfl rfl ?_
              refine A_callVv hE 101 (c_fail u n tp a ss.length f) [0, 1, 2, 3, 4] dX1_readQ_98 rfl mkX1_50 rfl rfl rfl rfl rfl (frN (show 0 < dc k by omega)) (loB (by show _ ≤ 32 * (dc k) + 20; omega)) (Nat.le_of_ble_eq_true rfl) (Nat.le_of_ble_eq_true rfl) rfl (fun h98 g98 hp98 hw98 => ?_)
              obtain rfl := hp98
              obtain rfl := Option.some.inj hw98
              refine A_h (RdW u n tp (nI a) (nI a) ss.length f) rfl ?_
              refine A_vret hE dX1_readQ_101 ?_
              exact Or.inr ⟨a, nI a, ss.length, f, by obtain rfl : k = 0 := (by rcases Nat.eq_zero_or_pos k with z | z; exact z; exact absurd (nI_lt (show o < 5 by omega) (by omega)) (iN c60)); exact on_0 hN hD, ha, by omega, rfl⟩
            · have c84 : nI o < 5 := iG c84
              exact absurd (q55.symm.trans q79) (by decide)
        · have c60 : nI o < 5 := iG c60
          rcases k with _ | j
          · exact absurd c60 (by rw [show o = 5 by omega]; decide)
          · have hlt : a < n := lk_lt (fun z => by rw [z] at q55; exact absurd q55 (by decide))
            refine A_aload_n hE 64 dX1_readQ_63 rfl rfl ?_
            refine A_iload_n hE 65 dX1_readQ_64 rfl rfl ?_
            refine A_iconst hE 66 dX1_readQ_65 rfl (1) rfl ?_
            refine A_iadd hE 67 dX1_readQ_66 rfl ?_
            rw [nI_1]
            refine A_callVv hE 70 (c_X1_readNot q n u (o + 1) tp h60 hu (by omega) hq hby j (hr1 j rfl) a ss f hlt hss hf hN hD q55) [0, 1, 2, 3, 4] dX1_readQ_67 rfl mkX1_95 rfl rfl rfl rfl rfl (frN (show dc j + 1 < dc (j + 1) by simp only [dc]; omega)) (loB (by show _ ≤ 32 * (dc (j + 1)) + 20; simp only [dc]; omega)) (Nat.le_of_ble_eq_true rfl) (Nat.le_of_ble_eq_true rfl) rfl (fun h67 g67 hp67 hw67 => ?_)
            rcases hp67 with ⟨b, s2, f2, e67, hs67, rfl⟩ | ⟨b3, pl3, k3, f3, e67, hb3, hk3, rfl⟩
            · obtain rfl := Option.some.inj hw67
              refine A_h (RdW u n tp (nI b) (-1) s2.length f2) rfl ?_
              refine A_goto hE 101 dX1_readQ_70 rfl ?_
              refine A_vret hE dX1_readQ_101 ?_
              exact Or.inl ⟨b, s2, f2, e67, hs67, rfl⟩
            · obtain rfl := Option.some.inj hw67
              refine A_h (RdW u n tp pl3 (nI b3) k3 f3) rfl ?_
              refine A_goto hE 101 dX1_readQ_70 rfl ?_
              refine A_vret hE dX1_readQ_101 ?_
              exact Or.inr ⟨b3, pl3, k3, f3, e67, hb3, hk3, rfl⟩
    · have hN := nmF_yes u hu (q := q) (n := n) (a := a) c18
      have hlt : a < n := lk_lt (fun z => nm_m1 (z ▸ hN))
      refine A_aload_n hE 22 dX1_readQ_21 rfl rfl ?_
      refine A_get hE 25 dX1_readQ_22 rfl fkX1_14 rfl rfl ?_
      refine A_sipush hE 28 dX1_readQ_25 rfl (10000) (by decide) ?_
      refine A_aload_n hE 29 dX1_readQ_28 rfl rfl ?_
      refine A_callVi hE 32 (c_nameNext q n u tp h60 hq a ss.length f (by omega) hu hby) [0, 1, 2, 3, 4] dX1_readQ_29 rfl mkX1_90 rfl rfl rfl rfl rfl (frN (show 4 < dc k by omega)) (loB (by show _ ≤ 32 * (dc k) + 20; omega)) (Nat.le_of_ble_eq_true rfl) (Nat.le_of_ble_eq_true rfl) rfl (fun x29 h29 g29 hp29 hw29 => ?_)
      obtain ⟨rfl, rfl⟩ := hp29
      obtain rfl := Option.some.inj hw29
      refine A_h (RdW u n tp (nI a) (-1) ss.length f) rfl ?_
      rw [if_pos hN]
      refine A_iadd hE 33 dX1_readQ_32 rfl ?_
      refine A_callVv hE 36 (c_X3_add 60 f ss.length (10000 + nmI u (lk q n a)) (by omega) rfl) [1, 2] dX1_readQ_33 rfl mkX1_68 rfl rfl rfl rfl rfl (frN (show 0 < dc k by omega)) (loB (by show _ ≤ 32 * (dc k) + 20; omega)) (Nat.le_of_ble_eq_true rfl) (Nat.le_of_ble_eq_true rfl) rfl (fun h33 g33 hp33 hw33 => ?_)
      obtain rfl := hp33
      obtain rfl := Option.some.inj hw33
      refine A_h (RdW u n tp (nI a) (-1) (ss ++ [(1, lk q n a)]).length (upd f ss.length (10000 + nmI u (lk q n a)))) (by rw [if_pos (show ss.length < 60 by omega), if_pos (show ss.length < 60 by omega), len_push]; rfl) ?_
      refine A_aload_n hE 37 dX1_readQ_36 rfl rfl ?_
      refine A_dup hE 38 dX1_readQ_37 rfl rfl ?_
      refine A_get hE 41 dX1_readQ_38 rfl fkX1_29 rfl rfl ?_
      refine A_iconst hE 42 dX1_readQ_41 rfl (1) rfl ?_
      refine A_iadd hE 43 dX1_readQ_42 rfl ?_
      rw [nI_1]
      refine A_put hE 46 dX1_readQ_43 rfl fkX1_29 rfl rfl rfl rfl ?_
      refine A_goto hE 101 dX1_readQ_46 rfl ?_
      refine A_vret hE dX1_readQ_101 ?_
      exact Or.inl ⟨a + 1, ss ++ [(1, lk q n a)], _, on_nm k hN, hf.push (1, lk q n a) (enc_1 u hN), rfl⟩
  · have hD := biT c4
    have hlt : a < n := lk_lt (fun z => by rw [z] at hD; exact absurd hD (by decide))
    refine A_aload_n hE 8 dX1_readQ_7 rfl rfl ?_
    refine A_callVv hE 11 (c_readNumber q n u tp h60 hq a ss f ha (by omega)) [0, 1, 2, 3, 4] dX1_readQ_8 rfl mkX1_87 rfl rfl rfl rfl rfl (frN (show 3 < dc k by omega)) (loB (by show _ ≤ 32 * (dc k) + 20; omega)) (Nat.le_of_ble_eq_true rfl) (Nat.le_of_ble_eq_true rfl) rfl (fun h8 g8 hp8 hw8 => ?_)
    obtain rfl := hp8
    obtain rfl := Option.some.inj hw8
    refine A_h (RdW u n tp (nI (nuV q n 4 a 0).2) (-1) (ss ++ [(0, (nuV q n 4 a 0).1)]).length (upd f ss.length (nuV q n 4 a 0).1)) rfl ?_
    refine A_goto hE 101 dX1_readQ_11 rfl ?_
    refine A_vret hE dX1_readQ_101 ?_
    exact Or.inl ⟨_, ss ++ [(0, (nuV q n 4 a 0).1)], _, on_dg k (by cases hz : isN u (lk q n a) with | false => rfl | true => exact absurd hD (dig_nm hz)) hD, hf.push (0, _) (enc_0 u _), rfl⟩
