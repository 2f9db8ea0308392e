theorem c_readQ (q : Nat → Int32) (n u : Nat) (tp : Nat → Int32) (h60 : n ≤ 60) (hu : u < 2) (hq : ∀ i, i < n → tp i = q i) (hby : ∀ i, i < n → ∃ b : Nat, b < 256 ∧ q i = nI b) : ∀ (k o : Nat), o + k = 5 → ∀ (a : Nat) (ss : Sp) (f : Nat → Int32), a ≤ n → ss.length ≤ a → StepC u f ss → AMet yX1_readQ cX1_readQ 2 none (dc k) 0 0 [.ref 0, .int (nI o)] (RdW u n tp (nI a) (-1) ss.length f) (pV (PstC u n tp (onP q n u k a ss)))
  | 0, o, hok, a, ss, f, h1, h2, h3 => c_readQ_of q n u o tp h60 hu (by omega) hq hby 0 hok (fun j h => by omega) (fun j h => by omega) a ss f h1 h2 h3
  | k + 1, o, hok, a, ss, f, h1, h2, h3 => by
    refine c_readQ_of q n u o tp h60 hu (by omega) hq hby (k + 1) hok (fun j h => ?_) (fun j h => ?_) a ss f h1 h2 h3
    · obtain rfl : k = j := by omega
      exact fun a ss f h1 h2 h3 => c_readQ q n u tp h60 hu hq hby k (o + 1) (by omega) a ss f h1 h2 h3
    · obtain rfl : k = j := by omega
      exact fun a ss f h1 h2 h3 => c_X1_readT q n u (o + 1) tp h60 hu (by omega) hq hby (dc k + 1 + 1 + 1 + 1) (by have := dc_ge k; omega) (boP q n (onP q n u k)) (wh_go (on_go k)).2.2.2.1 (fun a ss f h1 h2 h3 => c_X1_readA q n u (o + 1) tp h60 hu (by omega) hq hby (dc k + 1 + 1 + 1) (by have := dc_ge k; omega) (coP q n (onP q n u k)) (wh_go (on_go k)).2.2.1 (fun a ss f h1 h2 h3 => c_X1_readB q n u (o + 1) tp h60 hu (by omega) hq hby (dc k + 1 + 1) (by have := dc_ge k; omega) (suP q n (onP q n u k)) (wh_go (on_go k)).2.1 (fun a ss f h1 h2 h3 => c_X1_readS q n u (o + 1) tp h60 hu (by omega) hq hby (dc k + 1) (by have := dc_ge k; omega) (prP q n (onP q n u k)) (wh_go (on_go k)).1 (fun a ss f h1 h2 h3 => c_X1_readP q n u (o + 1) tp h60 hu (by omega) hq hby (dc k) (by have := dc_ge k; omega) (onP q n u k) (on_go k) (fun a ss f h1 h2 h3 => c_readQ q n u tp h60 hu hq hby k (o + 1) (by omega) a ss f h1 h2 h3) a ss f h1 h2 h3) a ss f h1 h2 h3) a ss f h1 h2 h3) a ss f h1 h2 h3) a ss f h1 h2 h3
theorem c_readT5 (q : Nat → Int32) (n u : Nat) (tp : Nat → Int32) (h60 : n ≤ 60) (hu : u < 2) (hq : ∀ i, i < n → tp i = q i) (hby : ∀ i, i < n → ∃ b : Nat, b < 256 ∧ q i = nI b) (a : Nat) (ss : Sp) (f : Nat → Int32) (h1 : a ≤ n) (h2 : ss.length ≤ a) (h3 : StepC u f ss) : AMet yX1_readT cX1_readT 3 none (45) 0 0 [.ref 0, .int (nI 0)] (RdW u n tp (nI a) (-1) ss.length f) (pV (PstC u n tp (whP q n (onP q n u 5) a ss))) := c_X1_readT q n u 0 tp h60 hu (Nat.zero_le _) hq hby (dc 5 + 1 + 1 + 1 + 1) (by have := dc_ge 5; omega) (boP q n (onP q n u 5)) (wh_go (on_go 5)).2.2.2.1 (fun a ss f h1 h2 h3 => c_X1_readA q n u 0 tp h60 hu (Nat.zero_le _) hq hby (dc 5 + 1 + 1 + 1) (by have := dc_ge 5; omega) (coP q n (onP q n u 5)) (wh_go (on_go 5)).2.2.1 (fun a ss f h1 h2 h3 => c_X1_readB q n u 0 tp h60 hu (Nat.zero_le _) hq hby (dc 5 + 1 + 1) (by have := dc_ge 5; omega) (suP q n (onP q n u 5)) (wh_go (on_go 5)).2.1 (fun a ss f h1 h2 h3 => c_X1_readS q n u 0 tp h60 hu (Nat.zero_le _) hq hby (dc 5 + 1) (by have := dc_ge 5; omega) (prP q n (onP q n u 5)) (wh_go (on_go 5)).1 (fun a ss f h1 h2 h3 => c_X1_readP q n u 0 tp h60 hu (Nat.zero_le _) hq hby (dc 5) (by have := dc_ge 5; omega) (onP q n u 5) (on_go 5) (fun a ss f h1 h2 h3 => c_readQ q n u tp h60 hu hq hby 5 0 rfl a ss f h1 h2 h3) a ss f h1 h2 h3) a ss f h1 h2 h3) a ss f h1 h2 h3) a ss f h1 h2 h3) a ss f h1 h2 h3
/-- what read answers: -1, and the steps; or the fault -/
def RdQ (q : Nat → Int32) (n u : Nat) (tp : Nat → Int32) (x : Int32) (h : List AE) : Prop := (∃ (s2 : Sp) (f' : Nat → Int32), txP q n u = (n, some s2) ∧ x = -1 ∧ StepC u f' s2 ∧ h = RdW u n tp (nI n) (-1) s2.length f') ∨ (∃ (b : Nat) (pl : Int32) (k : Nat) (f' : Nat → Int32), (txP q n u = (b, none) ∨ (¬ b = n ∧ ∃ s2, txP q n u = (b, some s2))) ∧ b ≤ n ∧ x = nI b ∧ k ≤ 60 ∧ h = RdW u n tp pl (nI b) k f')
set_option maxRecDepth 100000 in
theorem c_X1_read (q : Nat → Int32) (n u : Nat) (tp : Nat → Int32) (h60 : n ≤ 60) (hu : u < 2) (hq : ∀ i, i < n → tp i = q i) (hby : ∀ i, i < n → ∃ b : Nat, b < 256 ∧ q i = nI b) (v1 v2 : Value) (pl ft sz : Int32) (f : Nat → Int32) : AMet yX1_read cX1_read 3 (some (.int)) 46 0 0 [.ref 0, .ref 3, .int (nI u)] [.inr (1, [.ref 1, v1, v2, .int pl, .int ft]), cRow 2 sz, cI 60 f, cRow 4 (nI n), cI 60 tp] (pI (RdQ q n u tp)) := by
  refine AMet.of (by decide +kernel) rfl (fun E ad0 hE => ?_)
  obtain rfl | rfl : u = 0 ∨ u = 1 := by omega
  · refine A_aload_n hE 1 dX1_read_0 rfl rfl ?_
    refine A_aload_n hE 2 dX1_read_1 rfl rfl ?_
    refine A_put hE 5 dX1_read_2 rfl fkX1_20 rfl rfl rfl rfl ?_
    refine A_aload_n hE 6 dX1_read_5 rfl rfl ?_
    refine A_iload_n hE 7 dX1_read_6 rfl rfl ?_
    refine A_if_ne hE 10 15 dX1_read_7 rfl rfl (fun c7 => absurd rfl c7) (fun c7 => ?_)
    refine A_ldcV hE 12 dX1_read_10 rfl ?_
    refine A_goto hE 17 dX1_read_12 rfl ?_
    refine A_put hE 20 dX1_read_17 rfl fkX1_25 rfl rfl rfl rfl ?_
    refine A_aload_n hE 21 dX1_read_20 rfl rfl ?_
    refine A_iconst hE 22 dX1_read_21 rfl (0) rfl ?_
    refine A_put hE 25 dX1_read_22 rfl fkX1_29 rfl rfl rfl rfl ?_
    refine A_aload_n hE 26 dX1_read_25 rfl rfl ?_
    refine A_iconst hE 27 dX1_read_26 rfl (-1) rfl ?_
    refine A_put hE 30 dX1_read_27 rfl fkX1_33 rfl rfl rfl rfl ?_
    refine A_aload_n hE 31 dX1_read_30 rfl rfl ?_
    refine A_get hE 34 dX1_read_31 rfl fkX1_14 rfl rfl ?_
    refine A_callVv hE 37 (c_X3_empty 60 f sz) [1, 2] dX1_read_34 rfl mkX1_40 rfl rfl rfl rfl rfl rfl rfl (Nat.le_of_ble_eq_true rfl) (Nat.le_of_ble_eq_true rfl) rfl (fun h34 g34 hp34 hw34 => ?_)
    obtain rfl := hp34
    obtain rfl := Option.some.inj hw34
    refine A_h (RdW 0 n tp (nI 0) (-1) ([] : Sp).length f) rfl ?_
    refine A_aload_n hE 38 dX1_read_37 rfl rfl ?_
    refine A_iconst hE 39 dX1_read_38 rfl (0) rfl ?_
    refine A_callVv hE 42 (c_readT5 q n 0 tp h60 hu hq hby 0 [] f (Nat.zero_le _) (Nat.le_refl _) (fun i hi => by cases hi)) [0, 1, 2, 3, 4] dX1_read_39 rfl mkX1_43 rfl rfl rfl rfl rfl rfl rfl (Nat.le_of_ble_eq_true rfl) (Nat.le_of_ble_eq_true rfl) rfl (fun h39 g39 hp39 hw39 => ?_)
    rcases hp39 with ⟨b, s2, f2, e39, hs39, rfl⟩ | ⟨b3, pl3, k3, f3, e39, hb3, hk3, rfl⟩
    · obtain rfl := Option.some.inj hw39
      refine A_h (RdW 0 n tp (nI b) (-1) s2.length f2) rfl ?_
      obtain ⟨g1, g2, g3⟩ := (wh_go (on_go 5)).2.2.2.2.get (Nat.zero_le _) e39
      have g0 : ([] : Sp).length = 0 := rfl
      refine A_aload_n hE 43 dX1_read_42 rfl rfl ?_
      refine A_callVi hE 46 (c_next q n 0 tp h60 hq b (s2.length) f2 (by omega)) [0, 1, 2, 3, 4] dX1_read_43 rfl mkX1_46 rfl rfl rfl rfl rfl rfl rfl (Nat.le_of_ble_eq_true rfl) (Nat.le_of_ble_eq_true rfl) rfl (fun x43 h43 g43 hp43 hw43 => ?_)
      obtain ⟨rfl, rfl⟩ := hp43
      obtain rfl := Option.some.inj hw43
      refine A_h (RdW 0 n tp (nI b) (-1) s2.length f2) rfl ?_
      refine A_iconst hE 47 dX1_read_46 rfl (-1) rfl ?_
      refine A_icmp_eq hE 50 54 dX1_read_47 rfl rfl (fun c47 => ?_) (fun c47 => ?_)
      · have hbn : b = n := Nat.le_antisymm g2 (Nat.not_lt.mp (fun z => lk_no hby z c47))
        subst hbn
        refine A_aload_n hE 55 dX1_read_54 rfl rfl ?_
        refine A_get hE 58 dX1_read_55 rfl fkX1_33 rfl rfl ?_
        refine A_iret hE dX1_read_58 ?_
        exact Or.inl ⟨s2, f2, e39, rfl, hs39, rfl⟩
      · have hbn : ¬ b = n := fun z => c47 (lk_end (by omega))
        refine A_aload_n hE 51 dX1_read_50 rfl rfl ?_
        refine A_callVv hE 54 (c_fail 0 n tp b s2.length f2) [0, 1, 2, 3, 4] dX1_read_51 rfl mkX1_50 rfl rfl rfl rfl rfl rfl rfl (Nat.le_of_ble_eq_true rfl) (Nat.le_of_ble_eq_true rfl) rfl (fun h51 g51 hp51 hw51 => ?_)
        obtain rfl := hp51
        obtain rfl := Option.some.inj hw51
        refine A_h (RdW 0 n tp (nI b) (nI b) s2.length f2) rfl ?_
        refine A_aload_n hE 55 dX1_read_54 rfl rfl ?_
        refine A_get hE 58 dX1_read_55 rfl fkX1_33 rfl rfl ?_
        refine A_iret hE dX1_read_58 ?_
        exact Or.inr ⟨b, nI b, s2.length, f2, Or.inr ⟨hbn, s2, e39⟩, g2, rfl, by omega, rfl⟩
    · obtain rfl := Option.some.inj hw39
      refine A_h (RdW 0 n tp pl3 (nI b3) k3 f3) rfl ?_
      refine A_aload_n hE 43 dX1_read_42 rfl rfl ?_
      refine A_callVi hE 46 (c_nextF 0 n tp pl3 (nI b3) k3 f3 (nI_pos' (by omega))) [0, 1, 2, 3, 4] dX1_read_43 rfl mkX1_46 rfl rfl rfl rfl rfl rfl rfl (Nat.le_of_ble_eq_true rfl) (Nat.le_of_ble_eq_true rfl) rfl (fun x43 h43 g43 hp43 hw43 => ?_)
      obtain ⟨rfl, rfl⟩ := hp43
      obtain rfl := Option.some.inj hw43
      refine A_h (RdW 0 n tp pl3 (nI b3) k3 f3) rfl ?_
      refine A_iconst hE 47 dX1_read_46 rfl (-1) rfl ?_
      refine A_icmp_eq hE 50 54 dX1_read_47 rfl rfl (fun c47 => ?_) (fun c47 => absurd rfl c47)
      refine A_aload_n hE 55 dX1_read_54 rfl rfl ?_
      refine A_get hE 58 dX1_read_55 rfl fkX1_33 rfl rfl ?_
      refine A_iret hE dX1_read_58 ?_
      exact Or.inr ⟨b3, pl3, k3, f3, Or.inl e39, hb3, rfl, hk3, rfl⟩
  · refine A_aload_n hE 1 dX1_read_0 rfl rfl ?_
    refine A_aload_n hE 2 dX1_read_1 rfl rfl ?_
    refine A_put hE 5 dX1_read_2 rfl fkX1_20 rfl rfl rfl rfl ?_
    refine A_aload_n hE 6 dX1_read_5 rfl rfl ?_
    refine A_iload_n hE 7 dX1_read_6 rfl rfl ?_
    refine A_if_ne hE 10 15 dX1_read_7 rfl rfl (fun c7 => ?_) (fun c7 => absurd c7 (by decide))
    refine A_ldcL hE 17 dX1_read_15 rfl ?_
    refine A_put hE 20 dX1_read_17 rfl fkX1_25 rfl rfl rfl rfl ?_
    refine A_aload_n hE 21 dX1_read_20 rfl rfl ?_
    refine A_iconst hE 22 dX1_read_21 rfl (0) rfl ?_
    refine A_put hE 25 dX1_read_22 rfl fkX1_29 rfl rfl rfl rfl ?_
    refine A_aload_n hE 26 dX1_read_25 rfl rfl ?_
    refine A_iconst hE 27 dX1_read_26 rfl (-1) rfl ?_
    refine A_put hE 30 dX1_read_27 rfl fkX1_33 rfl rfl rfl rfl ?_
    refine A_aload_n hE 31 dX1_read_30 rfl rfl ?_
    refine A_get hE 34 dX1_read_31 rfl fkX1_14 rfl rfl ?_
    refine A_callVv hE 37 (c_X3_empty 60 f sz) [1, 2] dX1_read_34 rfl mkX1_40 rfl rfl rfl rfl rfl rfl rfl (Nat.le_of_ble_eq_true rfl) (Nat.le_of_ble_eq_true rfl) rfl (fun h34 g34 hp34 hw34 => ?_)
    obtain rfl := hp34
    obtain rfl := Option.some.inj hw34
    refine A_h (RdW 1 n tp (nI 0) (-1) ([] : Sp).length f) rfl ?_
    refine A_aload_n hE 38 dX1_read_37 rfl rfl ?_
    refine A_iconst hE 39 dX1_read_38 rfl (0) rfl ?_
    refine A_callVv hE 42 (c_readT5 q n 1 tp h60 hu hq hby 0 [] f (Nat.zero_le _) (Nat.le_refl _) (fun i hi => by cases hi)) [0, 1, 2, 3, 4] dX1_read_39 rfl mkX1_43 rfl rfl rfl rfl rfl rfl rfl (Nat.le_of_ble_eq_true rfl) (Nat.le_of_ble_eq_true rfl) rfl (fun h39 g39 hp39 hw39 => ?_)
    rcases hp39 with ⟨b, s2, f2, e39, hs39, rfl⟩ | ⟨b3, pl3, k3, f3, e39, hb3, hk3, rfl⟩
    · obtain rfl := Option.some.inj hw39
      refine A_h (RdW 1 n tp (nI b) (-1) s2.length f2) rfl ?_
      obtain ⟨g1, g2, g3⟩ := (wh_go (on_go 5)).2.2.2.2.get (Nat.zero_le _) e39
      have g0 : ([] : Sp).length = 0 := rfl
      refine A_aload_n hE 43 dX1_read_42 rfl rfl ?_
      refine A_callVi hE 46 (c_next q n 1 tp h60 hq b (s2.length) f2 (by omega)) [0, 1, 2, 3, 4] dX1_read_43 rfl mkX1_46 rfl rfl rfl rfl rfl rfl rfl (Nat.le_of_ble_eq_true rfl) (Nat.le_of_ble_eq_true rfl) rfl (fun x43 h43 g43 hp43 hw43 => ?_)
      obtain ⟨rfl, rfl⟩ := hp43
      obtain rfl := Option.some.inj hw43
      refine A_h (RdW 1 n tp (nI b) (-1) s2.length f2) rfl ?_
      refine A_iconst hE 47 dX1_read_46 rfl (-1) rfl ?_
      refine A_icmp_eq hE 50 54 dX1_read_47 rfl rfl (fun c47 => ?_) (fun c47 => ?_)
      · have hbn : b = n := Nat.le_antisymm g2 (Nat.not_lt.mp (fun z => lk_no hby z c47))
        subst hbn
        refine A_aload_n hE 55 dX1_read_54 rfl rfl ?_
        refine A_get hE 58 dX1_read_55 rfl fkX1_33 rfl rfl ?_
        refine A_iret hE dX1_read_58 ?_
        exact Or.inl ⟨s2, f2, e39, rfl, hs39, rfl⟩
      · have hbn : ¬ b = n := fun z => c47 (lk_end (by omega))
        refine A_aload_n hE 51 dX1_read_50 rfl rfl ?_
        refine A_callVv hE 54 (c_fail 1 n tp b s2.length f2) [0, 1, 2, 3, 4] dX1_read_51 rfl mkX1_50 rfl rfl rfl rfl rfl rfl rfl (Nat.le_of_ble_eq_true rfl) (Nat.le_of_ble_eq_true rfl) rfl (fun h51 g51 hp51 hw51 => ?_)
        obtain rfl := hp51
        obtain rfl := Option.some.inj hw51
        refine A_h (RdW 1 n tp (nI b) (nI b) s2.length f2) rfl ?_
        refine A_aload_n hE 55 dX1_read_54 rfl rfl ?_
        refine A_get hE 58 dX1_read_55 rfl fkX1_33 rfl rfl ?_
        refine A_iret hE dX1_read_58 ?_
        exact Or.inr ⟨b, nI b, s2.length, f2, Or.inr ⟨hbn, s2, e39⟩, g2, rfl, by omega, rfl⟩
    · obtain rfl := Option.some.inj hw39
      refine A_h (RdW 1 n tp pl3 (nI b3) k3 f3) rfl ?_
      refine A_aload_n hE 43 dX1_read_42 rfl rfl ?_
      refine A_callVi hE 46 (c_nextF 1 n tp pl3 (nI b3) k3 f3 (nI_pos' (by omega))) [0, 1, 2, 3, 4] dX1_read_43 rfl mkX1_46 rfl rfl rfl rfl rfl rfl rfl (Nat.le_of_ble_eq_true rfl) (Nat.le_of_ble_eq_true rfl) rfl (fun x43 h43 g43 hp43 hw43 => ?_)
      obtain ⟨rfl, rfl⟩ := hp43
      obtain rfl := Option.some.inj hw43
      refine A_h (RdW 1 n tp pl3 (nI b3) k3 f3) rfl ?_
      refine A_iconst hE 47 dX1_read_46 rfl (-1) rfl ?_
      refine A_icmp_eq hE 50 54 dX1_read_47 rfl rfl (fun c47 => ?_) (fun c47 => absurd rfl c47)
      refine A_aload_n hE 55 dX1_read_54 rfl rfl ?_
      refine A_get hE 58 dX1_read_55 rfl fkX1_33 rfl rfl ?_
      refine A_iret hE dX1_read_58 ?_
      exact Or.inr ⟨b3, pl3, k3, f3, Or.inl e39, hb3, rfl, hk3, rfl⟩
