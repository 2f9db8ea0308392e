/-- a thought: its own cell, the true round's, the trial's, the two laws -/
abbrev TW (s J : St) (wh mu : Int32) (t0 : Sp) (g0 h0 : Nat → Int32) (t1 : Sp) (g1 h1 : Nat → Int32) : List AE := [.inr (6, [.ref 1, .ref 6, .int wh, .int mu]), RoundO 11 15 2 3 4 5 s, cI 8 (arr s 0), cI 8 (arr s 1), cI 8 (arr s 2), cI 8 (arr s 3), RoundO 11 15 7 8 9 10 J, cI 8 (arr J 0), cI 8 (arr J 1), cI 8 (arr J 2), cI 8 (arr J 3), LawO 12 14 0, cRow 13 (nI t0.length), cI 60 g0, cI 60 h0, LawO 16 18 1, cRow 17 (nI t1.length), cI 60 g1, cI 60 h1]
theorem RO_4 {a b c d e f : Nat} {J : St} {v : Int32} : RoundO a b c d e f (upd J 4 v) = .inr (2, [.ref a, .ref b, .ref c, .ref d, .ref e, .ref f, .int (pm J), .int (J 8), .int (J 0), .int (J 1), .int (J 2), .int (J 3), .int v, .int (J 5)]) := by
  simp only [RoundO, pm_lo (show 4 < 9 by omega)]
  rfl
theorem RO_1 {a b c d e f : Nat} {J : St} {v : Int32} : RoundO a b c d e f (upd J 1 v) = .inr (2, [.ref a, .ref b, .ref c, .ref d, .ref e, .ref f, .int (pm J), .int (J 8), .int (J 0), .int v, .int (J 2), .int (J 3), .int (J 4), .int (J 5)]) := by
  simp only [RoundO, pm_lo (show 1 < 9 by omega)]
  rfl
theorem TW_4 {s J : St} {wh mu v : Int32} {t0 t1 : Sp} {g0 h0 g1 h1 : Nat → Int32} : TW s (upd J 4 v) wh mu t0 g0 h0 t1 g1 h1 = [.inr (6, [.ref 1, .ref 6, .int wh, .int mu]), RoundO 11 15 2 3 4 5 s, cI 8 (arr s 0), cI 8 (arr s 1), cI 8 (arr s 2), cI 8 (arr s 3), .inr (2, [.ref 11, .ref 15, .ref 7, .ref 8, .ref 9, .ref 10, .int (pm J), .int (J 8), .int (J 0), .int (J 1), .int (J 2), .int (J 3), .int v, .int (J 5)]), cI 8 (arr J 0), cI 8 (arr J 1), cI 8 (arr J 2), cI 8 (arr J 3), LawO 12 14 0, cRow 13 (nI t0.length), cI 60 g0, cI 60 h0, LawO 16 18 1, cRow 17 (nI t1.length), cI 60 g1, cI 60 h1] := by
  simp only [TW, RO_4, arr_lo (show 4 < 9 by omega)]
theorem TW_1 {s J : St} {wh mu v : Int32} {t0 t1 : Sp} {g0 h0 g1 h1 : Nat → Int32} : TW s (upd J 1 v) wh mu t0 g0 h0 t1 g1 h1 = [.inr (6, [.ref 1, .ref 6, .int wh, .int mu]), RoundO 11 15 2 3 4 5 s, cI 8 (arr s 0), cI 8 (arr s 1), cI 8 (arr s 2), cI 8 (arr s 3), .inr (2, [.ref 11, .ref 15, .ref 7, .ref 8, .ref 9, .ref 10, .int (pm J), .int (J 8), .int (J 0), .int v, .int (J 2), .int (J 3), .int (J 4), .int (J 5)]), cI 8 (arr J 0), cI 8 (arr J 1), cI 8 (arr J 2), cI 8 (arr J 3), LawO 12 14 0, cRow 13 (nI t0.length), cI 60 g0, cI 60 h0, LawO 16 18 1, cRow 17 (nI t1.length), cI 60 g1, cI 60 h1] := by
  simp only [TW, RO_1, arr_lo (show 1 < 9 by omega)]
def du (t0 t1 : Sp) (k : Nat) (v : Int32) : Nat → Nat → St → Int32
  | 0, _, _ => -1
  | m + 1, d, J => if v ≤ its J k 2 then nI d else du t0 t1 k v m (d + 1) (dayF t0 t1 k J)
def ssF (t0 t1 : Sp) (s : St) (k n : Nat) : Nat → Nat → Int32 × Int32 → Int32 × Int32
  | 0, _, q => q
  | m + 1, a, q => ssF t0 t1 s k n m (a + 1) (if q.2 < its (dF t0 t1 k n (upd s 4 (nI a))) k 2 then (nI a, its (dF t0 t1 k n (upd s 4 (nI a))) k 2) else q)
def sumN (t0 t1 : Sp) (n : Nat) (s : St) : Int32 := sumH (dN t0 t1 n s) (hn (dN t0 t1 n s))
def swI (t0 t1 : Sp) (s : St) (n a : Nat) : Nat → Nat → Int32 × Int32 → Int32 × Int32
  | 0, _, q => q
  | m + 1, b, q => swI t0 t1 s n a m (b + 1) (if sumN t0 t1 n (swS a b s) < q.2 then (10 * nI a + nI b, sumN t0 t1 n (swS a b s)) else q)
def swO (t0 t1 : Sp) (s : St) (n : Nat) : Nat → Nat → Int32 × Int32 → Int32 × Int32
  | 0, _, q => q
  | m + 1, a, q => swO t0 t1 s n m (a + 1) (swI t0 t1 s n a (hn s - (a + 1)) (a + 1) q)
def lvF' (t0 t1 : Sp) (s : St) (k n : Nat) (v : Int32) : Nat → Nat → Int32 → Int32
  | 0, _, c => c
  | m + 1, i, c => lvF' t0 t1 s k n v m (i + 1) (if v ≤ its (dF t0 t1 k n (upd s 1 (nI i))) k 2 then c + 1 else c)
def ftF (t1 : Sp) (v : Nat → Int32) : Nat → Nat → St → Bool
  | 0, _, _ => true
  | m + 1, i, J => if J 1 = v i then ftF t1 v m (i + 1) (carS t1 J) else false
def pfF (t1 : Sp) (s : St) (v : Nat → Int32) (sz : Nat) : Nat → Nat → Int32 → Int32
  | 0, _, c => c
  | m + 1, a, c => pfF t1 s v sz m (a + 1) (if ftF t1 v sz 0 (upd s 4 (nI a)) then c ||| (1 <<< (nI a &&& 31)) else c)
theorem arr_its (s : St) (h j : Nat) : arr s j h = its s h j := rfl

set_option maxRecDepth 100000 in
theorem c_X6_daysOn (s J : St) (wh mu : Int32) (t0 t1 : Sp) (g0 h0 g1 h1 : Nat → Int32) (n : Nat) (hnn : n ≤ 1000) (w : wf s) (l0 : LawC 0 t0 g0) (l1 : LawC 1 t1 g1) : AMet yX6_daysOn cX6_daysOn 2 (some ((.object "LoanedRound$Round"))) 5 0 0 [.ref 0, .int (nI n)] (TW s J wh mu t0 g0 h0 t1 g1 h1) (pR fun i h => i = 6 ∧ ∃ h0' h1' : Nat → Int32, h = TW s (dN t0 t1 n s) wh mu t0 g0 h0' t1 g1 h1') := by
  refine AMet.of (by decide +kernel) rfl (fun E ad0 hE => ?_)
  refine A_aload_n hE 1 dX6_daysOn_0 rfl rfl ?_
  refine A_get hE 4 dX6_daysOn_1 rfl fkX6_34 rfl rfl ?_
  refine A_aload_n hE 5 dX6_daysOn_4 rfl rfl ?_
  refine A_get hE 8 dX6_daysOn_5 rfl fkX6_18 rfl rfl ?_
  refine A_callVv hE 11 (c_X2_takeOver s (arr J 0) (arr J 1) (arr J 2) (arr J 3) 11 15 11 15 (pm J) (J 8) (J 0) (J 1) (J 2) (J 3) (J 4) (J 5)) [6, 7, 8, 9, 10, 1, 2, 3, 4, 5] dX6_daysOn_8 rfl mkX6_37 rfl rfl rfl rfl rfl rfl rfl (Nat.le_of_ble_eq_true rfl) (Nat.le_of_ble_eq_true rfl) rfl (fun h8 g8 hp8 hw8 => ?_)
  obtain rfl := hp8
  obtain rfl := Option.some.inj hw8
  refine A_h (TW s s wh mu t0 g0 h0 t1 g1 h1) rfl ?_
  refine A_aload_n hE 12 dX6_daysOn_11 rfl rfl ?_
  refine A_get hE 15 dX6_daysOn_12 rfl fkX6_34 rfl rfl ?_
  refine A_iload_n hE 16 dX6_daysOn_15 rfl rfl ?_
  refine A_callVv hE 19 (c_X2_passDays s t0 t1 g0 h0 g1 h1 n hnn w l0 l1) [6, 11, 12, 13, 14, 15, 16, 17, 18, 7, 8, 9, 10] dX6_daysOn_16 rfl mkX6_41 rfl rfl rfl rfl rfl rfl rfl (Nat.le_of_ble_eq_true rfl) (Nat.le_of_ble_eq_true rfl) rfl (fun h16 g16 hp16 hw16 => ?_)
  obtain ⟨h0y, h1y, rfl⟩ := hp16
  obtain rfl := Option.some.inj hw16
  refine A_h (TW s (dN t0 t1 n s) wh mu t0 g0 h0y t1 g1 h1y) rfl ?_
  refine A_aload_n hE 20 dX6_daysOn_19 rfl rfl ?_
  refine A_get hE 23 dX6_daysOn_20 rfl fkX6_34 rfl rfl ?_
  refine A_aret hE dX6_daysOn_23 ⟨rfl, h0y, h1y, rfl⟩
set_option maxRecDepth 100000 in
theorem c_X6_daysUntil (s J : St) (wh mu : Int32) (t0 t1 : Sp) (g0 h0 g1 h1 : Nat → Int32) (k : Nat) (v : Int32) (hk : k < 8) (w : wf s) (l0 : LawC 0 t0 g0) (l1 : LawC 1 t1 g1) : AMet yX6_daysUntil cX6_daysUntil 4 (some (.int)) 5 0 0 [.ref 0, .int (nI k), .int v] (TW s J wh mu t0 g0 h0 t1 g1 h1) (pI fun x h => x = du t0 t1 k v 61 0 s ∧ ∃ (J' : St) (h0' h1' : Nat → Int32), h = TW s J' wh mu t0 g0 h0' t1 g1 h1') := by
  refine AMet.of (by decide +kernel) rfl (fun E ad0 hE => ?_)
  have loop : ∀ (m d : Nat) (J h0 h1), d + m = 61 → wf J → du t0 t1 k v 61 0 s = du t0 t1 k v m d J → AW E (rmD 5 0 0) 4 (QM E ad0 19 0 0 (pI fun x h => x = du t0 t1 k v 61 0 s ∧ ∃ (J' : St) (h0' h1' : Nat → Int32), h = TW s J' wh mu t0 g0 h0' t1 g1 h1')) ad0 19 0 0 13 [(0, .ref 0), (1, .int (nI k)), (2, .int v), (3, .int (nI d))] [] (TW s J wh mu t0 g0 h0 t1 g1 h1) := by
    intro m
    induction m with
    | zero =>
      intro d J h0 h1 hd wJ hx
      refine A_iload_n hE 14 dX6_daysUntil_13 rfl rfl ?_
      refine A_bipush hE 16 dX6_daysUntil_14 rfl (60) (by decide) ?_
      refine A_icmp_gt hE 19 49 dX6_daysUntil_16 rfl rfl (fun c16 => ?_) (fun c16 => absurd (show 60 < nI d from nI_lt (a := 60) (by omega) (by omega)) c16)
      refine A_iconst hE 50 dX6_daysUntil_49 rfl (-1) rfl ?_
      refine A_iret hE dX6_daysUntil_50 ⟨by rw [hx]; rfl, J, h0, h1, rfl⟩
    | succ m ih =>
      intro d J h0 h1 hd wJ hx
      refine A_iload_n hE 14 dX6_daysUntil_13 rfl rfl ?_
      refine A_bipush hE 16 dX6_daysUntil_14 rfl (60) (by decide) ?_
      refine A_icmp_gt hE 19 49 dX6_daysUntil_16 rfl rfl (fun c16 => absurd c16 (nI_nlt (a := 60) (by omega) (by omega))) (fun c16 => ?_)
      refine A_aload_n hE 20 dX6_daysUntil_19 rfl rfl ?_
      refine A_get hE 23 dX6_daysUntil_20 rfl fkX6_34 rfl rfl ?_
      refine A_get hE 26 dX6_daysUntil_23 rfl fkX6_45 rfl rfl ?_
      refine A_iload_n hE 27 dX6_daysUntil_26 rfl rfl ?_
      refine A_iald hE 28 k dX6_daysUntil_27 rfl rfl rfl hk rfl ?_
      rw [arr_its]
      refine A_iload_n hE 29 dX6_daysUntil_28 rfl rfl ?_
      refine A_icmp_lt hE 32 34 dX6_daysUntil_29 rfl rfl (fun c29 => ?_) (fun c29 => ?_)
      · refine A_aload_n hE 35 dX6_daysUntil_34 rfl rfl ?_
        refine A_get hE 38 dX6_daysUntil_35 rfl fkX6_34 rfl rfl ?_
        refine A_iload_n hE 39 dX6_daysUntil_38 rfl rfl ?_
        refine A_iconst hE 40 dX6_daysUntil_39 rfl (1) rfl ?_
        refine A_callVv hE 43 (c_X2_passDaysFor J t0 t1 g0 h0 g1 h1 k hk 1 (by omega) wJ l0 l1) [6, 11, 12, 13, 14, 15, 16, 17, 18, 7, 8, 9, 10] dX6_daysUntil_40 rfl mkX6_49 rfl rfl rfl rfl rfl rfl rfl (Nat.le_of_ble_eq_true rfl) (Nat.le_of_ble_eq_true rfl) rfl (fun h40 g40 hp40 hw40 => ?_)
        obtain ⟨h0y, h1y, rfl⟩ := hp40
        obtain rfl := Option.some.inj hw40
        refine A_h (TW s (dF t0 t1 k 1 J) wh mu t0 g0 h0y t1 g1 h1y) rfl ?_
        refine A_iinc hE 46 dX6_daysUntil_43 rfl rfl (1) rfl rfl rfl ?_
        rw [nI_1]
        refine A_lv [0, 1, 2, 3] rfl ?_
        refine A_goto hE 13 dX6_daysUntil_46 rfl ?_
        exact ih (d + 1) _ h0y h1y (by omega) (wf_dF 1 wJ) (by rw [hx, du, if_neg (iM c29)]; rfl)
      · refine A_iload_n hE 33 dX6_daysUntil_32 rfl rfl ?_
        refine A_iret hE dX6_daysUntil_33 ⟨by rw [hx, du, if_pos (iL c29)], J, h0, h1, rfl⟩
  refine A_aload_n hE 1 dX6_daysUntil_0 rfl rfl ?_
  refine A_get hE 4 dX6_daysUntil_1 rfl fkX6_34 rfl rfl ?_
  refine A_aload_n hE 5 dX6_daysUntil_4 rfl rfl ?_
  refine A_get hE 8 dX6_daysUntil_5 rfl fkX6_18 rfl rfl ?_
  refine A_callVv hE 11 (c_X2_takeOver s (arr J 0) (arr J 1) (arr J 2) (arr J 3) 11 15 11 15 (pm J) (J 8) (J 0) (J 1) (J 2) (J 3) (J 4) (J 5)) [6, 7, 8, 9, 10, 1, 2, 3, 4, 5] dX6_daysUntil_8 rfl mkX6_37 rfl rfl rfl rfl rfl rfl rfl (Nat.le_of_ble_eq_true rfl) (Nat.le_of_ble_eq_true rfl) rfl (fun h8 g8 hp8 hw8 => ?_)
  obtain rfl := hp8
  obtain rfl := Option.some.inj hw8
  refine A_h (TW s s wh mu t0 g0 h0 t1 g1 h1) rfl ?_
  refine A_iconst hE 12 dX6_daysUntil_11 rfl (0) rfl ?_
  refine A_istore_n hE 13 dX6_daysUntil_12 rfl rfl rfl ?_
  refine A_lv [0, 1, 2, 3] rfl ?_
  exact loop 61 0 s h0 h1 rfl w rfl
set_option maxRecDepth 100000 in
theorem c_X6_seekStart (s J : St) (wh mu : Int32) (t0 t1 : Sp) (g0 h0 g1 h1 : Nat → Int32) (k n : Nat) (hk : k < 8) (hnn : n ≤ 1000) (w : wf s) (l0 : LawC 0 t0 g0) (l1 : LawC 1 t1 g1) : AMet yX6_seekStart cX6_seekStart 4 none 5 0 0 [.ref 0, .int (nI k), .int (nI n)] (TW s J wh mu t0 g0 h0 t1 g1 h1) (pV fun h => ∃ (J' : St) (h0' h1' : Nat → Int32), h = TW s J' (ssF t0 t1 s k n (hn s) 0 (-1, -1)).1 (ssF t0 t1 s k n (hn s) 0 (-1, -1)).2 t0 g0 h0' t1 g1 h1') := by
  refine AMet.of (by decide +kernel) rfl (fun E ad0 hE => ?_)
  obtain ⟨w1, w2, w3, w4, w5, w6, w7⟩ := id w
  have loop : ∀ (m a : Nat) (J : St) (wh mu : Int32) (h0 h1 : Nat → Int32), a + m = hn s → (ssF t0 t1 s k n (hn s) 0 (-1, -1)) = ssF t0 t1 s k n m a (wh, mu) → AW E (rmD 5 0 0) 4 (QM E ad0 19 0 0 (pV fun h => ∃ (J' : St) (h0' h1' : Nat → Int32), h = TW s J' (ssF t0 t1 s k n (hn s) 0 (-1, -1)).1 (ssF t0 t1 s k n (hn s) 0 (-1, -1)).2 t0 g0 h0' t1 g1 h1')) ad0 19 0 0 12 [(0, .ref 0), (1, .int (nI k)), (2, .int (nI n)), (3, .int (nI a))] [] (TW s J wh mu t0 g0 h0 t1 g1 h1) := by
    intro m
    induction m with
    | zero =>
      intro a J wh mu h0 h1 ha hx
      refine A_iload_n hE 13 dX6_seekStart_12 rfl rfl ?_
      refine A_aload_n hE 14 dX6_seekStart_13 rfl rfl ?_
      refine A_get hE 17 dX6_seekStart_14 rfl fkX6_18 rfl rfl ?_
      refine A_get hE 20 dX6_seekStart_17 rfl fkX6_53 rfl rfl ?_
      refine A_icmp_ge hE 23 91 dX6_seekStart_20 rfl rfl (fun c20 => ?_) (fun c20 => absurd (by rw [w2]; exact nI_le (by omega) (by omega)) c20)
      refine A_vret hE dX6_seekStart_91 ?_
      exact ⟨J, h0, h1, by rw [hx]; rfl⟩
    | succ m ih =>
      intro a J wh mu h0 h1 ha hx
      have hlt : a < hn s := by omega
      refine A_iload_n hE 13 dX6_seekStart_12 rfl rfl ?_
      refine A_aload_n hE 14 dX6_seekStart_13 rfl rfl ?_
      refine A_get hE 17 dX6_seekStart_14 rfl fkX6_18 rfl rfl ?_
      refine A_get hE 20 dX6_seekStart_17 rfl fkX6_53 rfl rfl ?_
      refine A_icmp_ge hE 23 91 dX6_seekStart_20 rfl rfl (fun c20 => absurd c20 (by rw [w2]; exact nI_ge hlt (by omega))) (fun c20 => ?_)
      refine A_aload_n hE 24 dX6_seekStart_23 rfl rfl ?_
      refine A_get hE 27 dX6_seekStart_24 rfl fkX6_34 rfl rfl ?_
      refine A_aload_n hE 28 dX6_seekStart_27 rfl rfl ?_
      refine A_get hE 31 dX6_seekStart_28 rfl fkX6_18 rfl rfl ?_
      refine A_callVv hE 34 (c_X2_takeOver s (arr J 0) (arr J 1) (arr J 2) (arr J 3) 11 15 11 15 (pm J) (J 8) (J 0) (J 1) (J 2) (J 3) (J 4) (J 5)) [6, 7, 8, 9, 10, 1, 2, 3, 4, 5] dX6_seekStart_31 rfl mkX6_37 rfl rfl rfl rfl rfl rfl rfl (Nat.le_of_ble_eq_true rfl) (Nat.le_of_ble_eq_true rfl) rfl (fun h31 g31 hp31 hw31 => ?_)
      obtain rfl := hp31
      obtain rfl := Option.some.inj hw31
      refine A_h (TW s s wh mu t0 g0 h0 t1 g1 h1) rfl ?_
      refine A_aload_n hE 35 dX6_seekStart_34 rfl rfl ?_
      refine A_get hE 38 dX6_seekStart_35 rfl fkX6_34 rfl rfl ?_
      refine A_iload_n hE 39 dX6_seekStart_38 rfl rfl ?_
      refine A_put hE 42 dX6_seekStart_39 rfl fkX6_56 rfl rfl rfl rfl ?_
      refine A_aload_n hE 43 dX6_seekStart_42 rfl rfl ?_
      refine A_get hE 46 dX6_seekStart_43 rfl fkX6_34 rfl rfl ?_
      refine A_iload_n hE 47 dX6_seekStart_46 rfl rfl ?_
      refine A_iload_n hE 48 dX6_seekStart_47 rfl rfl ?_
      refine A_h (TW s (upd s 4 (nI a)) wh mu t0 g0 h0 t1 g1 h1) TW_4.symm ?_
      refine A_callVv hE 51 (c_X2_passDaysFor (upd s 4 (nI a)) t0 t1 g0 h0 g1 h1 k hk n hnn (wf_4 w hlt) l0 l1) [6, 11, 12, 13, 14, 15, 16, 17, 18, 7, 8, 9, 10] dX6_seekStart_48 rfl mkX6_49 rfl rfl rfl rfl rfl rfl rfl (Nat.le_of_ble_eq_true rfl) (Nat.le_of_ble_eq_true rfl) rfl (fun h48 g48 hp48 hw48 => ?_)
      obtain ⟨h0y, h1y, rfl⟩ := hp48
      obtain rfl := Option.some.inj hw48
      refine A_h (TW s (dF t0 t1 k n (upd s 4 (nI a))) wh mu t0 g0 h0y t1 g1 h1y) rfl ?_
      refine A_aload_n hE 52 dX6_seekStart_51 rfl rfl ?_
      refine A_get hE 55 dX6_seekStart_52 rfl fkX6_34 rfl rfl ?_
      refine A_get hE 58 dX6_seekStart_55 rfl fkX6_45 rfl rfl ?_
      refine A_iload_n hE 59 dX6_seekStart_58 rfl rfl ?_
      refine A_iald hE 60 k dX6_seekStart_59 rfl rfl rfl hk rfl ?_
      rw [arr_its]
      refine A_aload_n hE 61 dX6_seekStart_60 rfl rfl ?_
      refine A_get hE 64 dX6_seekStart_61 rfl fkX6_15 rfl rfl ?_
      refine A_icmp_le hE 67 85 dX6_seekStart_64 rfl rfl (fun c64 => ?_) (fun c64 => ?_)
      · refine A_iinc hE 88 dX6_seekStart_85 rfl rfl (1) rfl rfl rfl ?_
        rw [nI_1]
        refine A_lv [0, 1, 2, 3] rfl ?_
        refine A_goto hE 12 dX6_seekStart_88 rfl ?_
        exact ih (a + 1) _ wh mu h0y h1y (by omega) (by rw [hx, ssF, if_neg (iN c64)])
      · refine A_aload_n hE 68 dX6_seekStart_67 rfl rfl ?_
        refine A_iload_n hE 69 dX6_seekStart_68 rfl rfl ?_
        refine A_put hE 72 dX6_seekStart_69 rfl fkX6_9 rfl rfl rfl rfl ?_
        refine A_aload_n hE 73 dX6_seekStart_72 rfl rfl ?_
        refine A_aload_n hE 74 dX6_seekStart_73 rfl rfl ?_
        refine A_get hE 77 dX6_seekStart_74 rfl fkX6_34 rfl rfl ?_
        refine A_get hE 80 dX6_seekStart_77 rfl fkX6_45 rfl rfl ?_
        refine A_iload_n hE 81 dX6_seekStart_80 rfl rfl ?_
        refine A_iald hE 82 k dX6_seekStart_81 rfl rfl rfl hk rfl ?_
        rw [arr_its]
        refine A_put hE 85 dX6_seekStart_82 rfl fkX6_15 rfl rfl rfl rfl ?_
        refine A_iinc hE 88 dX6_seekStart_85 rfl rfl (1) rfl rfl rfl ?_
        rw [nI_1]
        refine A_lv [0, 1, 2, 3] rfl ?_
        refine A_goto hE 12 dX6_seekStart_88 rfl ?_
        exact ih (a + 1) _ (nI a) (its (dF t0 t1 k n (upd s 4 (nI a))) k 2) h0y h1y (by omega) (by rw [hx, ssF, if_pos (iG c64)])
  refine A_aload_n hE 1 dX6_seekStart_0 rfl rfl ?_
  refine A_iconst hE 2 dX6_seekStart_1 rfl (-1) rfl ?_
  refine A_put hE 5 dX6_seekStart_2 rfl fkX6_9 rfl rfl rfl rfl ?_
  refine A_aload_n hE 6 dX6_seekStart_5 rfl rfl ?_
  refine A_iconst hE 7 dX6_seekStart_6 rfl (-1) rfl ?_
  refine A_put hE 10 dX6_seekStart_7 rfl fkX6_15 rfl rfl rfl rfl ?_
  refine A_iconst hE 11 dX6_seekStart_10 rfl (0) rfl ?_
  refine A_istore_n hE 12 dX6_seekStart_11 rfl rfl rfl ?_
  refine A_lv [0, 1, 2, 3] rfl ?_
  exact loop (hn s) 0 J _ _ h0 h1 (Nat.zero_add _) rfl
set_option maxRecDepth 100000 in
theorem c_X6_seekSwap (s J : St) (wh mu : Int32) (t0 t1 : Sp) (g0 h0 g1 h1 : Nat → Int32) (n : Nat) (hnn : n ≤ 1000) (w : wf s) (l0 : LawC 0 t0 g0) (l1 : LawC 1 t1 g1) : AMet yX6_seekSwap cX6_seekSwap 5 none 5 0 0 [.ref 0, .int (nI n)] (TW s J wh mu t0 g0 h0 t1 g1 h1) (pV fun h => ∃ (J' : St) (h0' h1' : Nat → Int32), h = TW s J' (swO t0 t1 s n (hn s) 0 (-1, sumN t0 t1 n s)).1 (swO t0 t1 s n (hn s) 0 (-1, sumN t0 t1 n s)).2 t0 g0 h0' t1 g1 h1') := by
  refine AMet.of (by decide +kernel) rfl (fun E ad0 hE => ?_)
  obtain ⟨w1, w2, w3, w4, w5, w6, w7⟩ := id w
  have outer : ∀ (m a : Nat) (J : St) (wh mu : Int32) (h0 h1 : Nat → Int32), a + m = hn s → (swO t0 t1 s n (hn s) 0 (-1, sumN t0 t1 n s)) = swO t0 t1 s n m a (wh, mu) → AW E (rmD 5 0 0) 5 (QM E ad0 19 0 0 (pV fun h => ∃ (J' : St) (h0' h1' : Nat → Int32), h = TW s J' (swO t0 t1 s n (hn s) 0 (-1, sumN t0 t1 n s)).1 (swO t0 t1 s n (hn s) 0 (-1, sumN t0 t1 n s)).2 t0 g0 h0' t1 g1 h1')) ad0 19 0 0 37 [(0, .ref 0), (1, .int (nI n)), (2, .int (nI a))] [] (TW s J wh mu t0 g0 h0 t1 g1 h1) := by
    intro m
    induction m with
    | zero =>
      intro a J wh mu h0 h1 ha hx
      refine A_iload_n hE 38 dX6_seekSwap_37 rfl rfl ?_
      refine A_aload_n hE 39 dX6_seekSwap_38 rfl rfl ?_
      refine A_get hE 42 dX6_seekSwap_39 rfl fkX6_18 rfl rfl ?_
      refine A_get hE 45 dX6_seekSwap_42 rfl fkX6_53 rfl rfl ?_
      refine A_icmp_ge hE 48 137 dX6_seekSwap_45 rfl rfl (fun c45 => ?_) (fun c45 => absurd (by rw [w2]; exact nI_le (by omega) (by omega)) c45)
      refine A_vret hE dX6_seekSwap_137 ?_
      exact ⟨J, h0, h1, by rw [hx]; rfl⟩
    | succ m iho =>
      intro a J wh mu h0 h1 ha hx
      have hlt : a < hn s := by omega
      have inner : ∀ (m2 b : Nat) (J : St) (wh mu : Int32) (h0 h1 : Nat → Int32), b + m2 = hn s → a < b → (swO t0 t1 s n (hn s) 0 (-1, sumN t0 t1 n s)) = swO t0 t1 s n m (a + 1) (swI t0 t1 s n a m2 b (wh, mu)) → AW E (rmD 5 0 0) 5 (QM E ad0 19 0 0 (pV fun h => ∃ (J' : St) (h0' h1' : Nat → Int32), h = TW s J' (swO t0 t1 s n (hn s) 0 (-1, sumN t0 t1 n s)).1 (swO t0 t1 s n (hn s) 0 (-1, sumN t0 t1 n s)).2 t0 g0 h0' t1 g1 h1')) ad0 19 0 0 52 [(0, .ref 0), (1, .int (nI n)), (2, .int (nI a)), (3, .int (nI b))] [] (TW s J wh mu t0 g0 h0 t1 g1 h1) := by
        intro m2
        induction m2 with
        | zero =>
          intro b J wh mu h0 h1 hb hab hx
          refine A_iload_n hE 53 dX6_seekSwap_52 rfl rfl ?_
          refine A_aload_n hE 54 dX6_seekSwap_53 rfl rfl ?_
          refine A_get hE 57 dX6_seekSwap_54 rfl fkX6_18 rfl rfl ?_
          refine A_get hE 60 dX6_seekSwap_57 rfl fkX6_53 rfl rfl ?_
          refine A_icmp_ge hE 63 131 dX6_seekSwap_60 rfl rfl (fun c60 => ?_) (fun c60 => absurd (by rw [w2]; exact nI_le (by omega) (by omega)) c60)
          refine A_iinc hE 134 dX6_seekSwap_131 rfl rfl (1) rfl rfl rfl ?_
          rw [nI_1]
          refine A_lv [0, 1, 2] rfl ?_
          refine A_goto hE 37 dX6_seekSwap_134 rfl ?_
          exact iho (a + 1) J wh mu h0 h1 (by omega) hx
        | succ m2 ihi =>
          intro b J wh mu h0 h1 hb hab hx
          have hbl : b < hn s := by omega
          have wS : wf (swS a b s) := wf_swS w hlt hbl
          refine A_iload_n hE 53 dX6_seekSwap_52 rfl rfl ?_
          refine A_aload_n hE 54 dX6_seekSwap_53 rfl rfl ?_
          refine A_get hE 57 dX6_seekSwap_54 rfl fkX6_18 rfl rfl ?_
          refine A_get hE 60 dX6_seekSwap_57 rfl fkX6_53 rfl rfl ?_
          refine A_icmp_ge hE 63 131 dX6_seekSwap_60 rfl rfl (fun c60 => absurd c60 (by rw [w2]; exact nI_ge hbl (by omega))) (fun c60 => ?_)
          refine A_aload_n hE 64 dX6_seekSwap_63 rfl rfl ?_
          refine A_get hE 67 dX6_seekSwap_64 rfl fkX6_34 rfl rfl ?_
          refine A_aload_n hE 68 dX6_seekSwap_67 rfl rfl ?_
          refine A_get hE 71 dX6_seekSwap_68 rfl fkX6_18 rfl rfl ?_
          refine A_callVv hE 74 (c_X2_takeOver s (arr J 0) (arr J 1) (arr J 2) (arr J 3) 11 15 11 15 (pm J) (J 8) (J 0) (J 1) (J 2) (J 3) (J 4) (J 5)) [6, 7, 8, 9, 10, 1, 2, 3, 4, 5] dX6_seekSwap_71 rfl mkX6_37 rfl rfl rfl rfl rfl rfl rfl (Nat.le_of_ble_eq_true rfl) (Nat.le_of_ble_eq_true rfl) rfl (fun h71 g71 hp71 hw71 => ?_)
          obtain rfl := hp71
          obtain rfl := Option.some.inj hw71
          refine A_h (TW s s wh mu t0 g0 h0 t1 g1 h1) rfl ?_
          refine A_aload_n hE 75 dX6_seekSwap_74 rfl rfl ?_
          refine A_get hE 78 dX6_seekSwap_75 rfl fkX6_34 rfl rfl ?_
          refine A_iload_n hE 79 dX6_seekSwap_78 rfl rfl ?_
          refine A_iload_n hE 80 dX6_seekSwap_79 rfl rfl ?_
          refine A_callVv hE 83 (c_X2_changePlaces s t0 t1 g0 h0 g1 h1 a b (by omega) (by omega) (w5 a (by omega)).2.2.2.2.1 (w5 b (by omega)).2.2.2.2.1) [6, 11, 12, 13, 14, 15, 16, 17, 18, 7, 8, 9, 10] dX6_seekSwap_80 rfl mkX6_63 rfl rfl rfl rfl rfl rfl rfl (Nat.le_of_ble_eq_true rfl) (Nat.le_of_ble_eq_true rfl) rfl (fun h80 g80 hp80 hw80 => ?_)
          obtain rfl := hp80
          obtain rfl := Option.some.inj hw80
          refine A_h (TW s (swS a b s) wh mu t0 g0 h0 t1 g1 h1) rfl ?_
          refine A_aload_n hE 84 dX6_seekSwap_83 rfl rfl ?_
          refine A_get hE 87 dX6_seekSwap_84 rfl fkX6_34 rfl rfl ?_
          refine A_iload_n hE 88 dX6_seekSwap_87 rfl rfl ?_
          refine A_callVv hE 91 (c_X2_passDays (swS a b s) t0 t1 g0 h0 g1 h1 n hnn wS l0 l1) [6, 11, 12, 13, 14, 15, 16, 17, 18, 7, 8, 9, 10] dX6_seekSwap_88 rfl mkX6_41 rfl rfl rfl rfl rfl rfl rfl (Nat.le_of_ble_eq_true rfl) (Nat.le_of_ble_eq_true rfl) rfl (fun h88 g88 hp88 hw88 => ?_)
          obtain ⟨h0y, h1y, rfl⟩ := hp88
          obtain rfl := Option.some.inj hw88
          refine A_h (TW s (dN t0 t1 n (swS a b s)) wh mu t0 g0 h0y t1 g1 h1y) rfl ?_
          refine A_aload_n hE 92 dX6_seekSwap_91 rfl rfl ?_
          refine A_get hE 95 dX6_seekSwap_92 rfl fkX6_34 rfl rfl ?_
          refine A_callVi hE 98 (c_X2_heardTogether (dN t0 t1 n (swS a b s)) t0 t1 g0 h0y g1 h1y (wf_dN n wS)) [6, 11, 12, 13, 14, 15, 16, 17, 18, 7, 8, 9, 10] dX6_seekSwap_95 rfl mkX6_59 rfl rfl rfl rfl rfl rfl rfl (Nat.le_of_ble_eq_true rfl) (Nat.le_of_ble_eq_true rfl) rfl (fun x95 h95 g95 hp95 hw95 => ?_)
          obtain ⟨rfl, rfl⟩ := hp95
          obtain rfl := Option.some.inj hw95
          refine A_h (TW s (dN t0 t1 n (swS a b s)) wh mu t0 g0 h0y t1 g1 h1y) rfl ?_
          rw [show sumH (dN t0 t1 n (swS a b s)) (hn (dN t0 t1 n (swS a b s))) = sumN t0 t1 n (swS a b s) from rfl]
          refine A_istore hE 100 dX6_seekSwap_98 rfl rfl rfl ?_
          refine A_iload hE 102 dX6_seekSwap_100 rfl rfl ?_
          refine A_aload_n hE 103 dX6_seekSwap_102 rfl rfl ?_
          refine A_get hE 106 dX6_seekSwap_103 rfl fkX6_15 rfl rfl ?_
          refine A_icmp_ge hE 109 125 dX6_seekSwap_106 rfl rfl (fun c106 => ?_) (fun c106 => ?_)
          · refine A_iinc hE 128 dX6_seekSwap_125 rfl rfl (1) rfl rfl rfl ?_
            rw [nI_1]
            refine A_lv [0, 1, 2, 3] rfl ?_
            refine A_goto hE 52 dX6_seekSwap_128 rfl ?_
            exact ihi (b + 1) _ wh mu h0y h1y (by omega) (by omega) (by rw [hx, swI, if_neg (iN c106)])
          · refine A_aload_n hE 110 dX6_seekSwap_109 rfl rfl ?_
            refine A_bipush hE 112 dX6_seekSwap_110 rfl (10) (by decide) ?_
            refine A_iload_n hE 113 dX6_seekSwap_112 rfl rfl ?_
            refine A_imul hE 114 dX6_seekSwap_113 rfl ?_
            refine A_iload_n hE 115 dX6_seekSwap_114 rfl rfl ?_
            refine A_iadd hE 116 dX6_seekSwap_115 rfl ?_
            refine A_put hE 119 dX6_seekSwap_116 rfl fkX6_9 rfl rfl rfl rfl ?_
            refine A_aload_n hE 120 dX6_seekSwap_119 rfl rfl ?_
            refine A_iload hE 122 dX6_seekSwap_120 rfl rfl ?_
            refine A_put hE 125 dX6_seekSwap_122 rfl fkX6_15 rfl rfl rfl rfl ?_
            refine A_iinc hE 128 dX6_seekSwap_125 rfl rfl (1) rfl rfl rfl ?_
            rw [nI_1]
            refine A_lv [0, 1, 2, 3] rfl ?_
            refine A_goto hE 52 dX6_seekSwap_128 rfl ?_
            exact ihi (b + 1) _ _ _ h0y h1y (by omega) (by omega) (by rw [hx, swI, if_pos (iG c106)])
      refine A_iload_n hE 38 dX6_seekSwap_37 rfl rfl ?_
      refine A_aload_n hE 39 dX6_seekSwap_38 rfl rfl ?_
      refine A_get hE 42 dX6_seekSwap_39 rfl fkX6_18 rfl rfl ?_
      refine A_get hE 45 dX6_seekSwap_42 rfl fkX6_53 rfl rfl ?_
      refine A_icmp_ge hE 48 137 dX6_seekSwap_45 rfl rfl (fun c45 => absurd c45 (by rw [w2]; exact nI_ge hlt (by omega))) (fun c45 => ?_)
      refine A_iload_n hE 49 dX6_seekSwap_48 rfl rfl ?_
      refine A_iconst hE 50 dX6_seekSwap_49 rfl (1) rfl ?_
      refine A_iadd hE 51 dX6_seekSwap_50 rfl ?_
      refine A_istore_n hE 52 dX6_seekSwap_51 rfl rfl rfl ?_
      rw [nI_1]
      refine A_lv [0, 1, 2, 3] rfl ?_
      exact inner (hn s - (a + 1)) (a + 1) J wh mu h0 h1 (by omega) (by omega) hx
  refine A_aload_n hE 1 dX6_seekSwap_0 rfl rfl ?_
  refine A_iconst hE 2 dX6_seekSwap_1 rfl (-1) rfl ?_
  refine A_put hE 5 dX6_seekSwap_2 rfl fkX6_9 rfl rfl rfl rfl ?_
  refine A_aload_n hE 6 dX6_seekSwap_5 rfl rfl ?_
  refine A_get hE 9 dX6_seekSwap_6 rfl fkX6_34 rfl rfl ?_
  refine A_aload_n hE 10 dX6_seekSwap_9 rfl rfl ?_
  refine A_get hE 13 dX6_seekSwap_10 rfl fkX6_18 rfl rfl ?_
  refine A_callVv hE 16 (c_X2_takeOver s (arr J 0) (arr J 1) (arr J 2) (arr J 3) 11 15 11 15 (pm J) (J 8) (J 0) (J 1) (J 2) (J 3) (J 4) (J 5)) [6, 7, 8, 9, 10, 1, 2, 3, 4, 5] dX6_seekSwap_13 rfl mkX6_37 rfl rfl rfl rfl rfl rfl rfl (Nat.le_of_ble_eq_true rfl) (Nat.le_of_ble_eq_true rfl) rfl (fun h13 g13 hp13 hw13 => ?_)
  obtain rfl := hp13
  obtain rfl := Option.some.inj hw13
  refine A_h (TW s s (-1) mu t0 g0 h0 t1 g1 h1) rfl ?_
  refine A_aload_n hE 17 dX6_seekSwap_16 rfl rfl ?_
  refine A_get hE 20 dX6_seekSwap_17 rfl fkX6_34 rfl rfl ?_
  refine A_iload_n hE 21 dX6_seekSwap_20 rfl rfl ?_
  refine A_callVv hE 24 (c_X2_passDays s t0 t1 g0 h0 g1 h1 n hnn w l0 l1) [6, 11, 12, 13, 14, 15, 16, 17, 18, 7, 8, 9, 10] dX6_seekSwap_21 rfl mkX6_41 rfl rfl rfl rfl rfl rfl rfl (Nat.le_of_ble_eq_true rfl) (Nat.le_of_ble_eq_true rfl) rfl (fun h21 g21 hp21 hw21 => ?_)
  obtain ⟨h0y, h1y, rfl⟩ := hp21
  obtain rfl := Option.some.inj hw21
  refine A_h (TW s (dN t0 t1 n s) (-1) mu t0 g0 h0y t1 g1 h1y) rfl ?_
  refine A_aload_n hE 25 dX6_seekSwap_24 rfl rfl ?_
  refine A_aload_n hE 26 dX6_seekSwap_25 rfl rfl ?_
  refine A_get hE 29 dX6_seekSwap_26 rfl fkX6_34 rfl rfl ?_
  refine A_callVi hE 32 (c_X2_heardTogether (dN t0 t1 n s) t0 t1 g0 h0y g1 h1y (wf_dN n w)) [6, 11, 12, 13, 14, 15, 16, 17, 18, 7, 8, 9, 10] dX6_seekSwap_29 rfl mkX6_59 rfl rfl rfl rfl rfl rfl rfl (Nat.le_of_ble_eq_true rfl) (Nat.le_of_ble_eq_true rfl) rfl (fun x29 h29 g29 hp29 hw29 => ?_)
  obtain ⟨rfl, rfl⟩ := hp29
  obtain rfl := Option.some.inj hw29
  refine A_h (TW s (dN t0 t1 n s) (-1) mu t0 g0 h0y t1 g1 h1y) rfl ?_
  refine A_put hE 35 dX6_seekSwap_32 rfl fkX6_15 rfl rfl rfl rfl ?_
  refine A_iconst hE 36 dX6_seekSwap_35 rfl (0) rfl ?_
  refine A_istore_n hE 37 dX6_seekSwap_36 rfl rfl rfl ?_
  refine A_lv [0, 1, 2] rfl ?_
  exact outer (hn s) 0 _ _ _ h0y h1y (Nat.zero_add _) rfl
set_option maxRecDepth 100000 in
theorem c_X6_likelyViews (s J : St) (wh mu : Int32) (t0 t1 : Sp) (g0 h0 g1 h1 : Nat → Int32) (k n : Nat) (v : Int32) (hk : k < 8) (hnn : n ≤ 1000) (w : wf s) (l0 : LawC 0 t0 g0) (l1 : LawC 1 t1 g1) : AMet yX6_likelyViews cX6_likelyViews 6 (some (.int)) 5 0 0 [.ref 0, .int (nI k), .int v, .int (nI n)] (TW s J wh mu t0 g0 h0 t1 g1 h1) (pI fun x h => x = (lvF' t0 t1 s k n v 100 0 0) ∧ ∃ (J' : St) (h0' h1' : Nat → Int32), h = TW s J' wh mu t0 g0 h0' t1 g1 h1') := by
  refine AMet.of (by decide +kernel) rfl (fun E ad0 hE => ?_)
  have loop : ∀ (m i : Nat) (c : Int32) (J : St) (h0 h1 : Nat → Int32), i + m = 100 → (lvF' t0 t1 s k n v 100 0 0) = lvF' t0 t1 s k n v m i c → AW E (rmD 5 0 0) 6 (QM E ad0 19 0 0 (pI fun x h => x = (lvF' t0 t1 s k n v 100 0 0) ∧ ∃ (J' : St) (h0' h1' : Nat → Int32), h = TW s J' wh mu t0 g0 h0' t1 g1 h1')) ad0 19 0 0 6 [(0, .ref 0), (1, .int (nI k)), (2, .int v), (3, .int (nI n)), (4, .int c), (5, .int (nI i))] [] (TW s J wh mu t0 g0 h0 t1 g1 h1) := by
    intro m
    induction m with
    | zero =>
      intro i c J h0 h1 hi hx
      refine A_iload hE 8 dX6_likelyViews_6 rfl rfl ?_
      refine A_bipush hE 10 dX6_likelyViews_8 rfl (99) (by decide) ?_
      refine A_icmp_gt hE 13 64 dX6_likelyViews_10 rfl rfl (fun c10 => ?_) (fun c10 => absurd (show 99 < nI i from nI_lt (a := 99) (by omega) (by omega)) c10)
      refine A_iload hE 66 dX6_likelyViews_64 rfl rfl ?_
      refine A_iret hE dX6_likelyViews_66 ⟨by rw [hx]; rfl, J, h0, h1, rfl⟩
    | succ m ih =>
      intro i c J h0 h1 hi hx
      refine A_iload hE 8 dX6_likelyViews_6 rfl rfl ?_
      refine A_bipush hE 10 dX6_likelyViews_8 rfl (99) (by decide) ?_
      refine A_icmp_gt hE 13 64 dX6_likelyViews_10 rfl rfl (fun c10 => absurd c10 (nI_nlt (a := 99) (by omega) (by omega))) (fun c10 => ?_)
      refine A_aload_n hE 14 dX6_likelyViews_13 rfl rfl ?_
      refine A_get hE 17 dX6_likelyViews_14 rfl fkX6_34 rfl rfl ?_
      refine A_aload_n hE 18 dX6_likelyViews_17 rfl rfl ?_
      refine A_get hE 21 dX6_likelyViews_18 rfl fkX6_18 rfl rfl ?_
      refine A_callVv hE 24 (c_X2_takeOver s (arr J 0) (arr J 1) (arr J 2) (arr J 3) 11 15 11 15 (pm J) (J 8) (J 0) (J 1) (J 2) (J 3) (J 4) (J 5)) [6, 7, 8, 9, 10, 1, 2, 3, 4, 5] dX6_likelyViews_21 rfl mkX6_37 rfl rfl rfl rfl rfl rfl rfl (Nat.le_of_ble_eq_true rfl) (Nat.le_of_ble_eq_true rfl) rfl (fun h21 g21 hp21 hw21 => ?_)
      obtain rfl := hp21
      obtain rfl := Option.some.inj hw21
      refine A_h (TW s s wh mu t0 g0 h0 t1 g1 h1) rfl ?_
      refine A_aload_n hE 25 dX6_likelyViews_24 rfl rfl ?_
      refine A_get hE 28 dX6_likelyViews_25 rfl fkX6_34 rfl rfl ?_
      refine A_iload hE 30 dX6_likelyViews_28 rfl rfl ?_
      refine A_put hE 33 dX6_likelyViews_30 rfl fkX6_82 rfl rfl rfl rfl ?_
      refine A_aload_n hE 34 dX6_likelyViews_33 rfl rfl ?_
      refine A_get hE 37 dX6_likelyViews_34 rfl fkX6_34 rfl rfl ?_
      refine A_iload_n hE 38 dX6_likelyViews_37 rfl rfl ?_
      refine A_iload_n hE 39 dX6_likelyViews_38 rfl rfl ?_
      refine A_h (TW s (upd s 1 (nI i)) wh mu t0 g0 h0 t1 g1 h1) TW_1.symm ?_
      refine A_callVv hE 42 (c_X2_passDaysFor (upd s 1 (nI i)) t0 t1 g0 h0 g1 h1 k hk n hnn (wf_lo (Or.inr (Or.inl rfl)) w) l0 l1) [6, 11, 12, 13, 14, 15, 16, 17, 18, 7, 8, 9, 10] dX6_likelyViews_39 rfl mkX6_49 rfl rfl rfl rfl rfl rfl rfl (Nat.le_of_ble_eq_true rfl) (Nat.le_of_ble_eq_true rfl) rfl (fun h39 g39 hp39 hw39 => ?_)
      obtain ⟨h0y, h1y, rfl⟩ := hp39
      obtain rfl := Option.some.inj hw39
      refine A_h (TW s (dF t0 t1 k n (upd s 1 (nI i))) wh mu t0 g0 h0y t1 g1 h1y) rfl ?_
      refine A_aload_n hE 43 dX6_likelyViews_42 rfl rfl ?_
      refine A_get hE 46 dX6_likelyViews_43 rfl fkX6_34 rfl rfl ?_
      refine A_get hE 49 dX6_likelyViews_46 rfl fkX6_45 rfl rfl ?_
      refine A_iload_n hE 50 dX6_likelyViews_49 rfl rfl ?_
      refine A_iald hE 51 k dX6_likelyViews_50 rfl rfl rfl hk rfl ?_
      rw [arr_its]
      refine A_iload_n hE 52 dX6_likelyViews_51 rfl rfl ?_
      refine A_icmp_lt hE 55 58 dX6_likelyViews_52 rfl rfl (fun c52 => ?_) (fun c52 => ?_)
      · refine A_iinc hE 61 dX6_likelyViews_58 rfl rfl (1) rfl rfl rfl ?_
        rw [nI_1]
        refine A_lv [0, 1, 2, 3, 4, 5] rfl ?_
        refine A_goto hE 6 dX6_likelyViews_61 rfl ?_
        exact ih (i + 1) c _ h0y h1y (by omega) (by rw [hx, lvF', if_neg (iM c52)])
      · refine A_iinc hE 58 dX6_likelyViews_55 rfl rfl (1) rfl rfl rfl ?_
        refine A_iinc hE 61 dX6_likelyViews_58 rfl rfl (1) rfl rfl rfl ?_
        rw [nI_1]
        refine A_lv [0, 1, 2, 3, 4, 5] rfl ?_
        refine A_goto hE 6 dX6_likelyViews_61 rfl ?_
        exact ih (i + 1) (c + 1) _ h0y h1y (by omega) (by rw [hx, lvF', if_pos (iL c52)])
  refine A_iconst hE 1 dX6_likelyViews_0 rfl (0) rfl ?_
  refine A_istore hE 3 dX6_likelyViews_1 rfl rfl rfl ?_
  refine A_iconst hE 4 dX6_likelyViews_3 rfl (0) rfl ?_
  refine A_istore hE 6 dX6_likelyViews_4 rfl rfl rfl ?_
  refine A_lv [0, 1, 2, 3, 4, 5] rfl ?_
  exact loop 100 0 0 J h0 h1 rfl rfl
set_option maxRecDepth 100000 in
theorem c_X6_isFitting (s J : St) (wh mu : Int32) (t0 t1 : Sp) (g0 h0 g1 h1 : Nat → Int32) (sz : Nat) (v : Nat → Int32) (hsz : sz ≤ 24) (a : Nat) (ha : a < hn s) (w : wf s) (l1 : LawC 1 t1 g1) : AMet yX6_isFitting cX6_isFitting 4 (some (.boolean)) 5 0 0 [.ref 0, .int (nI a), .ref 19] [.inr (6, [.ref 1, .ref 6, .int wh, .int mu]), RoundO 11 15 2 3 4 5 s, cI 8 (arr s 0), cI 8 (arr s 1), cI 8 (arr s 2), cI 8 (arr s 3), RoundO 11 15 7 8 9 10 J, cI 8 (arr J 0), cI 8 (arr J 1), cI 8 (arr J 2), cI 8 (arr J 3), LawO 12 14 0, cRow 13 (nI t0.length), cI 60 g0, cI 60 h0, LawO 16 18 1, cRow 17 (nI t1.length), cI 60 g1, cI 60 h1, cRow 20 (nI sz), cI 24 v] (pI fun x h => x = bI (ftF t1 v sz 0 (upd s 4 (nI a))) ∧ ∃ (J' : St) (h1' : Nat → Int32), h = [.inr (6, [.ref 1, .ref 6, .int wh, .int mu]), RoundO 11 15 2 3 4 5 s, cI 8 (arr s 0), cI 8 (arr s 1), cI 8 (arr s 2), cI 8 (arr s 3), RoundO 11 15 7 8 9 10 J', cI 8 (arr J' 0), cI 8 (arr J' 1), cI 8 (arr J' 2), cI 8 (arr J' 3), LawO 12 14 0, cRow 13 (nI t0.length), cI 60 g0, cI 60 h0, LawO 16 18 1, cRow 17 (nI t1.length), cI 60 g1, cI 60 h1', cRow 20 (nI sz), cI 24 v]) := by
  refine AMet.of (by decide +kernel) rfl (fun E ad0 hE => ?_)
  have loop : ∀ (m i : Nat) (J : St) (h1 : Nat → Int32), i + m = sz → wf J → ftF t1 v sz 0 (upd s 4 (nI a)) = ftF t1 v m i J → AW E (rmD 5 0 0) 4 (QM E ad0 21 0 0 (pI fun x h => x = bI (ftF t1 v sz 0 (upd s 4 (nI a))) ∧ ∃ (J' : St) (h1' : Nat → Int32), h = [.inr (6, [.ref 1, .ref 6, .int wh, .int mu]), RoundO 11 15 2 3 4 5 s, cI 8 (arr s 0), cI 8 (arr s 1), cI 8 (arr s 2), cI 8 (arr s 3), RoundO 11 15 7 8 9 10 J', cI 8 (arr J' 0), cI 8 (arr J' 1), cI 8 (arr J' 2), cI 8 (arr J' 3), LawO 12 14 0, cRow 13 (nI t0.length), cI 60 g0, cI 60 h0, LawO 16 18 1, cRow 17 (nI t1.length), cI 60 g1, cI 60 h1', cRow 20 (nI sz), cI 24 v])) ad0 21 0 0 21 [(0, .ref 0), (2, .ref 19), (3, .int (nI i))] [] [.inr (6, [.ref 1, .ref 6, .int wh, .int mu]), RoundO 11 15 2 3 4 5 s, cI 8 (arr s 0), cI 8 (arr s 1), cI 8 (arr s 2), cI 8 (arr s 3), RoundO 11 15 7 8 9 10 J, cI 8 (arr J 0), cI 8 (arr J 1), cI 8 (arr J 2), cI 8 (arr J 3), LawO 12 14 0, cRow 13 (nI t0.length), cI 60 g0, cI 60 h0, LawO 16 18 1, cRow 17 (nI t1.length), cI 60 g1, cI 60 h1, cRow 20 (nI sz), cI 24 v] := by
    intro m
    induction m with
    | zero =>
      intro i J h1 hi wJ hx
      refine A_iload_n hE 22 dX6_isFitting_21 rfl rfl ?_
      refine A_aload_n hE 23 dX6_isFitting_22 rfl rfl ?_
      refine A_get hE 26 dX6_isFitting_23 rfl fkX6_89 rfl rfl ?_
      refine A_icmp_ge hE 29 60 dX6_isFitting_26 rfl rfl (fun c26 => ?_) (fun c26 => absurd (nI_le (by omega) (by omega)) c26)
      refine A_iconst hE 61 dX6_isFitting_60 rfl (1) rfl ?_
      refine A_zret hE dX6_isFitting_61 (by first | exact Or.inl rfl | exact Or.inr rfl) ⟨by rw [hx]; rfl, J, h1, rfl⟩
    | succ m ih =>
      intro i J h1 hi wJ hx
      refine A_iload_n hE 22 dX6_isFitting_21 rfl rfl ?_
      refine A_aload_n hE 23 dX6_isFitting_22 rfl rfl ?_
      refine A_get hE 26 dX6_isFitting_23 rfl fkX6_89 rfl rfl ?_
      refine A_icmp_ge hE 29 60 dX6_isFitting_26 rfl rfl (fun c26 => absurd c26 (nI_ge (show i < sz by omega) (by omega))) (fun c26 => ?_)
      refine A_aload_n hE 30 dX6_isFitting_29 rfl rfl ?_
      refine A_get hE 33 dX6_isFitting_30 rfl fkX6_34 rfl rfl ?_
      refine A_get hE 36 dX6_isFitting_33 rfl fkX6_82 rfl rfl ?_
      refine A_aload_n hE 37 dX6_isFitting_36 rfl rfl ?_
      refine A_get hE 40 dX6_isFitting_37 rfl fkX6_94 rfl rfl ?_
      refine A_iload_n hE 41 dX6_isFitting_40 rfl rfl ?_
      refine A_iald hE 42 i dX6_isFitting_41 rfl rfl rfl (by omega) rfl ?_
      refine A_icmp_eq hE 45 47 dX6_isFitting_42 rfl rfl (fun c42 => ?_) (fun c42 => ?_)
      · refine A_aload_n hE 48 dX6_isFitting_47 rfl rfl ?_
        refine A_get hE 51 dX6_isFitting_48 rfl fkX6_34 rfl rfl ?_
        refine A_callVv hE 54 (c_X2_carryOn J t0 t1 g0 h0 g1 h1 wJ l1) [6, 11, 12, 13, 14, 15, 16, 17, 18, 7, 8, 9, 10] dX6_isFitting_51 rfl mkX6_79 rfl rfl rfl rfl rfl rfl rfl (Nat.le_of_ble_eq_true rfl) (Nat.le_of_ble_eq_true rfl) rfl (fun h51 g51 hp51 hw51 => ?_)
        obtain ⟨h1y, rfl⟩ := hp51
        obtain rfl := Option.some.inj hw51
        refine A_h ([.inr (6, [.ref 1, .ref 6, .int wh, .int mu]), RoundO 11 15 2 3 4 5 s, cI 8 (arr s 0), cI 8 (arr s 1), cI 8 (arr s 2), cI 8 (arr s 3), RoundO 11 15 7 8 9 10 (carS t1 J), cI 8 (arr (carS t1 J) 0), cI 8 (arr (carS t1 J) 1), cI 8 (arr (carS t1 J) 2), cI 8 (arr (carS t1 J) 3), LawO 12 14 0, cRow 13 (nI t0.length), cI 60 g0, cI 60 h0, LawO 16 18 1, cRow 17 (nI t1.length), cI 60 g1, cI 60 h1y, cRow 20 (nI sz), cI 24 v]) rfl ?_
        refine A_iinc hE 57 dX6_isFitting_54 rfl rfl (1) rfl rfl rfl ?_
        rw [nI_1]
        refine A_lv [0, 2, 3] rfl ?_
        refine A_goto hE 21 dX6_isFitting_57 rfl ?_
        exact ih (i + 1) _ h1y (by omega) (wf_car wJ) (by rw [hx, ftF, if_pos c42])
      · refine A_iconst hE 46 dX6_isFitting_45 rfl (0) rfl ?_
        refine A_zret hE dX6_isFitting_46 (by first | exact Or.inl rfl | exact Or.inr rfl) ⟨by rw [hx, ftF, if_neg c42]; rfl, J, h1, rfl⟩
  refine A_aload_n hE 1 dX6_isFitting_0 rfl rfl ?_
  refine A_get hE 4 dX6_isFitting_1 rfl fkX6_34 rfl rfl ?_
  refine A_aload_n hE 5 dX6_isFitting_4 rfl rfl ?_
  refine A_get hE 8 dX6_isFitting_5 rfl fkX6_18 rfl rfl ?_
  refine A_callVv hE 11 (c_X2_takeOver s (arr J 0) (arr J 1) (arr J 2) (arr J 3) 11 15 11 15 (pm J) (J 8) (J 0) (J 1) (J 2) (J 3) (J 4) (J 5)) [6, 7, 8, 9, 10, 1, 2, 3, 4, 5] dX6_isFitting_8 rfl mkX6_37 rfl rfl rfl rfl rfl rfl rfl (Nat.le_of_ble_eq_true rfl) (Nat.le_of_ble_eq_true rfl) rfl (fun h8 g8 hp8 hw8 => ?_)
  obtain rfl := hp8
  obtain rfl := Option.some.inj hw8
  refine A_h ([.inr (6, [.ref 1, .ref 6, .int wh, .int mu]), RoundO 11 15 2 3 4 5 s, cI 8 (arr s 0), cI 8 (arr s 1), cI 8 (arr s 2), cI 8 (arr s 3), RoundO 11 15 7 8 9 10 s, cI 8 (arr s 0), cI 8 (arr s 1), cI 8 (arr s 2), cI 8 (arr s 3), LawO 12 14 0, cRow 13 (nI t0.length), cI 60 g0, cI 60 h0, LawO 16 18 1, cRow 17 (nI t1.length), cI 60 g1, cI 60 h1, cRow 20 (nI sz), cI 24 v]) rfl ?_
  refine A_aload_n hE 12 dX6_isFitting_11 rfl rfl ?_
  refine A_get hE 15 dX6_isFitting_12 rfl fkX6_34 rfl rfl ?_
  refine A_iload_n hE 16 dX6_isFitting_15 rfl rfl ?_
  refine A_put hE 19 dX6_isFitting_16 rfl fkX6_56 rfl rfl rfl rfl ?_
  refine A_iconst hE 20 dX6_isFitting_19 rfl (0) rfl ?_
  refine A_istore_n hE 21 dX6_isFitting_20 rfl rfl rfl ?_
  refine A_h ([.inr (6, [.ref 1, .ref 6, .int wh, .int mu]), RoundO 11 15 2 3 4 5 s, cI 8 (arr s 0), cI 8 (arr s 1), cI 8 (arr s 2), cI 8 (arr s 3), RoundO 11 15 7 8 9 10 (upd s 4 (nI a)), cI 8 (arr (upd s 4 (nI a)) 0), cI 8 (arr (upd s 4 (nI a)) 1), cI 8 (arr (upd s 4 (nI a)) 2), cI 8 (arr (upd s 4 (nI a)) 3), LawO 12 14 0, cRow 13 (nI t0.length), cI 60 g0, cI 60 h0, LawO 16 18 1, cRow 17 (nI t1.length), cI 60 g1, cI 60 h1, cRow 20 (nI sz), cI 24 v]) (by simp only [RO_4, arr_lo (show 4 < 9 by omega)]) ?_
  refine A_lv [0, 2, 3] rfl ?_
  exact loop sz 0 _ h1 (Nat.zero_add _) (wf_4 w ha) rfl
set_option maxRecDepth 100000 in
theorem c_X6_placesThatFit (s J : St) (wh mu : Int32) (t0 t1 : Sp) (g0 h0 g1 h1 : Nat → Int32) (sz : Nat) (v : Nat → Int32) (hsz : sz ≤ 24) (w : wf s) (l1 : LawC 1 t1 g1) : AMet yX6_placesThatFit cX6_placesThatFit 4 (some (.int)) 6 0 0 [.ref 0, .ref 19] [.inr (6, [.ref 1, .ref 6, .int wh, .int mu]), RoundO 11 15 2 3 4 5 s, cI 8 (arr s 0), cI 8 (arr s 1), cI 8 (arr s 2), cI 8 (arr s 3), RoundO 11 15 7 8 9 10 J, cI 8 (arr J 0), cI 8 (arr J 1), cI 8 (arr J 2), cI 8 (arr J 3), LawO 12 14 0, cRow 13 (nI t0.length), cI 60 g0, cI 60 h0, LawO 16 18 1, cRow 17 (nI t1.length), cI 60 g1, cI 60 h1, cRow 20 (nI sz), cI 24 v] (pI fun x h => x = (pfF t1 s v sz (hn s) 0 0) ∧ ∃ (J' : St) (h1' : Nat → Int32), h = [.inr (6, [.ref 1, .ref 6, .int wh, .int mu]), RoundO 11 15 2 3 4 5 s, cI 8 (arr s 0), cI 8 (arr s 1), cI 8 (arr s 2), cI 8 (arr s 3), RoundO 11 15 7 8 9 10 J', cI 8 (arr J' 0), cI 8 (arr J' 1), cI 8 (arr J' 2), cI 8 (arr J' 3), LawO 12 14 0, cRow 13 (nI t0.length), cI 60 g0, cI 60 h0, LawO 16 18 1, cRow 17 (nI t1.length), cI 60 g1, cI 60 h1', cRow 20 (nI sz), cI 24 v]) := by
  refine AMet.of (by decide +kernel) rfl (fun E ad0 hE => ?_)
  obtain ⟨w1, w2, w3, w4, w5, w6, w7⟩ := id w
  have loop : ∀ (m a : Nat) (c : Int32) (J : St) (h1 : Nat → Int32), a + m = hn s → (pfF t1 s v sz (hn s) 0 0) = pfF t1 s v sz m a c → AW E (rmD 6 0 0) 4 (QM E ad0 21 0 0 (pI fun x h => x = (pfF t1 s v sz (hn s) 0 0) ∧ ∃ (J' : St) (h1' : Nat → Int32), h = [.inr (6, [.ref 1, .ref 6, .int wh, .int mu]), RoundO 11 15 2 3 4 5 s, cI 8 (arr s 0), cI 8 (arr s 1), cI 8 (arr s 2), cI 8 (arr s 3), RoundO 11 15 7 8 9 10 J', cI 8 (arr J' 0), cI 8 (arr J' 1), cI 8 (arr J' 2), cI 8 (arr J' 3), LawO 12 14 0, cRow 13 (nI t0.length), cI 60 g0, cI 60 h0, LawO 16 18 1, cRow 17 (nI t1.length), cI 60 g1, cI 60 h1', cRow 20 (nI sz), cI 24 v])) ad0 21 0 0 4 [(0, .ref 0), (1, .ref 19), (2, .int c), (3, .int (nI a))] [] [.inr (6, [.ref 1, .ref 6, .int wh, .int mu]), RoundO 11 15 2 3 4 5 s, cI 8 (arr s 0), cI 8 (arr s 1), cI 8 (arr s 2), cI 8 (arr s 3), RoundO 11 15 7 8 9 10 J, cI 8 (arr J 0), cI 8 (arr J 1), cI 8 (arr J 2), cI 8 (arr J 3), LawO 12 14 0, cRow 13 (nI t0.length), cI 60 g0, cI 60 h0, LawO 16 18 1, cRow 17 (nI t1.length), cI 60 g1, cI 60 h1, cRow 20 (nI sz), cI 24 v] := by
    intro m
    induction m with
    | zero =>
      intro a c J h1 ha hx
      refine A_iload_n hE 5 dX6_placesThatFit_4 rfl rfl ?_
      refine A_aload_n hE 6 dX6_placesThatFit_5 rfl rfl ?_
      refine A_get hE 9 dX6_placesThatFit_6 rfl fkX6_18 rfl rfl ?_
      refine A_get hE 12 dX6_placesThatFit_9 rfl fkX6_53 rfl rfl ?_
      refine A_icmp_ge hE 15 36 dX6_placesThatFit_12 rfl rfl (fun c12 => ?_) (fun c12 => absurd (by rw [w2]; exact nI_le (by omega) (by omega)) c12)
      refine A_iload_n hE 37 dX6_placesThatFit_36 rfl rfl ?_
      refine A_iret hE dX6_placesThatFit_37 ⟨by rw [hx]; rfl, J, h1, rfl⟩
    | succ m ih =>
      intro a c J h1 ha hx
      have hlt : a < hn s := by omega
      refine A_iload_n hE 5 dX6_placesThatFit_4 rfl rfl ?_
      refine A_aload_n hE 6 dX6_placesThatFit_5 rfl rfl ?_
      refine A_get hE 9 dX6_placesThatFit_6 rfl fkX6_18 rfl rfl ?_
      refine A_get hE 12 dX6_placesThatFit_9 rfl fkX6_53 rfl rfl ?_
      refine A_icmp_ge hE 15 36 dX6_placesThatFit_12 rfl rfl (fun c12 => absurd c12 (by rw [w2]; exact nI_ge hlt (by omega))) (fun c12 => ?_)
      refine A_aload_n hE 16 dX6_placesThatFit_15 rfl rfl ?_
      refine A_iload_n hE 17 dX6_placesThatFit_16 rfl rfl ?_
      refine A_aload_n hE 18 dX6_placesThatFit_17 rfl rfl ?_
      refine A_callVi hE 21 (c_X6_isFitting s J wh mu t0 t1 g0 h0 g1 h1 sz v hsz a hlt w l1) [0, 1, 2, 3, 4, 5, 6, 7, 8, 9, 10, 11, 12, 13, 14, 15, 16, 17, 18, 19, 20] dX6_placesThatFit_18 rfl mkX6_85 rfl rfl rfl rfl rfl rfl rfl (Nat.le_of_ble_eq_true rfl) (Nat.le_of_ble_eq_true rfl) rfl (fun x18 h18 g18 hp18 hw18 => ?_)
      obtain ⟨rfl, J2, h1y, rfl⟩ := hp18
      obtain rfl := Option.some.inj hw18
      refine A_h ([.inr (6, [.ref 1, .ref 6, .int wh, .int mu]), RoundO 11 15 2 3 4 5 s, cI 8 (arr s 0), cI 8 (arr s 1), cI 8 (arr s 2), cI 8 (arr s 3), RoundO 11 15 7 8 9 10 J2, cI 8 (arr J2 0), cI 8 (arr J2 1), cI 8 (arr J2 2), cI 8 (arr J2 3), LawO 12 14 0, cRow 13 (nI t0.length), cI 60 g0, cI 60 h0, LawO 16 18 1, cRow 17 (nI t1.length), cI 60 g1, cI 60 h1y, cRow 20 (nI sz), cI 24 v]) rfl ?_
      refine A_if_eq hE 24 30 dX6_placesThatFit_21 rfl rfl (fun c21 => ?_) (fun c21 => ?_)
      · refine A_iinc hE 33 dX6_placesThatFit_30 rfl rfl (1) rfl rfl rfl ?_
        rw [nI_1]
        refine A_lv [0, 1, 2, 3] rfl ?_
        refine A_goto hE 4 dX6_placesThatFit_33 rfl ?_
        exact ih (a + 1) c J2 h1y (by omega) (by rw [hx, pfF, if_neg (fun z => by rw [z] at c21; exact absurd c21 (by decide))])
      · refine A_iload_n hE 25 dX6_placesThatFit_24 rfl rfl ?_
        refine A_iconst hE 26 dX6_placesThatFit_25 rfl (1) rfl ?_
        refine A_iload_n hE 27 dX6_placesThatFit_26 rfl rfl ?_
        refine A_ishl hE 28 dX6_placesThatFit_27 rfl ?_
        refine A_ior hE 29 dX6_placesThatFit_28 rfl ?_
        refine A_istore_n hE 30 dX6_placesThatFit_29 rfl rfl rfl ?_
        refine A_iinc hE 33 dX6_placesThatFit_30 rfl rfl (1) rfl rfl rfl ?_
        rw [nI_1]
        refine A_lv [0, 1, 2, 3] rfl ?_
        refine A_goto hE 4 dX6_placesThatFit_33 rfl ?_
        exact ih (a + 1) _ J2 h1y (by omega) (by rw [hx, pfF, if_pos (by cases hz : ftF t1 v sz 0 (upd s 4 (nI a)) with | true => rfl | false => rw [hz] at c21; exact absurd rfl c21)])
  refine A_iconst hE 1 dX6_placesThatFit_0 rfl (0) rfl ?_
  refine A_istore_n hE 2 dX6_placesThatFit_1 rfl rfl rfl ?_
  refine A_iconst hE 3 dX6_placesThatFit_2 rfl (0) rfl ?_
  refine A_istore_n hE 4 dX6_placesThatFit_3 rfl rfl rfl ?_
  refine A_lv [0, 1, 2, 3] rfl ?_
  exact loop (hn s) 0 0 J h1 (Nat.zero_add _) rfl
