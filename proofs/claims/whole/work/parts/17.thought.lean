/-- a thought: its own cell, the true round's, the trial's, the true laws, the trial's -/
abbrev TW (s J : St) (wh mu : Int32) (t0 : Sp) (g0 h0 : Nat → Int32) (t1 : Sp) (g1 h1 : Nat → Int32) (n0 n1 : Nat) (f0 k0 f1 k1 : Nat → Int32) : List AE := [.inr (6, [.ref 6, .int wh, .int mu]), RoundO 11 15 2 3 4 5 s, cI 8 (arr s 0), cI 8 (arr s 1), cI 8 (arr s 2), cI 8 (arr s 3), RoundO 19 23 7 8 9 10 J, cI 8 (arr J 0), cI 8 (arr J 1), cI 8 (arr J 2), cI 8 (arr J 3), LawO 12 14 0, cRow 13 (nI t0.length), cI 60 g0, cI 60 h0, LawO 16 18 1, cRow 17 (nI t1.length), cI 60 g1, cI 60 h1, LawO 20 22 0, cRow 21 (nI n0), cI 60 f0, cI 60 k0, LawO 24 26 1, cRow 25 (nI n1), cI 60 f1, cI 60 k1]
theorem RO_4 {a b c d e f : Nat} {J : St} {v : Int32} : RoundO a b c d e f (upd J 4 v) = .inr (2, [.ref a, .ref b, .ref c, .ref d, .ref e, .ref f, .int (pm J), .int (J 8), .int (J 0), .int (J 1), .int (J 2), .int (J 3), .int v, .int (J 5)]) := by
  simp only [RoundO, pm_lo (show 4 < 9 by omega)]
  rfl
theorem RO_1 {a b c d e f : Nat} {J : St} {v : Int32} : RoundO a b c d e f (upd J 1 v) = .inr (2, [.ref a, .ref b, .ref c, .ref d, .ref e, .ref f, .int (pm J), .int (J 8), .int (J 0), .int v, .int (J 2), .int (J 3), .int (J 4), .int (J 5)]) := by
  simp only [RoundO, pm_lo (show 1 < 9 by omega)]
  rfl
theorem TW_4 {s J : St} {wh mu v : Int32} {t0 t1 : Sp} {g0 h0 g1 h1 : Nat → Int32} {n0 n1 : Nat} {f0 k0 f1 k1 : Nat → Int32} : TW s (upd J 4 v) wh mu t0 g0 h0 t1 g1 h1 n0 n1 f0 k0 f1 k1 = [.inr (6, [.ref 6, .int wh, .int mu]), RoundO 11 15 2 3 4 5 s, cI 8 (arr s 0), cI 8 (arr s 1), cI 8 (arr s 2), cI 8 (arr s 3), .inr (2, [.ref 19, .ref 23, .ref 7, .ref 8, .ref 9, .ref 10, .int (pm J), .int (J 8), .int (J 0), .int (J 1), .int (J 2), .int (J 3), .int v, .int (J 5)]), cI 8 (arr J 0), cI 8 (arr J 1), cI 8 (arr J 2), cI 8 (arr J 3), LawO 12 14 0, cRow 13 (nI t0.length), cI 60 g0, cI 60 h0, LawO 16 18 1, cRow 17 (nI t1.length), cI 60 g1, cI 60 h1, LawO 20 22 0, cRow 21 (nI n0), cI 60 f0, cI 60 k0, LawO 24 26 1, cRow 25 (nI n1), cI 60 f1, cI 60 k1] := by
  simp only [TW, RO_4, arr_lo (show 4 < 9 by omega)]
theorem TW_1 {s J : St} {wh mu v : Int32} {t0 t1 : Sp} {g0 h0 g1 h1 : Nat → Int32} {n0 n1 : Nat} {f0 k0 f1 k1 : Nat → Int32} : TW s (upd J 1 v) wh mu t0 g0 h0 t1 g1 h1 n0 n1 f0 k0 f1 k1 = [.inr (6, [.ref 6, .int wh, .int mu]), RoundO 11 15 2 3 4 5 s, cI 8 (arr s 0), cI 8 (arr s 1), cI 8 (arr s 2), cI 8 (arr s 3), .inr (2, [.ref 19, .ref 23, .ref 7, .ref 8, .ref 9, .ref 10, .int (pm J), .int (J 8), .int (J 0), .int v, .int (J 2), .int (J 3), .int (J 4), .int (J 5)]), cI 8 (arr J 0), cI 8 (arr J 1), cI 8 (arr J 2), cI 8 (arr J 3), LawO 12 14 0, cRow 13 (nI t0.length), cI 60 g0, cI 60 h0, LawO 16 18 1, cRow 17 (nI t1.length), cI 60 g1, cI 60 h1, LawO 20 22 0, cRow 21 (nI n0), cI 60 f0, cI 60 k0, LawO 24 26 1, cRow 25 (nI n1), cI 60 f1, cI 60 k1] := by
  simp only [TW, RO_1, arr_lo (show 1 < 9 by omega)]
def du (t0 t1 : Sp) (k : Nat) (v : Int32) : Nat → Nat → St → Int32
  | 0, _, _ => -1
  | m + 1, d, J => if v ≤ its J k 2 then nI d else du t0 t1 k v m (d + 1) (dayF t0 t1 k J)
def ssF (t0 t1 : Sp) (s : St) (k n : Nat) : Nat → Nat → Int32 × Int32 → Int32 × Int32
  | 0, _, q => q
  | m + 1, a, q => ssF t0 t1 s k n m (a + 1) (if q.2 < its (dF t0 t1 k n (upd s 4 (nI a))) k 2 then (nI a, its (dF t0 t1 k n (upd s 4 (nI a))) k 2) else q)
def sumN (t0 t1 : Sp) (n : Nat) (s : St) : Int32 := sumH (dN t0 t1 n s) (hn (dN t0 t1 n s))
def swI (t0 t1 : Sp) (s : St) (n a : Nat) : Nat → Nat → Int32 × Int32 → Int32 × Int32
  | 0, _, q => q
  | m + 1, b, q => swI t0 t1 s n a m (b + 1) (if sumN t0 t1 n (swS a b s) < q.2 then (10 * nI a + nI b, sumN t0 t1 n (swS a b s)) else q)
def swO (t0 t1 : Sp) (s : St) (n : Nat) : Nat → Nat → Int32 × Int32 → Int32 × Int32
  | 0, _, q => q
  | m + 1, a, q => swO t0 t1 s n m (a + 1) (swI t0 t1 s n a (hn s - (a + 1)) (a + 1) q)
def lvF' (t0 t1 : Sp) (s : St) (k n : Nat) (v : Int32) : Nat → Nat → Int32 → Int32
  | 0, _, c => c
  | m + 1, i, c => lvF' t0 t1 s k n v m (i + 1) (if v ≤ its (dF t0 t1 k n (upd s 1 (nI i))) k 2 then c + 1 else c)
def ftF (t1 : Sp) (v : Nat → Int32) : Nat → Nat → St → Bool
  | 0, _, _ => true
  | m + 1, i, J => if J 1 = v i then ftF t1 v m (i + 1) (carS t1 J) else false
def pfF (t1 : Sp) (s : St) (v : Nat → Int32) (sz : Nat) : Nat → Nat → Int32 → Int32
  | 0, _, c => c
  | m + 1, a, c => pfF t1 s v sz m (a + 1) (if ftF t1 v sz 0 (upd s 4 (nI a)) then c ||| (1 <<< (nI a &&& 31)) else c)
theorem arr_its (s : St) (h j : Nat) : arr s j h = its s h j := rfl

set_option maxRecDepth 100000 in
theorem c_X6_daysOn (s J : St) (wh mu : Int32) (t0 t1 : Sp) (g0 h0 g1 h1 : Nat → Int32) (n0 n1 : Nat) (f0 k0 f1 k1 : Nat → Int32) (n : Nat) (hnn : n ≤ 1000) (w : wf s) (l0 : LawC 0 t0 g0) (l1 : LawC 1 t1 g1) : AMet yX6_daysOn cX6_daysOn 3 (some ((.object "LoanedRound$Round"))) 5 0 0 [.ref 0, .ref 1, .int (nI n)] (TW s J wh mu t0 g0 h0 t1 g1 h1 n0 n1 f0 k0 f1 k1) (pR fun i h => i = 6 ∧ ∃ k0' k1' : Nat → Int32, h = TW s (dN t0 t1 n s) wh mu t0 g0 h0 t1 g1 h1 t0.length t1.length (ovr t0.length g0 f0) k0' (ovr t1.length g1 f1) k1') := by
  refine AMet.of (by decide +kernel) rfl (fun E ad0 hE => ?_)
  refine A_aload_n hE 1 dX6_daysOn_0 rfl rfl ?_
  refine A_get hE 4 dX6_daysOn_1 rfl fkX6_12 rfl rfl ?_
  refine A_aload_n hE 5 dX6_daysOn_4 rfl rfl ?_
  refine A_callVv hE 8 (c_X2_takeOver s (arr J 0) (arr J 1) (arr J 2) (arr J 3) t0 t1 g0 h0 g1 h1 n0 n1 f0 k0 f1 k1 (pm J) (J 8) (J 0) (J 1) (J 2) (J 3) (J 4) (J 5) l0.len l1.len) [6, 7, 8, 9, 10, 1, 2, 3, 4, 5, 19, 20, 21, 22, 23, 24, 25, 26, 11, 12, 13, 14, 15, 16, 17, 18] dX6_daysOn_5 rfl mkX6_25 rfl rfl rfl rfl rfl rfl rfl (Nat.le_of_ble_eq_true rfl) (Nat.le_of_ble_eq_true rfl) rfl (fun h5 g5 hp5 hw5 => ?_)
  obtain rfl := hp5
  obtain rfl := Option.some.inj hw5
  refine A_h (TW s s wh mu t0 g0 h0 t1 g1 h1 t0.length t1.length (ovr t0.length g0 f0) k0 (ovr t1.length g1 f1) k1) rfl ?_
  refine A_aload_n hE 9 dX6_daysOn_8 rfl rfl ?_
  refine A_get hE 12 dX6_daysOn_9 rfl fkX6_12 rfl rfl ?_
  refine A_iload_n hE 13 dX6_daysOn_12 rfl rfl ?_
  refine A_callVv hE 16 (c_X2_passDays s t0 t1 (ovr t0.length g0 f0) k0 (ovr t1.length g1 f1) k1 n hnn w (l0.ovr (Nat.le_refl _)) (l1.ovr (Nat.le_refl _))) [6, 19, 20, 21, 22, 23, 24, 25, 26, 7, 8, 9, 10] dX6_daysOn_13 rfl mkX6_29 rfl rfl rfl rfl rfl rfl rfl (Nat.le_of_ble_eq_true rfl) (Nat.le_of_ble_eq_true rfl) rfl (fun h13 g13 hp13 hw13 => ?_)
  obtain ⟨k0y, k1y, rfl⟩ := hp13
  obtain rfl := Option.some.inj hw13
  refine A_h (TW s (dN t0 t1 n s) wh mu t0 g0 h0 t1 g1 h1 t0.length t1.length (ovr t0.length g0 f0) k0y (ovr t1.length g1 f1) k1y) rfl ?_
  refine A_aload_n hE 17 dX6_daysOn_16 rfl rfl ?_
  refine A_get hE 20 dX6_daysOn_17 rfl fkX6_12 rfl rfl ?_
  refine A_aret hE dX6_daysOn_20 ⟨rfl, k0y, k1y, rfl⟩
set_option maxRecDepth 100000 in
theorem c_X6_daysUntil (s J : St) (wh mu : Int32) (t0 t1 : Sp) (g0 h0 g1 h1 : Nat → Int32) (n0 n1 : Nat) (f0 k0 f1 k1 : Nat → Int32) (k : Nat) (v : Int32) (hk : k < 8) (w : wf s) (l0 : LawC 0 t0 g0) (l1 : LawC 1 t1 g1) : AMet yX6_daysUntil cX6_daysUntil 5 (some (.int)) 5 0 0 [.ref 0, .ref 1, .int (nI k), .int v] (TW s J wh mu t0 g0 h0 t1 g1 h1 n0 n1 f0 k0 f1 k1) (pI fun x h => x = du t0 t1 k v 61 0 s ∧ ∃ (J' : St) (n0' n1' : Nat) (f0' k0' f1' k1' : Nat → Int32), h = TW s J' wh mu t0 g0 h0 t1 g1 h1 n0' n1' f0' k0' f1' k1') := by
  refine AMet.of (by decide +kernel) rfl (fun E ad0 hE => ?_)
  have loop : ∀ (m d : Nat) (J : St) (k0 k1 : Nat → Int32), d + m = 61 → wf J → du t0 t1 k v 61 0 s = du t0 t1 k v m d J → AW E (rmD 5 0 0) 5 (QM E ad0 27 0 0 (pI fun x h => x = du t0 t1 k v 61 0 s ∧ ∃ (J' : St) (n0' n1' : Nat) (f0' k0' f1' k1' : Nat → Int32), h = TW s J' wh mu t0 g0 h0 t1 g1 h1 n0' n1' f0' k0' f1' k1')) ad0 27 0 0 11 [(0, .ref 0), (1, .ref 1), (2, .int (nI k)), (3, .int v), (4, .int (nI d))] [] (TW s J wh mu t0 g0 h0 t1 g1 h1 t0.length t1.length (ovr t0.length g0 f0) k0 (ovr t1.length g1 f1) k1) := by
    intro m
    induction m with
    | zero =>
      intro d J k0 k1 hd wJ hx
      refine A_iload hE 13 dX6_daysUntil_11 rfl rfl ?_
      refine A_bipush hE 15 dX6_daysUntil_13 rfl (60) (by decide) ?_
      refine A_icmp_gt hE 18 49 dX6_daysUntil_15 rfl rfl (fun c15 => ?_) (fun c15 => absurd (show 60 < nI d from nI_lt (a := 60) (by omega) (by omega)) c15)
      refine A_iconst hE 50 dX6_daysUntil_49 rfl (-1) rfl ?_
      refine A_iret hE dX6_daysUntil_50 ⟨by rw [hx]; rfl, J, _, _, _, k0, _, k1, rfl⟩
    | succ m ih =>
      intro d J k0 k1 hd wJ hx
      refine A_iload hE 13 dX6_daysUntil_11 rfl rfl ?_
      refine A_bipush hE 15 dX6_daysUntil_13 rfl (60) (by decide) ?_
      refine A_icmp_gt hE 18 49 dX6_daysUntil_15 rfl rfl (fun c15 => absurd c15 (nI_nlt (a := 60) (by omega) (by omega))) (fun c15 => ?_)
      refine A_aload_n hE 19 dX6_daysUntil_18 rfl rfl ?_
      refine A_get hE 22 dX6_daysUntil_19 rfl fkX6_12 rfl rfl ?_
      refine A_get hE 25 dX6_daysUntil_22 rfl fkX6_33 rfl rfl ?_
      refine A_iload_n hE 26 dX6_daysUntil_25 rfl rfl ?_
      refine A_iald hE 27 k dX6_daysUntil_26 rfl rfl rfl hk rfl ?_
      rw [arr_its]
      refine A_iload_n hE 28 dX6_daysUntil_27 rfl rfl ?_
      refine A_icmp_lt hE 31 34 dX6_daysUntil_28 rfl rfl (fun c28 => ?_) (fun c28 => ?_)
      · refine A_aload_n hE 35 dX6_daysUntil_34 rfl rfl ?_
        refine A_get hE 38 dX6_daysUntil_35 rfl fkX6_12 rfl rfl ?_
        refine A_iload_n hE 39 dX6_daysUntil_38 rfl rfl ?_
        refine A_iconst hE 40 dX6_daysUntil_39 rfl (1) rfl ?_
        refine A_callVv hE 43 (c_X2_passDaysFor J t0 t1 (ovr t0.length g0 f0) k0 (ovr t1.length g1 f1) k1 k hk 1 (by omega) wJ (l0.ovr (Nat.le_refl _)) (l1.ovr (Nat.le_refl _))) [6, 19, 20, 21, 22, 23, 24, 25, 26, 7, 8, 9, 10] dX6_daysUntil_40 rfl mkX6_37 rfl rfl rfl rfl rfl rfl rfl (Nat.le_of_ble_eq_true rfl) (Nat.le_of_ble_eq_true rfl) rfl (fun h40 g40 hp40 hw40 => ?_)
        obtain ⟨k0y, k1y, rfl⟩ := hp40
        obtain rfl := Option.some.inj hw40
        refine A_h (TW s (dF t0 t1 k 1 J) wh mu t0 g0 h0 t1 g1 h1 t0.length t1.length (ovr t0.length g0 f0) k0y (ovr t1.length g1 f1) k1y) rfl ?_
        refine A_iinc hE 46 dX6_daysUntil_43 rfl rfl (1) rfl rfl rfl ?_
        rw [nI_1]
        refine A_lv [0, 1, 2, 3, 4] rfl ?_
        refine A_goto hE 11 dX6_daysUntil_46 rfl ?_
        exact ih (d + 1) _ k0y k1y (by omega) (wf_dF 1 wJ) (by rw [hx, du, if_neg (iM c28)]; rfl)
      · refine A_iload hE 33 dX6_daysUntil_31 rfl rfl ?_
        refine A_iret hE dX6_daysUntil_33 ⟨by rw [hx, du, if_pos (iL c28)], J, _, _, _, k0, _, k1, rfl⟩
  refine A_aload_n hE 1 dX6_daysUntil_0 rfl rfl ?_
  refine A_get hE 4 dX6_daysUntil_1 rfl fkX6_12 rfl rfl ?_
  refine A_aload_n hE 5 dX6_daysUntil_4 rfl rfl ?_
  refine A_callVv hE 8 (c_X2_takeOver s (arr J 0) (arr J 1) (arr J 2) (arr J 3) t0 t1 g0 h0 g1 h1 n0 n1 f0 k0 f1 k1 (pm J) (J 8) (J 0) (J 1) (J 2) (J 3) (J 4) (J 5) l0.len l1.len) [6, 7, 8, 9, 10, 1, 2, 3, 4, 5, 19, 20, 21, 22, 23, 24, 25, 26, 11, 12, 13, 14, 15, 16, 17, 18] dX6_daysUntil_5 rfl mkX6_25 rfl rfl rfl rfl rfl rfl rfl (Nat.le_of_ble_eq_true rfl) (Nat.le_of_ble_eq_true rfl) rfl (fun h5 g5 hp5 hw5 => ?_)
  obtain rfl := hp5
  obtain rfl := Option.some.inj hw5
  refine A_h (TW s s wh mu t0 g0 h0 t1 g1 h1 t0.length t1.length (ovr t0.length g0 f0) k0 (ovr t1.length g1 f1) k1) rfl ?_
  refine A_iconst hE 9 dX6_daysUntil_8 rfl (0) rfl ?_
  refine A_istore hE 11 dX6_daysUntil_9 rfl rfl rfl ?_
  refine A_lv [0, 1, 2, 3, 4] rfl ?_
  exact loop 61 0 s k0 k1 rfl w rfl
set_option maxRecDepth 100000 in
theorem c_X6_seekStart (s J : St) (wh mu : Int32) (t0 t1 : Sp) (g0 h0 g1 h1 : Nat → Int32) (n0 n1 : Nat) (f0 k0 f1 k1 : Nat → Int32) (k n : Nat) (hk : k < 8) (hnn : n ≤ 1000) (w : wf s) (l0 : LawC 0 t0 g0) (l1 : LawC 1 t1 g1) : AMet yX6_seekStart cX6_seekStart 5 none 5 0 0 [.ref 0, .ref 1, .int (nI k), .int (nI n)] (TW s J wh mu t0 g0 h0 t1 g1 h1 n0 n1 f0 k0 f1 k1) (pV fun h => ∃ (J' : St) (n0' n1' : Nat) (f0' k0' f1' k1' : Nat → Int32), h = TW s J' (ssF t0 t1 s k n (hn s) 0 (-1, -1)).1 (ssF t0 t1 s k n (hn s) 0 (-1, -1)).2 t0 g0 h0 t1 g1 h1 n0' n1' f0' k0' f1' k1') := by
  refine AMet.of (by decide +kernel) rfl (fun E ad0 hE => ?_)
  obtain ⟨w1, w2, w3, w4, w5, w6, w7⟩ := id w
  have loop : ∀ (m a : Nat) (J : St) (wh mu : Int32) (n0 n1 : Nat) (f0 k0 f1 k1 : Nat → Int32), a + m = hn s → (ssF t0 t1 s k n (hn s) 0 (-1, -1)) = ssF t0 t1 s k n m a (wh, mu) → AW E (rmD 5 0 0) 5 (QM E ad0 27 0 0 (pV fun h => ∃ (J' : St) (n0' n1' : Nat) (f0' k0' f1' k1' : Nat → Int32), h = TW s J' (ssF t0 t1 s k n (hn s) 0 (-1, -1)).1 (ssF t0 t1 s k n (hn s) 0 (-1, -1)).2 t0 g0 h0 t1 g1 h1 n0' n1' f0' k0' f1' k1')) ad0 27 0 0 13 [(0, .ref 0), (1, .ref 1), (2, .int (nI k)), (3, .int (nI n)), (4, .int (nI a))] [] (TW s J wh mu t0 g0 h0 t1 g1 h1 n0 n1 f0 k0 f1 k1) := by
    intro m
    induction m with
    | zero =>
      intro a J wh mu n0 n1 f0 k0 f1 k1 ha hx
      refine A_iload hE 15 dX6_seekStart_13 rfl rfl ?_
      refine A_aload_n hE 16 dX6_seekStart_15 rfl rfl ?_
      refine A_get hE 19 dX6_seekStart_16 rfl fkX6_41 rfl rfl ?_
      refine A_icmp_ge hE 22 89 dX6_seekStart_19 rfl rfl (fun c19 => ?_) (fun c19 => absurd (by rw [w2]; exact nI_le (by omega) (by omega)) c19)
      refine A_vret hE dX6_seekStart_89 ?_
      exact ⟨J, n0, n1, f0, k0, f1, k1, by rw [hx]; rfl⟩
    | succ m ih =>
      intro a J wh mu n0 n1 f0 k0 f1 k1 ha hx
      have hlt : a < hn s := by omega
      refine A_iload hE 15 dX6_seekStart_13 rfl rfl ?_
      refine A_aload_n hE 16 dX6_seekStart_15 rfl rfl ?_
      refine A_get hE 19 dX6_seekStart_16 rfl fkX6_41 rfl rfl ?_
      refine A_icmp_ge hE 22 89 dX6_seekStart_19 rfl rfl (fun c19 => absurd c19 (by rw [w2]; exact nI_ge hlt (by omega))) (fun c19 => ?_)
      refine A_aload_n hE 23 dX6_seekStart_22 rfl rfl ?_
      refine A_get hE 26 dX6_seekStart_23 rfl fkX6_12 rfl rfl ?_
      refine A_aload_n hE 27 dX6_seekStart_26 rfl rfl ?_
      refine A_callVv hE 30 (c_X2_takeOver s (arr J 0) (arr J 1) (arr J 2) (arr J 3) t0 t1 g0 h0 g1 h1 n0 n1 f0 k0 f1 k1 (pm J) (J 8) (J 0) (J 1) (J 2) (J 3) (J 4) (J 5) l0.len l1.len) [6, 7, 8, 9, 10, 1, 2, 3, 4, 5, 19, 20, 21, 22, 23, 24, 25, 26, 11, 12, 13, 14, 15, 16, 17, 18] dX6_seekStart_27 rfl mkX6_25 rfl rfl rfl rfl rfl rfl rfl (Nat.le_of_ble_eq_true rfl) (Nat.le_of_ble_eq_true rfl) rfl (fun h27 g27 hp27 hw27 => ?_)
      obtain rfl := hp27
      obtain rfl := Option.some.inj hw27
      refine A_h (TW s s wh mu t0 g0 h0 t1 g1 h1 t0.length t1.length (ovr t0.length g0 f0) k0 (ovr t1.length g1 f1) k1) rfl ?_
      refine A_aload_n hE 31 dX6_seekStart_30 rfl rfl ?_
      refine A_get hE 34 dX6_seekStart_31 rfl fkX6_12 rfl rfl ?_
      refine A_iload hE 36 dX6_seekStart_34 rfl rfl ?_
      refine A_put hE 39 dX6_seekStart_36 rfl fkX6_44 rfl rfl rfl rfl ?_
      refine A_aload_n hE 40 dX6_seekStart_39 rfl rfl ?_
      refine A_get hE 43 dX6_seekStart_40 rfl fkX6_12 rfl rfl ?_
      refine A_iload_n hE 44 dX6_seekStart_43 rfl rfl ?_
      refine A_iload_n hE 45 dX6_seekStart_44 rfl rfl ?_
      refine A_h (TW s (upd s 4 (nI a)) wh mu t0 g0 h0 t1 g1 h1 t0.length t1.length (ovr t0.length g0 f0) k0 (ovr t1.length g1 f1) k1) TW_4.symm ?_
      refine A_callVv hE 48 (c_X2_passDaysFor (upd s 4 (nI a)) t0 t1 (ovr t0.length g0 f0) k0 (ovr t1.length g1 f1) k1 k hk n hnn (wf_4 w hlt) (l0.ovr (Nat.le_refl _)) (l1.ovr (Nat.le_refl _))) [6, 19, 20, 21, 22, 23, 24, 25, 26, 7, 8, 9, 10] dX6_seekStart_45 rfl mkX6_37 rfl rfl rfl rfl rfl rfl rfl (Nat.le_of_ble_eq_true rfl) (Nat.le_of_ble_eq_true rfl) rfl (fun h45 g45 hp45 hw45 => ?_)
      obtain ⟨k0y, k1y, rfl⟩ := hp45
      obtain rfl := Option.some.inj hw45
      refine A_h (TW s (dF t0 t1 k n (upd s 4 (nI a))) wh mu t0 g0 h0 t1 g1 h1 t0.length t1.length (ovr t0.length g0 f0) k0y (ovr t1.length g1 f1) k1y) rfl ?_
      refine A_aload_n hE 49 dX6_seekStart_48 rfl rfl ?_
      refine A_get hE 52 dX6_seekStart_49 rfl fkX6_12 rfl rfl ?_
      refine A_get hE 55 dX6_seekStart_52 rfl fkX6_33 rfl rfl ?_
      refine A_iload_n hE 56 dX6_seekStart_55 rfl rfl ?_
      refine A_iald hE 57 k dX6_seekStart_56 rfl rfl rfl hk rfl ?_
      rw [arr_its]
      refine A_aload_n hE 58 dX6_seekStart_57 rfl rfl ?_
      refine A_get hE 61 dX6_seekStart_58 rfl fkX6_22 rfl rfl ?_
      refine A_icmp_le hE 64 83 dX6_seekStart_61 rfl rfl (fun c61 => ?_) (fun c61 => ?_)
      · refine A_iinc hE 86 dX6_seekStart_83 rfl rfl (1) rfl rfl rfl ?_
        rw [nI_1]
        refine A_lv [0, 1, 2, 3, 4] rfl ?_
        refine A_goto hE 13 dX6_seekStart_86 rfl ?_
        exact ih (a + 1) _ wh mu t0.length t1.length (ovr t0.length g0 f0) k0y (ovr t1.length g1 f1) k1y (by omega) (by rw [hx, ssF, if_neg (iN c61)])
      · refine A_aload_n hE 65 dX6_seekStart_64 rfl rfl ?_
        refine A_iload hE 67 dX6_seekStart_65 rfl rfl ?_
        refine A_put hE 70 dX6_seekStart_67 rfl fkX6_18 rfl rfl rfl rfl ?_
        refine A_aload_n hE 71 dX6_seekStart_70 rfl rfl ?_
        refine A_aload_n hE 72 dX6_seekStart_71 rfl rfl ?_
        refine A_get hE 75 dX6_seekStart_72 rfl fkX6_12 rfl rfl ?_
        refine A_get hE 78 dX6_seekStart_75 rfl fkX6_33 rfl rfl ?_
        refine A_iload_n hE 79 dX6_seekStart_78 rfl rfl ?_
        refine A_iald hE 80 k dX6_seekStart_79 rfl rfl rfl hk rfl ?_
        rw [arr_its]
        refine A_put hE 83 dX6_seekStart_80 rfl fkX6_22 rfl rfl rfl rfl ?_
        refine A_iinc hE 86 dX6_seekStart_83 rfl rfl (1) rfl rfl rfl ?_
        rw [nI_1]
        refine A_lv [0, 1, 2, 3, 4] rfl ?_
        refine A_goto hE 13 dX6_seekStart_86 rfl ?_
        exact ih (a + 1) _ (nI a) (its (dF t0 t1 k n (upd s 4 (nI a))) k 2) t0.length t1.length (ovr t0.length g0 f0) k0y (ovr t1.length g1 f1) k1y (by omega) (by rw [hx, ssF, if_pos (iG c61)])
  refine A_aload_n hE 1 dX6_seekStart_0 rfl rfl ?_
  refine A_iconst hE 2 dX6_seekStart_1 rfl (-1) rfl ?_
  refine A_put hE 5 dX6_seekStart_2 rfl fkX6_18 rfl rfl rfl rfl ?_
  refine A_aload_n hE 6 dX6_seekStart_5 rfl rfl ?_
  refine A_iconst hE 7 dX6_seekStart_6 rfl (-1) rfl ?_
  refine A_put hE 10 dX6_seekStart_7 rfl fkX6_22 rfl rfl rfl rfl ?_
  refine A_iconst hE 11 dX6_seekStart_10 rfl (0) rfl ?_
  refine A_istore hE 13 dX6_seekStart_11 rfl rfl rfl ?_
  refine A_lv [0, 1, 2, 3, 4] rfl ?_
  exact loop (hn s) 0 J _ _ n0 n1 f0 k0 f1 k1 (Nat.zero_add _) rfl
set_option maxRecDepth 100000 in
theorem c_X6_seekSwap (s J : St) (wh mu : Int32) (t0 t1 : Sp) (g0 h0 g1 h1 : Nat → Int32) (n0 n1 : Nat) (f0 k0 f1 k1 : Nat → Int32) (n : Nat) (hnn : n ≤ 1000) (w : wf s) (l0 : LawC 0 t0 g0) (l1 : LawC 1 t1 g1) : AMet yX6_seekSwap cX6_seekSwap 6 none 5 0 0 [.ref 0, .ref 1, .int (nI n)] (TW s J wh mu t0 g0 h0 t1 g1 h1 n0 n1 f0 k0 f1 k1) (pV fun h => ∃ (J' : St) (n0' n1' : Nat) (f0' k0' f1' k1' : Nat → Int32), h = TW s J' (swO t0 t1 s n (hn s) 0 (-1, sumN t0 t1 n s)).1 (swO t0 t1 s n (hn s) 0 (-1, sumN t0 t1 n s)).2 t0 g0 h0 t1 g1 h1 n0' n1' f0' k0' f1' k1') := by
  refine AMet.of (by decide +kernel) rfl (fun E ad0 hE => ?_)
  obtain ⟨w1, w2, w3, w4, w5, w6, w7⟩ := id w
  have outer : ∀ (m a : Nat) (J : St) (wh mu : Int32) (n0 n1 : Nat) (f0 k0 f1 k1 : Nat → Int32), a + m = hn s → (swO t0 t1 s n (hn s) 0 (-1, sumN t0 t1 n s)) = swO t0 t1 s n m a (wh, mu) → AW E (rmD 5 0 0) 6 (QM E ad0 27 0 0 (pV fun h => ∃ (J' : St) (n0' n1' : Nat) (f0' k0' f1' k1' : Nat → Int32), h = TW s J' (swO t0 t1 s n (hn s) 0 (-1, sumN t0 t1 n s)).1 (swO t0 t1 s n (hn s) 0 (-1, sumN t0 t1 n s)).2 t0 g0 h0 t1 g1 h1 n0' n1' f0' k0' f1' k1')) ad0 27 0 0 34 [(0, .ref 0), (1, .ref 1), (2, .int (nI n)), (3, .int (nI a))] [] (TW s J wh mu t0 g0 h0 t1 g1 h1 n0 n1 f0 k0 f1 k1) := by
    intro m
    induction m with
    | zero =>
      intro a J wh mu n0 n1 f0 k0 f1 k1 ha hx
      refine A_iload_n hE 35 dX6_seekSwap_34 rfl rfl ?_
      refine A_aload_n hE 36 dX6_seekSwap_35 rfl rfl ?_
      refine A_get hE 39 dX6_seekSwap_36 rfl fkX6_41 rfl rfl ?_
      refine A_icmp_ge hE 42 129 dX6_seekSwap_39 rfl rfl (fun c39 => ?_) (fun c39 => absurd (by rw [w2]; exact nI_le (by omega) (by omega)) c39)
      refine A_vret hE dX6_seekSwap_129 ?_
      exact ⟨J, n0, n1, f0, k0, f1, k1, by rw [hx]; rfl⟩
    | succ m iho =>
      intro a J wh mu n0 n1 f0 k0 f1 k1 ha hx
      have hlt : a < hn s := by omega
      have inner : ∀ (m2 b : Nat) (J : St) (wh mu : Int32) (n0 n1 : Nat) (f0 k0 f1 k1 : Nat → Int32), b + m2 = hn s → a < b → (swO t0 t1 s n (hn s) 0 (-1, sumN t0 t1 n s)) = swO t0 t1 s n m (a + 1) (swI t0 t1 s n a m2 b (wh, mu)) → AW E (rmD 5 0 0) 6 (QM E ad0 27 0 0 (pV fun h => ∃ (J' : St) (n0' n1' : Nat) (f0' k0' f1' k1' : Nat → Int32), h = TW s J' (swO t0 t1 s n (hn s) 0 (-1, sumN t0 t1 n s)).1 (swO t0 t1 s n (hn s) 0 (-1, sumN t0 t1 n s)).2 t0 g0 h0 t1 g1 h1 n0' n1' f0' k0' f1' k1')) ad0 27 0 0 47 [(0, .ref 0), (1, .ref 1), (2, .int (nI n)), (3, .int (nI a)), (4, .int (nI b))] [] (TW s J wh mu t0 g0 h0 t1 g1 h1 n0 n1 f0 k0 f1 k1) := by
        intro m2
        induction m2 with
        | zero =>
          intro b J wh mu n0 n1 f0 k0 f1 k1 hb hab hx
          refine A_iload hE 49 dX6_seekSwap_47 rfl rfl ?_
          refine A_aload_n hE 50 dX6_seekSwap_49 rfl rfl ?_
          refine A_get hE 53 dX6_seekSwap_50 rfl fkX6_41 rfl rfl ?_
          refine A_icmp_ge hE 56 123 dX6_seekSwap_53 rfl rfl (fun c53 => ?_) (fun c53 => absurd (by rw [w2]; exact nI_le (by omega) (by omega)) c53)
          refine A_iinc hE 126 dX6_seekSwap_123 rfl rfl (1) rfl rfl rfl ?_
          rw [nI_1]
          refine A_lv [0, 1, 2, 3] rfl ?_
          refine A_goto hE 34 dX6_seekSwap_126 rfl ?_
          exact iho (a + 1) J wh mu n0 n1 f0 k0 f1 k1 (by omega) hx
        | succ m2 ihi =>
          intro b J wh mu n0 n1 f0 k0 f1 k1 hb hab hx
          have hbl : b < hn s := by omega
          have wS : wf (swS a b s) := wf_swS w hlt hbl
          refine A_iload hE 49 dX6_seekSwap_47 rfl rfl ?_
          refine A_aload_n hE 50 dX6_seekSwap_49 rfl rfl ?_
          refine A_get hE 53 dX6_seekSwap_50 rfl fkX6_41 rfl rfl ?_
          refine A_icmp_ge hE 56 123 dX6_seekSwap_53 rfl rfl (fun c53 => absurd c53 (by rw [w2]; exact nI_ge hbl (by omega))) (fun c53 => ?_)
          refine A_aload_n hE 57 dX6_seekSwap_56 rfl rfl ?_
          refine A_get hE 60 dX6_seekSwap_57 rfl fkX6_12 rfl rfl ?_
          refine A_aload_n hE 61 dX6_seekSwap_60 rfl rfl ?_
          refine A_callVv hE 64 (c_X2_takeOver s (arr J 0) (arr J 1) (arr J 2) (arr J 3) t0 t1 g0 h0 g1 h1 n0 n1 f0 k0 f1 k1 (pm J) (J 8) (J 0) (J 1) (J 2) (J 3) (J 4) (J 5) l0.len l1.len) [6, 7, 8, 9, 10, 1, 2, 3, 4, 5, 19, 20, 21, 22, 23, 24, 25, 26, 11, 12, 13, 14, 15, 16, 17, 18] dX6_seekSwap_61 rfl mkX6_25 rfl rfl rfl rfl rfl rfl rfl (Nat.le_of_ble_eq_true rfl) (Nat.le_of_ble_eq_true rfl) rfl (fun h61 g61 hp61 hw61 => ?_)
          obtain rfl := hp61
          obtain rfl := Option.some.inj hw61
          refine A_h (TW s s wh mu t0 g0 h0 t1 g1 h1 t0.length t1.length (ovr t0.length g0 f0) k0 (ovr t1.length g1 f1) k1) rfl ?_
          refine A_aload_n hE 65 dX6_seekSwap_64 rfl rfl ?_
          refine A_get hE 68 dX6_seekSwap_65 rfl fkX6_12 rfl rfl ?_
          refine A_iload_n hE 69 dX6_seekSwap_68 rfl rfl ?_
          refine A_iload hE 71 dX6_seekSwap_69 rfl rfl ?_
          refine A_callVv hE 74 (c_X2_changePlaces s t0 t1 (ovr t0.length g0 f0) k0 (ovr t1.length g1 f1) k1 a b (by omega) (by omega) (w5 a (by omega)).2.2.2.2.1 (w5 b (by omega)).2.2.2.2.1) [6, 19, 20, 21, 22, 23, 24, 25, 26, 7, 8, 9, 10] dX6_seekSwap_71 rfl mkX6_51 rfl rfl rfl rfl rfl rfl rfl (Nat.le_of_ble_eq_true rfl) (Nat.le_of_ble_eq_true rfl) rfl (fun h71 g71 hp71 hw71 => ?_)
          obtain rfl := hp71
          obtain rfl := Option.some.inj hw71
          refine A_h (TW s (swS a b s) wh mu t0 g0 h0 t1 g1 h1 t0.length t1.length (ovr t0.length g0 f0) k0 (ovr t1.length g1 f1) k1) rfl ?_
          refine A_aload_n hE 75 dX6_seekSwap_74 rfl rfl ?_
          refine A_get hE 78 dX6_seekSwap_75 rfl fkX6_12 rfl rfl ?_
          refine A_iload_n hE 79 dX6_seekSwap_78 rfl rfl ?_
          refine A_callVv hE 82 (c_X2_passDays (swS a b s) t0 t1 (ovr t0.length g0 f0) k0 (ovr t1.length g1 f1) k1 n hnn wS (l0.ovr (Nat.le_refl _)) (l1.ovr (Nat.le_refl _))) [6, 19, 20, 21, 22, 23, 24, 25, 26, 7, 8, 9, 10] dX6_seekSwap_79 rfl mkX6_29 rfl rfl rfl rfl rfl rfl rfl (Nat.le_of_ble_eq_true rfl) (Nat.le_of_ble_eq_true rfl) rfl (fun h79 g79 hp79 hw79 => ?_)
          obtain ⟨k0y, k1y, rfl⟩ := hp79
          obtain rfl := Option.some.inj hw79
          refine A_h (TW s (dN t0 t1 n (swS a b s)) wh mu t0 g0 h0 t1 g1 h1 t0.length t1.length (ovr t0.length g0 f0) k0y (ovr t1.length g1 f1) k1y) rfl ?_
          refine A_aload_n hE 83 dX6_seekSwap_82 rfl rfl ?_
          refine A_get hE 86 dX6_seekSwap_83 rfl fkX6_12 rfl rfl ?_
          refine A_callVi hE 89 (c_X2_heardTogether (dN t0 t1 n (swS a b s)) t0 t1 (ovr t0.length g0 f0) k0y (ovr t1.length g1 f1) k1y (wf_dN n wS)) [6, 19, 20, 21, 22, 23, 24, 25, 26, 7, 8, 9, 10] dX6_seekSwap_86 rfl mkX6_47 rfl rfl rfl rfl rfl rfl rfl (Nat.le_of_ble_eq_true rfl) (Nat.le_of_ble_eq_true rfl) rfl (fun x86 h86 g86 hp86 hw86 => ?_)
          obtain ⟨rfl, rfl⟩ := hp86
          obtain rfl := Option.some.inj hw86
          refine A_h (TW s (dN t0 t1 n (swS a b s)) wh mu t0 g0 h0 t1 g1 h1 t0.length t1.length (ovr t0.length g0 f0) k0y (ovr t1.length g1 f1) k1y) rfl ?_
          rw [show sumH (dN t0 t1 n (swS a b s)) (hn (dN t0 t1 n (swS a b s))) = sumN t0 t1 n (swS a b s) from rfl]
          refine A_istore hE 91 dX6_seekSwap_89 rfl rfl rfl ?_
          refine A_iload hE 93 dX6_seekSwap_91 rfl rfl ?_
          refine A_aload_n hE 94 dX6_seekSwap_93 rfl rfl ?_
          refine A_get hE 97 dX6_seekSwap_94 rfl fkX6_22 rfl rfl ?_
          refine A_icmp_ge hE 100 117 dX6_seekSwap_97 rfl rfl (fun c97 => ?_) (fun c97 => ?_)
          · refine A_iinc hE 120 dX6_seekSwap_117 rfl rfl (1) rfl rfl rfl ?_
            rw [nI_1]
            refine A_lv [0, 1, 2, 3, 4] rfl ?_
            refine A_goto hE 47 dX6_seekSwap_120 rfl ?_
            exact ihi (b + 1) _ wh mu t0.length t1.length (ovr t0.length g0 f0) k0y (ovr t1.length g1 f1) k1y (by omega) (by omega) (by rw [hx, swI, if_neg (iN c97)])
          · refine A_aload_n hE 101 dX6_seekSwap_100 rfl rfl ?_
            refine A_bipush hE 103 dX6_seekSwap_101 rfl (10) (by decide) ?_
            refine A_iload_n hE 104 dX6_seekSwap_103 rfl rfl ?_
            refine A_imul hE 105 dX6_seekSwap_104 rfl ?_
            refine A_iload hE 107 dX6_seekSwap_105 rfl rfl ?_
            refine A_iadd hE 108 dX6_seekSwap_107 rfl ?_
            refine A_put hE 111 dX6_seekSwap_108 rfl fkX6_18 rfl rfl rfl rfl ?_
            refine A_aload_n hE 112 dX6_seekSwap_111 rfl rfl ?_
            refine A_iload hE 114 dX6_seekSwap_112 rfl rfl ?_
            refine A_put hE 117 dX6_seekSwap_114 rfl fkX6_22 rfl rfl rfl rfl ?_
            refine A_iinc hE 120 dX6_seekSwap_117 rfl rfl (1) rfl rfl rfl ?_
            rw [nI_1]
            refine A_lv [0, 1, 2, 3, 4] rfl ?_
            refine A_goto hE 47 dX6_seekSwap_120 rfl ?_
            exact ihi (b + 1) _ _ _ t0.length t1.length (ovr t0.length g0 f0) k0y (ovr t1.length g1 f1) k1y (by omega) (by omega) (by rw [hx, swI, if_pos (iG c97)])
      refine A_iload_n hE 35 dX6_seekSwap_34 rfl rfl ?_
      refine A_aload_n hE 36 dX6_seekSwap_35 rfl rfl ?_
      refine A_get hE 39 dX6_seekSwap_36 rfl fkX6_41 rfl rfl ?_
      refine A_icmp_ge hE 42 129 dX6_seekSwap_39 rfl rfl (fun c39 => absurd c39 (by rw [w2]; exact nI_ge hlt (by omega))) (fun c39 => ?_)
      refine A_iload_n hE 43 dX6_seekSwap_42 rfl rfl ?_
      refine A_iconst hE 44 dX6_seekSwap_43 rfl (1) rfl ?_
      refine A_iadd hE 45 dX6_seekSwap_44 rfl ?_
      refine A_istore hE 47 dX6_seekSwap_45 rfl rfl rfl ?_
      rw [nI_1]
      refine A_lv [0, 1, 2, 3, 4] rfl ?_
      exact inner (hn s - (a + 1)) (a + 1) J wh mu n0 n1 f0 k0 f1 k1 (by omega) (by omega) hx
  refine A_aload_n hE 1 dX6_seekSwap_0 rfl rfl ?_
  refine A_iconst hE 2 dX6_seekSwap_1 rfl (-1) rfl ?_
  refine A_put hE 5 dX6_seekSwap_2 rfl fkX6_18 rfl rfl rfl rfl ?_
  refine A_aload_n hE 6 dX6_seekSwap_5 rfl rfl ?_
  refine A_get hE 9 dX6_seekSwap_6 rfl fkX6_12 rfl rfl ?_
  refine A_aload_n hE 10 dX6_seekSwap_9 rfl rfl ?_
  refine A_callVv hE 13 (c_X2_takeOver s (arr J 0) (arr J 1) (arr J 2) (arr J 3) t0 t1 g0 h0 g1 h1 n0 n1 f0 k0 f1 k1 (pm J) (J 8) (J 0) (J 1) (J 2) (J 3) (J 4) (J 5) l0.len l1.len) [6, 7, 8, 9, 10, 1, 2, 3, 4, 5, 19, 20, 21, 22, 23, 24, 25, 26, 11, 12, 13, 14, 15, 16, 17, 18] dX6_seekSwap_10 rfl mkX6_25 rfl rfl rfl rfl rfl rfl rfl (Nat.le_of_ble_eq_true rfl) (Nat.le_of_ble_eq_true rfl) rfl (fun h10 g10 hp10 hw10 => ?_)
  obtain rfl := hp10
  obtain rfl := Option.some.inj hw10
  refine A_h (TW s s (-1) mu t0 g0 h0 t1 g1 h1 t0.length t1.length (ovr t0.length g0 f0) k0 (ovr t1.length g1 f1) k1) rfl ?_
  refine A_aload_n hE 14 dX6_seekSwap_13 rfl rfl ?_
  refine A_get hE 17 dX6_seekSwap_14 rfl fkX6_12 rfl rfl ?_
  refine A_iload_n hE 18 dX6_seekSwap_17 rfl rfl ?_
  refine A_callVv hE 21 (c_X2_passDays s t0 t1 (ovr t0.length g0 f0) k0 (ovr t1.length g1 f1) k1 n hnn w (l0.ovr (Nat.le_refl _)) (l1.ovr (Nat.le_refl _))) [6, 19, 20, 21, 22, 23, 24, 25, 26, 7, 8, 9, 10] dX6_seekSwap_18 rfl mkX6_29 rfl rfl rfl rfl rfl rfl rfl (Nat.le_of_ble_eq_true rfl) (Nat.le_of_ble_eq_true rfl) rfl (fun h18 g18 hp18 hw18 => ?_)
  obtain ⟨k0y, k1y, rfl⟩ := hp18
  obtain rfl := Option.some.inj hw18
  refine A_h (TW s (dN t0 t1 n s) (-1) mu t0 g0 h0 t1 g1 h1 t0.length t1.length (ovr t0.length g0 f0) k0y (ovr t1.length g1 f1) k1y) rfl ?_
  refine A_aload_n hE 22 dX6_seekSwap_21 rfl rfl ?_
  refine A_aload_n hE 23 dX6_seekSwap_22 rfl rfl ?_
  refine A_get hE 26 dX6_seekSwap_23 rfl fkX6_12 rfl rfl ?_
  refine A_callVi hE 29 (c_X2_heardTogether (dN t0 t1 n s) t0 t1 (ovr t0.length g0 f0) k0y (ovr t1.length g1 f1) k1y (wf_dN n w)) [6, 19, 20, 21, 22, 23, 24, 25, 26, 7, 8, 9, 10] dX6_seekSwap_26 rfl mkX6_47 rfl rfl rfl rfl rfl rfl rfl (Nat.le_of_ble_eq_true rfl) (Nat.le_of_ble_eq_true rfl) rfl (fun x26 h26 g26 hp26 hw26 => ?_)
  obtain ⟨rfl, rfl⟩ := hp26
  obtain rfl := Option.some.inj hw26
  refine A_h (TW s (dN t0 t1 n s) (-1) mu t0 g0 h0 t1 g1 h1 t0.length t1.length (ovr t0.length g0 f0) k0y (ovr t1.length g1 f1) k1y) rfl ?_
  refine A_put hE 32 dX6_seekSwap_29 rfl fkX6_22 rfl rfl rfl rfl ?_
  refine A_iconst hE 33 dX6_seekSwap_32 rfl (0) rfl ?_
  refine A_istore_n hE 34 dX6_seekSwap_33 rfl rfl rfl ?_
  refine A_lv [0, 1, 2, 3] rfl ?_
  exact outer (hn s) 0 _ _ _ t0.length t1.length (ovr t0.length g0 f0) k0y (ovr t1.length g1 f1) k1y (Nat.zero_add _) rfl
set_option maxRecDepth 100000 in
theorem c_X6_likelyViews (s J : St) (wh mu : Int32) (t0 t1 : Sp) (g0 h0 g1 h1 : Nat → Int32) (n0 n1 : Nat) (f0 k0 f1 k1 : Nat → Int32) (k n : Nat) (v : Int32) (hk : k < 8) (hnn : n ≤ 1000) (w : wf s) (l0 : LawC 0 t0 g0) (l1 : LawC 1 t1 g1) : AMet yX6_likelyViews cX6_likelyViews 7 (some (.int)) 5 0 0 [.ref 0, .ref 1, .int (nI k), .int v, .int (nI n)] (TW s J wh mu t0 g0 h0 t1 g1 h1 n0 n1 f0 k0 f1 k1) (pI fun x h => x = (lvF' t0 t1 s k n v 100 0 0) ∧ ∃ (J' : St) (n0' n1' : Nat) (f0' k0' f1' k1' : Nat → Int32), h = TW s J' wh mu t0 g0 h0 t1 g1 h1 n0' n1' f0' k0' f1' k1') := by
  refine AMet.of (by decide +kernel) rfl (fun E ad0 hE => ?_)
  have loop : ∀ (m i : Nat) (c : Int32) (J : St) (n0 n1 : Nat) (f0 k0 f1 k1 : Nat → Int32), i + m = 100 → (lvF' t0 t1 s k n v 100 0 0) = lvF' t0 t1 s k n v m i c → AW E (rmD 5 0 0) 7 (QM E ad0 27 0 0 (pI fun x h => x = (lvF' t0 t1 s k n v 100 0 0) ∧ ∃ (J' : St) (n0' n1' : Nat) (f0' k0' f1' k1' : Nat → Int32), h = TW s J' wh mu t0 g0 h0 t1 g1 h1 n0' n1' f0' k0' f1' k1')) ad0 27 0 0 6 [(0, .ref 0), (1, .ref 1), (2, .int (nI k)), (3, .int v), (4, .int (nI n)), (5, .int c), (6, .int (nI i))] [] (TW s J wh mu t0 g0 h0 t1 g1 h1 n0 n1 f0 k0 f1 k1) := by
    intro m
    induction m with
    | zero =>
      intro i c J n0 n1 f0 k0 f1 k1 hi hx
      refine A_iload hE 8 dX6_likelyViews_6 rfl rfl ?_
      refine A_bipush hE 10 dX6_likelyViews_8 rfl (99) (by decide) ?_
      refine A_icmp_gt hE 13 62 dX6_likelyViews_10 rfl rfl (fun c10 => ?_) (fun c10 => absurd (show 99 < nI i from nI_lt (a := 99) (by omega) (by omega)) c10)
      refine A_iload hE 64 dX6_likelyViews_62 rfl rfl ?_
      refine A_iret hE dX6_likelyViews_64 ⟨by rw [hx]; rfl, J, n0, n1, f0, k0, f1, k1, rfl⟩
    | succ m ih =>
      intro i c J n0 n1 f0 k0 f1 k1 hi hx
      refine A_iload hE 8 dX6_likelyViews_6 rfl rfl ?_
      refine A_bipush hE 10 dX6_likelyViews_8 rfl (99) (by decide) ?_
      refine A_icmp_gt hE 13 62 dX6_likelyViews_10 rfl rfl (fun c10 => absurd c10 (nI_nlt (a := 99) (by omega) (by omega))) (fun c10 => ?_)
      refine A_aload_n hE 14 dX6_likelyViews_13 rfl rfl ?_
      refine A_get hE 17 dX6_likelyViews_14 rfl fkX6_12 rfl rfl ?_
      refine A_aload_n hE 18 dX6_likelyViews_17 rfl rfl ?_
      refine A_callVv hE 21 (c_X2_takeOver s (arr J 0) (arr J 1) (arr J 2) (arr J 3) t0 t1 g0 h0 g1 h1 n0 n1 f0 k0 f1 k1 (pm J) (J 8) (J 0) (J 1) (J 2) (J 3) (J 4) (J 5) l0.len l1.len) [6, 7, 8, 9, 10, 1, 2, 3, 4, 5, 19, 20, 21, 22, 23, 24, 25, 26, 11, 12, 13, 14, 15, 16, 17, 18] dX6_likelyViews_18 rfl mkX6_25 rfl rfl rfl rfl rfl rfl rfl (Nat.le_of_ble_eq_true rfl) (Nat.le_of_ble_eq_true rfl) rfl (fun h18 g18 hp18 hw18 => ?_)
      obtain rfl := hp18
      obtain rfl := Option.some.inj hw18
      refine A_h (TW s s wh mu t0 g0 h0 t1 g1 h1 t0.length t1.length (ovr t0.length g0 f0) k0 (ovr t1.length g1 f1) k1) rfl ?_
      refine A_aload_n hE 22 dX6_likelyViews_21 rfl rfl ?_
      refine A_get hE 25 dX6_likelyViews_22 rfl fkX6_12 rfl rfl ?_
      refine A_iload hE 27 dX6_likelyViews_25 rfl rfl ?_
      refine A_put hE 30 dX6_likelyViews_27 rfl fkX6_70 rfl rfl rfl rfl ?_
      refine A_aload_n hE 31 dX6_likelyViews_30 rfl rfl ?_
      refine A_get hE 34 dX6_likelyViews_31 rfl fkX6_12 rfl rfl ?_
      refine A_iload_n hE 35 dX6_likelyViews_34 rfl rfl ?_
      refine A_iload hE 37 dX6_likelyViews_35 rfl rfl ?_
      refine A_h (TW s (upd s 1 (nI i)) wh mu t0 g0 h0 t1 g1 h1 t0.length t1.length (ovr t0.length g0 f0) k0 (ovr t1.length g1 f1) k1) TW_1.symm ?_
      refine A_callVv hE 40 (c_X2_passDaysFor (upd s 1 (nI i)) t0 t1 (ovr t0.length g0 f0) k0 (ovr t1.length g1 f1) k1 k hk n hnn (wf_lo (Or.inr (Or.inl rfl)) w) (l0.ovr (Nat.le_refl _)) (l1.ovr (Nat.le_refl _))) [6, 19, 20, 21, 22, 23, 24, 25, 26, 7, 8, 9, 10] dX6_likelyViews_37 rfl mkX6_37 rfl rfl rfl rfl rfl rfl rfl (Nat.le_of_ble_eq_true rfl) (Nat.le_of_ble_eq_true rfl) rfl (fun h37 g37 hp37 hw37 => ?_)
      obtain ⟨k0y, k1y, rfl⟩ := hp37
      obtain rfl := Option.some.inj hw37
      refine A_h (TW s (dF t0 t1 k n (upd s 1 (nI i))) wh mu t0 g0 h0 t1 g1 h1 t0.length t1.length (ovr t0.length g0 f0) k0y (ovr t1.length g1 f1) k1y) rfl ?_
      refine A_aload_n hE 41 dX6_likelyViews_40 rfl rfl ?_
      refine A_get hE 44 dX6_likelyViews_41 rfl fkX6_12 rfl rfl ?_
      refine A_get hE 47 dX6_likelyViews_44 rfl fkX6_33 rfl rfl ?_
      refine A_iload_n hE 48 dX6_likelyViews_47 rfl rfl ?_
      refine A_iald hE 49 k dX6_likelyViews_48 rfl rfl rfl hk rfl ?_
      rw [arr_its]
      refine A_iload_n hE 50 dX6_likelyViews_49 rfl rfl ?_
      refine A_icmp_lt hE 53 56 dX6_likelyViews_50 rfl rfl (fun c50 => ?_) (fun c50 => ?_)
      · refine A_iinc hE 59 dX6_likelyViews_56 rfl rfl (1) rfl rfl rfl ?_
        rw [nI_1]
        refine A_lv [0, 1, 2, 3, 4, 5, 6] rfl ?_
        refine A_goto hE 6 dX6_likelyViews_59 rfl ?_
        exact ih (i + 1) c _ t0.length t1.length (ovr t0.length g0 f0) k0y (ovr t1.length g1 f1) k1y (by omega) (by rw [hx, lvF', if_neg (iM c50)])
      · refine A_iinc hE 56 dX6_likelyViews_53 rfl rfl (1) rfl rfl rfl ?_
        refine A_iinc hE 59 dX6_likelyViews_56 rfl rfl (1) rfl rfl rfl ?_
        rw [nI_1]
        refine A_lv [0, 1, 2, 3, 4, 5, 6] rfl ?_
        refine A_goto hE 6 dX6_likelyViews_59 rfl ?_
        exact ih (i + 1) (c + 1) _ t0.length t1.length (ovr t0.length g0 f0) k0y (ovr t1.length g1 f1) k1y (by omega) (by rw [hx, lvF', if_pos (iL c50)])
  refine A_iconst hE 1 dX6_likelyViews_0 rfl (0) rfl ?_
  refine A_istore hE 3 dX6_likelyViews_1 rfl rfl rfl ?_
  refine A_iconst hE 4 dX6_likelyViews_3 rfl (0) rfl ?_
  refine A_istore hE 6 dX6_likelyViews_4 rfl rfl rfl ?_
  refine A_lv [0, 1, 2, 3, 4, 5, 6] rfl ?_
  exact loop 100 0 0 J n0 n1 f0 k0 f1 k1 rfl rfl
set_option maxRecDepth 100000 in
theorem c_X6_isFitting (s J : St) (wh mu : Int32) (t0 t1 : Sp) (g0 h0 g1 h1 : Nat → Int32) (n0 n1 : Nat) (f0 k0 f1 k1 : Nat → Int32) (sz : Nat) (v : Nat → Int32) (hsz : sz ≤ 24) (a : Nat) (ha : a < hn s) (w : wf s) (l0 : LawC 0 t0 g0) (l1 : LawC 1 t1 g1) : AMet yX6_isFitting cX6_isFitting 5 (some (.boolean)) 5 0 0 [.ref 0, .ref 1, .int (nI a), .ref 27] [.inr (6, [.ref 6, .int wh, .int mu]), RoundO 11 15 2 3 4 5 s, cI 8 (arr s 0), cI 8 (arr s 1), cI 8 (arr s 2), cI 8 (arr s 3), RoundO 19 23 7 8 9 10 J, cI 8 (arr J 0), cI 8 (arr J 1), cI 8 (arr J 2), cI 8 (arr J 3), LawO 12 14 0, cRow 13 (nI t0.length), cI 60 g0, cI 60 h0, LawO 16 18 1, cRow 17 (nI t1.length), cI 60 g1, cI 60 h1, LawO 20 22 0, cRow 21 (nI n0), cI 60 f0, cI 60 k0, LawO 24 26 1, cRow 25 (nI n1), cI 60 f1, cI 60 k1, cRow 28 (nI sz), cI 24 v] (pI fun x h => x = bI (ftF t1 v sz 0 (upd s 4 (nI a))) ∧ ∃ (J' : St) (n0' n1' : Nat) (f0' k0' f1' k1' : Nat → Int32), h = [.inr (6, [.ref 6, .int wh, .int mu]), RoundO 11 15 2 3 4 5 s, cI 8 (arr s 0), cI 8 (arr s 1), cI 8 (arr s 2), cI 8 (arr s 3), RoundO 19 23 7 8 9 10 J', cI 8 (arr J' 0), cI 8 (arr J' 1), cI 8 (arr J' 2), cI 8 (arr J' 3), LawO 12 14 0, cRow 13 (nI t0.length), cI 60 g0, cI 60 h0, LawO 16 18 1, cRow 17 (nI t1.length), cI 60 g1, cI 60 h1, LawO 20 22 0, cRow 21 (nI n0'), cI 60 f0', cI 60 k0', LawO 24 26 1, cRow 25 (nI n1'), cI 60 f1', cI 60 k1', cRow 28 (nI sz), cI 24 v]) := by
  refine AMet.of (by decide +kernel) rfl (fun E ad0 hE => ?_)
  have loop : ∀ (m i : Nat) (J : St) (k1 : Nat → Int32), i + m = sz → wf J → ftF t1 v sz 0 (upd s 4 (nI a)) = ftF t1 v m i J → AW E (rmD 5 0 0) 5 (QM E ad0 29 0 0 (pI fun x h => x = bI (ftF t1 v sz 0 (upd s 4 (nI a))) ∧ ∃ (J' : St) (n0' n1' : Nat) (f0' k0' f1' k1' : Nat → Int32), h = [.inr (6, [.ref 6, .int wh, .int mu]), RoundO 11 15 2 3 4 5 s, cI 8 (arr s 0), cI 8 (arr s 1), cI 8 (arr s 2), cI 8 (arr s 3), RoundO 19 23 7 8 9 10 J', cI 8 (arr J' 0), cI 8 (arr J' 1), cI 8 (arr J' 2), cI 8 (arr J' 3), LawO 12 14 0, cRow 13 (nI t0.length), cI 60 g0, cI 60 h0, LawO 16 18 1, cRow 17 (nI t1.length), cI 60 g1, cI 60 h1, LawO 20 22 0, cRow 21 (nI n0'), cI 60 f0', cI 60 k0', LawO 24 26 1, cRow 25 (nI n1'), cI 60 f1', cI 60 k1', cRow 28 (nI sz), cI 24 v])) ad0 29 0 0 19 [(0, .ref 0), (3, .ref 27), (4, .int (nI i))] [] [.inr (6, [.ref 6, .int wh, .int mu]), RoundO 11 15 2 3 4 5 s, cI 8 (arr s 0), cI 8 (arr s 1), cI 8 (arr s 2), cI 8 (arr s 3), RoundO 19 23 7 8 9 10 J, cI 8 (arr J 0), cI 8 (arr J 1), cI 8 (arr J 2), cI 8 (arr J 3), LawO 12 14 0, cRow 13 (nI t0.length), cI 60 g0, cI 60 h0, LawO 16 18 1, cRow 17 (nI t1.length), cI 60 g1, cI 60 h1, LawO 20 22 0, cRow 21 (nI t0.length), cI 60 (ovr t0.length g0 f0), cI 60 k0, LawO 24 26 1, cRow 25 (nI t1.length), cI 60 (ovr t1.length g1 f1), cI 60 k1, cRow 28 (nI sz), cI 24 v] := by
    intro m
    induction m with
    | zero =>
      intro i J k1 hi wJ hx
      refine A_iload hE 21 dX6_isFitting_19 rfl rfl ?_
      refine A_aload_n hE 22 dX6_isFitting_21 rfl rfl ?_
      refine A_get hE 25 dX6_isFitting_22 rfl fkX6_77 rfl rfl ?_
      refine A_icmp_ge hE 28 60 dX6_isFitting_25 rfl rfl (fun c25 => ?_) (fun c25 => absurd (nI_le (by omega) (by omega)) c25)
      refine A_iconst hE 61 dX6_isFitting_60 rfl (1) rfl ?_
      refine A_zret hE dX6_isFitting_61 (by first | exact Or.inl rfl | exact Or.inr rfl) ⟨by rw [hx]; rfl, J, _, _, _, k0, _, k1, rfl⟩
    | succ m ih =>
      intro i J k1 hi wJ hx
      refine A_iload hE 21 dX6_isFitting_19 rfl rfl ?_
      refine A_aload_n hE 22 dX6_isFitting_21 rfl rfl ?_
      refine A_get hE 25 dX6_isFitting_22 rfl fkX6_77 rfl rfl ?_
      refine A_icmp_ge hE 28 60 dX6_isFitting_25 rfl rfl (fun c25 => absurd c25 (nI_ge (show i < sz by omega) (by omega))) (fun c25 => ?_)
      refine A_aload_n hE 29 dX6_isFitting_28 rfl rfl ?_
      refine A_get hE 32 dX6_isFitting_29 rfl fkX6_12 rfl rfl ?_
      refine A_get hE 35 dX6_isFitting_32 rfl fkX6_70 rfl rfl ?_
      refine A_aload_n hE 36 dX6_isFitting_35 rfl rfl ?_
      refine A_get hE 39 dX6_isFitting_36 rfl fkX6_82 rfl rfl ?_
      refine A_iload hE 41 dX6_isFitting_39 rfl rfl ?_
      refine A_iald hE 42 i dX6_isFitting_41 rfl rfl rfl (by omega) rfl ?_
      refine A_icmp_eq hE 45 47 dX6_isFitting_42 rfl rfl (fun c42 => ?_) (fun c42 => ?_)
      · refine A_aload_n hE 48 dX6_isFitting_47 rfl rfl ?_
        refine A_get hE 51 dX6_isFitting_48 rfl fkX6_12 rfl rfl ?_
        refine A_callVv hE 54 (c_X2_carryOn J t0 t1 (ovr t0.length g0 f0) k0 (ovr t1.length g1 f1) k1 wJ (l1.ovr (Nat.le_refl _))) [6, 19, 20, 21, 22, 23, 24, 25, 26, 7, 8, 9, 10] dX6_isFitting_51 rfl mkX6_67 rfl rfl rfl rfl rfl rfl rfl (Nat.le_of_ble_eq_true rfl) (Nat.le_of_ble_eq_true rfl) rfl (fun h51 g51 hp51 hw51 => ?_)
        obtain ⟨k1y, rfl⟩ := hp51
        obtain rfl := Option.some.inj hw51
        refine A_h ([.inr (6, [.ref 6, .int wh, .int mu]), RoundO 11 15 2 3 4 5 s, cI 8 (arr s 0), cI 8 (arr s 1), cI 8 (arr s 2), cI 8 (arr s 3), RoundO 19 23 7 8 9 10 (carS t1 J), cI 8 (arr (carS t1 J) 0), cI 8 (arr (carS t1 J) 1), cI 8 (arr (carS t1 J) 2), cI 8 (arr (carS t1 J) 3), LawO 12 14 0, cRow 13 (nI t0.length), cI 60 g0, cI 60 h0, LawO 16 18 1, cRow 17 (nI t1.length), cI 60 g1, cI 60 h1, LawO 20 22 0, cRow 21 (nI t0.length), cI 60 (ovr t0.length g0 f0), cI 60 k0, LawO 24 26 1, cRow 25 (nI t1.length), cI 60 (ovr t1.length g1 f1), cI 60 k1y, cRow 28 (nI sz), cI 24 v]) rfl ?_
        refine A_iinc hE 57 dX6_isFitting_54 rfl rfl (1) rfl rfl rfl ?_
        rw [nI_1]
        refine A_lv [0, 3, 4] rfl ?_
        refine A_goto hE 19 dX6_isFitting_57 rfl ?_
        exact ih (i + 1) _ k1y (by omega) (wf_car wJ) (by rw [hx, ftF, if_pos c42])
      · refine A_iconst hE 46 dX6_isFitting_45 rfl (0) rfl ?_
        refine A_zret hE dX6_isFitting_46 (by first | exact Or.inl rfl | exact Or.inr rfl) ⟨by rw [hx, ftF, if_neg c42]; rfl, J, _, _, _, k0, _, k1, rfl⟩
  refine A_aload_n hE 1 dX6_isFitting_0 rfl rfl ?_
  refine A_get hE 4 dX6_isFitting_1 rfl fkX6_12 rfl rfl ?_
  refine A_aload_n hE 5 dX6_isFitting_4 rfl rfl ?_
  refine A_callVv hE 8 (c_X2_takeOver s (arr J 0) (arr J 1) (arr J 2) (arr J 3) t0 t1 g0 h0 g1 h1 n0 n1 f0 k0 f1 k1 (pm J) (J 8) (J 0) (J 1) (J 2) (J 3) (J 4) (J 5) l0.len l1.len) [6, 7, 8, 9, 10, 1, 2, 3, 4, 5, 19, 20, 21, 22, 23, 24, 25, 26, 11, 12, 13, 14, 15, 16, 17, 18] dX6_isFitting_5 rfl mkX6_25 rfl rfl rfl rfl rfl rfl rfl (Nat.le_of_ble_eq_true rfl) (Nat.le_of_ble_eq_true rfl) rfl (fun h5 g5 hp5 hw5 => ?_)
  obtain rfl := hp5
  obtain rfl := Option.some.inj hw5
  refine A_h ([.inr (6, [.ref 6, .int wh, .int mu]), RoundO 11 15 2 3 4 5 s, cI 8 (arr s 0), cI 8 (arr s 1), cI 8 (arr s 2), cI 8 (arr s 3), RoundO 19 23 7 8 9 10 s, cI 8 (arr s 0), cI 8 (arr s 1), cI 8 (arr s 2), cI 8 (arr s 3), LawO 12 14 0, cRow 13 (nI t0.length), cI 60 g0, cI 60 h0, LawO 16 18 1, cRow 17 (nI t1.length), cI 60 g1, cI 60 h1, LawO 20 22 0, cRow 21 (nI t0.length), cI 60 (ovr t0.length g0 f0), cI 60 k0, LawO 24 26 1, cRow 25 (nI t1.length), cI 60 (ovr t1.length g1 f1), cI 60 k1, cRow 28 (nI sz), cI 24 v]) rfl ?_
  refine A_aload_n hE 9 dX6_isFitting_8 rfl rfl ?_
  refine A_get hE 12 dX6_isFitting_9 rfl fkX6_12 rfl rfl ?_
  refine A_iload_n hE 13 dX6_isFitting_12 rfl rfl ?_
  refine A_put hE 16 dX6_isFitting_13 rfl fkX6_44 rfl rfl rfl rfl ?_
  refine A_iconst hE 17 dX6_isFitting_16 rfl (0) rfl ?_
  refine A_istore hE 19 dX6_isFitting_17 rfl rfl rfl ?_
  refine A_h ([.inr (6, [.ref 6, .int wh, .int mu]), RoundO 11 15 2 3 4 5 s, cI 8 (arr s 0), cI 8 (arr s 1), cI 8 (arr s 2), cI 8 (arr s 3), RoundO 19 23 7 8 9 10 (upd s 4 (nI a)), cI 8 (arr (upd s 4 (nI a)) 0), cI 8 (arr (upd s 4 (nI a)) 1), cI 8 (arr (upd s 4 (nI a)) 2), cI 8 (arr (upd s 4 (nI a)) 3), LawO 12 14 0, cRow 13 (nI t0.length), cI 60 g0, cI 60 h0, LawO 16 18 1, cRow 17 (nI t1.length), cI 60 g1, cI 60 h1, LawO 20 22 0, cRow 21 (nI t0.length), cI 60 (ovr t0.length g0 f0), cI 60 k0, LawO 24 26 1, cRow 25 (nI t1.length), cI 60 (ovr t1.length g1 f1), cI 60 k1, cRow 28 (nI sz), cI 24 v]) (by simp only [RO_4, arr_lo (show 4 < 9 by omega)]) ?_
  refine A_lv [0, 3, 4] rfl ?_
  exact loop sz 0 _ k1 (Nat.zero_add _) (wf_4 w ha) rfl
set_option maxRecDepth 100000 in
theorem c_X6_placesThatFit (s J : St) (wh mu : Int32) (t0 t1 : Sp) (g0 h0 g1 h1 : Nat → Int32) (n0 n1 : Nat) (f0 k0 f1 k1 : Nat → Int32) (sz : Nat) (v : Nat → Int32) (hsz : sz ≤ 24) (w : wf s) (l0 : LawC 0 t0 g0) (l1 : LawC 1 t1 g1) : AMet yX6_placesThatFit cX6_placesThatFit 5 (some (.int)) 6 0 0 [.ref 0, .ref 1, .ref 27] [.inr (6, [.ref 6, .int wh, .int mu]), RoundO 11 15 2 3 4 5 s, cI 8 (arr s 0), cI 8 (arr s 1), cI 8 (arr s 2), cI 8 (arr s 3), RoundO 19 23 7 8 9 10 J, cI 8 (arr J 0), cI 8 (arr J 1), cI 8 (arr J 2), cI 8 (arr J 3), LawO 12 14 0, cRow 13 (nI t0.length), cI 60 g0, cI 60 h0, LawO 16 18 1, cRow 17 (nI t1.length), cI 60 g1, cI 60 h1, LawO 20 22 0, cRow 21 (nI n0), cI 60 f0, cI 60 k0, LawO 24 26 1, cRow 25 (nI n1), cI 60 f1, cI 60 k1, cRow 28 (nI sz), cI 24 v] (pI fun x h => x = (pfF t1 s v sz (hn s) 0 0) ∧ ∃ (J' : St) (n0' n1' : Nat) (f0' k0' f1' k1' : Nat → Int32), h = [.inr (6, [.ref 6, .int wh, .int mu]), RoundO 11 15 2 3 4 5 s, cI 8 (arr s 0), cI 8 (arr s 1), cI 8 (arr s 2), cI 8 (arr s 3), RoundO 19 23 7 8 9 10 J', cI 8 (arr J' 0), cI 8 (arr J' 1), cI 8 (arr J' 2), cI 8 (arr J' 3), LawO 12 14 0, cRow 13 (nI t0.length), cI 60 g0, cI 60 h0, LawO 16 18 1, cRow 17 (nI t1.length), cI 60 g1, cI 60 h1, LawO 20 22 0, cRow 21 (nI n0'), cI 60 f0', cI 60 k0', LawO 24 26 1, cRow 25 (nI n1'), cI 60 f1', cI 60 k1', cRow 28 (nI sz), cI 24 v]) := by
  refine AMet.of (by decide +kernel) rfl (fun E ad0 hE => ?_)
  obtain ⟨w1, w2, w3, w4, w5, w6, w7⟩ := id w
  have loop : ∀ (m a : Nat) (c : Int32) (J : St) (n0 n1 : Nat) (f0 k0 f1 k1 : Nat → Int32), a + m = hn s → (pfF t1 s v sz (hn s) 0 0) = pfF t1 s v sz m a c → AW E (rmD 6 0 0) 5 (QM E ad0 29 0 0 (pI fun x h => x = (pfF t1 s v sz (hn s) 0 0) ∧ ∃ (J' : St) (n0' n1' : Nat) (f0' k0' f1' k1' : Nat → Int32), h = [.inr (6, [.ref 6, .int wh, .int mu]), RoundO 11 15 2 3 4 5 s, cI 8 (arr s 0), cI 8 (arr s 1), cI 8 (arr s 2), cI 8 (arr s 3), RoundO 19 23 7 8 9 10 J', cI 8 (arr J' 0), cI 8 (arr J' 1), cI 8 (arr J' 2), cI 8 (arr J' 3), LawO 12 14 0, cRow 13 (nI t0.length), cI 60 g0, cI 60 h0, LawO 16 18 1, cRow 17 (nI t1.length), cI 60 g1, cI 60 h1, LawO 20 22 0, cRow 21 (nI n0'), cI 60 f0', cI 60 k0', LawO 24 26 1, cRow 25 (nI n1'), cI 60 f1', cI 60 k1', cRow 28 (nI sz), cI 24 v])) ad0 29 0 0 5 [(0, .ref 0), (1, .ref 1), (2, .ref 27), (3, .int c), (4, .int (nI a))] [] [.inr (6, [.ref 6, .int wh, .int mu]), RoundO 11 15 2 3 4 5 s, cI 8 (arr s 0), cI 8 (arr s 1), cI 8 (arr s 2), cI 8 (arr s 3), RoundO 19 23 7 8 9 10 J, cI 8 (arr J 0), cI 8 (arr J 1), cI 8 (arr J 2), cI 8 (arr J 3), LawO 12 14 0, cRow 13 (nI t0.length), cI 60 g0, cI 60 h0, LawO 16 18 1, cRow 17 (nI t1.length), cI 60 g1, cI 60 h1, LawO 20 22 0, cRow 21 (nI n0), cI 60 f0, cI 60 k0, LawO 24 26 1, cRow 25 (nI n1), cI 60 f1, cI 60 k1, cRow 28 (nI sz), cI 24 v] := by
    intro m
    induction m with
    | zero =>
      intro a c J n0 n1 f0 k0 f1 k1 ha hx
      refine A_iload hE 7 dX6_placesThatFit_5 rfl rfl ?_
      refine A_aload_n hE 8 dX6_placesThatFit_7 rfl rfl ?_
      refine A_get hE 11 dX6_placesThatFit_8 rfl fkX6_41 rfl rfl ?_
      refine A_icmp_ge hE 14 38 dX6_placesThatFit_11 rfl rfl (fun c11 => ?_) (fun c11 => absurd (by rw [w2]; exact nI_le (by omega) (by omega)) c11)
      refine A_iload_n hE 39 dX6_placesThatFit_38 rfl rfl ?_
      refine A_iret hE dX6_placesThatFit_39 ⟨by rw [hx]; rfl, J, n0, n1, f0, k0, f1, k1, rfl⟩
    | succ m ih =>
      intro a c J n0 n1 f0 k0 f1 k1 ha hx
      have hlt : a < hn s := by omega
      refine A_iload hE 7 dX6_placesThatFit_5 rfl rfl ?_
      refine A_aload_n hE 8 dX6_placesThatFit_7 rfl rfl ?_
      refine A_get hE 11 dX6_placesThatFit_8 rfl fkX6_41 rfl rfl ?_
      refine A_icmp_ge hE 14 38 dX6_placesThatFit_11 rfl rfl (fun c11 => absurd c11 (by rw [w2]; exact nI_ge hlt (by omega))) (fun c11 => ?_)
      refine A_aload_n hE 15 dX6_placesThatFit_14 rfl rfl ?_
      refine A_aload_n hE 16 dX6_placesThatFit_15 rfl rfl ?_
      refine A_iload hE 18 dX6_placesThatFit_16 rfl rfl ?_
      refine A_aload_n hE 19 dX6_placesThatFit_18 rfl rfl ?_
      refine A_callVi hE 22 (c_X6_isFitting s J wh mu t0 t1 g0 h0 g1 h1 n0 n1 f0 k0 f1 k1 sz v hsz a hlt w l0 l1) [0, 1, 2, 3, 4, 5, 6, 7, 8, 9, 10, 11, 12, 13, 14, 15, 16, 17, 18, 19, 20, 21, 22, 23, 24, 25, 26, 27, 28] dX6_placesThatFit_19 rfl mkX6_73 rfl rfl rfl rfl rfl rfl rfl (Nat.le_of_ble_eq_true rfl) (Nat.le_of_ble_eq_true rfl) rfl (fun x19 h19 g19 hp19 hw19 => ?_)
      obtain ⟨rfl, J2, n2, m2, f2, k2, f3, k3, rfl⟩ := hp19
      obtain rfl := Option.some.inj hw19
      refine A_h ([.inr (6, [.ref 6, .int wh, .int mu]), RoundO 11 15 2 3 4 5 s, cI 8 (arr s 0), cI 8 (arr s 1), cI 8 (arr s 2), cI 8 (arr s 3), RoundO 19 23 7 8 9 10 J2, cI 8 (arr J2 0), cI 8 (arr J2 1), cI 8 (arr J2 2), cI 8 (arr J2 3), LawO 12 14 0, cRow 13 (nI t0.length), cI 60 g0, cI 60 h0, LawO 16 18 1, cRow 17 (nI t1.length), cI 60 g1, cI 60 h1, LawO 20 22 0, cRow 21 (nI n2), cI 60 f2, cI 60 k2, LawO 24 26 1, cRow 25 (nI m2), cI 60 f3, cI 60 k3, cRow 28 (nI sz), cI 24 v]) rfl ?_
      refine A_if_eq hE 25 32 dX6_placesThatFit_22 rfl rfl (fun c22 => ?_) (fun c22 => ?_)
      · refine A_iinc hE 35 dX6_placesThatFit_32 rfl rfl (1) rfl rfl rfl ?_
        rw [nI_1]
        refine A_lv [0, 1, 2, 3, 4] rfl ?_
        refine A_goto hE 5 dX6_placesThatFit_35 rfl ?_
        exact ih (a + 1) c J2 n2 m2 f2 k2 f3 k3 (by omega) (by rw [hx, pfF, if_neg (fun z => by rw [z] at c22; exact absurd c22 (by decide))])
      · refine A_iload_n hE 26 dX6_placesThatFit_25 rfl rfl ?_
        refine A_iconst hE 27 dX6_placesThatFit_26 rfl (1) rfl ?_
        refine A_iload hE 29 dX6_placesThatFit_27 rfl rfl ?_
        refine A_ishl hE 30 dX6_placesThatFit_29 rfl ?_
        refine A_ior hE 31 dX6_placesThatFit_30 rfl ?_
        refine A_istore_n hE 32 dX6_placesThatFit_31 rfl rfl rfl ?_
        refine A_iinc hE 35 dX6_placesThatFit_32 rfl rfl (1) rfl rfl rfl ?_
        rw [nI_1]
        refine A_lv [0, 1, 2, 3, 4] rfl ?_
        refine A_goto hE 5 dX6_placesThatFit_35 rfl ?_
        exact ih (a + 1) _ J2 n2 m2 f2 k2 f3 k3 (by omega) (by rw [hx, pfF, if_pos (by cases hz : ftF t1 v sz 0 (upd s 4 (nI a)) with | true => rfl | false => rw [hz] at c22; exact absurd rfl c22)])
  refine A_iconst hE 1 dX6_placesThatFit_0 rfl (0) rfl ?_
  refine A_istore_n hE 2 dX6_placesThatFit_1 rfl rfl rfl ?_
  refine A_iconst hE 3 dX6_placesThatFit_2 rfl (0) rfl ?_
  refine A_istore hE 5 dX6_placesThatFit_3 rfl rfl rfl ?_
  refine A_lv [0, 1, 2, 3, 4] rfl ?_
  exact loop (hn s) 0 0 J n0 n1 f0 k0 f1 k1 (Nat.zero_add _) rfl
