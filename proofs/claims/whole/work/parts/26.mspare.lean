def lwb (r : Nat) : Nat := r &&& (r - 1)
theorem ones_step : ∀ r, r < 256 → r ≠ 0 → nI r &&& (nI r - 1) = nI (lwb r) ∧ lwb r < r ∧ pop r = pop (lwb r) + 1 := by decide +kernel
theorem pop_0 : pop 0 = 0 := rfl
def orK (j sp : Nat) (s : St) : St := fun k => if 9 ≤ k ∧ k < 9 + 5 * j ∧ (k - 9) % 5 = 4 ∧ sp / 2 ^ ((k - 9) / 5) % 2 = 1 then 1 else s k
theorem orK_0 {sp : Nat} {s : St} : orK 0 sp s = s := by
  funext k
  exact if_neg (fun z => by omega)
theorem orK_step {j sp : Nat} {s : St} {v : Int32} (hv : v = if sp / 2 ^ j % 2 = 1 then 1 else its s j 4) : upd (orK j sp s) (9 + 5 * j + 4) v = orK (j + 1) sp s := by
  funext k
  by_cases hk : k = 9 + 5 * j + 4
  · subst hk
    rw [upd_s, hv]
    unfold orK
    have e1 : (9 + 5 * j + 4 - 9) / 5 = j := by omega
    rw [e1]
    by_cases hb : sp / 2 ^ j % 2 = 1
    · rw [if_pos hb, if_pos ⟨by omega, by omega, by omega, hb⟩]
    · rw [if_neg hb, if_neg (fun z => hb z.2.2.2)]
      rfl
  · rw [upd_n hk]
    unfold orK
    by_cases hb : 9 ≤ k ∧ k < 9 + 5 * j ∧ (k - 9) % 5 = 4 ∧ sp / 2 ^ ((k - 9) / 5) % 2 = 1
    · rw [if_pos hb, if_pos ⟨hb.1, by omega, hb.2.2.1, hb.2.2.2⟩]
    · rw [if_neg hb, if_neg (fun z => hb ⟨z.1, by have := z.2.2.1; have := z.2.1; omega, z.2.2.1, z.2.2.2⟩)]
theorem orK_its {j sp : Nat} {s : St} : its (orK j sp s) j 4 = its s j 4 := if_neg (fun z => by omega)
theorem orK_8 {j sp : Nat} {s : St} {k : Nat} (hk : k < 9) : orK j sp s k = s k := if_neg (fun z => by omega)
theorem orK_end {n sp : Nat} {s : St} (hn8 : n ≤ 8) (hs : sp < 2 ^ n) : orK n sp s = orS sp s := by
  funext k
  unfold orK orS
  by_cases hb : 9 ≤ k ∧ k < 9 + 5 * n ∧ (k - 9) % 5 = 4 ∧ sp / 2 ^ ((k - 9) / 5) % 2 = 1
  · rw [if_pos hb, if_pos ⟨hb.1, by omega, hb.2.2.1, hb.2.2.2⟩]
  · rw [if_neg hb, if_neg (fun z => hb ⟨z.1, ?_, z.2.2.1, z.2.2.2⟩)]
    have z1 := z.2.2.2
    have z2 := z.2.1
    have z3 := z.1
    rcases Nat.lt_or_ge ((k - 9) / 5) n with q | q
    · omega
    · rw [low_bits n hn8 sp hs ((k - 9) / 5) (by omega) q] at z1
      omega
theorem orS_hi {sp : Nat} {s : St} {z : Nat} (hz : 49 ≤ z) : orS sp s z = s z := if_neg (fun q => by omega)
def isLess (sp : Nat) (f : Option Nat) : Prop := match f with
  | none => True
  | some x => pop sp < pop x
noncomputable def spM (t0 t1 : Sp) (s : St) (n : Nat) (v : Int32) : Nat → Nat → Option Nat → Option Nat
  | 0, _, f => f
  | m + 1, sp, f => spM t0 t1 s n v m (sp + 1) (@ite _ (isLess sp f ∧ dN t0 t1 n (orS sp s) 1 ≤ v) (Classical.propDecidable _) (some sp) f)
noncomputable def spareF (t0 t1 : Sp) (s : St) (er : Nat → Int32) (n v : Int32) : Rs := if (0 ≤ n ∧ n ≤ 40) ∧ (0 ≤ v ∧ v ≤ 99) then (match spM t0 t1 s n.toNatClampNeg v (2 ^ hn s) 0 none with
  | none => bad 2 s er
  | some x => (nI x, s, er)) else bad 1 s er
def lvN (t0 t1 : Sp) (s : St) (k n : Nat) (v : Int32) : Nat → Nat → Nat → Nat
  | 0, _, c => c
  | m + 1, i, c => lvN t0 t1 s k n v m (i + 1) (if v ≤ its (dN t0 t1 n (upd s 1 (nI i))) k 2 then c + 1 else c)
theorem lvN_le {t0 t1 : Sp} {s : St} {k n : Nat} {v : Int32} : ∀ (m i c : Nat), lvN t0 t1 s k n v m i c ≤ c + m
  | 0, _, c => Nat.le_refl _
  | m + 1, i, c => by
    rw [lvN]
    refine Nat.le_trans (lvN_le m (i + 1) _) ?_
    split <;> omega
def oddsF (t0 t1 : Sp) (s : St) (er : Nat → Int32) (h v n p : Int32) : Rs := if (0 ≤ h ∧ h < s 8) ∧ ((0 ≤ v ∧ v ≤ 9999) ∧ ((0 ≤ n ∧ n ≤ 40) ∧ (0 ≤ p ∧ p ≤ 1))) then (nI ((if p = 0 then lvN t0 t1 s h.toNatClampNeg n.toNatClampNeg v 100 0 0 else 100) / Nat.gcd (lvN t0 t1 s h.toNatClampNeg n.toNatClampNeg v 100 0 0) 100), s, er) else bad 1 s er
def byteAt (c : Int64) (i : Nat) : Int32 := ((c >>> ((8 * nI i : Int32).toInt64 &&& 63)) &&& 255).toInt32
def feedN (c : Int64) : Nat → Nat → St → St
  | 0, _, s => s
  | m + 1, i, s => feedN c m (i + 1) (upd (upd s (299 + (s 6).toNatClampNeg) (byteAt c i)) 6 (s 6 + 1))
def feedF (s : St) (er : Nat → Int32) (c : Int64) (m : Int32) : Rs := if 1 ≤ m ∧ m ≤ 8 then (if 60 < s 6 + m then bad 4 s er else (feedN c m.toNatClampNeg 0 s 6, feedN c m.toNatClampNeg 0 s, er)) else bad 1 s er

set_option maxRecDepth 100000 in
theorem c_X9_ones (m : Nat) (hm : m < 256) : AMet yX9_ones cX9_ones 3 (some (.int)) 0 0 0 [.int (nI m)] [] (pI fun r h => r = nI (pop m) ∧ h = []) := by
  refine AMet.of (by decide +kernel) rfl (fun E ad0 hE => ?_)
  refine A_iconst hE 1 dX9_ones_0 rfl (0) rfl ?_
  refine A_istore_n hE 2 dX9_ones_1 rfl rfl rfl ?_
  refine A_iload_n hE 3 dX9_ones_2 rfl rfl ?_
  refine A_istore_n hE 4 dX9_ones_3 rfl rfl rfl ?_
  have loop : ∀ (f r c : Nat), r ≤ f → r < 256 → c + pop r = pop m → AW E (rmD 0 0 0) 3 (QM E ad0 0 0 0 (pI fun r h => r = nI (pop m) ∧ h = [])) ad0 0 0 0 4 [(0, .int (nI m)), (1, .int (nI c)), (2, .int (nI r))] [] [] := by
    intro f
    induction f with
    | zero =>
      intro r c hr hr2 hc
      obtain rfl : r = 0 := by omega
      refine A_iload_n hE 5 dX9_ones_4 rfl rfl ?_
      refine A_if_eq hE 8 20 dX9_ones_5 rfl rfl (fun c5 => ?_) (fun c5 => absurd nI_0 c5)
      refine A_iload_n hE 21 dX9_ones_20 rfl rfl ?_
      refine A_iret hE dX9_ones_21 ?_
      rw [pop_0, Nat.add_zero] at hc
      exact ⟨by rw [hc], rfl⟩
    | succ f ih =>
      intro r c hr hr2 hc
      refine A_iload_n hE 5 dX9_ones_4 rfl rfl ?_
      refine A_if_eq hE 8 20 dX9_ones_5 rfl rfl (fun c5 => ?_) (fun c5 => ?_)
      · obtain rfl : r = 0 := (nI_eq (by omega) (by omega)).mp (show nI r = nI 0 from c5)
        refine A_iload_n hE 21 dX9_ones_20 rfl rfl ?_
        refine A_iret hE dX9_ones_21 ?_
        rw [← hc]
        exact ⟨rfl, rfl⟩
      · have h0 : r ≠ 0 := fun z => c5 (by rw [z]; rfl)
        obtain ⟨g1, g2, g3⟩ := ones_step r hr2 h0
        refine A_iinc hE 11 dX9_ones_8 rfl rfl (1) rfl rfl rfl ?_
        refine A_iload_n hE 12 dX9_ones_11 rfl rfl ?_
        refine A_iload_n hE 13 dX9_ones_12 rfl rfl ?_
        refine A_iconst hE 14 dX9_ones_13 rfl (1) rfl ?_
        refine A_isub hE 15 dX9_ones_14 rfl ?_
        refine A_iand hE 16 dX9_ones_15 rfl ?_
        rw [g1]
        refine A_istore_n hE 17 dX9_ones_16 rfl rfl rfl ?_
        rw [nI_1]
        refine A_lv [0, 1, 2] rfl ?_
        refine A_goto hE 4 dX9_ones_17 rfl ?_
        exact ih (lwb r) (c + 1) (by omega) (by omega) (by omega)
  refine A_lv [0, 1, 2] rfl ?_
  exact loop m m 0 (Nat.le_refl _) hm (Nat.zero_add _)
set_option maxRecDepth 100000 in
theorem c_X9_viewWith (s K be er st na pi tr bi sz nu as' : Nat → Int32) (im at' op sp us tn sk ip : Int32) (sq n : Nat) (t0 t1 : Sp) (hsp : sq < 2 ^ hn s) (hnn : n ≤ 1000) (w : wf s) (l0 : MText s 0 t0) (l1 : MText s 1 t1) : AMet yX9_viewWith cX9_viewWith 4 (some (.int)) 6 0 0 [.ref 0, .int (nI sq), .int (nI n)] (MW s K (ovr 49 s be) er st na pi tr bi sz nu as' im at' op sp us tn sk ip) (pI fun x h => x = dN t0 t1 n (orS sq s) 1 ∧ ∃ na' pi' : Nat → Int32, h = MW s K (ovr 49 s be) er st na' pi' tr bi sz nu as' im at' op sp us tn sk ip) := by
  refine AMet.of (by decide +kernel) rfl (fun E ad0 hE => ?_)
  obtain ⟨w1, w2, w3, w4, w5, w6, w7⟩ := id w
  refine A_iconst hE 1 dX9_viewWith_0 rfl (0) rfl ?_
  refine A_istore_n hE 2 dX9_viewWith_1 rfl rfl rfl ?_
  have loop : ∀ (m j : Nat), j + m = hn s → AW E (rmD 6 0 0) 4 (QM E ad0 13 0 0 (pI fun x h => x = dN t0 t1 n (orS sq s) 1 ∧ ∃ na' pi' : Nat → Int32, h = MW s K (ovr 49 s be) er st na' pi' tr bi sz nu as' im at' op sp us tn sk ip)) ad0 13 0 0 2 [(0, .ref 0), (1, .int (nI sq)), (2, .int (nI n)), (3, .int (nI j))] [] (MW (orK j sq s) K (ovr 49 s be) er st na pi tr bi sz nu as' im at' op sp us tn sk ip) := by
    intro m
    induction m with
    | zero =>
      intro j hj
      obtain rfl : j = hn s := by omega
      refine A_iload_n hE 3 dX9_viewWith_2 rfl rfl ?_
      refine A_aload_n hE 4 dX9_viewWith_3 rfl rfl ?_
      refine A_get hE 7 dX9_viewWith_4 rfl fkX9_7 rfl rfl ?_
      refine A_bipush hE 9 dX9_viewWith_7 rfl (8) (by decide) ?_
      refine A_iald hE 10 8 dX9_viewWith_9 rfl rfl rfl (by omega) rfl ?_
      rw [orK_8 (by omega)]
      refine A_icmp_ge hE 13 44 dX9_viewWith_10 rfl rfl (fun c10 => ?_) (fun c10 => absurd (by rw [w2]; exact nI_le (Nat.le_refl _) (by omega)) c10)
      rw [orK_end w1 hsp]
      refine A_aload_n hE 45 dX9_viewWith_44 rfl rfl ?_
      refine A_iload_n hE 46 dX9_viewWith_45 rfl rfl ?_
      refine A_callVv hE 49 (c_X9_goesOn (orS sq s) K (ovr 49 s be) er st na pi tr bi sz nu as' im at' op sp us tn sk ip t0 t1 n hnn (wf_or w hsp) (l0.eqv (fun z hz => orS_hi hz)) (l1.eqv (fun z hz => orS_hi hz))) [0, 1, 2, 3, 4, 5, 6, 7, 8, 9, 10, 11, 12] dX9_viewWith_46 rfl mkX9_165 rfl rfl rfl rfl rfl rfl rfl (Nat.le_of_ble_eq_true rfl) (Nat.le_of_ble_eq_true rfl) rfl (fun h46 g46 hp46 hw46 => ?_)
      obtain ⟨na1, pi1, rfl⟩ := hp46
      obtain rfl := Option.some.inj hw46
      refine A_h (MW (dN t0 t1 n (orS sq s)) K (ovr 49 s be) er st na1 pi1 tr bi sz nu as' im at' op sp us tn sk ip) rfl ?_
      refine A_aload_n hE 50 dX9_viewWith_49 rfl rfl ?_
      refine A_get hE 53 dX9_viewWith_50 rfl fkX9_7 rfl rfl ?_
      refine A_iconst hE 54 dX9_viewWith_53 rfl (1) rfl ?_
      refine A_iald hE 55 1 dX9_viewWith_54 rfl rfl rfl (by omega) rfl ?_
      refine A_istore_n hE 56 dX9_viewWith_55 rfl rfl rfl ?_
      refine A_aload_n hE 57 dX9_viewWith_56 rfl rfl ?_
      refine A_callVv hE 60 (c_X9_putsBack (dN t0 t1 n (orS sq s)) K (ovr 49 s be) er st na1 pi1 tr bi sz nu as' im at' op sp us tn sk ip) [0, 1, 2, 3, 4, 5, 6, 7, 8, 9, 10, 11, 12] dX9_viewWith_57 rfl mkX9_176 rfl rfl rfl rfl rfl rfl rfl (Nat.le_of_ble_eq_true rfl) (Nat.le_of_ble_eq_true rfl) rfl (fun h57 g57 hp57 hw57 => ?_)
      obtain rfl := hp57
      obtain rfl := Option.some.inj hw57
      refine A_h (MW s K (ovr 49 s be) er st na1 pi1 tr bi sz nu as' im at' op sp us tn sk ip) (by rw [back_eq (fun z hz => by rw [dN_hi hz n (wf_or w hsp), orS_hi hz])]; rfl) ?_
      refine A_iload_n hE 61 dX9_viewWith_60 rfl rfl ?_
      refine A_iret hE dX9_viewWith_61 ⟨rfl, na1, pi1, rfl⟩
    | succ m ih =>
      intro j hj
      have hlt : j < hn s := by omega
      have hsp8 : sq < 256 := Nat.lt_of_lt_of_le hsp (pow_le w1)
      refine A_iload_n hE 3 dX9_viewWith_2 rfl rfl ?_
      refine A_aload_n hE 4 dX9_viewWith_3 rfl rfl ?_
      refine A_get hE 7 dX9_viewWith_4 rfl fkX9_7 rfl rfl ?_
      refine A_bipush hE 9 dX9_viewWith_7 rfl (8) (by decide) ?_
      refine A_iald hE 10 8 dX9_viewWith_9 rfl rfl rfl (by omega) rfl ?_
      rw [orK_8 (by omega)]
      refine A_icmp_ge hE 13 44 dX9_viewWith_10 rfl rfl (fun c10 => absurd c10 (by rw [w2]; exact nI_ge hlt (by omega))) (fun c10 => ?_)
      refine A_aload_n hE 14 dX9_viewWith_13 rfl rfl ?_
      refine A_iload_n hE 15 dX9_viewWith_14 rfl rfl ?_
      refine A_iconst hE 16 dX9_viewWith_15 rfl (4) rfl ?_
      refine A_iload_n hE 17 dX9_viewWith_16 rfl rfl ?_
      refine A_iload_n hE 18 dX9_viewWith_17 rfl rfl ?_
      refine A_ishr hE 19 dX9_viewWith_18 rfl ?_
      refine A_iconst hE 20 dX9_viewWith_19 rfl (1) rfl ?_
      refine A_iand hE 21 dX9_viewWith_20 rfl ?_
      rw [pm_get sq hsp8 j (by omega)]
      refine A_iconst hE 22 dX9_viewWith_21 rfl (1) rfl ?_
      refine A_icmp_ne hE 25 29 dX9_viewWith_22 rfl rfl (fun c22 => ?_) (fun c22 => ?_)
      · have hb : ¬ sq / 2 ^ j % 2 = 1 := fun z => c22 (by rw [z]; rfl)
        refine A_aload_n hE 30 dX9_viewWith_29 rfl rfl ?_
        refine A_iload_n hE 31 dX9_viewWith_30 rfl rfl ?_
        refine A_iconst hE 32 dX9_viewWith_31 rfl (4) rfl ?_
        refine A_callVi hE 35 (c_X9_its (orK j sq s) K (ovr 49 s be) er st na pi tr bi sz nu as' im at' op sp us tn sk ip (nI j) 4 j 4 rfl rfl (by omega) (by omega)) [0, 1, 2, 3, 4, 5, 6, 7, 8, 9, 10, 11, 12] dX9_viewWith_32 rfl mkX9_111 rfl rfl rfl rfl rfl rfl rfl (Nat.le_of_ble_eq_true rfl) (Nat.le_of_ble_eq_true rfl) rfl (fun x32 h32 g32 hp32 hw32 => ?_)
        obtain ⟨rfl, rfl⟩ := hp32
        obtain rfl := Option.some.inj hw32
        refine A_h (MW (orK j sq s) K (ovr 49 s be) er st na pi tr bi sz nu as' im at' op sp us tn sk ip) rfl ?_
        refine A_callVv hE 38 (c_X9_lays1 (orK j sq s) K (ovr 49 s be) er st na pi tr bi sz nu as' im at' op sp us tn sk ip (nI j) 4 j 4 rfl rfl (by omega) (by omega) _) [0, 1, 2, 3, 4, 5, 6, 7, 8, 9, 10, 11, 12] dX9_viewWith_35 rfl mkX9_143 rfl rfl rfl rfl rfl rfl rfl (Nat.le_of_ble_eq_true rfl) (Nat.le_of_ble_eq_true rfl) rfl (fun h35 g35 hp35 hw35 => ?_)
        obtain rfl := hp35
        obtain rfl := Option.some.inj hw35
        refine A_h (MW (orK (j + 1) sq s) K (ovr 49 s be) er st na pi tr bi sz nu as' im at' op sp us tn sk ip) (by rw [orK_step (by rw [if_neg hb, orK_its])]; rfl) ?_
        refine A_iinc hE 41 dX9_viewWith_38 rfl rfl (1) rfl rfl rfl ?_
        rw [nI_1]
        refine A_lv [0, 1, 2, 3] rfl ?_
        refine A_goto hE 2 dX9_viewWith_41 rfl ?_
        exact ih (j + 1) (by omega)
      · have hb : sq / 2 ^ j % 2 = 1 := (nI_eq (by omega) (by omega)).mp (show nI (sq / 2 ^ j % 2) = nI 1 from c22)
        refine A_iconst hE 26 dX9_viewWith_25 rfl (1) rfl ?_
        refine A_goto hE 35 dX9_viewWith_26 rfl ?_
        refine A_callVv hE 38 (c_X9_lays1 (orK j sq s) K (ovr 49 s be) er st na pi tr bi sz nu as' im at' op sp us tn sk ip (nI j) 4 j 4 rfl rfl (by omega) (by omega) _) [0, 1, 2, 3, 4, 5, 6, 7, 8, 9, 10, 11, 12] dX9_viewWith_35 rfl mkX9_143 rfl rfl rfl rfl rfl rfl rfl (Nat.le_of_ble_eq_true rfl) (Nat.le_of_ble_eq_true rfl) rfl (fun h35 g35 hp35 hw35 => ?_)
        obtain rfl := hp35
        obtain rfl := Option.some.inj hw35
        refine A_h (MW (orK (j + 1) sq s) K (ovr 49 s be) er st na pi tr bi sz nu as' im at' op sp us tn sk ip) (by rw [orK_step (by rw [if_pos hb])]; rfl) ?_
        refine A_iinc hE 41 dX9_viewWith_38 rfl rfl (1) rfl rfl rfl ?_
        rw [nI_1]
        refine A_lv [0, 1, 2, 3] rfl ?_
        refine A_goto hE 2 dX9_viewWith_41 rfl ?_
        exact ih (j + 1) (by omega)
  refine A_lv [0, 1, 2, 3] rfl ?_
  exact A_h (MW (orK 0 sq s) K (ovr 49 s be) er st na pi tr bi sz nu as' im at' op sp us tn sk ip) (by rw [orK_0]) (loop (hn s) 0 (Nat.zero_add _))
theorem pop_lt (x : Nat) (_ : x < 256) : pop x < 2 ^ 31 := by unfold pop; omega

set_option maxRecDepth 100000 in
theorem c_X9_spare (s K be er st na pi tr bi sz nu as' : Nat → Int32) (im at' op sp us tn sk ip : Int32) (n v : Int32) (t0 t1 : Sp) (w : wf s) (l0 : MText s 0 t0) (l1 : MText s 1 t1) : AMet yX9_spare cX9_spare 6 (some (.int)) 7 0 0 [.ref 0, .int n, .int v] (MW s K be er st na pi tr bi sz nu as' im at' op sp us tn sk ip) (pI fun x0 hz0 => x0 = (spareF t0 t1 s er n v).1 ∧ ∃ be' na' pi' : Nat → Int32, hz0 = MW (spareF t0 t1 s er n v).2.1 K be' (spareF t0 t1 s er n v).2.2 st na' pi' tr bi sz nu as' im at' op sp us tn sk ip) := by
  refine AMet.of (by decide +kernel) rfl (fun E ad0 hE => ?_)
  obtain ⟨w1, w2, w3, w4, w5, w6, w7⟩ := id w
  refine A_iload_n hE 1 dX9_spare_0 rfl rfl ?_
  refine A_iconst hE 2 dX9_spare_1 rfl (0) rfl ?_
  refine A_bipush hE 4 dX9_spare_2 rfl (40) (by decide) ?_
  refine A_callSi hE 7 (c_X9_in n 0 40) [] dX9_spare_4 rfl mkX9_47 rfl rfl rfl rfl rfl rfl (Nat.le_of_ble_eq_true rfl) (Nat.le_of_ble_eq_true rfl) rfl (fun x4 h4 g4 hp4 hw4 => ?_)
  obtain ⟨rfl, rfl⟩ := hp4
  obtain rfl := Option.some.inj hw4
  refine A_if_eq hE 10 20 dX9_spare_7 rfl rfl (fun c7 => ?_) (fun c7 => ?_)
  · have hh := bI_0 c7
    refine A_aload_n hE 21 dX9_spare_20 rfl rfl ?_
    refine A_iconst hE 22 dX9_spare_21 rfl (1) rfl ?_
    refine A_callVi hE 25 (c_X9_error s K be er st na pi tr bi sz nu as' im at' op sp us tn sk ip 1 (by omega)) [0, 1, 2, 3, 4, 5, 6, 7, 8, 9, 10, 11, 12] dX9_spare_22 rfl mkX9_51 rfl rfl rfl rfl rfl rfl rfl (Nat.le_of_ble_eq_true rfl) (Nat.le_of_ble_eq_true rfl) rfl (fun x22 h22 g22 hp22 hw22 => ?_)
    obtain ⟨rfl, rfl⟩ := hp22
    obtain rfl := Option.some.inj hw22
    refine A_h (MW s K be (upd er 1 (er 1 + 1)) st na pi tr bi sz nu as' im at' op sp us tn sk ip) rfl ?_
    refine A_iret hE dX9_spare_25 ?_
    rw [spareF, if_neg (fun z => hh z.1)]
    exact ⟨rfl, be, na, pi, rfl⟩
  · have hh := bI_1 c7
    obtain ⟨j, hkj, rfl⟩ := iK2 (n := 40) hh.1 hh.2 (by omega)
    have ej : (nI j).toNatClampNeg = j := nI_clamp (by omega)
    refine A_iload_n hE 11 dX9_spare_10 rfl rfl ?_
    refine A_iconst hE 12 dX9_spare_11 rfl (0) rfl ?_
    refine A_bipush hE 14 dX9_spare_12 rfl (99) (by decide) ?_
    refine A_callSi hE 17 (c_X9_in v 0 99) [] dX9_spare_14 rfl mkX9_47 rfl rfl rfl rfl rfl rfl (Nat.le_of_ble_eq_true rfl) (Nat.le_of_ble_eq_true rfl) rfl (fun x14 h14 g14 hp14 hw14 => ?_)
    obtain ⟨rfl, rfl⟩ := hp14
    obtain rfl := Option.some.inj hw14
    refine A_if_ne hE 20 26 dX9_spare_17 rfl rfl (fun c17 => ?_) (fun c17 => ?_)
    · have hq := bI_1 c17
      have hv := And.intro hh hq
      refine A_iconst hE 27 dX9_spare_26 rfl (-1) rfl ?_
      refine A_istore_n hE 28 dX9_spare_27 rfl rfl rfl ?_
      refine A_aload_n hE 29 dX9_spare_28 rfl rfl ?_
      refine A_callVv hE 32 (c_X9_saves s K be er st na pi tr bi sz nu as' im at' op sp us tn sk ip) [0, 1, 2, 3, 4, 5, 6, 7, 8, 9, 10, 11, 12] dX9_spare_29 rfl mkX9_170 rfl rfl rfl rfl rfl rfl rfl (Nat.le_of_ble_eq_true rfl) (Nat.le_of_ble_eq_true rfl) rfl (fun h29 g29 hp29 hw29 => ?_)
      obtain rfl := hp29
      obtain rfl := Option.some.inj hw29
      refine A_h (MW s K (ovr 49 s be) er st na pi tr bi sz nu as' im at' op sp us tn sk ip) rfl ?_
      refine A_iconst hE 33 dX9_spare_32 rfl (0) rfl ?_
      refine A_istore hE 35 dX9_spare_33 rfl rfl rfl ?_
      have hpw := pow_le w1
      have loop : ∀ (m sq : Nat) (f : Option Nat) (na pi : Nat → Int32), sq + m = 2 ^ hn s → (∀ x, f = some x → x < 256) → spM t0 t1 s j v (2 ^ hn s) 0 none = spM t0 t1 s j v m sq f → AW E (rmD 7 0 0) 6 (QM E ad0 13 0 0 (pI fun x0 hz0 => x0 = (spareF t0 t1 s er (nI j) v).1 ∧ ∃ be' na' pi' : Nat → Int32, hz0 = MW (spareF t0 t1 s er (nI j) v).2.1 K be' (spareF t0 t1 s er (nI j) v).2.2 st na' pi' tr bi sz nu as' im at' op sp us tn sk ip)) ad0 13 0 0 35 [(0, .ref 0), (1, .int (nI j)), (2, .int v), (3, .int (optI f)), (4, .int (nI sq))] [] (MW s K (ovr 49 s be) er st na pi tr bi sz nu as' im at' op sp us tn sk ip) := by
        intro m
        induction m with
        | zero =>
          intro sq f na pi hs hf hx
          obtain rfl : sq = 2 ^ hn s := by omega
          refine A_iload hE 37 dX9_spare_35 rfl rfl ?_
          refine A_iconst hE 38 dX9_spare_37 rfl (1) rfl ?_
          refine A_aload_n hE 39 dX9_spare_38 rfl rfl ?_
          refine A_get hE 42 dX9_spare_39 rfl fkX9_7 rfl rfl ?_
          refine A_bipush hE 44 dX9_spare_42 rfl (8) (by decide) ?_
          refine A_iald hE 45 8 dX9_spare_44 rfl rfl rfl (by omega) rfl ?_
          refine A_ishl hE 46 dX9_spare_45 rfl ?_
          rw [w2, shl_all _ (by omega)]
          refine A_icmp_ge hE 49 101 dX9_spare_46 rfl rfl (fun c46 => ?_) (fun c46 => absurd (nI_le (Nat.le_refl _) (by omega)) c46)
          refine A_iload_n hE 102 dX9_spare_101 rfl rfl ?_
          refine A_if_ge hE 105 113 dX9_spare_102 rfl rfl (fun c102 => ?_) (fun c102 => ?_)
          · refine A_iload_n hE 114 dX9_spare_113 rfl rfl ?_
            refine A_iret hE dX9_spare_114 ?_
            cases f with
            | none => exact absurd c102 (by decide)
            | some x =>
              rw [spareF, if_pos hv, ej, hx, spM]
              exact ⟨rfl, _, na, pi, rfl⟩
          · refine A_aload_n hE 106 dX9_spare_105 rfl rfl ?_
            refine A_iconst hE 107 dX9_spare_106 rfl (2) rfl ?_
            refine A_callVi hE 110 (c_X9_error s K (ovr 49 s be) er st na pi tr bi sz nu as' im at' op sp us tn sk ip 2 (by omega)) [0, 1, 2, 3, 4, 5, 6, 7, 8, 9, 10, 11, 12] dX9_spare_107 rfl mkX9_51 rfl rfl rfl rfl rfl rfl rfl (Nat.le_of_ble_eq_true rfl) (Nat.le_of_ble_eq_true rfl) rfl (fun x107 h107 g107 hp107 hw107 => ?_)
            obtain ⟨rfl, rfl⟩ := hp107
            obtain rfl := Option.some.inj hw107
            refine A_h (MW s K (ovr 49 s be) (upd er 2 (er 2 + 1)) st na pi tr bi sz nu as' im at' op sp us tn sk ip) rfl ?_
            refine A_goto hE 114 dX9_spare_110 rfl ?_
            refine A_iret hE dX9_spare_114 ?_
            cases f with
            | some x => exact absurd (nI_pos' (by have := hf x rfl; omega)) c102
            | none =>
              rw [spareF, if_pos hv, ej, hx, spM]
              exact ⟨rfl, _, na, pi, rfl⟩
        | succ m ih =>
          intro sq f na pi hs hf hx
          have hlt : sq < 2 ^ hn s := by omega
          have h256 : sq < 256 := Nat.lt_of_lt_of_le hlt (pow_le w1)
          cases f with
          | none =>
            refine A_iload hE 37 dX9_spare_35 rfl rfl ?_
            refine A_iconst hE 38 dX9_spare_37 rfl (1) rfl ?_
            refine A_aload_n hE 39 dX9_spare_38 rfl rfl ?_
            refine A_get hE 42 dX9_spare_39 rfl fkX9_7 rfl rfl ?_
            refine A_bipush hE 44 dX9_spare_42 rfl (8) (by decide) ?_
            refine A_iald hE 45 8 dX9_spare_44 rfl rfl rfl (by omega) rfl ?_
            refine A_ishl hE 46 dX9_spare_45 rfl ?_
            rw [w2, shl_all _ (by omega)]
            refine A_icmp_ge hE 49 101 dX9_spare_46 rfl rfl (fun c46 => absurd c46 (nI_ge hlt (by omega))) (fun c46 => ?_)
            refine A_iload_n hE 50 dX9_spare_49 rfl rfl ?_
            refine A_if_lt hE 53 65 dX9_spare_50 rfl rfl (fun c50 => ?_) (fun c50 => absurd (by decide) c50)
            refine A_iconst hE 66 dX9_spare_65 rfl (1) rfl ?_
            refine A_goto hE 70 dX9_spare_66 rfl ?_
            refine A_istore hE 72 dX9_spare_70 rfl rfl rfl ?_
            refine A_iload hE 74 dX9_spare_72 rfl rfl ?_
            refine A_if_eq hE 77 93 dX9_spare_74 rfl rfl (fun c74 => absurd c74 (by decide)) (fun c74 => ?_)
            refine A_aload_n hE 78 dX9_spare_77 rfl rfl ?_
            refine A_iload hE 80 dX9_spare_78 rfl rfl ?_
            refine A_iload_n hE 81 dX9_spare_80 rfl rfl ?_
            refine A_callVi hE 84 (c_X9_viewWith s K be er st na pi tr bi sz nu as' im at' op sp us tn sk ip sq j t0 t1 hlt (by omega) w l0 l1) [0, 1, 2, 3, 4, 5, 6, 7, 8, 9, 10, 11, 12] dX9_spare_81 rfl mkX9_189 rfl rfl rfl rfl rfl rfl rfl (Nat.le_of_ble_eq_true rfl) (Nat.le_of_ble_eq_true rfl) rfl (fun x81 h81 g81 hp81 hw81 => ?_)
            obtain ⟨rfl, na1, pi1, rfl⟩ := hp81
            obtain rfl := Option.some.inj hw81
            refine A_h (MW s K (ovr 49 s be) er st na1 pi1 tr bi sz nu as' im at' op sp us tn sk ip) rfl ?_
            refine A_iload_n hE 85 dX9_spare_84 rfl rfl ?_
            refine A_icmp_gt hE 88 93 dX9_spare_85 rfl rfl (fun c85 => ?_) (fun c85 => ?_)
            · have c85 : ¬ dN t0 t1 j (orS sq s) 1 ≤ v := iM c85
              refine A_iload_n hE 94 dX9_spare_93 rfl rfl ?_
              refine A_istore_n hE 95 dX9_spare_94 rfl rfl rfl ?_
              refine A_iinc hE 98 dX9_spare_95 rfl rfl (1) rfl rfl rfl ?_
              rw [nI_1]
              refine A_lv [0, 1, 2, 3, 4] rfl ?_
              refine A_goto hE 35 dX9_spare_98 rfl ?_
              exact ih (sq + 1) none na1 pi1 (by omega) hf (hx.trans (by rw [spM, if_neg (fun z => c85 z.2)]))
            · have c85 : dN t0 t1 j (orS sq s) 1 ≤ v := iL c85
              refine A_iload hE 90 dX9_spare_88 rfl rfl ?_
              refine A_goto hE 94 dX9_spare_90 rfl ?_
              refine A_istore_n hE 95 dX9_spare_94 rfl rfl rfl ?_
              refine A_iinc hE 98 dX9_spare_95 rfl rfl (1) rfl rfl rfl ?_
              rw [nI_1]
              refine A_lv [0, 1, 2, 3, 4] rfl ?_
              refine A_goto hE 35 dX9_spare_98 rfl ?_
              exact ih (sq + 1) (some sq) na1 pi1 (by omega) (fun x hx => by obtain rfl := Option.some.inj hx; omega) (hx.trans (by rw [spM, if_pos ⟨trivial, c85⟩]))
          | some x =>
            refine A_iload hE 37 dX9_spare_35 rfl rfl ?_
            refine A_iconst hE 38 dX9_spare_37 rfl (1) rfl ?_
            refine A_aload_n hE 39 dX9_spare_38 rfl rfl ?_
            refine A_get hE 42 dX9_spare_39 rfl fkX9_7 rfl rfl ?_
            refine A_bipush hE 44 dX9_spare_42 rfl (8) (by decide) ?_
            refine A_iald hE 45 8 dX9_spare_44 rfl rfl rfl (by omega) rfl ?_
            refine A_ishl hE 46 dX9_spare_45 rfl ?_
            rw [w2, shl_all _ (by omega)]
            refine A_icmp_ge hE 49 101 dX9_spare_46 rfl rfl (fun c46 => absurd c46 (nI_ge hlt (by omega))) (fun c46 => ?_)
            refine A_iload_n hE 50 dX9_spare_49 rfl rfl ?_
            refine A_if_lt hE 53 65 dX9_spare_50 rfl rfl (fun c50 => absurd c50 (iN (nI_pos' (by have := hf x rfl; omega)))) (fun c50 => ?_)
            refine A_iload hE 55 dX9_spare_53 rfl rfl ?_
            refine A_callSi hE 58 (c_X9_ones sq (by omega)) [] dX9_spare_55 rfl mkX9_186 rfl rfl rfl rfl rfl rfl (Nat.le_of_ble_eq_true rfl) (Nat.le_of_ble_eq_true rfl) rfl (fun x55 h55 g55 hp55 hw55 => ?_)
            obtain ⟨rfl, rfl⟩ := hp55
            obtain rfl := Option.some.inj hw55
            refine A_iload_n hE 59 dX9_spare_58 rfl rfl ?_
            refine A_callSi hE 62 (c_X9_ones x (hf x rfl)) [] dX9_spare_59 rfl mkX9_186 rfl rfl rfl rfl rfl rfl (Nat.le_of_ble_eq_true rfl) (Nat.le_of_ble_eq_true rfl) rfl (fun x59 h59 g59 hp59 hw59 => ?_)
            obtain ⟨rfl, rfl⟩ := hp59
            obtain rfl := Option.some.inj hw59
            refine A_icmp_ge hE 65 69 dX9_spare_62 rfl rfl (fun c62 => ?_) (fun c62 => ?_)
            · have hp : ¬ isLess sq (some x) := fun z => absurd c62 (nI_ge z (pop_lt x (hf x rfl)))
              refine A_iconst hE 70 dX9_spare_69 rfl (0) rfl ?_
              refine A_istore hE 72 dX9_spare_70 rfl rfl rfl ?_
              refine A_iload hE 74 dX9_spare_72 rfl rfl ?_
              refine A_if_eq hE 77 93 dX9_spare_74 rfl rfl (fun c74 => ?_) (fun c74 => absurd rfl c74)
              refine A_iload_n hE 94 dX9_spare_93 rfl rfl ?_
              refine A_istore_n hE 95 dX9_spare_94 rfl rfl rfl ?_
              refine A_iinc hE 98 dX9_spare_95 rfl rfl (1) rfl rfl rfl ?_
              rw [nI_1]
              refine A_lv [0, 1, 2, 3, 4] rfl ?_
              refine A_goto hE 35 dX9_spare_98 rfl ?_
              exact ih (sq + 1) (some x) na pi (by omega) hf (hx.trans (by rw [spM, if_neg (fun z => hp z.1)]))
            · have hp : isLess sq (some x) := Nat.lt_of_not_le (fun z => c62 (nI_le z (pop_lt sq (by omega))))
              refine A_iconst hE 66 dX9_spare_65 rfl (1) rfl ?_
              refine A_goto hE 70 dX9_spare_66 rfl ?_
              refine A_istore hE 72 dX9_spare_70 rfl rfl rfl ?_
              refine A_iload hE 74 dX9_spare_72 rfl rfl ?_
              refine A_if_eq hE 77 93 dX9_spare_74 rfl rfl (fun c74 => absurd c74 (by decide)) (fun c74 => ?_)
              refine A_aload_n hE 78 dX9_spare_77 rfl rfl ?_
              refine A_iload hE 80 dX9_spare_78 rfl rfl ?_
              refine A_iload_n hE 81 dX9_spare_80 rfl rfl ?_
              refine A_callVi hE 84 (c_X9_viewWith s K be er st na pi tr bi sz nu as' im at' op sp us tn sk ip sq j t0 t1 hlt (by omega) w l0 l1) [0, 1, 2, 3, 4, 5, 6, 7, 8, 9, 10, 11, 12] dX9_spare_81 rfl mkX9_189 rfl rfl rfl rfl rfl rfl rfl (Nat.le_of_ble_eq_true rfl) (Nat.le_of_ble_eq_true rfl) rfl (fun x81 h81 g81 hp81 hw81 => ?_)
              obtain ⟨rfl, na1, pi1, rfl⟩ := hp81
              obtain rfl := Option.some.inj hw81
              refine A_h (MW s K (ovr 49 s be) er st na1 pi1 tr bi sz nu as' im at' op sp us tn sk ip) rfl ?_
              refine A_iload_n hE 85 dX9_spare_84 rfl rfl ?_
              refine A_icmp_gt hE 88 93 dX9_spare_85 rfl rfl (fun c85 => ?_) (fun c85 => ?_)
              · have c85 : ¬ dN t0 t1 j (orS sq s) 1 ≤ v := iM c85
                refine A_iload_n hE 94 dX9_spare_93 rfl rfl ?_
                refine A_istore_n hE 95 dX9_spare_94 rfl rfl rfl ?_
                refine A_iinc hE 98 dX9_spare_95 rfl rfl (1) rfl rfl rfl ?_
                rw [nI_1]
                refine A_lv [0, 1, 2, 3, 4] rfl ?_
                refine A_goto hE 35 dX9_spare_98 rfl ?_
                exact ih (sq + 1) (some x) na1 pi1 (by omega) hf (hx.trans (by rw [spM, if_neg (fun z => c85 z.2)]))
              · have c85 : dN t0 t1 j (orS sq s) 1 ≤ v := iL c85
                refine A_iload hE 90 dX9_spare_88 rfl rfl ?_
                refine A_goto hE 94 dX9_spare_90 rfl ?_
                refine A_istore_n hE 95 dX9_spare_94 rfl rfl rfl ?_
                refine A_iinc hE 98 dX9_spare_95 rfl rfl (1) rfl rfl rfl ?_
                rw [nI_1]
                refine A_lv [0, 1, 2, 3, 4] rfl ?_
                refine A_goto hE 35 dX9_spare_98 rfl ?_
                exact ih (sq + 1) (some sq) na1 pi1 (by omega) (fun x hx => by obtain rfl := Option.some.inj hx; omega) (hx.trans (by rw [spM, if_pos ⟨hp, c85⟩]))
      refine A_lv [0, 1, 2, 3, 4] rfl ?_
      exact loop (2 ^ hn s) 0 none na pi (Nat.zero_add _) (fun x hx => absurd hx (by simp)) rfl
    · have hq := bI_0 c17
      refine A_aload_n hE 21 dX9_spare_20 rfl rfl ?_
      refine A_iconst hE 22 dX9_spare_21 rfl (1) rfl ?_
      refine A_callVi hE 25 (c_X9_error s K be er st na pi tr bi sz nu as' im at' op sp us tn sk ip 1 (by omega)) [0, 1, 2, 3, 4, 5, 6, 7, 8, 9, 10, 11, 12] dX9_spare_22 rfl mkX9_51 rfl rfl rfl rfl rfl rfl rfl (Nat.le_of_ble_eq_true rfl) (Nat.le_of_ble_eq_true rfl) rfl (fun x22 h22 g22 hp22 hw22 => ?_)
      obtain ⟨rfl, rfl⟩ := hp22
      obtain rfl := Option.some.inj hw22
      refine A_h (MW s K be (upd er 1 (er 1 + 1)) st na pi tr bi sz nu as' im at' op sp us tn sk ip) rfl ?_
      refine A_iret hE dX9_spare_25 ?_
      rw [spareF, if_neg (fun z => hq z.2)]
      exact ⟨rfl, be, na, pi, rfl⟩
set_option maxRecDepth 100000 in
theorem c_X9_common (a b : Nat) (ha : a ≤ 1000) (hb : b ≤ 1000) : AMet yX9_common cX9_common 5 (some (.int)) 0 0 0 [.int (nI a), .int (nI b)] [] (pI fun r h => r = nI (Nat.gcd a b) ∧ h = []) := by
  refine AMet.of (by decide +kernel) rfl (fun E ad0 hE => ?_)
  refine A_iload_n hE 1 dX9_common_0 rfl rfl ?_
  refine A_istore_n hE 2 dX9_common_1 rfl rfl rfl ?_
  refine A_iload_n hE 3 dX9_common_2 rfl rfl ?_
  refine A_istore_n hE 4 dX9_common_3 rfl rfl rfl ?_
  have loop : ∀ (f x y : Nat), y ≤ f → x ≤ 1000 → y ≤ 1000 → Nat.gcd x y = Nat.gcd a b → AW E (rmD 0 0 0) 5 (QM E ad0 0 0 0 (pI fun r h => r = nI (Nat.gcd a b) ∧ h = [])) ad0 0 0 0 4 [(0, .int (nI a)), (1, .int (nI b)), (2, .int (nI x)), (3, .int (nI y))] [] [] := by
    intro f
    induction f with
    | zero =>
      intro x y hy hx1 hy1 hg
      obtain rfl : y = 0 := by omega
      refine A_iload_n hE 5 dX9_common_4 rfl rfl ?_
      refine A_if_eq hE 8 21 dX9_common_5 rfl rfl (fun c5 => ?_) (fun c5 => absurd nI_0 c5)
      refine A_iload_n hE 22 dX9_common_21 rfl rfl ?_
      refine A_iret hE dX9_common_22 ?_
      rw [← hg, Nat.gcd_zero_right]
      exact ⟨rfl, rfl⟩
    | succ f ih =>
      intro x y hy hx1 hy1 hg
      refine A_iload_n hE 5 dX9_common_4 rfl rfl ?_
      refine A_if_eq hE 8 21 dX9_common_5 rfl rfl (fun c5 => ?_) (fun c5 => ?_)
      · obtain rfl : y = 0 := (nI_eq (by omega) (by omega)).mp (show nI y = nI 0 from c5)
        refine A_iload_n hE 22 dX9_common_21 rfl rfl ?_
        refine A_iret hE dX9_common_22 ?_
        rw [← hg, Nat.gcd_zero_right]
        exact ⟨rfl, rfl⟩
      · have h0 : 0 < y := Nat.pos_of_ne_zero (fun z => c5 (by rw [z]; rfl))
        have hm := Nat.mod_lt x h0
        refine A_iload_n hE 9 dX9_common_8 rfl rfl ?_
        refine A_iload_n hE 10 dX9_common_9 rfl rfl ?_
        refine A_irem hE 11 dX9_common_10 rfl c5 ?_
        rw [show rm (nI x) (nI y) = nI (x % y) from pk_rem (by omega) h0 (by omega)]
        refine A_istore hE 13 dX9_common_11 rfl rfl rfl ?_
        refine A_iload_n hE 14 dX9_common_13 rfl rfl ?_
        refine A_istore_n hE 15 dX9_common_14 rfl rfl rfl ?_
        refine A_iload hE 17 dX9_common_15 rfl rfl ?_
        refine A_istore_n hE 18 dX9_common_17 rfl rfl rfl ?_
        refine A_lv [0, 1, 2, 3] rfl ?_
        refine A_goto hE 4 dX9_common_18 rfl ?_
        exact ih y (x % y) (by omega) hy1 (by omega) (by rw [Nat.gcd_comm, ← Nat.gcd_rec, Nat.gcd_comm]; exact hg)
  refine A_lv [0, 1, 2, 3] rfl ?_
  exact loop b a b (Nat.le_refl _) ha hb rfl
set_option maxRecDepth 100000 in
theorem c_X9_odds (s K be er st na pi tr bi sz nu as' : Nat → Int32) (im at' op sp us tn sk ip : Int32) (h v n p : Int32) (t0 t1 : Sp) (w : wf s) (l0 : MText s 0 t0) (l1 : MText s 1 t1) : AMet yX9_odds cX9_odds 7 (some (.int)) 6 0 0 [.ref 0, .int h, .int v, .int n, .int p] (MW s K be er st na pi tr bi sz nu as' im at' op sp us tn sk ip) (pI fun x0 hz0 => x0 = (oddsF t0 t1 s er h v n p).1 ∧ ∃ be' na' pi' : Nat → Int32, hz0 = MW (oddsF t0 t1 s er h v n p).2.1 K be' (oddsF t0 t1 s er h v n p).2.2 st na' pi' tr bi sz nu as' im at' op sp us tn sk ip) := by
  refine AMet.of (by decide +kernel) rfl (fun E ad0 hE => ?_)
  obtain ⟨w1, w2, w3, w4, w5, w6, w7⟩ := id w
  refine A_aload_n hE 1 dX9_odds_0 rfl rfl ?_
  refine A_iload_n hE 2 dX9_odds_1 rfl rfl ?_
  refine A_callVi hE 5 (c_X9_isHome s K be er st na pi tr bi sz nu as' im at' op sp us tn sk ip h (hn s) w1 w2) [0, 1, 2, 3, 4, 5, 6, 7, 8, 9, 10, 11, 12] dX9_odds_2 rfl mkX9_156 rfl rfl rfl rfl rfl rfl rfl (Nat.le_of_ble_eq_true rfl) (Nat.le_of_ble_eq_true rfl) rfl (fun x2 h2 g2 hp2 hw2 => ?_)
  obtain ⟨rfl, rfl⟩ := hp2
  obtain rfl := Option.some.inj hw2
  refine A_h (MW s K be er st na pi tr bi sz nu as' im at' op sp us tn sk ip) rfl ?_
  refine A_if_eq hE 8 39 dX9_odds_5 rfl rfl (fun c5 => ?_) (fun c5 => ?_)
  · have hh := bI_0 c5
    refine A_aload_n hE 40 dX9_odds_39 rfl rfl ?_
    refine A_iconst hE 41 dX9_odds_40 rfl (1) rfl ?_
    refine A_callVi hE 44 (c_X9_error s K be er st na pi tr bi sz nu as' im at' op sp us tn sk ip 1 (by omega)) [0, 1, 2, 3, 4, 5, 6, 7, 8, 9, 10, 11, 12] dX9_odds_41 rfl mkX9_51 rfl rfl rfl rfl rfl rfl rfl (Nat.le_of_ble_eq_true rfl) (Nat.le_of_ble_eq_true rfl) rfl (fun x41 h41 g41 hp41 hw41 => ?_)
    obtain ⟨rfl, rfl⟩ := hp41
    obtain rfl := Option.some.inj hw41
    refine A_h (MW s K be (upd er 1 (er 1 + 1)) st na pi tr bi sz nu as' im at' op sp us tn sk ip) rfl ?_
    refine A_iret hE dX9_odds_44 ?_
    rw [oddsF, if_neg (fun z => hh z.1)]
    exact ⟨rfl, be, na, pi, rfl⟩
  · have hh := bI_1 c5
    have hq := hh
    rw [w2] at hq
    obtain ⟨k, hk, rfl⟩ := iK hq.1 hq.2 (by omega)
    have ek : (nI k).toNatClampNeg = k := nI_clamp (by omega)
    refine A_iload_n hE 9 dX9_odds_8 rfl rfl ?_
    refine A_iconst hE 10 dX9_odds_9 rfl (0) rfl ?_
    refine A_sipush hE 13 dX9_odds_10 rfl (9999) (by decide) ?_
    refine A_callSi hE 16 (c_X9_in v 0 9999) [] dX9_odds_13 rfl mkX9_47 rfl rfl rfl rfl rfl rfl (Nat.le_of_ble_eq_true rfl) (Nat.le_of_ble_eq_true rfl) rfl (fun x13 h13 g13 hp13 hw13 => ?_)
    obtain ⟨rfl, rfl⟩ := hp13
    obtain rfl := Option.some.inj hw13
    refine A_if_eq hE 19 39 dX9_odds_16 rfl rfl (fun c16 => ?_) (fun c16 => ?_)
    · have hv := bI_0 c16
      refine A_aload_n hE 40 dX9_odds_39 rfl rfl ?_
      refine A_iconst hE 41 dX9_odds_40 rfl (1) rfl ?_
      refine A_callVi hE 44 (c_X9_error s K be er st na pi tr bi sz nu as' im at' op sp us tn sk ip 1 (by omega)) [0, 1, 2, 3, 4, 5, 6, 7, 8, 9, 10, 11, 12] dX9_odds_41 rfl mkX9_51 rfl rfl rfl rfl rfl rfl rfl (Nat.le_of_ble_eq_true rfl) (Nat.le_of_ble_eq_true rfl) rfl (fun x41 h41 g41 hp41 hw41 => ?_)
      obtain ⟨rfl, rfl⟩ := hp41
      obtain rfl := Option.some.inj hw41
      refine A_h (MW s K be (upd er 1 (er 1 + 1)) st na pi tr bi sz nu as' im at' op sp us tn sk ip) rfl ?_
      refine A_iret hE dX9_odds_44 ?_
      rw [oddsF, if_neg (fun z => hv z.2.1)]
      exact ⟨rfl, be, na, pi, rfl⟩
    · have hv := bI_1 c16
      refine A_iload_n hE 20 dX9_odds_19 rfl rfl ?_
      refine A_iconst hE 21 dX9_odds_20 rfl (0) rfl ?_
      refine A_bipush hE 23 dX9_odds_21 rfl (40) (by decide) ?_
      refine A_callSi hE 26 (c_X9_in n 0 40) [] dX9_odds_23 rfl mkX9_47 rfl rfl rfl rfl rfl rfl (Nat.le_of_ble_eq_true rfl) (Nat.le_of_ble_eq_true rfl) rfl (fun x23 h23 g23 hp23 hw23 => ?_)
      obtain ⟨rfl, rfl⟩ := hp23
      obtain rfl := Option.some.inj hw23
      refine A_if_eq hE 29 39 dX9_odds_26 rfl rfl (fun c26 => ?_) (fun c26 => ?_)
      · have hw := bI_0 c26
        refine A_aload_n hE 40 dX9_odds_39 rfl rfl ?_
        refine A_iconst hE 41 dX9_odds_40 rfl (1) rfl ?_
        refine A_callVi hE 44 (c_X9_error s K be er st na pi tr bi sz nu as' im at' op sp us tn sk ip 1 (by omega)) [0, 1, 2, 3, 4, 5, 6, 7, 8, 9, 10, 11, 12] dX9_odds_41 rfl mkX9_51 rfl rfl rfl rfl rfl rfl rfl (Nat.le_of_ble_eq_true rfl) (Nat.le_of_ble_eq_true rfl) rfl (fun x41 h41 g41 hp41 hw41 => ?_)
        obtain ⟨rfl, rfl⟩ := hp41
        obtain rfl := Option.some.inj hw41
        refine A_h (MW s K be (upd er 1 (er 1 + 1)) st na pi tr bi sz nu as' im at' op sp us tn sk ip) rfl ?_
        refine A_iret hE dX9_odds_44 ?_
        rw [oddsF, if_neg (fun z => hw z.2.2.1)]
        exact ⟨rfl, be, na, pi, rfl⟩
      · have hw := bI_1 c26
        obtain ⟨j, hkj, rfl⟩ := iK2 (n := 40) hw.1 hw.2 (by omega)
        have ej : (nI j).toNatClampNeg = j := nI_clamp (by omega)
        refine A_iload hE 31 dX9_odds_29 rfl rfl ?_
        refine A_iconst hE 32 dX9_odds_31 rfl (0) rfl ?_
        refine A_iconst hE 33 dX9_odds_32 rfl (1) rfl ?_
        refine A_callSi hE 36 (c_X9_in p 0 1) [] dX9_odds_33 rfl mkX9_47 rfl rfl rfl rfl rfl rfl (Nat.le_of_ble_eq_true rfl) (Nat.le_of_ble_eq_true rfl) rfl (fun x33 h33 g33 hp33 hw33 => ?_)
        obtain ⟨rfl, rfl⟩ := hp33
        obtain rfl := Option.some.inj hw33
        refine A_if_ne hE 39 45 dX9_odds_36 rfl rfl (fun c36 => ?_) (fun c36 => ?_)
        · have hp := bI_1 c36
          refine A_iconst hE 46 dX9_odds_45 rfl (0) rfl ?_
          refine A_istore hE 48 dX9_odds_46 rfl rfl rfl ?_
          refine A_aload_n hE 49 dX9_odds_48 rfl rfl ?_
          refine A_callVv hE 52 (c_X9_saves s K be er st na pi tr bi sz nu as' im at' op sp us tn sk ip) [0, 1, 2, 3, 4, 5, 6, 7, 8, 9, 10, 11, 12] dX9_odds_49 rfl mkX9_170 rfl rfl rfl rfl rfl rfl rfl (Nat.le_of_ble_eq_true rfl) (Nat.le_of_ble_eq_true rfl) rfl (fun h49 g49 hp49 hw49 => ?_)
          obtain rfl := hp49
          obtain rfl := Option.some.inj hw49
          refine A_h (MW s K (ovr 49 s be) er st na pi tr bi sz nu as' im at' op sp us tn sk ip) rfl ?_
          refine A_iconst hE 53 dX9_odds_52 rfl (0) rfl ?_
          refine A_istore hE 55 dX9_odds_53 rfl rfl rfl ?_
          have loop : ∀ (m i c : Nat) (na pi : Nat → Int32), i + m = 100 → c ≤ i → lvN t0 t1 s k j v 100 0 0 = lvN t0 t1 s k j v m i c → AW E (rmD 6 0 0) 7 (QM E ad0 13 0 0 (pI fun x0 hz0 => x0 = (oddsF t0 t1 s er (nI k) v (nI j) p).1 ∧ ∃ be' na' pi' : Nat → Int32, hz0 = MW (oddsF t0 t1 s er (nI k) v (nI j) p).2.1 K be' (oddsF t0 t1 s er (nI k) v (nI j) p).2.2 st na' pi' tr bi sz nu as' im at' op sp us tn sk ip)) ad0 13 0 0 55 [(0, .ref 0), (1, .int (nI k)), (2, .int v), (3, .int (nI j)), (4, .int p), (5, .int (nI c)), (6, .int (nI i))] [] (MW s K (ovr 49 s be) er st na pi tr bi sz nu as' im at' op sp us tn sk ip) := by
            intro m
            induction m with
            | zero =>
              intro i c na pi hi hc hx
              obtain rfl : i = 100 := by omega
              have hgp : 0 < Nat.gcd c 100 := Nat.gcd_pos_of_pos_right _ (by omega)
              have hgl : Nat.gcd c 100 ≤ 100 := Nat.gcd_le_right _ (by omega)
              refine A_iload hE 57 dX9_odds_55 rfl rfl ?_
              refine A_bipush hE 59 dX9_odds_57 rfl (100) (by decide) ?_
              refine A_icmp_ge hE 62 105 dX9_odds_59 rfl rfl (fun c59 => ?_) (fun c59 => absurd (nI_le (a := 100) (b := 100) (by omega) (by omega)) c59)
              refine A_iload hE 107 dX9_odds_105 rfl rfl ?_
              refine A_if_ne hE 110 115 dX9_odds_107 rfl rfl (fun c107 => ?_) (fun c107 => ?_)
              · refine A_bipush hE 117 dX9_odds_115 rfl (100) (by decide) ?_
                refine A_iload hE 119 dX9_odds_117 rfl rfl ?_
                refine A_bipush hE 121 dX9_odds_119 rfl (100) (by decide) ?_
                refine A_callSi hE 124 (c_X9_common c 100 (by omega) (by omega)) [] dX9_odds_121 rfl mkX9_192 rfl rfl rfl rfl rfl rfl (Nat.le_of_ble_eq_true rfl) (Nat.le_of_ble_eq_true rfl) rfl (fun x121 h121 g121 hp121 hw121 => ?_)
                obtain ⟨rfl, rfl⟩ := hp121
                obtain rfl := Option.some.inj hw121
                refine A_idiv hE 125 dX9_odds_124 rfl (nI_ne0 hgp (by omega)) ?_
                refine A_iret hE dX9_odds_125 ?_
                rw [oddsF, if_pos ⟨hh, hv, hw, hp⟩, ek, ej, hx, lvN, if_neg c107, show (100 : Int32) / nI (Nat.gcd c 100) = nI (100 / Nat.gcd c 100) from pk_div (a := 100) (by omega) hgp (by omega)]
                exact ⟨rfl, _, na, pi, rfl⟩
              · refine A_iload hE 112 dX9_odds_110 rfl rfl ?_
                refine A_goto hE 117 dX9_odds_112 rfl ?_
                refine A_iload hE 119 dX9_odds_117 rfl rfl ?_
                refine A_bipush hE 121 dX9_odds_119 rfl (100) (by decide) ?_
                refine A_callSi hE 124 (c_X9_common c 100 (by omega) (by omega)) [] dX9_odds_121 rfl mkX9_192 rfl rfl rfl rfl rfl rfl (Nat.le_of_ble_eq_true rfl) (Nat.le_of_ble_eq_true rfl) rfl (fun x121 h121 g121 hp121 hw121 => ?_)
                obtain ⟨rfl, rfl⟩ := hp121
                obtain rfl := Option.some.inj hw121
                refine A_idiv hE 125 dX9_odds_124 rfl (nI_ne0 hgp (by omega)) ?_
                refine A_iret hE dX9_odds_125 ?_
                rw [oddsF, if_pos ⟨hh, hv, hw, hp⟩, ek, ej, hx, lvN, if_pos c107, show nI c / nI (Nat.gcd c 100) = nI (c / Nat.gcd c 100) from pk_div (a := c) (by omega) hgp (by omega)]
                exact ⟨rfl, _, na, pi, rfl⟩
            | succ m ih =>
              intro i c na pi hi hc hx
              refine A_iload hE 57 dX9_odds_55 rfl rfl ?_
              refine A_bipush hE 59 dX9_odds_57 rfl (100) (by decide) ?_
              refine A_icmp_ge hE 62 105 dX9_odds_59 rfl rfl (fun c59 => absurd c59 (nI_ge (a := i) (b := 100) (by omega) (by omega))) (fun c59 => ?_)
              refine A_aload_n hE 63 dX9_odds_62 rfl rfl ?_
              refine A_get hE 66 dX9_odds_63 rfl fkX9_7 rfl rfl ?_
              refine A_iconst hE 67 dX9_odds_66 rfl (1) rfl ?_
              refine A_iload hE 69 dX9_odds_67 rfl rfl ?_
              refine A_iast hE 70 1 dX9_odds_69 rfl rfl rfl (by omega) rfl rfl ?_
              refine A_aload_n hE 71 dX9_odds_70 rfl rfl ?_
              refine A_iload_n hE 72 dX9_odds_71 rfl rfl ?_
              refine A_callVv hE 75 (c_X9_goesOn (upd s 1 (nI i)) K (ovr 49 s be) er st na pi tr bi sz nu as' im at' op sp us tn sk ip t0 t1 j (by omega) (wf_lo (Or.inr (Or.inl rfl)) w) (l0.lo (by omega)) (l1.lo (by omega))) [0, 1, 2, 3, 4, 5, 6, 7, 8, 9, 10, 11, 12] dX9_odds_72 rfl mkX9_165 rfl rfl rfl rfl rfl rfl rfl (Nat.le_of_ble_eq_true rfl) (Nat.le_of_ble_eq_true rfl) rfl (fun h72 g72 hp72 hw72 => ?_)
              obtain ⟨na1, pi1, rfl⟩ := hp72
              obtain rfl := Option.some.inj hw72
              refine A_h (MW (dN t0 t1 j (upd s 1 (nI i))) K (ovr 49 s be) er st na1 pi1 tr bi sz nu as' im at' op sp us tn sk ip) rfl ?_
              refine A_iload hE 77 dX9_odds_75 rfl rfl ?_
              refine A_aload_n hE 78 dX9_odds_77 rfl rfl ?_
              refine A_iload_n hE 79 dX9_odds_78 rfl rfl ?_
              refine A_iconst hE 80 dX9_odds_79 rfl (2) rfl ?_
              refine A_callVi hE 83 (c_X9_its (dN t0 t1 j (upd s 1 (nI i))) K (ovr 49 s be) er st na1 pi1 tr bi sz nu as' im at' op sp us tn sk ip (nI k) 2 k 2 rfl rfl (by omega) (by omega)) [0, 1, 2, 3, 4, 5, 6, 7, 8, 9, 10, 11, 12] dX9_odds_80 rfl mkX9_111 rfl rfl rfl rfl rfl rfl rfl (Nat.le_of_ble_eq_true rfl) (Nat.le_of_ble_eq_true rfl) rfl (fun x80 h80 g80 hp80 hw80 => ?_)
              obtain ⟨rfl, rfl⟩ := hp80
              obtain rfl := Option.some.inj hw80
              refine A_h (MW (dN t0 t1 j (upd s 1 (nI i))) K (ovr 49 s be) er st na1 pi1 tr bi sz nu as' im at' op sp us tn sk ip) rfl ?_
              refine A_iload_n hE 84 dX9_odds_83 rfl rfl ?_
              refine A_icmp_lt hE 87 91 dX9_odds_84 rfl rfl (fun c84 => ?_) (fun c84 => ?_)
              · refine A_iconst hE 92 dX9_odds_91 rfl (0) rfl ?_
                refine A_iadd hE 93 dX9_odds_92 rfl ?_
                refine A_istore hE 95 dX9_odds_93 rfl rfl rfl ?_
                refine A_aload_n hE 96 dX9_odds_95 rfl rfl ?_
                refine A_callVv hE 99 (c_X9_putsBack (dN t0 t1 j (upd s 1 (nI i))) K (ovr 49 s be) er st na1 pi1 tr bi sz nu as' im at' op sp us tn sk ip) [0, 1, 2, 3, 4, 5, 6, 7, 8, 9, 10, 11, 12] dX9_odds_96 rfl mkX9_176 rfl rfl rfl rfl rfl rfl rfl (Nat.le_of_ble_eq_true rfl) (Nat.le_of_ble_eq_true rfl) rfl (fun h96 g96 hp96 hw96 => ?_)
                obtain rfl := hp96
                obtain rfl := Option.some.inj hw96
                refine A_h (MW s K (ovr 49 s be) er st na1 pi1 tr bi sz nu as' im at' op sp us tn sk ip) (by rw [back_eq (fun z hz => by rw [dN_hi hz j (wf_lo (Or.inr (Or.inl rfl)) w), upd_hi (by omega) hz])]; rfl) ?_
                refine A_iinc hE 102 dX9_odds_99 rfl rfl (1) rfl rfl rfl ?_
                rw [Int32.add_zero, nI_1]
                refine A_lv [0, 1, 2, 3, 4, 5, 6] rfl ?_
                refine A_goto hE 55 dX9_odds_102 rfl ?_
                exact ih (i + 1) c na1 pi1 (by omega) (by omega) (hx.trans (by rw [lvN, if_neg (iM c84)]))
              · refine A_iconst hE 88 dX9_odds_87 rfl (1) rfl ?_
                refine A_goto hE 92 dX9_odds_88 rfl ?_
                refine A_iadd hE 93 dX9_odds_92 rfl ?_
                refine A_istore hE 95 dX9_odds_93 rfl rfl rfl ?_
                refine A_aload_n hE 96 dX9_odds_95 rfl rfl ?_
                refine A_callVv hE 99 (c_X9_putsBack (dN t0 t1 j (upd s 1 (nI i))) K (ovr 49 s be) er st na1 pi1 tr bi sz nu as' im at' op sp us tn sk ip) [0, 1, 2, 3, 4, 5, 6, 7, 8, 9, 10, 11, 12] dX9_odds_96 rfl mkX9_176 rfl rfl rfl rfl rfl rfl rfl (Nat.le_of_ble_eq_true rfl) (Nat.le_of_ble_eq_true rfl) rfl (fun h96 g96 hp96 hw96 => ?_)
                obtain rfl := hp96
                obtain rfl := Option.some.inj hw96
                refine A_h (MW s K (ovr 49 s be) er st na1 pi1 tr bi sz nu as' im at' op sp us tn sk ip) (by rw [back_eq (fun z hz => by rw [dN_hi hz j (wf_lo (Or.inr (Or.inl rfl)) w), upd_hi (by omega) hz])]; rfl) ?_
                refine A_iinc hE 102 dX9_odds_99 rfl rfl (1) rfl rfl rfl ?_
                rw [nI_1, nI_1]
                refine A_lv [0, 1, 2, 3, 4, 5, 6] rfl ?_
                refine A_goto hE 55 dX9_odds_102 rfl ?_
                exact ih (i + 1) (c + 1) na1 pi1 (by omega) (by omega) (hx.trans (by rw [lvN, if_pos (iL c84)]))
          refine A_lv [0, 1, 2, 3, 4, 5, 6] rfl ?_
          exact loop 100 0 0 na pi rfl (Nat.le_refl _) rfl
        · have hp := bI_0 c36
          refine A_aload_n hE 40 dX9_odds_39 rfl rfl ?_
          refine A_iconst hE 41 dX9_odds_40 rfl (1) rfl ?_
          refine A_callVi hE 44 (c_X9_error s K be er st na pi tr bi sz nu as' im at' op sp us tn sk ip 1 (by omega)) [0, 1, 2, 3, 4, 5, 6, 7, 8, 9, 10, 11, 12] dX9_odds_41 rfl mkX9_51 rfl rfl rfl rfl rfl rfl rfl (Nat.le_of_ble_eq_true rfl) (Nat.le_of_ble_eq_true rfl) rfl (fun x41 h41 g41 hp41 hw41 => ?_)
          obtain ⟨rfl, rfl⟩ := hp41
          obtain rfl := Option.some.inj hw41
          refine A_h (MW s K be (upd er 1 (er 1 + 1)) st na pi tr bi sz nu as' im at' op sp us tn sk ip) rfl ?_
          refine A_iret hE dX9_odds_44 ?_
          rw [oddsF, if_neg (fun z => hp z.2.2.2)]
          exact ⟨rfl, be, na, pi, rfl⟩
set_option maxRecDepth 100000 in
theorem c_X9_feed (s K be er st na pi tr bi sz nu as' : Nat → Int32) (im at' op sp us tn sk ip : Int32) (c : Int64) (m : Int32) (t : Nat) (ht6 : t ≤ 60) (h6 : s 6 = nI t) : AMet yX9_feed cX9_feed 5 (some (.int)) 1 0 0 [.ref 0, .long c, .int m] (MW s K be er st na pi tr bi sz nu as' im at' op sp us tn sk ip) (pI fun x0 hz0 => x0 = (feedF s er c m).1 ∧ hz0 = MW (feedF s er c m).2.1 K be (feedF s er c m).2.2 st na pi tr bi sz nu as' im at' op sp us tn sk ip) := by
  refine AMet.of (by decide +kernel) rfl (fun E ad0 hE => ?_)
  refine A_iload_n hE 1 dX9_feed_0 rfl rfl ?_
  refine A_iconst hE 2 dX9_feed_1 rfl (1) rfl ?_
  refine A_bipush hE 4 dX9_feed_2 rfl (8) (by decide) ?_
  refine A_callSi hE 7 (c_X9_in m 1 8) [] dX9_feed_4 rfl mkX9_47 rfl rfl rfl rfl rfl rfl (Nat.le_of_ble_eq_true rfl) (Nat.le_of_ble_eq_true rfl) rfl (fun x4 h4 g4 hp4 hw4 => ?_)
  obtain ⟨rfl, rfl⟩ := hp4
  obtain rfl := Option.some.inj hw4
  refine A_if_ne hE 10 16 dX9_feed_7 rfl rfl (fun c7 => ?_) (fun c7 => ?_)
  · have hh := bI_1 c7
    obtain ⟨j, hkj, rfl⟩ := iK2 (n := 8) (Int32.le_trans (show (0 : Int32) ≤ 1 by decide) hh.1) hh.2 (by omega)
    have ej : (nI j).toNatClampNeg = j := nI_clamp (by omega)
    refine A_aload_n hE 17 dX9_feed_16 rfl rfl ?_
    refine A_get hE 20 dX9_feed_17 rfl fkX9_7 rfl rfl ?_
    refine A_bipush hE 22 dX9_feed_20 rfl (6) (by decide) ?_
    refine A_iald hE 23 6 dX9_feed_22 rfl rfl rfl (by omega) rfl ?_
    refine A_iload_n hE 24 dX9_feed_23 rfl rfl ?_
    refine A_iadd hE 25 dX9_feed_24 rfl ?_
    refine A_bipush hE 27 dX9_feed_25 rfl (60) (by decide) ?_
    refine A_icmp_le hE 30 36 dX9_feed_27 rfl rfl (fun c27 => ?_) (fun c27 => ?_)
    · have hfu := iN c27
      refine A_iconst hE 37 dX9_feed_36 rfl (0) rfl ?_
      refine A_istore hE 39 dX9_feed_37 rfl rfl rfl ?_
      have loop : ∀ (r i t : Nat) (s' : Nat → Int32), i + r = j → t + r ≤ 60 → s' 6 = nI t → feedN c j 0 s = feedN c r i s' → AW E (rmD 1 0 0) 5 (QM E ad0 13 0 0 (pI fun x0 hz0 => x0 = (feedF s er c (nI j)).1 ∧ hz0 = MW (feedF s er c (nI j)).2.1 K be (feedF s er c (nI j)).2.2 st na pi tr bi sz nu as' im at' op sp us tn sk ip)) ad0 13 0 0 39 [(0, .ref 0), (1, .long c), (3, .int (nI j)), (4, .int (nI i))] [] (MW s' K be er st na pi tr bi sz nu as' im at' op sp us tn sk ip) := by
        intro r
        induction r with
        | zero =>
          intro i t s' hi ht h6 hx
          obtain rfl : i = j := by omega
          refine A_iload hE 41 dX9_feed_39 rfl rfl ?_
          refine A_iload_n hE 42 dX9_feed_41 rfl rfl ?_
          refine A_icmp_ge hE 45 90 dX9_feed_42 rfl rfl (fun c42 => ?_) (fun c42 => absurd (nI_le (Nat.le_refl _) (by omega)) c42)
          refine A_aload_n hE 91 dX9_feed_90 rfl rfl ?_
          refine A_get hE 94 dX9_feed_91 rfl fkX9_7 rfl rfl ?_
          refine A_bipush hE 96 dX9_feed_94 rfl (6) (by decide) ?_
          refine A_iald hE 97 6 dX9_feed_96 rfl rfl rfl (by omega) rfl ?_
          refine A_iret hE dX9_feed_97 ?_
          rw [feedF, if_pos hh, if_neg hfu, ej, hx, feedN]
          exact ⟨rfl, rfl⟩
        | succ r ih =>
          intro i t s' hi ht h6 hx
          refine A_iload hE 41 dX9_feed_39 rfl rfl ?_
          refine A_iload_n hE 42 dX9_feed_41 rfl rfl ?_
          refine A_icmp_ge hE 45 90 dX9_feed_42 rfl rfl (fun c42 => absurd c42 (nI_ge (a := i) (b := j) (by omega) (by omega))) (fun c42 => ?_)
          refine A_aload_n hE 46 dX9_feed_45 rfl rfl ?_
          refine A_get hE 49 dX9_feed_46 rfl fkX9_7 rfl rfl ?_
          refine A_sipush hE 52 dX9_feed_49 rfl (299) (by decide) ?_
          refine A_aload_n hE 53 dX9_feed_52 rfl rfl ?_
          refine A_get hE 56 dX9_feed_53 rfl fkX9_7 rfl rfl ?_
          refine A_bipush hE 58 dX9_feed_56 rfl (6) (by decide) ?_
          refine A_iald hE 59 6 dX9_feed_58 rfl rfl rfl (by omega) rfl ?_
          refine A_iadd hE 60 dX9_feed_59 rfl ?_
          refine A_lload_n hE 61 dX9_feed_60 rfl rfl ?_
          refine A_bipush hE 63 dX9_feed_61 rfl (8) (by decide) ?_
          refine A_iload hE 65 dX9_feed_63 rfl rfl ?_
          refine A_imul hE 66 dX9_feed_65 rfl ?_
          refine A_lshr hE 67 dX9_feed_66 rfl ?_
          refine A_ldc2 hE 70 dX9_feed_67 rfl kkX9_55 ?_
          refine A_land hE 71 dX9_feed_70 rfl ?_
          refine A_l2i hE 72 dX9_feed_71 rfl ?_
          refine A_iast hE 73 (299 + t) dX9_feed_72 rfl rfl (by rw [h6]; exact nI_add 299 t) (by omega) rfl rfl ?_
          refine A_aload_n hE 74 dX9_feed_73 rfl rfl ?_
          refine A_get hE 77 dX9_feed_74 rfl fkX9_7 rfl rfl ?_
          refine A_bipush hE 79 dX9_feed_77 rfl (6) (by decide) ?_
          refine A_dup2 hE 80 dX9_feed_79 rfl rfl rfl ?_
          refine A_iald hE 81 6 dX9_feed_80 rfl rfl rfl (by omega) rfl ?_
          rw [upd_n (by omega), h6]
          refine A_iconst hE 82 dX9_feed_81 rfl (1) rfl ?_
          refine A_iadd hE 83 dX9_feed_82 rfl ?_
          refine A_iast hE 84 6 dX9_feed_83 rfl rfl rfl (by omega) rfl rfl ?_
          refine A_iinc hE 87 dX9_feed_84 rfl rfl (1) rfl rfl rfl ?_
          rw [nI_1, nI_1]
          refine A_lv [0, 1, 3, 4] rfl ?_
          refine A_goto hE 39 dX9_feed_87 rfl ?_
          exact ih (i + 1) (t + 1) _ (by omega) (by omega) (upd_s) (hx.trans (by rw [feedN, h6, nI_clamp (by omega), nI_1]; rfl))
      refine A_lv [0, 1, 3, 4] rfl ?_
      exact loop j 0 t s (Nat.zero_add _) (by have hfu := iL hfu; rw [h6, nI_add] at hfu; exact (nI_leI (b := 60) (by omega) (by omega)).mp hfu) h6 rfl
    · refine A_aload_n hE 31 dX9_feed_30 rfl rfl ?_
      refine A_iconst hE 32 dX9_feed_31 rfl (4) rfl ?_
      refine A_callVi hE 35 (c_X9_error s K be er st na pi tr bi sz nu as' im at' op sp us tn sk ip 4 (by omega)) [0, 1, 2, 3, 4, 5, 6, 7, 8, 9, 10, 11, 12] dX9_feed_32 rfl mkX9_51 rfl rfl rfl rfl rfl rfl rfl (Nat.le_of_ble_eq_true rfl) (Nat.le_of_ble_eq_true rfl) rfl (fun x32 h32 g32 hp32 hw32 => ?_)
      obtain ⟨rfl, rfl⟩ := hp32
      obtain rfl := Option.some.inj hw32
      refine A_h (MW s K be (upd er 4 (er 4 + 1)) st na pi tr bi sz nu as' im at' op sp us tn sk ip) rfl ?_
      refine A_iret hE dX9_feed_35 ?_
      rw [feedF, if_pos hh, if_pos (iG c27)]
      exact ⟨rfl, rfl⟩
  · have hh := bI_0 c7
    refine A_aload_n hE 11 dX9_feed_10 rfl rfl ?_
    refine A_iconst hE 12 dX9_feed_11 rfl (1) rfl ?_
    refine A_callVi hE 15 (c_X9_error s K be er st na pi tr bi sz nu as' im at' op sp us tn sk ip 1 (by omega)) [0, 1, 2, 3, 4, 5, 6, 7, 8, 9, 10, 11, 12] dX9_feed_12 rfl mkX9_51 rfl rfl rfl rfl rfl rfl rfl (Nat.le_of_ble_eq_true rfl) (Nat.le_of_ble_eq_true rfl) rfl (fun x12 h12 g12 hp12 hw12 => ?_)
    obtain ⟨rfl, rfl⟩ := hp12
    obtain rfl := Option.some.inj hw12
    refine A_h (MW s K be (upd er 1 (er 1 + 1)) st na pi tr bi sz nu as' im at' op sp us tn sk ip) rfl ?_
    refine A_iret hE dX9_feed_15 ?_
    rw [feedF, if_neg hh]
    exact ⟨rfl, rfl⟩
