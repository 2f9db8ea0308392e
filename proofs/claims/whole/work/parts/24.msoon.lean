def untellF (s : St) (er : Nat → Int32) (u : Int32) : Rs := if 0 ≤ u ∧ u ≤ 1 then (if 0 < s (49 + 125 * u.toNatClampNeg) then 1 else 0, upd s (49 + 125 * u.toNatClampNeg) 0, er) else bad 1 s er
def duM (t0 t1 : Sp) (k : Nat) (v : Int32) : Nat → Nat → St → Int32
  | 0, d, _ => nI d
  | m + 1, d, J => if v ≤ its J k 2 then nI d else duM t0 t1 k v m (d + 1) (day1 t0 t1 J)
def soonF (t0 t1 : Sp) (s : St) (er : Nat → Int32) (h v : Int32) : Rs := if (0 ≤ h ∧ h < s 8) ∧ (0 ≤ v ∧ v ≤ 9999) then (if 60 < duM t0 t1 h.toNatClampNeg v 61 0 s then bad 2 s er else (duM t0 t1 h.toNatClampNeg v 61 0 s, s, er)) else bad 1 s er
def ssM (t0 t1 : Sp) (s : St) (k n : Nat) : Nat → Nat → Int32 × Int32 → Int32 × Int32
  | 0, _, q => q
  | m + 1, a, q => ssM t0 t1 s k n m (a + 1) (if q.2 < its (dN t0 t1 n (upd s 4 (nI a))) k 2 then (nI a, its (dN t0 t1 n (upd s 4 (nI a))) k 2) else q)
def startF (t0 t1 : Sp) (s : St) (er : Nat → Int32) (h n what : Int32) : Rs := if (0 ≤ h ∧ h < s 8) ∧ ((0 ≤ n ∧ n ≤ 40) ∧ (0 ≤ what ∧ what ≤ 1)) then (if what = 0 then (ssM t0 t1 s h.toNatClampNeg n.toNatClampNeg (hn s) 0 (0, -1)).1 else (ssM t0 t1 s h.toNatClampNeg n.toNatClampNeg (hn s) 0 (0, -1)).2, s, er) else bad 1 s er
theorem upd_upd {s : St} {k : Nat} {a b : Int32} : upd (upd s k a) k b = upd s k b := by
  funext z
  by_cases h : z = k
  · rw [h, upd_s, upd_s]
  · rw [upd_n h, upd_n h, upd_n h]
theorem MT_draw {s : St} {u : Nat} {ss : Sp} (h : MText s u ss) : MText (drawS s) u ss := by
  unfold drawS
  split
  · exact (h.lo (by omega)).lo (by omega)
  · exact h
theorem hn_4 {s : St} {v : Int32} : hn (upd s 4 v) = hn s := by unfold hn; rw [upd_n (by omega)]
theorem or_split {P Q : Prop} (h : ¬ (P ∧ Q)) (p : P) : ¬ Q := fun q => h ⟨p, q⟩

set_option maxRecDepth 100000 in
theorem c_X9_set (s K be er st na pi tr bi sz nu as' : Nat → Int32) (im at' op sp us tn sk ip : Int32) (what v : Int32) : AMet yX9_set cX9_set 4 (some (.int)) 2 0 0 [.ref 0, .int what, .int v] (MW s K be er st na pi tr bi sz nu as' im at' op sp us tn sk ip) (pI fun x0 hz0 => x0 = (setF s er what v).1 ∧ hz0 = MW (setF s er what v).2.1 K be (setF s er what v).2.2 st na pi tr bi sz nu as' im at' op sp us tn sk ip) := by
  refine AMet.of (by decide +kernel) rfl (fun E ad0 hE => ?_)
  refine A_iload_n hE 1 dX9_set_0 rfl rfl ?_
  refine A_iconst hE 2 dX9_set_1 rfl (0) rfl ?_
  refine A_iconst hE 3 dX9_set_2 rfl (2) rfl ?_
  refine A_callSi hE 6 (c_X9_in what 0 2) [] dX9_set_3 rfl mkX9_47 rfl rfl rfl rfl rfl rfl (Nat.le_of_ble_eq_true rfl) (Nat.le_of_ble_eq_true rfl) rfl (fun x3 h3 g3 hp3 hw3 => ?_)
  obtain ⟨rfl, rfl⟩ := hp3
  obtain rfl := Option.some.inj hw3
  refine A_if_eq hE 9 42 dX9_set_6 rfl rfl (fun c6 => ?_) (fun c6 => ?_)
  · have hh := bI_0 c6
    refine A_iconst hE 43 dX9_set_42 rfl (0) rfl ?_
    refine A_istore_n hE 44 dX9_set_43 rfl rfl rfl ?_
    refine A_iload_n hE 45 dX9_set_44 rfl rfl ?_
    refine A_if_eq hE 48 59 dX9_set_45 rfl rfl (fun c45 => ?_) (fun c45 => absurd rfl c45)
    refine A_aload_n hE 60 dX9_set_59 rfl rfl ?_
    refine A_iconst hE 61 dX9_set_60 rfl (1) rfl ?_
    refine A_callVi hE 64 (c_X9_error s K be er st na pi tr bi sz nu as' im at' op sp us tn sk ip 1 (by omega)) [0, 1, 2, 3, 4, 5, 6, 7, 8, 9, 10, 11, 12] dX9_set_61 rfl mkX9_51 rfl rfl rfl rfl rfl rfl rfl (Nat.le_of_ble_eq_true rfl) (Nat.le_of_ble_eq_true rfl) rfl (fun x61 h61 g61 hp61 hw61 => ?_)
    obtain ⟨rfl, rfl⟩ := hp61
    obtain rfl := Option.some.inj hw61
    refine A_h (MW s K be (upd er 1 (er 1 + 1)) st na pi tr bi sz nu as' im at' op sp us tn sk ip) rfl ?_
    refine A_iret hE dX9_set_64 ?_
    rw [setF, if_neg (fun z => hh z.1)]
    exact ⟨rfl, rfl⟩
  · have hh := bI_1 c6
    obtain ⟨k, hkk, rfl⟩ := iK2 (n := 2) hh.1 hh.2 (by omega)
    have ek : (nI k).toNatClampNeg = k := nI_clamp (by omega)
    refine A_iload_n hE 10 dX9_set_9 rfl rfl ?_
    refine A_iload_n hE 11 dX9_set_10 rfl rfl ?_
    refine A_iconst hE 12 dX9_set_11 rfl (2) rfl ?_
    refine A_icmp_ne hE 15 19 dX9_set_12 rfl rfl (fun c12 => ?_) (fun c12 => ?_)
    · refine A_iconst hE 20 dX9_set_19 rfl (0) rfl ?_
      refine A_iload_n hE 21 dX9_set_20 rfl rfl ?_
      refine A_iconst hE 22 dX9_set_21 rfl (2) rfl ?_
      refine A_icmp_ne hE 25 30 dX9_set_22 rfl rfl (fun c22 => ?_) (fun c22 => absurd c22 c12)
      refine A_bipush hE 32 dX9_set_30 rfl (99) (by decide) ?_
      refine A_callSi hE 35 (c_X9_in v 0 99) [] dX9_set_32 rfl mkX9_47 rfl rfl rfl rfl rfl rfl (Nat.le_of_ble_eq_true rfl) (Nat.le_of_ble_eq_true rfl) rfl (fun x32 h32 g32 hp32 hw32 => ?_)
      obtain ⟨rfl, rfl⟩ := hp32
      obtain rfl := Option.some.inj hw32
      refine A_if_eq hE 38 42 dX9_set_35 rfl rfl (fun c35 => ?_) (fun c35 => ?_)
      · have hv := bI_0 c35
        refine A_iconst hE 43 dX9_set_42 rfl (0) rfl ?_
        refine A_istore_n hE 44 dX9_set_43 rfl rfl rfl ?_
        refine A_iload_n hE 45 dX9_set_44 rfl rfl ?_
        refine A_if_eq hE 48 59 dX9_set_45 rfl rfl (fun c45 => ?_) (fun c45 => absurd rfl c45)
        refine A_aload_n hE 60 dX9_set_59 rfl rfl ?_
        refine A_iconst hE 61 dX9_set_60 rfl (1) rfl ?_
        refine A_callVi hE 64 (c_X9_error s K be er st na pi tr bi sz nu as' im at' op sp us tn sk ip 1 (by omega)) [0, 1, 2, 3, 4, 5, 6, 7, 8, 9, 10, 11, 12] dX9_set_61 rfl mkX9_51 rfl rfl rfl rfl rfl rfl rfl (Nat.le_of_ble_eq_true rfl) (Nat.le_of_ble_eq_true rfl) rfl (fun x61 h61 g61 hp61 hw61 => ?_)
        obtain ⟨rfl, rfl⟩ := hp61
        obtain rfl := Option.some.inj hw61
        refine A_h (MW s K be (upd er 1 (er 1 + 1)) st na pi tr bi sz nu as' im at' op sp us tn sk ip) rfl ?_
        refine A_iret hE dX9_set_64 ?_
        rw [setF, if_neg (fun z => hv (by have z := z.2; rw [if_neg c12, if_neg c12] at z; exact z))]
        exact ⟨rfl, rfl⟩
      · have hv := bI_1 c35
        refine A_iconst hE 39 dX9_set_38 rfl (1) rfl ?_
        refine A_goto hE 43 dX9_set_39 rfl ?_
        refine A_istore_n hE 44 dX9_set_43 rfl rfl rfl ?_
        refine A_iload_n hE 45 dX9_set_44 rfl rfl ?_
        refine A_if_eq hE 48 59 dX9_set_45 rfl rfl (fun c45 => absurd c45 (by decide)) (fun c45 => ?_)
        refine A_aload_n hE 49 dX9_set_48 rfl rfl ?_
        refine A_iconst hE 50 dX9_set_49 rfl (1) rfl ?_
        refine A_iload_n hE 51 dX9_set_50 rfl rfl ?_
        refine A_iadd hE 52 dX9_set_51 rfl ?_
        refine A_iload_n hE 53 dX9_set_52 rfl rfl ?_
        refine A_callVi hE 56 (c_X9_change1 s K be er st na pi tr bi sz nu as' im at' op sp us tn sk ip _ (1 + k) v (by exact nI_add 1 k) (by omega)) [0, 1, 2, 3, 4, 5, 6, 7, 8, 9, 10, 11, 12] dX9_set_53 rfl mkX9_162 rfl rfl rfl rfl rfl rfl rfl (Nat.le_of_ble_eq_true rfl) (Nat.le_of_ble_eq_true rfl) rfl (fun x53 h53 g53 hp53 hw53 => ?_)
        obtain ⟨rfl, rfl⟩ := hp53
        obtain rfl := Option.some.inj hw53
        refine A_h (MW (upd s (1 + k) v) K be er st na pi tr bi sz nu as' im at' op sp us tn sk ip) rfl ?_
        refine A_goto hE 64 dX9_set_56 rfl ?_
        refine A_iret hE dX9_set_64 ?_
        rw [setF, if_pos ⟨hh, by rw [if_neg c12, if_neg c12]; exact hv⟩, ek]
        exact ⟨rfl, rfl⟩
    · refine A_iconst hE 16 dX9_set_15 rfl (1) rfl ?_
      refine A_goto hE 20 dX9_set_16 rfl ?_
      refine A_iload_n hE 21 dX9_set_20 rfl rfl ?_
      refine A_iconst hE 22 dX9_set_21 rfl (2) rfl ?_
      refine A_icmp_ne hE 25 30 dX9_set_22 rfl rfl (fun c22 => absurd c12 c22) (fun c22 => ?_)
      refine A_bipush hE 27 dX9_set_25 rfl (40) (by decide) ?_
      refine A_goto hE 32 dX9_set_27 rfl ?_
      refine A_callSi hE 35 (c_X9_in v 1 40) [] dX9_set_32 rfl mkX9_47 rfl rfl rfl rfl rfl rfl (Nat.le_of_ble_eq_true rfl) (Nat.le_of_ble_eq_true rfl) rfl (fun x32 h32 g32 hp32 hw32 => ?_)
      obtain ⟨rfl, rfl⟩ := hp32
      obtain rfl := Option.some.inj hw32
      refine A_if_eq hE 38 42 dX9_set_35 rfl rfl (fun c35 => ?_) (fun c35 => ?_)
      · have hv := bI_0 c35
        refine A_iconst hE 43 dX9_set_42 rfl (0) rfl ?_
        refine A_istore_n hE 44 dX9_set_43 rfl rfl rfl ?_
        refine A_iload_n hE 45 dX9_set_44 rfl rfl ?_
        refine A_if_eq hE 48 59 dX9_set_45 rfl rfl (fun c45 => ?_) (fun c45 => absurd rfl c45)
        refine A_aload_n hE 60 dX9_set_59 rfl rfl ?_
        refine A_iconst hE 61 dX9_set_60 rfl (1) rfl ?_
        refine A_callVi hE 64 (c_X9_error s K be er st na pi tr bi sz nu as' im at' op sp us tn sk ip 1 (by omega)) [0, 1, 2, 3, 4, 5, 6, 7, 8, 9, 10, 11, 12] dX9_set_61 rfl mkX9_51 rfl rfl rfl rfl rfl rfl rfl (Nat.le_of_ble_eq_true rfl) (Nat.le_of_ble_eq_true rfl) rfl (fun x61 h61 g61 hp61 hw61 => ?_)
        obtain ⟨rfl, rfl⟩ := hp61
        obtain rfl := Option.some.inj hw61
        refine A_h (MW s K be (upd er 1 (er 1 + 1)) st na pi tr bi sz nu as' im at' op sp us tn sk ip) rfl ?_
        refine A_iret hE dX9_set_64 ?_
        rw [setF, if_neg (fun z => hv (by have z := z.2; rw [if_pos c12, if_pos c12] at z; exact z))]
        exact ⟨rfl, rfl⟩
      · have hv := bI_1 c35
        refine A_iconst hE 39 dX9_set_38 rfl (1) rfl ?_
        refine A_goto hE 43 dX9_set_39 rfl ?_
        refine A_istore_n hE 44 dX9_set_43 rfl rfl rfl ?_
        refine A_iload_n hE 45 dX9_set_44 rfl rfl ?_
        refine A_if_eq hE 48 59 dX9_set_45 rfl rfl (fun c45 => absurd c45 (by decide)) (fun c45 => ?_)
        refine A_aload_n hE 49 dX9_set_48 rfl rfl ?_
        refine A_iconst hE 50 dX9_set_49 rfl (1) rfl ?_
        refine A_iload_n hE 51 dX9_set_50 rfl rfl ?_
        refine A_iadd hE 52 dX9_set_51 rfl ?_
        refine A_iload_n hE 53 dX9_set_52 rfl rfl ?_
        refine A_callVi hE 56 (c_X9_change1 s K be er st na pi tr bi sz nu as' im at' op sp us tn sk ip _ (1 + k) v (by exact nI_add 1 k) (by omega)) [0, 1, 2, 3, 4, 5, 6, 7, 8, 9, 10, 11, 12] dX9_set_53 rfl mkX9_162 rfl rfl rfl rfl rfl rfl rfl (Nat.le_of_ble_eq_true rfl) (Nat.le_of_ble_eq_true rfl) rfl (fun x53 h53 g53 hp53 hw53 => ?_)
        obtain ⟨rfl, rfl⟩ := hp53
        obtain rfl := Option.some.inj hw53
        refine A_h (MW (upd s (1 + k) v) K be er st na pi tr bi sz nu as' im at' op sp us tn sk ip) rfl ?_
        refine A_goto hE 64 dX9_set_56 rfl ?_
        refine A_iret hE dX9_set_64 ?_
        rw [setF, if_pos ⟨hh, by rw [if_pos c12, if_pos c12]; exact hv⟩, ek]
        exact ⟨rfl, rfl⟩
set_option maxRecDepth 100000 in
theorem c_X9_untell (s K be er st na pi tr bi sz nu as' : Nat → Int32) (im at' op sp us tn sk ip : Int32) (u : Int32) : AMet yX9_untell cX9_untell 3 (some (.int)) 2 0 0 [.ref 0, .int u] (MW s K be er st na pi tr bi sz nu as' im at' op sp us tn sk ip) (pI fun x0 hz0 => x0 = (untellF s er u).1 ∧ hz0 = MW (untellF s er u).2.1 K be (untellF s er u).2.2 st na pi tr bi sz nu as' im at' op sp us tn sk ip) := by
  refine AMet.of (by decide +kernel) rfl (fun E ad0 hE => ?_)
  refine A_iload_n hE 1 dX9_untell_0 rfl rfl ?_
  refine A_iconst hE 2 dX9_untell_1 rfl (0) rfl ?_
  refine A_iconst hE 3 dX9_untell_2 rfl (1) rfl ?_
  refine A_callSi hE 6 (c_X9_in u 0 1) [] dX9_untell_3 rfl mkX9_47 rfl rfl rfl rfl rfl rfl (Nat.le_of_ble_eq_true rfl) (Nat.le_of_ble_eq_true rfl) rfl (fun x3 h3 g3 hp3 hw3 => ?_)
  obtain ⟨rfl, rfl⟩ := hp3
  obtain rfl := Option.some.inj hw3
  refine A_if_ne hE 9 15 dX9_untell_6 rfl rfl (fun c6 => ?_) (fun c6 => ?_)
  · have hh := bI_1 c6
    obtain ⟨k, hkk, rfl⟩ := iK2 (n := 1) hh.1 hh.2 (by omega)
    have ek : (nI k).toNatClampNeg = k := nI_clamp (by omega)
    refine A_aload_n hE 16 dX9_untell_15 rfl rfl ?_
    refine A_iload_n hE 17 dX9_untell_16 rfl rfl ?_
    refine A_callVi hE 20 (c_X9_hasText s K be er st na pi tr bi sz nu as' im at' op sp us tn sk ip k (by omega)) [0, 1, 2, 3, 4, 5, 6, 7, 8, 9, 10, 11, 12] dX9_untell_17 rfl mkX9_104 rfl rfl rfl rfl rfl rfl rfl (Nat.le_of_ble_eq_true rfl) (Nat.le_of_ble_eq_true rfl) rfl (fun x17 h17 g17 hp17 hw17 => ?_)
    obtain ⟨rfl, rfl⟩ := hp17
    obtain rfl := Option.some.inj hw17
    refine A_h (MW s K be er st na pi tr bi sz nu as' im at' op sp us tn sk ip) rfl ?_
    refine A_if_eq hE 23 27 dX9_untell_20 rfl rfl (fun c20 => ?_) (fun c20 => ?_)
    · have ht := bI_0 c20
      refine A_iconst hE 28 dX9_untell_27 rfl (0) rfl ?_
      refine A_istore_n hE 29 dX9_untell_28 rfl rfl rfl ?_
      refine A_aload_n hE 30 dX9_untell_29 rfl rfl ?_
      refine A_get hE 33 dX9_untell_30 rfl fkX9_7 rfl rfl ?_
      refine A_bipush hE 35 dX9_untell_33 rfl (49) (by decide) ?_
      refine A_bipush hE 37 dX9_untell_35 rfl (125) (by decide) ?_
      refine A_iload_n hE 38 dX9_untell_37 rfl rfl ?_
      refine A_imul hE 39 dX9_untell_38 rfl ?_
      refine A_iadd hE 40 dX9_untell_39 rfl ?_
      refine A_iconst hE 41 dX9_untell_40 rfl (0) rfl ?_
      refine A_iast hE 42 (49 + 125 * k) dX9_untell_41 rfl rfl (ix125 k) (by omega) rfl rfl ?_
      refine A_iload_n hE 43 dX9_untell_42 rfl rfl ?_
      refine A_iret hE dX9_untell_43 ?_
      rw [untellF, if_pos hh, ek, if_neg ht]
      exact ⟨rfl, rfl⟩
    · have ht := bI_1 c20
      refine A_iconst hE 24 dX9_untell_23 rfl (1) rfl ?_
      refine A_goto hE 28 dX9_untell_24 rfl ?_
      refine A_istore_n hE 29 dX9_untell_28 rfl rfl rfl ?_
      refine A_aload_n hE 30 dX9_untell_29 rfl rfl ?_
      refine A_get hE 33 dX9_untell_30 rfl fkX9_7 rfl rfl ?_
      refine A_bipush hE 35 dX9_untell_33 rfl (49) (by decide) ?_
      refine A_bipush hE 37 dX9_untell_35 rfl (125) (by decide) ?_
      refine A_iload_n hE 38 dX9_untell_37 rfl rfl ?_
      refine A_imul hE 39 dX9_untell_38 rfl ?_
      refine A_iadd hE 40 dX9_untell_39 rfl ?_
      refine A_iconst hE 41 dX9_untell_40 rfl (0) rfl ?_
      refine A_iast hE 42 (49 + 125 * k) dX9_untell_41 rfl rfl (ix125 k) (by omega) rfl rfl ?_
      refine A_iload_n hE 43 dX9_untell_42 rfl rfl ?_
      refine A_iret hE dX9_untell_43 ?_
      rw [untellF, if_pos hh, ek, if_pos ht]
      exact ⟨rfl, rfl⟩
  · have hh := bI_0 c6
    refine A_aload_n hE 10 dX9_untell_9 rfl rfl ?_
    refine A_iconst hE 11 dX9_untell_10 rfl (1) rfl ?_
    refine A_callVi hE 14 (c_X9_error s K be er st na pi tr bi sz nu as' im at' op sp us tn sk ip 1 (by omega)) [0, 1, 2, 3, 4, 5, 6, 7, 8, 9, 10, 11, 12] dX9_untell_11 rfl mkX9_51 rfl rfl rfl rfl rfl rfl rfl (Nat.le_of_ble_eq_true rfl) (Nat.le_of_ble_eq_true rfl) rfl (fun x11 h11 g11 hp11 hw11 => ?_)
    obtain ⟨rfl, rfl⟩ := hp11
    obtain rfl := Option.some.inj hw11
    refine A_h (MW s K be (upd er 1 (er 1 + 1)) st na pi tr bi sz nu as' im at' op sp us tn sk ip) rfl ?_
    refine A_iret hE dX9_untell_14 ?_
    rw [untellF, if_neg hh]
    exact ⟨rfl, rfl⟩
set_option maxRecDepth 100000 in
theorem c_X9_loose (s K be er st na pi tr bi sz nu as' : Nat → Int32) (im at' op sp us tn sk ip : Int32) (n : Int32) (t0 t1 : Sp) (w : wf s) (l0 : MText s 0 t0) (l1 : MText s 1 t1) : AMet yX9_loose cX9_loose 3 (some (.int)) 5 0 0 [.ref 0, .int n] (MW s K be er st na pi tr bi sz nu as' im at' op sp us tn sk ip) (pI fun x0 hz0 => x0 = (looseF t0 t1 s er n).1 ∧ ∃ na' pi' : Nat → Int32, hz0 = MW (looseF t0 t1 s er n).2.1 K be (looseF t0 t1 s er n).2.2 st na' pi' tr bi sz nu as' im at' op sp us tn sk ip) := by
  refine AMet.of (by decide +kernel) rfl (fun E ad0 hE => ?_)
  have loop : ∀ (m i k : Nat) (s' na pi : Nat → Int32), n = nI k → k ≤ 30 → i + m = k → wf s' → MText s' 0 t0 → MText s' 1 t1 → looseF t0 t1 s er n = (loN t0 t1 m s' 1, loN t0 t1 m s', er) → AW E (rmD 5 0 0) 3 (QM E ad0 13 0 0 (pI fun x0 hz0 => x0 = (looseF t0 t1 s er n).1 ∧ ∃ na' pi' : Nat → Int32, hz0 = MW (looseF t0 t1 s er n).2.1 K be (looseF t0 t1 s er n).2.2 st na' pi' tr bi sz nu as' im at' op sp us tn sk ip)) ad0 13 0 0 38 [(0, .ref 0), (1, .int n), (2, .int (nI i))] [] (MW s' K be er st na pi tr bi sz nu as' im at' op sp us tn sk ip) := by
    intro m
    induction m with
    | zero =>
      intro i k s' na pi hnk hk hi w' l0 l1 hx
      subst hnk
      refine A_iload_n hE 39 dX9_loose_38 rfl rfl ?_
      refine A_iload_n hE 40 dX9_loose_39 rfl rfl ?_
      refine A_icmp_ge hE 43 105 dX9_loose_40 rfl rfl (fun c40 => ?_) (fun c40 => absurd (nI_le (by omega) (by omega)) c40)
      refine A_aload_n hE 106 dX9_loose_105 rfl rfl ?_
      refine A_get hE 109 dX9_loose_106 rfl fkX9_7 rfl rfl ?_
      refine A_iconst hE 110 dX9_loose_109 rfl (1) rfl ?_
      refine A_iald hE 111 1 dX9_loose_110 rfl rfl rfl (by omega) rfl ?_
      refine A_iret hE dX9_loose_111 ?_
      rw [hx]
      exact ⟨rfl, na, pi, rfl⟩
    | succ m ih =>
      intro i k s' na pi hnk hk hi w' l0 l1 hx
      have w2' : s' 8 = nI (hn s') := w'.2.1
      have w1' : hn s' ≤ 8 := w'.1
      refine A_iload_n hE 39 dX9_loose_38 rfl rfl ?_
      refine A_iload_n hE 40 dX9_loose_39 rfl rfl ?_
      refine A_icmp_ge hE 43 105 dX9_loose_40 rfl rfl (fun c40 => absurd c40 (by rw [hnk]; exact nI_ge (show i < k by omega) (by omega))) (fun c40 => ?_)
      refine A_aload_n hE 44 dX9_loose_43 rfl rfl ?_
      refine A_get hE 47 dX9_loose_44 rfl fkX9_7 rfl rfl ?_
      refine A_bipush hE 49 dX9_loose_47 rfl (8) (by decide) ?_
      refine A_iald hE 50 8 dX9_loose_49 rfl rfl rfl (by omega) rfl ?_
      refine A_if_le hE 53 95 dX9_loose_50 rfl rfl (fun c50 => ?_) (fun c50 => ?_)
      · have hz : ¬ 0 < hn s' := fun z => absurd c50 (by rw [w2']; exact nI_nle z (by omega))
        refine A_h (MW (drawS s') K be er st na pi tr bi sz nu as' im at' op sp us tn sk ip) (by rw [drawS, if_neg hz]) ?_
        refine A_aload_n hE 96 dX9_loose_95 rfl rfl ?_
        refine A_callVv hE 99 (c_X9_day1 (drawS s') K be er st na pi tr bi sz nu as' im at' op sp us tn sk ip t0 t1 (wf_draw w') (MT_draw l0) (MT_draw l1)) [0, 1, 2, 3, 4, 5, 6, 7, 8, 9, 10, 11, 12] dX9_loose_96 rfl mkX9_150 rfl rfl rfl rfl rfl rfl rfl (Nat.le_of_ble_eq_true rfl) (Nat.le_of_ble_eq_true rfl) rfl (fun h96 g96 hp96 hw96 => ?_)
        obtain ⟨na1, pi1, rfl⟩ := hp96
        obtain rfl := Option.some.inj hw96
        refine A_h (MW (day1 t0 t1 (drawS s')) K be er st na1 pi1 tr bi sz nu as' im at' op sp us tn sk ip) rfl ?_
        refine A_iinc hE 102 dX9_loose_99 rfl rfl (1) rfl rfl rfl ?_
        rw [nI_1]
        refine A_lv [0, 1, 2] rfl ?_
        refine A_goto hE 38 dX9_loose_102 rfl ?_
        exact ih (i + 1) k _ na1 pi1 hnk hk (by omega) (wf_day (wf_draw w')) (MT_day (wf_draw w') (MT_draw l0)) (MT_day (wf_draw w') (MT_draw l1)) hx
      · have hz : 0 < hn s' := by rcases Nat.eq_zero_or_pos (hn s') with e | e; exact absurd (by rw [w2', e]; decide) c50; exact e
        refine A_aload_n hE 54 dX9_loose_53 rfl rfl ?_
        refine A_get hE 57 dX9_loose_54 rfl fkX9_7 rfl rfl ?_
        refine A_iconst hE 58 dX9_loose_57 rfl (5) rfl ?_
        refine A_aload_n hE 59 dX9_loose_58 rfl rfl ?_
        refine A_get hE 62 dX9_loose_59 rfl fkX9_7 rfl rfl ?_
        refine A_iconst hE 63 dX9_loose_62 rfl (5) rfl ?_
        refine A_iald hE 64 5 dX9_loose_63 rfl rfl rfl (by omega) rfl ?_
        refine A_ldc hE 66 dX9_loose_64 rfl kkX9_169 ?_
        refine A_imul hE 67 dX9_loose_66 rfl ?_
        refine A_sipush hE 70 dX9_loose_67 rfl (12345) (by decide) ?_
        refine A_iadd hE 71 dX9_loose_70 rfl ?_
        refine A_iast hE 72 5 dX9_loose_71 rfl rfl rfl (by omega) rfl rfl ?_
        refine A_aload_n hE 73 dX9_loose_72 rfl rfl ?_
        refine A_get hE 76 dX9_loose_73 rfl fkX9_7 rfl rfl ?_
        refine A_iconst hE 77 dX9_loose_76 rfl (4) rfl ?_
        refine A_aload_n hE 78 dX9_loose_77 rfl rfl ?_
        refine A_get hE 81 dX9_loose_78 rfl fkX9_7 rfl rfl ?_
        refine A_iconst hE 82 dX9_loose_81 rfl (5) rfl ?_
        refine A_iald hE 83 5 dX9_loose_82 rfl rfl rfl (by omega) rfl ?_
        refine A_bipush hE 85 dX9_loose_83 rfl (8) (by decide) ?_
        refine A_iushr hE 86 dX9_loose_85 rfl ?_
        refine A_aload_n hE 87 dX9_loose_86 rfl rfl ?_
        refine A_get hE 90 dX9_loose_87 rfl fkX9_7 rfl rfl ?_
        refine A_bipush hE 92 dX9_loose_90 rfl (8) (by decide) ?_
        refine A_iald hE 93 8 dX9_loose_92 rfl rfl rfl (by omega) rfl ?_
        refine A_irem hE 94 dX9_loose_93 rfl (by rw [upd_n (by omega), w2']; exact nI_ne0 hz (by omega)) ?_
        refine A_iast hE 95 4 dX9_loose_94 rfl rfl rfl (by omega) rfl rfl ?_
        refine A_h (MW (drawS s') K be er st na pi tr bi sz nu as' im at' op sp us tn sk ip) (by rw [drawS, if_pos hz]; rfl) ?_
        refine A_aload_n hE 96 dX9_loose_95 rfl rfl ?_
        refine A_callVv hE 99 (c_X9_day1 (drawS s') K be er st na pi tr bi sz nu as' im at' op sp us tn sk ip t0 t1 (wf_draw w') (MT_draw l0) (MT_draw l1)) [0, 1, 2, 3, 4, 5, 6, 7, 8, 9, 10, 11, 12] dX9_loose_96 rfl mkX9_150 rfl rfl rfl rfl rfl rfl rfl (Nat.le_of_ble_eq_true rfl) (Nat.le_of_ble_eq_true rfl) rfl (fun h96 g96 hp96 hw96 => ?_)
        obtain ⟨na1, pi1, rfl⟩ := hp96
        obtain rfl := Option.some.inj hw96
        refine A_h (MW (day1 t0 t1 (drawS s')) K be er st na1 pi1 tr bi sz nu as' im at' op sp us tn sk ip) rfl ?_
        refine A_iinc hE 102 dX9_loose_99 rfl rfl (1) rfl rfl rfl ?_
        rw [nI_1]
        refine A_lv [0, 1, 2] rfl ?_
        refine A_goto hE 38 dX9_loose_102 rfl ?_
        exact ih (i + 1) k _ na1 pi1 hnk hk (by omega) (wf_day (wf_draw w')) (MT_day (wf_draw w') (MT_draw l0)) (MT_day (wf_draw w') (MT_draw l1)) hx
  refine A_iload_n hE 1 dX9_loose_0 rfl rfl ?_
  refine A_iconst hE 2 dX9_loose_1 rfl (1) rfl ?_
  refine A_bipush hE 4 dX9_loose_2 rfl (30) (by decide) ?_
  refine A_callSi hE 7 (c_X9_in n 1 30) [] dX9_loose_4 rfl mkX9_47 rfl rfl rfl rfl rfl rfl (Nat.le_of_ble_eq_true rfl) (Nat.le_of_ble_eq_true rfl) rfl (fun x4 h4 g4 hp4 hw4 => ?_)
  obtain ⟨rfl, rfl⟩ := hp4
  obtain rfl := Option.some.inj hw4
  refine A_if_ne hE 10 16 dX9_loose_7 rfl rfl (fun c7 => ?_) (fun c7 => ?_)
  · have hh := bI_1 c7
    have hh0 := Int32.le_trans (show (0 : Int32) ≤ 1 by decide) hh.1
    refine A_aload_n hE 17 dX9_loose_16 rfl rfl ?_
    refine A_get hE 20 dX9_loose_17 rfl fkX9_7 rfl rfl ?_
    refine A_iconst hE 21 dX9_loose_20 rfl (0) rfl ?_
    refine A_iald hE 22 0 dX9_loose_21 rfl rfl rfl (by omega) rfl ?_
    refine A_iload_n hE 23 dX9_loose_22 rfl rfl ?_
    refine A_iadd hE 24 dX9_loose_23 rfl ?_
    refine A_sipush hE 27 dX9_loose_24 rfl (9999) (by decide) ?_
    refine A_icmp_le hE 30 36 dX9_loose_27 rfl rfl (fun c27 => ?_) (fun c27 => ?_)
    · refine A_iconst hE 37 dX9_loose_36 rfl (0) rfl ?_
      refine A_istore_n hE 38 dX9_loose_37 rfl rfl rfl ?_
      obtain ⟨k, hk, hnk⟩ := iK2 (n := 30) hh0 hh.2 (by omega)
      refine A_lv [0, 1, 2] rfl ?_
      exact loop k 0 k s na pi hnk hk (Nat.zero_add _) w l0 l1 (by rw [looseF, if_pos hh, if_neg (iN c27), hnk, nI_clamp (by omega)])
    · refine A_aload_n hE 31 dX9_loose_30 rfl rfl ?_
      refine A_iconst hE 32 dX9_loose_31 rfl (3) rfl ?_
      refine A_callVi hE 35 (c_X9_error s K be er st na pi tr bi sz nu as' im at' op sp us tn sk ip 3 (by omega)) [0, 1, 2, 3, 4, 5, 6, 7, 8, 9, 10, 11, 12] dX9_loose_32 rfl mkX9_51 rfl rfl rfl rfl rfl rfl rfl (Nat.le_of_ble_eq_true rfl) (Nat.le_of_ble_eq_true rfl) rfl (fun x32 h32 g32 hp32 hw32 => ?_)
      obtain ⟨rfl, rfl⟩ := hp32
      obtain rfl := Option.some.inj hw32
      refine A_h (MW s K be (upd er 3 (er 3 + 1)) st na pi tr bi sz nu as' im at' op sp us tn sk ip) rfl ?_
      refine A_iret hE dX9_loose_35 ?_
      rw [looseF, if_pos hh, if_pos (iG c27)]
      exact ⟨rfl, na, pi, rfl⟩
  · have hh := bI_0 c7
    refine A_aload_n hE 11 dX9_loose_10 rfl rfl ?_
    refine A_iconst hE 12 dX9_loose_11 rfl (1) rfl ?_
    refine A_callVi hE 15 (c_X9_error s K be er st na pi tr bi sz nu as' im at' op sp us tn sk ip 1 (by omega)) [0, 1, 2, 3, 4, 5, 6, 7, 8, 9, 10, 11, 12] dX9_loose_12 rfl mkX9_51 rfl rfl rfl rfl rfl rfl rfl (Nat.le_of_ble_eq_true rfl) (Nat.le_of_ble_eq_true rfl) rfl (fun x12 h12 g12 hp12 hw12 => ?_)
    obtain ⟨rfl, rfl⟩ := hp12
    obtain rfl := Option.some.inj hw12
    refine A_h (MW s K be (upd er 1 (er 1 + 1)) st na pi tr bi sz nu as' im at' op sp us tn sk ip) rfl ?_
    refine A_iret hE dX9_loose_15 ?_
    rw [looseF, if_neg hh]
    exact ⟨rfl, na, pi, rfl⟩
set_option maxRecDepth 100000 in
theorem c_X9_soonest (s K be er st na pi tr bi sz nu as' : Nat → Int32) (im at' op sp us tn sk ip : Int32) (h v : Int32) (t0 t1 : Sp) (w : wf s) (l0 : MText s 0 t0) (l1 : MText s 1 t1) : AMet yX9_soonest cX9_soonest 4 (some (.int)) 5 0 0 [.ref 0, .int h, .int v] (MW s K be er st na pi tr bi sz nu as' im at' op sp us tn sk ip) (pI fun x0 hz0 => x0 = (soonF t0 t1 s er h v).1 ∧ ∃ be' na' pi' : Nat → Int32, hz0 = MW (soonF t0 t1 s er h v).2.1 K be' (soonF t0 t1 s er h v).2.2 st na' pi' tr bi sz nu as' im at' op sp us tn sk ip) := by
  refine AMet.of (by decide +kernel) rfl (fun E ad0 hE => ?_)
  obtain ⟨w1, w2, w3, w4, w5, w6, w7⟩ := id w
  refine A_aload_n hE 1 dX9_soonest_0 rfl rfl ?_
  refine A_iload_n hE 2 dX9_soonest_1 rfl rfl ?_
  refine A_callVi hE 5 (c_X9_isHome s K be er st na pi tr bi sz nu as' im at' op sp us tn sk ip h (hn s) w1 w2) [0, 1, 2, 3, 4, 5, 6, 7, 8, 9, 10, 11, 12] dX9_soonest_2 rfl mkX9_156 rfl rfl rfl rfl rfl rfl rfl (Nat.le_of_ble_eq_true rfl) (Nat.le_of_ble_eq_true rfl) rfl (fun x2 h2 g2 hp2 hw2 => ?_)
  obtain ⟨rfl, rfl⟩ := hp2
  obtain rfl := Option.some.inj hw2
  refine A_h (MW s K be er st na pi tr bi sz nu as' im at' op sp us tn sk ip) rfl ?_
  refine A_if_eq hE 8 19 dX9_soonest_5 rfl rfl (fun c5 => ?_) (fun c5 => ?_)
  · have hh := bI_0 c5
    refine A_aload_n hE 20 dX9_soonest_19 rfl rfl ?_
    refine A_iconst hE 21 dX9_soonest_20 rfl (1) rfl ?_
    refine A_callVi hE 24 (c_X9_error s K be er st na pi tr bi sz nu as' im at' op sp us tn sk ip 1 (by omega)) [0, 1, 2, 3, 4, 5, 6, 7, 8, 9, 10, 11, 12] dX9_soonest_21 rfl mkX9_51 rfl rfl rfl rfl rfl rfl rfl (Nat.le_of_ble_eq_true rfl) (Nat.le_of_ble_eq_true rfl) rfl (fun x21 h21 g21 hp21 hw21 => ?_)
    obtain ⟨rfl, rfl⟩ := hp21
    obtain rfl := Option.some.inj hw21
    refine A_h (MW s K be (upd er 1 (er 1 + 1)) st na pi tr bi sz nu as' im at' op sp us tn sk ip) rfl ?_
    refine A_iret hE dX9_soonest_24 ?_
    rw [soonF, if_neg (fun z => hh z.1)]
    exact ⟨rfl, be, na, pi, rfl⟩
  · have hh := bI_1 c5
    have hq := hh
    rw [w2] at hq
    obtain ⟨k, hk, rfl⟩ := iK hq.1 hq.2 (by omega)
    have ek : (nI k).toNatClampNeg = k := nI_clamp (by omega)
    refine A_iload_n hE 9 dX9_soonest_8 rfl rfl ?_
    refine A_iconst hE 10 dX9_soonest_9 rfl (0) rfl ?_
    refine A_sipush hE 13 dX9_soonest_10 rfl (9999) (by decide) ?_
    refine A_callSi hE 16 (c_X9_in v 0 9999) [] dX9_soonest_13 rfl mkX9_47 rfl rfl rfl rfl rfl rfl (Nat.le_of_ble_eq_true rfl) (Nat.le_of_ble_eq_true rfl) rfl (fun x13 h13 g13 hp13 hw13 => ?_)
    obtain ⟨rfl, rfl⟩ := hp13
    obtain rfl := Option.some.inj hw13
    refine A_if_ne hE 19 25 dX9_soonest_16 rfl rfl (fun c16 => ?_) (fun c16 => ?_)
    · have hv := bI_1 c16
      refine A_aload_n hE 26 dX9_soonest_25 rfl rfl ?_
      refine A_callVv hE 29 (c_X9_saves s K be er st na pi tr bi sz nu as' im at' op sp us tn sk ip) [0, 1, 2, 3, 4, 5, 6, 7, 8, 9, 10, 11, 12] dX9_soonest_26 rfl mkX9_170 rfl rfl rfl rfl rfl rfl rfl (Nat.le_of_ble_eq_true rfl) (Nat.le_of_ble_eq_true rfl) rfl (fun h26 g26 hp26 hw26 => ?_)
      obtain rfl := hp26
      obtain rfl := Option.some.inj hw26
      refine A_h (MW s K (ovr 49 s be) er st na pi tr bi sz nu as' im at' op sp us tn sk ip) rfl ?_
      refine A_iconst hE 30 dX9_soonest_29 rfl (0) rfl ?_
      refine A_istore_n hE 31 dX9_soonest_30 rfl rfl rfl ?_
      have loop : ∀ (m d : Nat) (s' na pi : Nat → Int32), d + m = 61 → wf s' → MText s' 0 t0 → MText s' 1 t1 → (∀ z, 49 ≤ z → s' z = s z) → duM t0 t1 k v 61 0 s = duM t0 t1 k v m d s' → AW E (rmD 5 0 0) 4 (QM E ad0 13 0 0 (pI fun x0 hz0 => x0 = (soonF t0 t1 s er (nI k) v).1 ∧ ∃ be' na' pi' : Nat → Int32, hz0 = MW (soonF t0 t1 s er (nI k) v).2.1 K be' (soonF t0 t1 s er (nI k) v).2.2 st na' pi' tr bi sz nu as' im at' op sp us tn sk ip)) ad0 13 0 0 31 [(0, .ref 0), (1, .int (nI k)), (2, .int v), (3, .int (nI d))] [] (MW s' K (ovr 49 s be) er st na pi tr bi sz nu as' im at' op sp us tn sk ip) := by
        intro m
        induction m with
        | zero =>
          intro d s' na pi hd w' l0 l1 hz hx
          refine A_iload_n hE 32 dX9_soonest_31 rfl rfl ?_
          refine A_bipush hE 34 dX9_soonest_32 rfl (60) (by decide) ?_
          refine A_icmp_gt hE 37 57 dX9_soonest_34 rfl rfl (fun c34 => ?_) (fun c34 => absurd (Int32.not_le.mp (fun z => absurd (nI_lt (a := 60) (b := d) (by omega) (by omega)) (iN z))) c34)
          refine A_aload_n hE 58 dX9_soonest_57 rfl rfl ?_
          refine A_callVv hE 61 (c_X9_putsBack s' K (ovr 49 s be) er st na pi tr bi sz nu as' im at' op sp us tn sk ip) [0, 1, 2, 3, 4, 5, 6, 7, 8, 9, 10, 11, 12] dX9_soonest_58 rfl mkX9_176 rfl rfl rfl rfl rfl rfl rfl (Nat.le_of_ble_eq_true rfl) (Nat.le_of_ble_eq_true rfl) rfl (fun h58 g58 hp58 hw58 => ?_)
          obtain rfl := hp58
          obtain rfl := Option.some.inj hw58
          refine A_h (MW s K (ovr 49 s be) er st na pi tr bi sz nu as' im at' op sp us tn sk ip) (by rw [back_eq hz]; rfl) ?_
          refine A_iload_n hE 62 dX9_soonest_61 rfl rfl ?_
          refine A_bipush hE 64 dX9_soonest_62 rfl (60) (by decide) ?_
          refine A_icmp_le hE 67 75 dX9_soonest_64 rfl rfl (fun c64 => absurd c64 (iM (nI_lt (a := 60) (b := d) (by omega) (by omega)))) (fun c64 => ?_)
          refine A_aload_n hE 68 dX9_soonest_67 rfl rfl ?_
          refine A_iconst hE 69 dX9_soonest_68 rfl (2) rfl ?_
          refine A_callVi hE 72 (c_X9_error s K (ovr 49 s be) er st na pi tr bi sz nu as' im at' op sp us tn sk ip 2 (by omega)) [0, 1, 2, 3, 4, 5, 6, 7, 8, 9, 10, 11, 12] dX9_soonest_69 rfl mkX9_51 rfl rfl rfl rfl rfl rfl rfl (Nat.le_of_ble_eq_true rfl) (Nat.le_of_ble_eq_true rfl) rfl (fun x69 h69 g69 hp69 hw69 => ?_)
          obtain ⟨rfl, rfl⟩ := hp69
          obtain rfl := Option.some.inj hw69
          refine A_h (MW s K (ovr 49 s be) (upd er 2 (er 2 + 1)) st na pi tr bi sz nu as' im at' op sp us tn sk ip) rfl ?_
          refine A_goto hE 76 dX9_soonest_72 rfl ?_
          refine A_iret hE dX9_soonest_76 ?_
          rw [soonF, if_pos ⟨hh, hv⟩, ek, hx, if_pos (by rw [duM]; exact nI_lt (a := 60) (by omega) (by omega))]
          exact ⟨rfl, _, na, pi, rfl⟩
        | succ m ih =>
          intro d s' na pi hd w' l0 l1 hz hx
          refine A_iload_n hE 32 dX9_soonest_31 rfl rfl ?_
          refine A_bipush hE 34 dX9_soonest_32 rfl (60) (by decide) ?_
          refine A_icmp_gt hE 37 57 dX9_soonest_34 rfl rfl (fun c34 => absurd c34 (iN (nI_le (b := 60) (by omega) (by omega)))) (fun c34 => ?_)
          refine A_aload_n hE 38 dX9_soonest_37 rfl rfl ?_
          refine A_iload_n hE 39 dX9_soonest_38 rfl rfl ?_
          refine A_iconst hE 40 dX9_soonest_39 rfl (2) rfl ?_
          refine A_callVi hE 43 (c_X9_its s' K (ovr 49 s be) er st na pi tr bi sz nu as' im at' op sp us tn sk ip (nI k) 2 k 2 rfl rfl (by omega) (by omega)) [0, 1, 2, 3, 4, 5, 6, 7, 8, 9, 10, 11, 12] dX9_soonest_40 rfl mkX9_111 rfl rfl rfl rfl rfl rfl rfl (Nat.le_of_ble_eq_true rfl) (Nat.le_of_ble_eq_true rfl) rfl (fun x40 h40 g40 hp40 hw40 => ?_)
          obtain ⟨rfl, rfl⟩ := hp40
          obtain rfl := Option.some.inj hw40
          refine A_h (MW s' K (ovr 49 s be) er st na pi tr bi sz nu as' im at' op sp us tn sk ip) rfl ?_
          refine A_iload_n hE 44 dX9_soonest_43 rfl rfl ?_
          refine A_icmp_ge hE 47 57 dX9_soonest_44 rfl rfl (fun c44 => ?_) (fun c44 => ?_)
          · replace hx := hx.trans (show duM t0 t1 k v (m + 1) d s' = nI d by rw [duM, if_pos c44])
            refine A_aload_n hE 58 dX9_soonest_57 rfl rfl ?_
            refine A_callVv hE 61 (c_X9_putsBack s' K (ovr 49 s be) er st na pi tr bi sz nu as' im at' op sp us tn sk ip) [0, 1, 2, 3, 4, 5, 6, 7, 8, 9, 10, 11, 12] dX9_soonest_58 rfl mkX9_176 rfl rfl rfl rfl rfl rfl rfl (Nat.le_of_ble_eq_true rfl) (Nat.le_of_ble_eq_true rfl) rfl (fun h58 g58 hp58 hw58 => ?_)
            obtain rfl := hp58
            obtain rfl := Option.some.inj hw58
            refine A_h (MW s K (ovr 49 s be) er st na pi tr bi sz nu as' im at' op sp us tn sk ip) (by rw [back_eq hz]; rfl) ?_
            refine A_iload_n hE 62 dX9_soonest_61 rfl rfl ?_
            refine A_bipush hE 64 dX9_soonest_62 rfl (60) (by decide) ?_
            refine A_icmp_le hE 67 75 dX9_soonest_64 rfl rfl (fun c64 => ?_) (fun c64 => absurd (nI_le (b := 60) (by omega) (by omega)) c64)
            refine A_iload_n hE 76 dX9_soonest_75 rfl rfl ?_
            refine A_iret hE dX9_soonest_76 ?_
            rw [soonF, if_pos ⟨hh, hv⟩, ek, hx, if_neg (show ¬ (60 : Int32) < nI d from iN (nI_le (a := d) (b := 60) (by omega) (by omega)))]
            exact ⟨rfl, _, na, pi, rfl⟩
          · replace hx := hx.trans (show duM t0 t1 k v (m + 1) d s' = duM t0 t1 k v m (d + 1) (day1 t0 t1 s') by rw [duM, if_neg c44])
            refine A_aload_n hE 48 dX9_soonest_47 rfl rfl ?_
            refine A_callVv hE 51 (c_X9_day1 s' K (ovr 49 s be) er st na pi tr bi sz nu as' im at' op sp us tn sk ip t0 t1 w' l0 l1) [0, 1, 2, 3, 4, 5, 6, 7, 8, 9, 10, 11, 12] dX9_soonest_48 rfl mkX9_150 rfl rfl rfl rfl rfl rfl rfl (Nat.le_of_ble_eq_true rfl) (Nat.le_of_ble_eq_true rfl) rfl (fun h48 g48 hp48 hw48 => ?_)
            obtain ⟨na1, pi1, rfl⟩ := hp48
            obtain rfl := Option.some.inj hw48
            refine A_h (MW (day1 t0 t1 s') K (ovr 49 s be) er st na1 pi1 tr bi sz nu as' im at' op sp us tn sk ip) rfl ?_
            refine A_iinc hE 54 dX9_soonest_51 rfl rfl (1) rfl rfl rfl ?_
            rw [nI_1]
            refine A_lv [0, 1, 2, 3] rfl ?_
            refine A_goto hE 31 dX9_soonest_54 rfl ?_
            exact ih (d + 1) _ na1 pi1 (by omega) (wf_day w') (MT_day w' l0) (MT_day w' l1) (fun z q => by rw [day_hi w' q, hz z q]) hx
      refine A_lv [0, 1, 2, 3] rfl ?_
      exact loop 61 0 s na pi rfl w l0 l1 (fun _ _ => rfl) rfl
    · have hv := bI_0 c16
      refine A_aload_n hE 20 dX9_soonest_19 rfl rfl ?_
      refine A_iconst hE 21 dX9_soonest_20 rfl (1) rfl ?_
      refine A_callVi hE 24 (c_X9_error s K be er st na pi tr bi sz nu as' im at' op sp us tn sk ip 1 (by omega)) [0, 1, 2, 3, 4, 5, 6, 7, 8, 9, 10, 11, 12] dX9_soonest_21 rfl mkX9_51 rfl rfl rfl rfl rfl rfl rfl (Nat.le_of_ble_eq_true rfl) (Nat.le_of_ble_eq_true rfl) rfl (fun x21 h21 g21 hp21 hw21 => ?_)
      obtain ⟨rfl, rfl⟩ := hp21
      obtain rfl := Option.some.inj hw21
      refine A_h (MW s K be (upd er 1 (er 1 + 1)) st na pi tr bi sz nu as' im at' op sp us tn sk ip) rfl ?_
      refine A_iret hE dX9_soonest_24 ?_
      rw [soonF, if_neg (fun z => hv z.2)]
      exact ⟨rfl, be, na, pi, rfl⟩
set_option maxRecDepth 100000 in
theorem c_X9_isAsked (n what : Int32) : AMet yX9_isAsked cX9_isAsked 2 (some (.boolean)) 1 0 0 [.int n, .int what] [] (pI fun r h => r = bI (decide ((0 ≤ n ∧ n ≤ 40) ∧ (0 ≤ what ∧ what ≤ 1))) ∧ h = []) := by
  refine AMet.of (by decide +kernel) rfl (fun E ad0 hE => ?_)
  refine A_iload_n hE 1 dX9_isAsked_0 rfl rfl ?_
  refine A_iconst hE 2 dX9_isAsked_1 rfl (0) rfl ?_
  refine A_bipush hE 4 dX9_isAsked_2 rfl (40) (by decide) ?_
  refine A_callSi hE 7 (c_X9_in n 0 40) [] dX9_isAsked_4 rfl mkX9_47 rfl rfl rfl rfl rfl rfl (Nat.le_of_ble_eq_true rfl) (Nat.le_of_ble_eq_true rfl) rfl (fun x4 h4 g4 hp4 hw4 => ?_)
  obtain ⟨rfl, rfl⟩ := hp4
  obtain rfl := Option.some.inj hw4
  refine A_if_eq hE 10 23 dX9_isAsked_7 rfl rfl (fun c7 => ?_) (fun c7 => ?_)
  · refine A_iconst hE 24 dX9_isAsked_23 rfl (0) rfl ?_
    refine A_zret hE dX9_isAsked_24 (by first | exact Or.inl rfl | exact Or.inr rfl) ⟨?_, rfl⟩
    exact bI_f (fun z => bI_0 c7 z.1)
  · refine A_iload_n hE 11 dX9_isAsked_10 rfl rfl ?_
    refine A_iconst hE 12 dX9_isAsked_11 rfl (0) rfl ?_
    refine A_iconst hE 13 dX9_isAsked_12 rfl (1) rfl ?_
    refine A_callSi hE 16 (c_X9_in what 0 1) [] dX9_isAsked_13 rfl mkX9_47 rfl rfl rfl rfl rfl rfl (Nat.le_of_ble_eq_true rfl) (Nat.le_of_ble_eq_true rfl) rfl (fun x13 h13 g13 hp13 hw13 => ?_)
    obtain ⟨rfl, rfl⟩ := hp13
    obtain rfl := Option.some.inj hw13
    refine A_if_eq hE 19 23 dX9_isAsked_16 rfl rfl (fun c16 => ?_) (fun c16 => ?_)
    · refine A_iconst hE 24 dX9_isAsked_23 rfl (0) rfl ?_
      refine A_zret hE dX9_isAsked_24 (by first | exact Or.inl rfl | exact Or.inr rfl) ⟨?_, rfl⟩
      exact bI_f (fun z => bI_0 c16 z.2)
    · refine A_iconst hE 20 dX9_isAsked_19 rfl (1) rfl ?_
      refine A_goto hE 24 dX9_isAsked_20 rfl ?_
      refine A_zret hE dX9_isAsked_24 (by first | exact Or.inl rfl | exact Or.inr rfl) ⟨?_, rfl⟩
      exact bI_t ⟨bI_1 c7, bI_1 c16⟩
