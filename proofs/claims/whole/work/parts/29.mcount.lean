def tellF (s : St) (er : Nat → Int32) (v : Int32) : Rs := if s 7 = 24 then bad 4 s er else (s 7 + 1, upd (upd s (359 + (s 7).toNatClampNeg) v) 7 (s 7 + 1), er)
def chk (t0 : Sp) (s : St) : Nat → Nat → Int32
  | 0, _ => 0
  | m + 1, k => if k < hn s ∧ s (359 + k) = said t0 s k then chk t0 s m (k + 1) else 1 + nI k
def checkF (t0 : Sp) (s : St) (er : Nat → Int32) : Rs := (chk t0 (upd s 7 0) (s 7).toNatClampNeg 0, upd s 7 0, er)
def pmK (s : St) : Nat → Nat
  | 0 => 0
  | j + 1 => pmK s j + bit s j * 2 ^ j
theorem pmK_lt (s : St) : ∀ j, pmK s j < 2 ^ j
  | 0 => Nat.zero_lt_one
  | j + 1 => by
    have := pmK_lt s j
    have h1 := bit_le s j
    rw [pmK, Nat.pow_succ]
    rcases (show bit s j = 0 ∨ bit s j = 1 by omega) with h | h <;> rw [h] <;> omega
theorem pmK_8 (s : St) : pmK s 8 = pmN s := by
  simp only [pmK, pmN]
  omega
theorem pmK_end {s : St} (w : wf s) : ∀ m n, n + m = 8 → hn s ≤ n → pmK s n = pmN s
  | 0, n, h, _ => by obtain rfl : n = 8 := by omega
                     exact pmK_8 s
  | m + 1, n, h, hh => by
    rw [← pmK_end w m (n + 1) (by omega) (by omega), pmK]
    have h4 : its s n 4 = 0 := ((w.2.2.2.2.1 n (by omega)).2.2.2.2.2 hh).2.2
    unfold bit
    rw [if_pos h4]
    omega
theorem or_step : ∀ j, j < 8 → ∀ a, a < 2 ^ j → ∀ b, b < 2 → nI a ||| (nI b <<< (nI j &&& 31)) = nI (a + b * 2 ^ j) := by decide +kernel
def countV (s : St) (n : Nat) (k : Nat) : Int32 := match k with
  | 0 => s 8
  | 1 => s 0
  | 2 => s 4
  | 3 => s 1
  | 4 => s 2
  | 5 => s 3
  | 6 => sumH s (hn s)
  | 7 => pm s
  | 8 => s 6
  | 9 => s 7
  | 10 => nI n
  | _ => s 5
def countF (s : St) (er : Nat → Int32) (n : Nat) (what : Int32) : Rs := if 0 ≤ what ∧ what ≤ 11 then (countV s n what.toNatClampNeg, s, er) else bad 1 s er
def toldF (s : St) (er : Nat → Int32) (k : Int32) : Rs := if 1 ≤ k ∧ k ≤ 6 then (er k.toNatClampNeg, s, er) else bad 1 s er

set_option maxRecDepth 100000 in
theorem c_X9_voice (s K be er st na pi tr bi sz nu as' : Nat → Int32) (im at' op sp us tn sk ip : Int32) (h v x : Int32) (n : Nat) (w : wf s) : AMet yX9_voice cX9_voice 6 (some (.int)) 10 0 0 [.ref 0, .int h, .int v, .int x] (MW s K be er st na pi tr bi sz nu as' im at' op sp us (nI n) sk ip) (pI fun x0 hz0 => x0 = (voiceF s er h v x).1 ∧ ∃ sk' ip' : Int32, hz0 = MW s K be (voiceF s er h v x).2.2 st na pi (voiceR s h v tr) bi sz nu as' im at' op sp us (nI (voiceT s h v n)) sk' ip') := by
  refine AMet.of (by decide +kernel) rfl (fun E ad0 hE => ?_)
  obtain ⟨w1, w2, w3, w4, w5, w6, w7⟩ := id w
  refine A_aload_n hE 1 dX9_voice_0 rfl rfl ?_
  refine A_iload_n hE 2 dX9_voice_1 rfl rfl ?_
  refine A_callVi hE 5 (c_X9_isHome s K be er st na pi tr bi sz nu as' im at' op sp us (nI n) sk ip h (hn s) w1 w2) [0, 1, 2, 3, 4, 5, 6, 7, 8, 9, 10, 11, 12] dX9_voice_2 rfl mkX9_156 rfl rfl rfl rfl rfl rfl rfl (Nat.le_of_ble_eq_true rfl) (Nat.le_of_ble_eq_true rfl) rfl (fun x2 h2 g2 hp2 hw2 => ?_)
  obtain ⟨rfl, rfl⟩ := hp2
  obtain rfl := Option.some.inj hw2
  refine A_h (MW s K be er st na pi tr bi sz nu as' im at' op sp us (nI n) sk ip) rfl ?_
  refine A_if_eq hE 8 17 dX9_voice_5 rfl rfl (fun c5 => ?_) (fun c5 => ?_)
  · have hh := bI_0 c5
    refine A_aload_n hE 18 dX9_voice_17 rfl rfl ?_
    refine A_iconst hE 19 dX9_voice_18 rfl (1) rfl ?_
    refine A_callVi hE 22 (c_X9_error s K be er st na pi tr bi sz nu as' im at' op sp us (nI n) sk ip 1 (by omega)) [0, 1, 2, 3, 4, 5, 6, 7, 8, 9, 10, 11, 12] dX9_voice_19 rfl mkX9_51 rfl rfl rfl rfl rfl rfl rfl (Nat.le_of_ble_eq_true rfl) (Nat.le_of_ble_eq_true rfl) rfl (fun x19 h19 g19 hp19 hw19 => ?_)
    obtain ⟨rfl, rfl⟩ := hp19
    obtain rfl := Option.some.inj hw19
    refine A_h (MW s K be (upd er 1 (er 1 + 1)) st na pi tr bi sz nu as' im at' op sp us (nI n) sk ip) rfl ?_
    refine A_iret hE dX9_voice_22 ?_
    have hno : ¬ ((0 ≤ h ∧ h < s 8) ∧ (0 ≤ v ∧ v ≤ 3)) := (fun z => hh z.1)
    rw [voiceF, voiceT, voiceR, if_neg hno, if_neg hno, if_neg hno]
    exact ⟨rfl, sk, ip, rfl⟩
  · have hh := bI_1 c5
    have hq := hh
    rw [w2] at hq
    obtain ⟨k, hk, rfl⟩ := iK hq.1 hq.2 (by omega)
    have ek : (nI k).toNatClampNeg = k := nI_clamp (by omega)
    refine A_iload_n hE 9 dX9_voice_8 rfl rfl ?_
    refine A_iconst hE 10 dX9_voice_9 rfl (0) rfl ?_
    refine A_iconst hE 11 dX9_voice_10 rfl (3) rfl ?_
    refine A_callSi hE 14 (c_X9_in v 0 3) [] dX9_voice_11 rfl mkX9_47 rfl rfl rfl rfl rfl rfl (Nat.le_of_ble_eq_true rfl) (Nat.le_of_ble_eq_true rfl) rfl (fun x11 h11 g11 hp11 hw11 => ?_)
    obtain ⟨rfl, rfl⟩ := hp11
    obtain rfl := Option.some.inj hw11
    refine A_if_ne hE 17 23 dX9_voice_14 rfl rfl (fun c14 => ?_) (fun c14 => ?_)
    · have hq := bI_1 c14
      have hv := And.intro hh hq
      refine A_aload_n hE 24 dX9_voice_23 rfl rfl ?_
      refine A_iconst hE 25 dX9_voice_24 rfl (0) rfl ?_
      refine A_put hE 28 dX9_voice_25 rfl fkX9_198 rfl rfl rfl rfl ?_
      refine A_aload_n hE 29 dX9_voice_28 rfl rfl ?_
      refine A_iload_n hE 30 dX9_voice_29 rfl rfl ?_
      refine A_put hE 33 dX9_voice_30 rfl fkX9_201 rfl rfl rfl rfl ?_
      refine A_aload_n hE 34 dX9_voice_33 rfl rfl ?_
      refine A_iconst hE 35 dX9_voice_34 rfl (0) rfl ?_
      refine A_put hE 38 dX9_voice_35 rfl fkX9_222 rfl rfl rfl rfl ?_
      refine A_aload_n hE 39 dX9_voice_38 rfl rfl ?_
      have hk8 : k < 8 := by omega
      obtain ⟨⟨q, hq7, hqk⟩, -⟩ := w5 k (by omega)
      have hkk : kdN s k < 7 := by unfold kdN; rw [hqk, nI_clamp (by omega)]; exact hq7
      have hKd : its s k 0 = nI (kdN s k) := by unfold kdN; rw [hqk, nI_clamp (by omega)]
      refine A_callVi hE 42 (c_X9_kindNow s K be er st na pi tr bi sz nu as' im at' op sp us (nI 0) (nI k) 0 0 k hk8) [0, 1, 2, 3, 4, 5, 6, 7, 8, 9, 10, 11, 12] dX9_voice_39 rfl mkX9_210 rfl rfl rfl rfl rfl rfl rfl (Nat.le_of_ble_eq_true rfl) (Nat.le_of_ble_eq_true rfl) rfl (fun x39 h39 g39 hp39 hw39 => ?_)
      obtain ⟨rfl, rfl⟩ := hp39
      obtain rfl := Option.some.inj hw39
      refine A_h (MW s K be er st na pi tr bi sz nu as' im at' op sp us (nI 0) (nI k) 0) rfl ?_
      rw [hKd]
      refine A_istore hE 44 dX9_voice_42 rfl rfl rfl ?_
      obtain ⟨j, hj, rfl⟩ := iK2 (n := 3) hq.1 hq.2 (by omega)
      match j, hj with
      | 0, _ =>
        refine A_iload_n hE 45 dX9_voice_44 rfl rfl ?_
        refine A_if_ne hE 48 58 dX9_voice_45 rfl rfl (fun c45 => absurd rfl c45) (fun c45 => ?_)
        refine A_aload_n hE 49 dX9_voice_48 rfl rfl ?_
        refine A_iload hE 51 dX9_voice_49 rfl rfl ?_
        refine A_iload_n hE 52 dX9_voice_51 rfl rfl ?_
        refine A_callVi hE 55 (c_mcu (kdN s k) hkk s K be er st na pi tr bi sz nu as' im at' op sp us (nI 0) (nI k) 0 0 k (by omega) hk8 x) [0, 1, 2, 3, 4, 5, 6, 7, 8, 9, 10, 11, 12] dX9_voice_52 rfl mkX9_207 rfl rfl rfl rfl rfl rfl rfl (Nat.le_of_ble_eq_true rfl) (Nat.le_of_ble_eq_true rfl) rfl (fun x52 h52 g52 hp52 hw52 => ?_)
        obtain ⟨rfl, rfl⟩ := hp52
        obtain rfl := Option.some.inj hw52
        refine A_h (MW s K be er st na pi (apF (cuT (kdN s k)) 0 tr) bi sz nu as' im at' op sp us (nI (apN (cuT (kdN s k)) 0)) (nI k) 0) rfl ?_
        refine A_goto hE 95 dX9_voice_55 rfl ?_
        refine A_istore hE 97 dX9_voice_95 rfl rfl rfl ?_
        refine A_aload_n hE 98 dX9_voice_97 rfl rfl ?_
        refine A_get hE 101 dX9_voice_98 rfl fkX9_222 rfl rfl ?_
        refine A_if_eq hE 104 113 dX9_voice_101 rfl rfl (fun c101 => ?_) (fun c101 => absurd rfl c101)
        refine A_iload hE 115 dX9_voice_113 rfl rfl ?_
        refine A_iret hE dX9_voice_115 ?_
        have eF : voiceF s er (nI k) (nI 0) x = (cuV (nI k) (kdN s k) x, s, er) := by
          rw [voiceF, if_pos hv, ek, if_neg (fun z : nI 0 = 3 ∧ its s k 1 = nI k => absurd z.1 (by decide)), voV, if_pos (show nI 0 = 0 from rfl)]
        have eT : voT (kdN s k) (its s k 1) (nI k) (nI 0) = cuT (kdN s k) := by
          rw [voT, if_pos (show nI 0 = 0 from rfl)]
        rw [eF, voiceT, voiceR, if_pos hv, if_pos hv, ek, eT]
        exact ⟨rfl, _, _, rfl⟩
      | 1, _ =>
        refine A_iload_n hE 45 dX9_voice_44 rfl rfl ?_
        refine A_if_ne hE 48 58 dX9_voice_45 rfl rfl (fun c45 => ?_) (fun c45 => absurd c45 (by decide))
        refine A_iload_n hE 59 dX9_voice_58 rfl rfl ?_
        refine A_iconst hE 60 dX9_voice_59 rfl (1) rfl ?_
        refine A_icmp_ne hE 63 73 dX9_voice_60 rfl rfl (fun c60 => absurd rfl c60) (fun c60 => ?_)
        refine A_aload_n hE 64 dX9_voice_63 rfl rfl ?_
        refine A_iload hE 66 dX9_voice_64 rfl rfl ?_
        refine A_iload_n hE 67 dX9_voice_66 rfl rfl ?_
        refine A_callVi hE 70 (c_msa (kdN s k) hkk s K be er st na pi tr bi sz nu as' im at' op sp us (nI 0) (nI k) 0 0 k (by omega) hk8 (kdN s k) hkk hKd x) [0, 1, 2, 3, 4, 5, 6, 7, 8, 9, 10, 11, 12] dX9_voice_67 rfl mkX9_213 rfl rfl rfl rfl rfl rfl rfl (Nat.le_of_ble_eq_true rfl) (Nat.le_of_ble_eq_true rfl) rfl (fun x67 h67 g67 hp67 hw67 => ?_)
        obtain ⟨rfl, rfl⟩ := hp67
        obtain rfl := Option.some.inj hw67
        refine A_h (MW s K be er st na pi (apF (saT (kdN s k) (kdN s k)) 0 tr) bi sz nu as' im at' op sp us (nI (apN (saT (kdN s k) (kdN s k)) 0)) (nI k) 0) rfl ?_
        refine A_goto hE 95 dX9_voice_70 rfl ?_
        refine A_istore hE 97 dX9_voice_95 rfl rfl rfl ?_
        refine A_aload_n hE 98 dX9_voice_97 rfl rfl ?_
        refine A_get hE 101 dX9_voice_98 rfl fkX9_222 rfl rfl ?_
        refine A_if_eq hE 104 113 dX9_voice_101 rfl rfl (fun c101 => ?_) (fun c101 => absurd rfl c101)
        refine A_iload hE 115 dX9_voice_113 rfl rfl ?_
        refine A_iret hE dX9_voice_115 ?_
        have eF : voiceF s er (nI k) (nI 1) x = (saV (nI k) (its s k 1) (kdN s k) (kdN s k) x, s, er) := by
          rw [voiceF, if_pos hv, ek, if_neg (fun z : nI 1 = 3 ∧ its s k 1 = nI k => absurd z.1 (by decide)), voV, if_neg (show ¬ nI 1 = 0 by decide), if_pos (show nI 1 = 1 from rfl)]
        have eT : voT (kdN s k) (its s k 1) (nI k) (nI 1) = saT (kdN s k) (kdN s k) := by
          rw [voT, if_neg (show ¬ nI 1 = 0 by decide), if_pos (show nI 1 = 1 from rfl)]
        rw [eF, voiceT, voiceR, if_pos hv, if_pos hv, ek, eT]
        exact ⟨rfl, _, _, rfl⟩
      | 2, _ =>
        refine A_iload_n hE 45 dX9_voice_44 rfl rfl ?_
        refine A_if_ne hE 48 58 dX9_voice_45 rfl rfl (fun c45 => ?_) (fun c45 => absurd c45 (by decide))
        refine A_iload_n hE 59 dX9_voice_58 rfl rfl ?_
        refine A_iconst hE 60 dX9_voice_59 rfl (1) rfl ?_
        refine A_icmp_ne hE 63 73 dX9_voice_60 rfl rfl (fun c60 => ?_) (fun c60 => absurd c60 (by decide))
        refine A_iload_n hE 74 dX9_voice_73 rfl rfl ?_
        refine A_iconst hE 75 dX9_voice_74 rfl (2) rfl ?_
        refine A_icmp_ne hE 78 88 dX9_voice_75 rfl rfl (fun c75 => absurd rfl c75) (fun c75 => ?_)
        refine A_aload_n hE 79 dX9_voice_78 rfl rfl ?_
        refine A_iload hE 81 dX9_voice_79 rfl rfl ?_
        refine A_iload_n hE 82 dX9_voice_81 rfl rfl ?_
        refine A_callVi hE 85 (c_mst (kdN s k) hkk s K be er st na pi tr bi sz nu as' im at' op sp us (nI 0) (nI k) 0 0 k (by omega) hk8 (kdN s k) hkk hKd x) [0, 1, 2, 3, 4, 5, 6, 7, 8, 9, 10, 11, 12] dX9_voice_82 rfl mkX9_219 rfl rfl rfl rfl rfl rfl rfl (Nat.le_of_ble_eq_true rfl) (Nat.le_of_ble_eq_true rfl) rfl (fun x82 h82 g82 hp82 hw82 => ?_)
        obtain ⟨rfl, rfl⟩ := hp82
        obtain rfl := Option.some.inj hw82
        refine A_h (MW s K be er st na pi (apF (stT (kdN s k) (kdN s k)) 0 tr) bi sz nu as' im at' op sp us (nI (apN (stT (kdN s k) (kdN s k)) 0)) (nI k) 0) rfl ?_
        refine A_goto hE 95 dX9_voice_85 rfl ?_
        refine A_istore hE 97 dX9_voice_95 rfl rfl rfl ?_
        refine A_aload_n hE 98 dX9_voice_97 rfl rfl ?_
        refine A_get hE 101 dX9_voice_98 rfl fkX9_222 rfl rfl ?_
        refine A_if_eq hE 104 113 dX9_voice_101 rfl rfl (fun c101 => ?_) (fun c101 => absurd rfl c101)
        refine A_iload hE 115 dX9_voice_113 rfl rfl ?_
        refine A_iret hE dX9_voice_115 ?_
        have eF : voiceF s er (nI k) (nI 2) x = (stV (nI k) (its s k 1) (kdN s k) (kdN s k) x, s, er) := by
          rw [voiceF, if_pos hv, ek, if_neg (fun z : nI 2 = 3 ∧ its s k 1 = nI k => absurd z.1 (by decide)), voV, if_neg (show ¬ nI 2 = 0 by decide), if_neg (show ¬ nI 2 = 1 by decide), if_pos (show nI 2 = 2 from rfl)]
        have eT : voT (kdN s k) (its s k 1) (nI k) (nI 2) = stT (kdN s k) (kdN s k) := by
          rw [voT, if_neg (show ¬ nI 2 = 0 by decide), if_neg (show ¬ nI 2 = 1 by decide), if_pos (show nI 2 = 2 from rfl)]
        rw [eF, voiceT, voiceR, if_pos hv, if_pos hv, ek, eT]
        exact ⟨rfl, _, _, rfl⟩
      | 3, _ =>
        by_cases hm : its s k 1 = nI k
        · refine A_iload_n hE 45 dX9_voice_44 rfl rfl ?_
          refine A_if_ne hE 48 58 dX9_voice_45 rfl rfl (fun c45 => ?_) (fun c45 => absurd c45 (by decide))
          refine A_iload_n hE 59 dX9_voice_58 rfl rfl ?_
          refine A_iconst hE 60 dX9_voice_59 rfl (1) rfl ?_
          refine A_icmp_ne hE 63 73 dX9_voice_60 rfl rfl (fun c60 => ?_) (fun c60 => absurd c60 (by decide))
          refine A_iload_n hE 74 dX9_voice_73 rfl rfl ?_
          refine A_iconst hE 75 dX9_voice_74 rfl (2) rfl ?_
          refine A_icmp_ne hE 78 88 dX9_voice_75 rfl rfl (fun c75 => ?_) (fun c75 => absurd c75 (by decide))
          refine A_aload_n hE 89 dX9_voice_88 rfl rfl ?_
          refine A_iload hE 91 dX9_voice_89 rfl rfl ?_
          refine A_iload_n hE 92 dX9_voice_91 rfl rfl ?_
          refine A_callVi hE 95 (c_mpap (kdN s k) hkk s K be er st na pi tr bi sz nu as' im at' op sp us (nI 0) (nI k) 0 0 k (by omega) hk8 (kdN s k) hkk hKd x hm) [0, 1, 2, 3, 4, 5, 6, 7, 8, 9, 10, 11, 12] dX9_voice_92 rfl mkX9_226 rfl rfl rfl rfl rfl rfl rfl (Nat.le_of_ble_eq_true rfl) (Nat.le_of_ble_eq_true rfl) rfl (fun x92 h92 g92 hp92 hw92 => ?_)
          obtain ⟨rfl, rfl⟩ := hp92
          obtain rfl := Option.some.inj hw92
          refine A_h (MW s K be er st na pi (apF (paTp (kdN s k)) 0 tr) bi sz nu as' im at' op sp us (nI (apN (paTp (kdN s k)) 0)) (nI k) 1) rfl ?_
          refine A_istore hE 97 dX9_voice_95 rfl rfl rfl ?_
          refine A_aload_n hE 98 dX9_voice_97 rfl rfl ?_
          refine A_get hE 101 dX9_voice_98 rfl fkX9_222 rfl rfl ?_
          refine A_if_eq hE 104 113 dX9_voice_101 rfl rfl (fun c101 => absurd c101 (by decide)) (fun c101 => ?_)
          refine A_aload_n hE 105 dX9_voice_104 rfl rfl ?_
          refine A_bipush hE 107 dX9_voice_105 rfl (6) (by decide) ?_
          refine A_callVi hE 110 (c_X9_error s K be er st na pi (apF (paTp (kdN s k)) 0 tr) bi sz nu as' im at' op sp us (nI (apN (paTp (kdN s k)) 0)) (nI k) 1 6 (by omega)) [0, 1, 2, 3, 4, 5, 6, 7, 8, 9, 10, 11, 12] dX9_voice_107 rfl mkX9_51 rfl rfl rfl rfl rfl rfl rfl (Nat.le_of_ble_eq_true rfl) (Nat.le_of_ble_eq_true rfl) rfl (fun x107 h107 g107 hp107 hw107 => ?_)
          obtain ⟨rfl, rfl⟩ := hp107
          obtain rfl := Option.some.inj hw107
          refine A_h (MW s K be (upd er 6 (er 6 + 1)) st na pi (apF (paTp (kdN s k)) 0 tr) bi sz nu as' im at' op sp us (nI (apN (paTp (kdN s k)) 0)) (nI k) 1) rfl ?_
          refine A_goto hE 115 dX9_voice_110 rfl ?_
          refine A_iret hE dX9_voice_115 ?_
          have eF : voiceF s er (nI k) (nI 3) x = bad 6 s er := by
            rw [voiceF, if_pos hv, ek, if_pos (show nI 3 = 3 ∧ its s k 1 = nI k from ⟨rfl, hm⟩)]
          have eT : voT (kdN s k) (its s k 1) (nI k) (nI 3) = paTp (kdN s k) := by
            rw [voT, if_neg (show ¬ nI 3 = 0 by decide), if_neg (show ¬ nI 3 = 1 by decide), if_neg (show ¬ nI 3 = 2 by decide), if_pos hm]
          rw [eF, voiceT, voiceR, if_pos hv, if_pos hv, ek, eT]
          exact ⟨rfl, _, _, rfl⟩
        · refine A_iload_n hE 45 dX9_voice_44 rfl rfl ?_
          refine A_if_ne hE 48 58 dX9_voice_45 rfl rfl (fun c45 => ?_) (fun c45 => absurd c45 (by decide))
          refine A_iload_n hE 59 dX9_voice_58 rfl rfl ?_
          refine A_iconst hE 60 dX9_voice_59 rfl (1) rfl ?_
          refine A_icmp_ne hE 63 73 dX9_voice_60 rfl rfl (fun c60 => ?_) (fun c60 => absurd c60 (by decide))
          refine A_iload_n hE 74 dX9_voice_73 rfl rfl ?_
          refine A_iconst hE 75 dX9_voice_74 rfl (2) rfl ?_
          refine A_icmp_ne hE 78 88 dX9_voice_75 rfl rfl (fun c75 => ?_) (fun c75 => absurd c75 (by decide))
          refine A_aload_n hE 89 dX9_voice_88 rfl rfl ?_
          refine A_iload hE 91 dX9_voice_89 rfl rfl ?_
          refine A_iload_n hE 92 dX9_voice_91 rfl rfl ?_
          refine A_callVi hE 95 (c_mpan (kdN s k) hkk s K be er st na pi tr bi sz nu as' im at' op sp us (nI 0) (nI k) 0 0 k (by omega) hk8 (kdN s k) hkk hKd x hm) [0, 1, 2, 3, 4, 5, 6, 7, 8, 9, 10, 11, 12] dX9_voice_92 rfl mkX9_226 rfl rfl rfl rfl rfl rfl rfl (Nat.le_of_ble_eq_true rfl) (Nat.le_of_ble_eq_true rfl) rfl (fun x92 h92 g92 hp92 hw92 => ?_)
          obtain ⟨rfl, rfl⟩ := hp92
          obtain rfl := Option.some.inj hw92
          refine A_h (MW s K be er st na pi (apF (paT (kdN s k) (kdN s k)) 0 tr) bi sz nu as' im at' op sp us (nI (apN (paT (kdN s k) (kdN s k)) 0)) (nI k) 0) rfl ?_
          refine A_istore hE 97 dX9_voice_95 rfl rfl rfl ?_
          refine A_aload_n hE 98 dX9_voice_97 rfl rfl ?_
          refine A_get hE 101 dX9_voice_98 rfl fkX9_222 rfl rfl ?_
          refine A_if_eq hE 104 113 dX9_voice_101 rfl rfl (fun c101 => ?_) (fun c101 => absurd rfl c101)
          refine A_iload hE 115 dX9_voice_113 rfl rfl ?_
          refine A_iret hE dX9_voice_115 ?_
          have eF : voiceF s er (nI k) (nI 3) x = (paV (nI k) (its s k 1) (kdN s k) (kdN s k) x, s, er) := by
            rw [voiceF, if_pos hv, ek, if_neg (fun z : nI 3 = 3 ∧ its s k 1 = nI k => hm z.2), voV, if_neg (show ¬ nI 3 = 0 by decide), if_neg (show ¬ nI 3 = 1 by decide), if_neg (show ¬ nI 3 = 2 by decide)]
          have eT : voT (kdN s k) (its s k 1) (nI k) (nI 3) = paT (kdN s k) (kdN s k) := by
            rw [voT, if_neg (show ¬ nI 3 = 0 by decide), if_neg (show ¬ nI 3 = 1 by decide), if_neg (show ¬ nI 3 = 2 by decide), if_neg hm]
          rw [eF, voiceT, voiceR, if_pos hv, if_pos hv, ek, eT]
          exact ⟨rfl, _, _, rfl⟩
    · have hq := bI_0 c14
      refine A_aload_n hE 18 dX9_voice_17 rfl rfl ?_
      refine A_iconst hE 19 dX9_voice_18 rfl (1) rfl ?_
      refine A_callVi hE 22 (c_X9_error s K be er st na pi tr bi sz nu as' im at' op sp us (nI n) sk ip 1 (by omega)) [0, 1, 2, 3, 4, 5, 6, 7, 8, 9, 10, 11, 12] dX9_voice_19 rfl mkX9_51 rfl rfl rfl rfl rfl rfl rfl (Nat.le_of_ble_eq_true rfl) (Nat.le_of_ble_eq_true rfl) rfl (fun x19 h19 g19 hp19 hw19 => ?_)
      obtain ⟨rfl, rfl⟩ := hp19
      obtain rfl := Option.some.inj hw19
      refine A_h (MW s K be (upd er 1 (er 1 + 1)) st na pi tr bi sz nu as' im at' op sp us (nI n) sk ip) rfl ?_
      refine A_iret hE dX9_voice_22 ?_
      have hno : ¬ ((0 ≤ nI k ∧ nI k < s 8) ∧ (0 ≤ v ∧ v ≤ 3)) := (fun z => hq z.2)
      rw [voiceF, voiceT, voiceR, if_neg hno, if_neg hno, if_neg hno]
      exact ⟨rfl, sk, ip, rfl⟩
set_option maxRecDepth 100000 in
theorem c_X9_body (s K be er st na pi tr bi sz nu as' : Nat → Int32) (im at' op sp us tn sk ip : Int32) (i : Int32) (n : Nat) (hn30 : n ≤ 30) : AMet yX9_body cX9_body 2 (some (.int)) 2 0 0 [.ref 0, .int i] (MW s K be er st na pi tr bi sz nu as' im at' op sp us (nI n) sk ip) (pI fun x0 hz0 => x0 = (bodyF s er n tr i).1 ∧ hz0 = MW (bodyF s er n tr i).2.1 K be (bodyF s er n tr i).2.2 st na pi tr bi sz nu as' im at' op sp us (nI n) sk ip) := by
  refine AMet.of (by decide +kernel) rfl (fun E ad0 hE => ?_)
  refine A_iload_n hE 1 dX9_body_0 rfl rfl ?_
  refine A_iconst hE 2 dX9_body_1 rfl (0) rfl ?_
  refine A_aload_n hE 3 dX9_body_2 rfl rfl ?_
  refine A_get hE 6 dX9_body_3 rfl fkX9_198 rfl rfl ?_
  refine A_iconst hE 7 dX9_body_6 rfl (1) rfl ?_
  refine A_isub hE 8 dX9_body_7 rfl ?_
  refine A_callSi hE 11 (c_X9_in i 0 (nI n - 1)) [] dX9_body_8 rfl mkX9_47 rfl rfl rfl rfl rfl rfl (Nat.le_of_ble_eq_true rfl) (Nat.le_of_ble_eq_true rfl) rfl (fun x8 h8 g8 hp8 hw8 => ?_)
  obtain ⟨rfl, rfl⟩ := hp8
  obtain rfl := Option.some.inj hw8
  refine A_if_eq hE 14 23 dX9_body_11 rfl rfl (fun c11 => ?_) (fun c11 => ?_)
  · have hh := bI_0 c11
    refine A_aload_n hE 24 dX9_body_23 rfl rfl ?_
    refine A_iconst hE 25 dX9_body_24 rfl (2) rfl ?_
    refine A_callVi hE 28 (c_X9_error s K be er st na pi tr bi sz nu as' im at' op sp us (nI n) sk ip 2 (by omega)) [0, 1, 2, 3, 4, 5, 6, 7, 8, 9, 10, 11, 12] dX9_body_25 rfl mkX9_51 rfl rfl rfl rfl rfl rfl rfl (Nat.le_of_ble_eq_true rfl) (Nat.le_of_ble_eq_true rfl) rfl (fun x25 h25 g25 hp25 hw25 => ?_)
    obtain ⟨rfl, rfl⟩ := hp25
    obtain rfl := Option.some.inj hw25
    refine A_h (MW s K be (upd er 2 (er 2 + 1)) st na pi tr bi sz nu as' im at' op sp us (nI n) sk ip) rfl ?_
    refine A_iret hE dX9_body_28 ?_
    rw [bodyF, if_neg (fun z => hh ((in_iff (by omega) i).mpr z))]
    exact ⟨rfl, rfl⟩
  · have hh := bI_1 c11
    obtain ⟨j, hj, rfl⟩ := iK ((in_iff (by omega) i).mp hh).1 ((in_iff (by omega) i).mp hh).2 (by omega)
    have ej : (nI j).toNatClampNeg = j := nI_clamp (by omega)
    refine A_aload_n hE 15 dX9_body_14 rfl rfl ?_
    refine A_get hE 18 dX9_body_15 rfl fkX9_31 rfl rfl ?_
    refine A_iload_n hE 19 dX9_body_18 rfl rfl ?_
    refine A_iald hE 20 j dX9_body_19 rfl rfl rfl (by omega) rfl ?_
    refine A_goto hE 28 dX9_body_20 rfl ?_
    refine A_iret hE dX9_body_28 ?_
    rw [bodyF, if_pos ((in_iff (by omega) _).mp hh), ej]
    exact ⟨rfl, rfl⟩
set_option maxRecDepth 100000 in
theorem c_X9_copyAll (f g : Nat → Int32) : AMet yX9_copyAll cX9_copyAll 3 none 0 0 0 [.ref 0, .ref 1] [cI 383 f, cI 383 g] (pV fun h => h = [cI 383 f, cI 383 f]) := by
  refine AMet.of (by decide +kernel) rfl (fun E ad0 hE => ?_)
  refine A_iconst hE 1 dX9_copyAll_0 rfl (0) rfl ?_
  refine A_istore_n hE 2 dX9_copyAll_1 rfl rfl rfl ?_
  have loop : ∀ (m j : Nat), j + m = 383 → AW E (rmD 0 0 0) 3 (QM E ad0 2 0 0 (pV fun h => h = [cI 383 f, cI 383 f])) ad0 2 0 0 2 [(0, .ref 0), (1, .ref 1), (2, .int (nI j))] [] [cI 383 f, cI 383 (ovr j f g)] := by
    intro m
    induction m with
    | zero =>
      intro j hj
      obtain rfl : j = 383 := by omega
      refine A_arr 1 f rfl rfl (fun j hj => by unfold ovr; rw [if_pos hj]) ?_
      refine A_iload_n hE 3 dX9_copyAll_2 rfl rfl ?_
      refine A_sipush hE 6 dX9_copyAll_3 rfl (383) (by decide) ?_
      refine A_icmp_ge hE 9 21 dX9_copyAll_6 rfl rfl (fun c6 => ?_) (fun c6 => absurd (nI_le (a := 383) (b := 383) (by omega) (by omega)) c6)
      refine A_vret hE dX9_copyAll_21 ?_
      rfl
    | succ m ih =>
      intro j hj
      refine A_iload_n hE 3 dX9_copyAll_2 rfl rfl ?_
      refine A_sipush hE 6 dX9_copyAll_3 rfl (383) (by decide) ?_
      refine A_icmp_ge hE 9 21 dX9_copyAll_6 rfl rfl (fun c6 => absurd c6 (nI_ge (a := j) (b := 383) (by omega) (by omega))) (fun c6 => ?_)
      refine A_aload_n hE 10 dX9_copyAll_9 rfl rfl ?_
      refine A_iload_n hE 11 dX9_copyAll_10 rfl rfl ?_
      refine A_aload_n hE 12 dX9_copyAll_11 rfl rfl ?_
      refine A_iload_n hE 13 dX9_copyAll_12 rfl rfl ?_
      refine A_iald hE 14 j dX9_copyAll_13 rfl rfl rfl (by omega) rfl ?_
      refine A_iast hE 15 j dX9_copyAll_14 rfl rfl rfl (by omega) rfl rfl ?_
      refine A_iinc hE 18 dX9_copyAll_15 rfl rfl (1) rfl rfl rfl ?_
      rw [nI_1]
      refine A_lv [0, 1, 2] rfl ?_
      refine A_goto hE 2 dX9_copyAll_18 rfl ?_
      exact A_h [cI 383 f, cI 383 (ovr (j + 1) f g)] (by rw [ovr_step]) (ih (j + 1) (by omega))
  refine A_lv [0, 1, 2] rfl ?_
  exact A_h [cI 383 f, cI 383 (ovr 0 f g)] (by rw [ovr_0]) (loop 383 0 rfl)
set_option maxRecDepth 100000 in
theorem c_X9_image (s K be er st na pi tr bi sz nu as' : Nat → Int32) (im at' op sp us tn sk ip : Int32) : AMet yX9_image cX9_image 1 (some (.int)) 1 0 0 [.ref 0] (MW s K be er st na pi tr bi sz nu as' im at' op sp us tn sk ip) (pI fun x h => x = im + 1 ∧ h = MW s s be er st na pi tr bi sz nu as' (im + 1) at' op sp us tn sk ip) := by
  refine AMet.of (by decide +kernel) rfl (fun E ad0 hE => ?_)
  refine A_aload_n hE 1 dX9_image_0 rfl rfl ?_
  refine A_get hE 4 dX9_image_1 rfl fkX9_7 rfl rfl ?_
  refine A_aload_n hE 5 dX9_image_4 rfl rfl ?_
  refine A_get hE 8 dX9_image_5 rfl fkX9_13 rfl rfl ?_
  refine A_callSv hE 11 (c_X9_copyAll s K) [1, 2] dX9_image_8 rfl mkX9_232 rfl rfl rfl rfl rfl rfl (Nat.le_of_ble_eq_true rfl) (Nat.le_of_ble_eq_true rfl) rfl (fun h8 g8 hp8 hw8 => ?_)
  obtain rfl := hp8
  obtain rfl := Option.some.inj hw8
  refine A_h (MW s s be er st na pi tr bi sz nu as' im at' op sp us tn sk ip) rfl ?_
  refine A_aload_n hE 12 dX9_image_11 rfl rfl ?_
  refine A_dup hE 13 dX9_image_12 rfl rfl ?_
  refine A_get hE 16 dX9_image_13 rfl fkX9_236 rfl rfl ?_
  refine A_iconst hE 17 dX9_image_16 rfl (1) rfl ?_
  refine A_iadd hE 18 dX9_image_17 rfl ?_
  refine A_put hE 21 dX9_image_18 rfl fkX9_236 rfl rfl rfl rfl ?_
  refine A_aload_n hE 22 dX9_image_21 rfl rfl ?_
  refine A_get hE 25 dX9_image_22 rfl fkX9_236 rfl rfl ?_
  refine A_iret hE dX9_image_25 ⟨rfl, rfl⟩
set_option maxRecDepth 100000 in
theorem c_X9_restore (s K be er st na pi tr bi sz nu as' : Nat → Int32) (im at' op sp us tn sk ip : Int32) : AMet yX9_restore cX9_restore 1 (some (.int)) 1 0 0 [.ref 0] (MW s K be er st na pi tr bi sz nu as' im at' op sp us tn sk ip) (pI fun x h => (im = 0 → x = (bad 2 s er).1 ∧ h = MW s K be (bad 2 s er).2.2 st na pi tr bi sz nu as' im at' op sp us tn sk ip) ∧ (¬ im = 0 → x = K 0 ∧ h = MW K K be er st na pi tr bi sz nu as' im at' op sp us tn sk ip)) := by
  refine AMet.of (by decide +kernel) rfl (fun E ad0 hE => ?_)
  refine A_aload_n hE 1 dX9_restore_0 rfl rfl ?_
  refine A_get hE 4 dX9_restore_1 rfl fkX9_236 rfl rfl ?_
  refine A_if_ne hE 7 13 dX9_restore_4 rfl rfl (fun c4 => ?_) (fun c4 => ?_)
  · refine A_aload_n hE 14 dX9_restore_13 rfl rfl ?_
    refine A_get hE 17 dX9_restore_14 rfl fkX9_13 rfl rfl ?_
    refine A_aload_n hE 18 dX9_restore_17 rfl rfl ?_
    refine A_get hE 21 dX9_restore_18 rfl fkX9_7 rfl rfl ?_
    refine A_callSv hE 24 (c_X9_copyAll K s) [2, 1] dX9_restore_21 rfl mkX9_232 rfl rfl rfl rfl rfl rfl (Nat.le_of_ble_eq_true rfl) (Nat.le_of_ble_eq_true rfl) rfl (fun h21 g21 hp21 hw21 => ?_)
    obtain rfl := hp21
    obtain rfl := Option.some.inj hw21
    refine A_h (MW K K be er st na pi tr bi sz nu as' im at' op sp us tn sk ip) rfl ?_
    refine A_aload_n hE 25 dX9_restore_24 rfl rfl ?_
    refine A_get hE 28 dX9_restore_25 rfl fkX9_7 rfl rfl ?_
    refine A_iconst hE 29 dX9_restore_28 rfl (0) rfl ?_
    refine A_iald hE 30 0 dX9_restore_29 rfl rfl rfl (by omega) rfl ?_
    refine A_iret hE dX9_restore_30 ?_
    exact ⟨fun z => absurd z c4, fun _ => ⟨rfl, rfl⟩⟩
  · refine A_aload_n hE 8 dX9_restore_7 rfl rfl ?_
    refine A_iconst hE 9 dX9_restore_8 rfl (2) rfl ?_
    refine A_callVi hE 12 (c_X9_error s K be er st na pi tr bi sz nu as' im at' op sp us tn sk ip 2 (by omega)) [0, 1, 2, 3, 4, 5, 6, 7, 8, 9, 10, 11, 12] dX9_restore_9 rfl mkX9_51 rfl rfl rfl rfl rfl rfl rfl (Nat.le_of_ble_eq_true rfl) (Nat.le_of_ble_eq_true rfl) rfl (fun x9 h9 g9 hp9 hw9 => ?_)
    obtain ⟨rfl, rfl⟩ := hp9
    obtain rfl := Option.some.inj hw9
    refine A_h (MW s K be (upd er 2 (er 2 + 1)) st na pi tr bi sz nu as' im at' op sp us tn sk ip) rfl ?_
    refine A_iret hE dX9_restore_12 ?_
    exact ⟨fun _ => ⟨rfl, rfl⟩, fun z => absurd c4 z⟩
set_option maxRecDepth 100000 in
theorem c_X9_tell (s K be er st na pi tr bi sz nu as' : Nat → Int32) (im at' op sp us tn sk ip : Int32) (v : Int32) (t : Nat) (ht : t ≤ 24) (h7 : s 7 = nI t) : AMet yX9_tell cX9_tell 2 (some (.int)) 1 0 0 [.ref 0, .int v] (MW s K be er st na pi tr bi sz nu as' im at' op sp us tn sk ip) (pI fun x0 hz0 => x0 = (tellF s er v).1 ∧ hz0 = MW (tellF s er v).2.1 K be (tellF s er v).2.2 st na pi tr bi sz nu as' im at' op sp us tn sk ip) := by
  refine AMet.of (by decide +kernel) rfl (fun E ad0 hE => ?_)
  refine A_aload_n hE 1 dX9_tell_0 rfl rfl ?_
  refine A_get hE 4 dX9_tell_1 rfl fkX9_7 rfl rfl ?_
  refine A_bipush hE 6 dX9_tell_4 rfl (7) (by decide) ?_
  refine A_iald hE 7 7 dX9_tell_6 rfl rfl rfl (by omega) rfl ?_
  refine A_bipush hE 9 dX9_tell_7 rfl (24) (by decide) ?_
  refine A_icmp_ne hE 12 18 dX9_tell_9 rfl rfl (fun c9 => ?_) (fun c9 => ?_)
  · have h24 : t < 24 := by rcases Nat.lt_or_ge t 24 with q | q; exact q; exact absurd (by rw [h7, show t = 24 by omega]; rfl) c9
    refine A_aload_n hE 19 dX9_tell_18 rfl rfl ?_
    refine A_get hE 22 dX9_tell_19 rfl fkX9_7 rfl rfl ?_
    refine A_sipush hE 25 dX9_tell_22 rfl (359) (by decide) ?_
    refine A_aload_n hE 26 dX9_tell_25 rfl rfl ?_
    refine A_get hE 29 dX9_tell_26 rfl fkX9_7 rfl rfl ?_
    refine A_bipush hE 31 dX9_tell_29 rfl (7) (by decide) ?_
    refine A_iald hE 32 7 dX9_tell_31 rfl rfl rfl (by omega) rfl ?_
    refine A_iadd hE 33 dX9_tell_32 rfl ?_
    refine A_iload_n hE 34 dX9_tell_33 rfl rfl ?_
    refine A_iast hE 35 (359 + t) dX9_tell_34 rfl rfl (by rw [h7]; exact nI_add 359 t) (by omega) rfl rfl ?_
    refine A_aload_n hE 36 dX9_tell_35 rfl rfl ?_
    refine A_get hE 39 dX9_tell_36 rfl fkX9_7 rfl rfl ?_
    refine A_bipush hE 41 dX9_tell_39 rfl (7) (by decide) ?_
    refine A_dup2 hE 42 dX9_tell_41 rfl rfl rfl ?_
    refine A_iald hE 43 7 dX9_tell_42 rfl rfl rfl (by omega) rfl ?_
    rw [upd_n (by omega), h7]
    refine A_iconst hE 44 dX9_tell_43 rfl (1) rfl ?_
    refine A_iadd hE 45 dX9_tell_44 rfl ?_
    refine A_iast hE 46 7 dX9_tell_45 rfl rfl rfl (by omega) rfl rfl ?_
    refine A_aload_n hE 47 dX9_tell_46 rfl rfl ?_
    refine A_get hE 50 dX9_tell_47 rfl fkX9_7 rfl rfl ?_
    refine A_bipush hE 52 dX9_tell_50 rfl (7) (by decide) ?_
    refine A_iald hE 53 7 dX9_tell_52 rfl rfl rfl (by omega) rfl ?_
    rw [upd_s]
    refine A_iret hE dX9_tell_53 ?_
    rw [tellF, if_neg c9, h7, nI_clamp (by omega)]
    exact ⟨rfl, rfl⟩
  · refine A_aload_n hE 13 dX9_tell_12 rfl rfl ?_
    refine A_iconst hE 14 dX9_tell_13 rfl (4) rfl ?_
    refine A_callVi hE 17 (c_X9_error s K be er st na pi tr bi sz nu as' im at' op sp us tn sk ip 4 (by omega)) [0, 1, 2, 3, 4, 5, 6, 7, 8, 9, 10, 11, 12] dX9_tell_14 rfl mkX9_51 rfl rfl rfl rfl rfl rfl rfl (Nat.le_of_ble_eq_true rfl) (Nat.le_of_ble_eq_true rfl) rfl (fun x14 h14 g14 hp14 hw14 => ?_)
    obtain ⟨rfl, rfl⟩ := hp14
    obtain rfl := Option.some.inj hw14
    refine A_h (MW s K be (upd er 4 (er 4 + 1)) st na pi tr bi sz nu as' im at' op sp us tn sk ip) rfl ?_
    refine A_iret hE dX9_tell_17 ?_
    rw [tellF, if_pos c9]
    exact ⟨rfl, rfl⟩
set_option maxRecDepth 100000 in
theorem c_X9_check (s K be er st na pi tr bi sz nu as' : Nat → Int32) (im at' op sp us tn sk ip : Int32) (t0 : Sp) (t : Nat) (ht : t ≤ 24) (h7 : s 7 = nI t) (w : wf s) (l0 : MText s 0 t0) : AMet yX9_check cX9_check 3 (some (.int)) 4 0 0 [.ref 0] (MW s K be er st na pi tr bi sz nu as' im at' op sp us tn sk ip) (pI fun x0 hz0 => x0 = (checkF t0 s er).1 ∧ ∃ na' pi' : Nat → Int32, hz0 = MW (checkF t0 s er).2.1 K be (checkF t0 s er).2.2 st na' pi' tr bi sz nu as' im at' op sp us tn sk ip) := by
  refine AMet.of (by decide +kernel) rfl (fun E ad0 hE => ?_)
  have w7 : wf (upd s 7 0) := wf_lo (by omega) w
  obtain ⟨v1, v2, v3, v4, v5, v6, v7⟩ := id w7
  refine A_aload_n hE 1 dX9_check_0 rfl rfl ?_
  refine A_get hE 4 dX9_check_1 rfl fkX9_7 rfl rfl ?_
  refine A_bipush hE 6 dX9_check_4 rfl (7) (by decide) ?_
  refine A_iald hE 7 7 dX9_check_6 rfl rfl rfl (by omega) rfl ?_
  rw [h7]
  refine A_istore_n hE 8 dX9_check_7 rfl rfl rfl ?_
  refine A_aload_n hE 9 dX9_check_8 rfl rfl ?_
  refine A_get hE 12 dX9_check_9 rfl fkX9_7 rfl rfl ?_
  refine A_bipush hE 14 dX9_check_12 rfl (7) (by decide) ?_
  refine A_iconst hE 15 dX9_check_14 rfl (0) rfl ?_
  refine A_iast hE 16 7 dX9_check_15 rfl rfl rfl (by omega) rfl rfl ?_
  refine A_iconst hE 17 dX9_check_16 rfl (0) rfl ?_
  refine A_istore_n hE 18 dX9_check_17 rfl rfl rfl ?_
  have loop : ∀ (m k : Nat) (na pi : Nat → Int32), k + m = t → chk t0 (upd s 7 0) t 0 = chk t0 (upd s 7 0) m k → AW E (rmD 4 0 0) 3 (QM E ad0 13 0 0 (pI fun x0 hz0 => x0 = (checkF t0 s er).1 ∧ ∃ na' pi' : Nat → Int32, hz0 = MW (checkF t0 s er).2.1 K be (checkF t0 s er).2.2 st na' pi' tr bi sz nu as' im at' op sp us tn sk ip)) ad0 13 0 0 18 [(0, .ref 0), (1, .int (nI t)), (2, .int (nI k))] [] (MW (upd s 7 0) K be er st na pi tr bi sz nu as' im at' op sp us tn sk ip) := by
    intro m
    induction m with
    | zero =>
      intro k na pi hk hx
      obtain rfl : k = t := by omega
      refine A_iload_n hE 19 dX9_check_18 rfl rfl ?_
      refine A_iload_n hE 20 dX9_check_19 rfl rfl ?_
      refine A_icmp_ge hE 23 59 dX9_check_20 rfl rfl (fun c20 => ?_) (fun c20 => absurd (nI_le (Nat.le_refl _) (by omega)) c20)
      refine A_iconst hE 60 dX9_check_59 rfl (0) rfl ?_
      refine A_iret hE dX9_check_60 ?_
      rw [checkF, h7, nI_clamp (by omega), hx, chk]
      exact ⟨rfl, na, pi, rfl⟩
    | succ m ih =>
      intro k na pi hk hx
      refine A_iload_n hE 19 dX9_check_18 rfl rfl ?_
      refine A_iload_n hE 20 dX9_check_19 rfl rfl ?_
      refine A_icmp_ge hE 23 59 dX9_check_20 rfl rfl (fun c20 => absurd c20 (nI_ge (a := k) (b := t) (by omega) (by omega))) (fun c20 => ?_)
      refine A_aload_n hE 24 dX9_check_23 rfl rfl ?_
      refine A_iload_n hE 25 dX9_check_24 rfl rfl ?_
      refine A_callVi hE 28 (c_X9_isHome (upd s 7 0) K be er st na pi tr bi sz nu as' im at' op sp us tn sk ip (nI k) (hn (upd s 7 0)) v1 v2) [0, 1, 2, 3, 4, 5, 6, 7, 8, 9, 10, 11, 12] dX9_check_25 rfl mkX9_156 rfl rfl rfl rfl rfl rfl rfl (Nat.le_of_ble_eq_true rfl) (Nat.le_of_ble_eq_true rfl) rfl (fun x25 h25 g25 hp25 hw25 => ?_)
      obtain ⟨rfl, rfl⟩ := hp25
      obtain rfl := Option.some.inj hw25
      refine A_h (MW (upd s 7 0) K be er st na pi tr bi sz nu as' im at' op sp us tn sk ip) rfl ?_
      refine A_if_eq hE 31 49 dX9_check_28 rfl rfl (fun c28 => ?_) (fun c28 => ?_)
      · have hh := bI_0 c28
        have hlt : k < hn (upd s 7 0) → (0 ≤ nI k ∧ nI k < (upd s 7 0) 8) := fun z => ⟨nI_pos' (by omega), by rw [v2]; exact nI_lt z (by omega)⟩
        refine A_iconst hE 50 dX9_check_49 rfl (1) rfl ?_
        refine A_iload_n hE 51 dX9_check_50 rfl rfl ?_
        refine A_iadd hE 52 dX9_check_51 rfl ?_
        refine A_iret hE dX9_check_52 ?_
        rw [checkF, h7, nI_clamp (by omega), hx, chk, if_neg (fun z => hh (hlt z.1))]
        exact ⟨rfl, na, pi, rfl⟩
      · have hh := bI_1 c28
        have hkn : k < hn (upd s 7 0) := by have z := hh.2; rw [v2] at z; exact (nI_ltI (by omega) (by omega)).mp z
        refine A_aload_n hE 32 dX9_check_31 rfl rfl ?_
        refine A_get hE 35 dX9_check_32 rfl fkX9_7 rfl rfl ?_
        refine A_sipush hE 38 dX9_check_35 rfl (359) (by decide) ?_
        refine A_iload_n hE 39 dX9_check_38 rfl rfl ?_
        refine A_iadd hE 40 dX9_check_39 rfl ?_
        refine A_iald hE 41 (359 + k) dX9_check_40 rfl rfl (nI_add 359 k) (by omega) rfl ?_
        refine A_aload_n hE 42 dX9_check_41 rfl rfl ?_
        refine A_iload_n hE 43 dX9_check_42 rfl rfl ?_
        refine A_callVi hE 46 (c_X9_saidAt (upd s 7 0) K be er st na pi tr bi sz nu as' im at' op sp us tn sk ip (nI k) k rfl (by omega) (v5 _ (by omega)) t0 (l0.lo (by omega))) [0, 1, 2, 3, 4, 5, 6, 7, 8, 9, 10, 11, 12] dX9_check_43 rfl mkX9_134 rfl rfl rfl rfl rfl rfl rfl (Nat.le_of_ble_eq_true rfl) (Nat.le_of_ble_eq_true rfl) rfl (fun x43 h43 g43 hp43 hw43 => ?_)
        obtain ⟨rfl, na1, pi1, rfl⟩ := hp43
        obtain rfl := Option.some.inj hw43
        refine A_h (MW (upd s 7 0) K be er st na1 pi1 tr bi sz nu as' im at' op sp us tn sk ip) rfl ?_
        refine A_icmp_eq hE 49 53 dX9_check_46 rfl rfl (fun c46 => ?_) (fun c46 => ?_)
        · refine A_iinc hE 56 dX9_check_53 rfl rfl (1) rfl rfl rfl ?_
          rw [nI_1]
          refine A_lv [0, 1, 2] rfl ?_
          refine A_goto hE 18 dX9_check_56 rfl ?_
          exact ih (k + 1) na1 pi1 (by omega) (hx.trans (by rw [chk, if_pos ⟨hkn, c46⟩]))
        · refine A_iconst hE 50 dX9_check_49 rfl (1) rfl ?_
          refine A_iload_n hE 51 dX9_check_50 rfl rfl ?_
          refine A_iadd hE 52 dX9_check_51 rfl ?_
          refine A_iret hE dX9_check_52 ?_
          rw [checkF, h7, nI_clamp (by omega), hx, chk, if_neg (fun z => c46 z.2)]
          exact ⟨rfl, na1, pi1, rfl⟩
  refine A_lv [0, 1, 2] rfl ?_
  exact loop t 0 na pi (Nat.zero_add _) rfl
set_option maxRecDepth 100000 in
theorem c_X9_pastNow (s K be er st na pi tr bi sz nu as' : Nat → Int32) (im at' op sp us tn sk ip : Int32) (w : wf s) : AMet yX9_pastNow cX9_pastNow 3 (some (.int)) 1 0 0 [.ref 0] (MW s K be er st na pi tr bi sz nu as' im at' op sp us tn sk ip) (pI fun x h => x = pm s ∧ h = MW s K be er st na pi tr bi sz nu as' im at' op sp us tn sk ip) := by
  refine AMet.of (by decide +kernel) rfl (fun E ad0 hE => ?_)
  obtain ⟨w1, w2, w3, w4, w5, w6, w7⟩ := id w
  refine A_iconst hE 1 dX9_pastNow_0 rfl (0) rfl ?_
  refine A_istore_n hE 2 dX9_pastNow_1 rfl rfl rfl ?_
  refine A_iconst hE 3 dX9_pastNow_2 rfl (0) rfl ?_
  refine A_istore_n hE 4 dX9_pastNow_3 rfl rfl rfl ?_
  have loop : ∀ (m j : Nat), j + m = hn s → AW E (rmD 1 0 0) 3 (QM E ad0 13 0 0 (pI fun x h => x = pm s ∧ h = MW s K be er st na pi tr bi sz nu as' im at' op sp us tn sk ip)) ad0 13 0 0 4 [(0, .ref 0), (1, .int (nI (pmK s j))), (2, .int (nI j))] [] (MW s K be er st na pi tr bi sz nu as' im at' op sp us tn sk ip) := by
    intro m
    induction m with
    | zero =>
      intro j hj
      obtain rfl : j = hn s := by omega
      refine A_iload_n hE 5 dX9_pastNow_4 rfl rfl ?_
      refine A_aload_n hE 6 dX9_pastNow_5 rfl rfl ?_
      refine A_get hE 9 dX9_pastNow_6 rfl fkX9_7 rfl rfl ?_
      refine A_bipush hE 11 dX9_pastNow_9 rfl (8) (by decide) ?_
      refine A_iald hE 12 8 dX9_pastNow_11 rfl rfl rfl (by omega) rfl ?_
      refine A_icmp_ge hE 15 32 dX9_pastNow_12 rfl rfl (fun c12 => ?_) (fun c12 => absurd (by rw [w2]; exact nI_le (Nat.le_refl _) (by omega)) c12)
      refine A_iload_n hE 33 dX9_pastNow_32 rfl rfl ?_
      refine A_iret hE dX9_pastNow_33 ?_
      rw [pmK_end w (8 - hn s) (hn s) (by omega) (Nat.le_refl _)]
      exact ⟨rfl, rfl⟩
    | succ m ih =>
      intro j hj
      have hlt : j < hn s := by omega
      refine A_iload_n hE 5 dX9_pastNow_4 rfl rfl ?_
      refine A_aload_n hE 6 dX9_pastNow_5 rfl rfl ?_
      refine A_get hE 9 dX9_pastNow_6 rfl fkX9_7 rfl rfl ?_
      refine A_bipush hE 11 dX9_pastNow_9 rfl (8) (by decide) ?_
      refine A_iald hE 12 8 dX9_pastNow_11 rfl rfl rfl (by omega) rfl ?_
      refine A_icmp_ge hE 15 32 dX9_pastNow_12 rfl rfl (fun c12 => absurd c12 (by rw [w2]; exact nI_ge hlt (by omega))) (fun c12 => ?_)
      refine A_iload_n hE 16 dX9_pastNow_15 rfl rfl ?_
      refine A_aload_n hE 17 dX9_pastNow_16 rfl rfl ?_
      refine A_iload_n hE 18 dX9_pastNow_17 rfl rfl ?_
      refine A_iconst hE 19 dX9_pastNow_18 rfl (4) rfl ?_
      refine A_callVi hE 22 (c_X9_its s K be er st na pi tr bi sz nu as' im at' op sp us tn sk ip (nI j) 4 j 4 rfl rfl (by omega) (by omega)) [0, 1, 2, 3, 4, 5, 6, 7, 8, 9, 10, 11, 12] dX9_pastNow_19 rfl mkX9_111 rfl rfl rfl rfl rfl rfl rfl (Nat.le_of_ble_eq_true rfl) (Nat.le_of_ble_eq_true rfl) rfl (fun x19 h19 g19 hp19 hw19 => ?_)
      obtain ⟨rfl, rfl⟩ := hp19
      obtain rfl := Option.some.inj hw19
      refine A_h (MW s K be er st na pi tr bi sz nu as' im at' op sp us tn sk ip) rfl ?_
      rw [← bit_val (w5 j (by omega)).2.2.2.2.1]
      refine A_iload_n hE 23 dX9_pastNow_22 rfl rfl ?_
      refine A_ishl hE 24 dX9_pastNow_23 rfl ?_
      refine A_ior hE 25 dX9_pastNow_24 rfl ?_
      rw [or_step j (by omega) _ (pmK_lt s j) _ (by have := bit_le s j; omega)]
      refine A_istore_n hE 26 dX9_pastNow_25 rfl rfl rfl ?_
      refine A_iinc hE 29 dX9_pastNow_26 rfl rfl (1) rfl rfl rfl ?_
      rw [nI_1]
      refine A_lv [0, 1, 2] rfl ?_
      refine A_goto hE 4 dX9_pastNow_29 rfl ?_
      exact ih (j + 1) (by omega)
  refine A_lv [0, 1, 2] rfl ?_
  exact loop (hn s) 0 (Nat.zero_add _)
theorem tab_out {x : Int32} (h : ¬ (0 ≤ x ∧ x ≤ 11)) : x.toInt < 0 ∨ 11 < x.toInt := by
  by_cases h0 : 0 ≤ x
  · right
    have h1 : 11 < x := Int32.not_le.mp (fun z => h ⟨h0, z⟩)
    exact Int32.lt_iff_toInt_lt.mp h1
  · left
    exact Int32.lt_iff_toInt_lt.mp (Int32.not_le.mp h0)

set_option maxRecDepth 100000 in
theorem c_X9_count (s K be er st na pi tr bi sz nu as' : Nat → Int32) (im at' op sp us tn sk ip : Int32) (what : Int32) (n : Nat) (w : wf s) : AMet yX9_count cX9_count 2 (some (.int)) 2 0 0 [.ref 0, .int what] (MW s K be er st na pi tr bi sz nu as' im at' op sp us (nI n) sk ip) (pI fun x0 hz0 => x0 = (countF s er n what).1 ∧ hz0 = MW (countF s er n what).2.1 K be (countF s er n what).2.2 st na pi tr bi sz nu as' im at' op sp us (nI n) sk ip) := by
  refine AMet.of (by decide +kernel) rfl (fun E ad0 hE => ?_)
  obtain ⟨w1, w2, w3, w4, w5, w6, w7⟩ := id w
  by_cases hw : 0 ≤ what ∧ what ≤ 11
  · obtain ⟨k, hk, rfl⟩ := iK2 (n := 11) hw.1 hw.2 (by omega)
    rw [countF, if_pos hw, nI_clamp (by omega)]
    match k, hk with
    | 0, _ =>
      refine A_iload_n hE 1 dX9_count_0 rfl rfl ?_
      refine A_tabIn hE 64 dX9_count_1 (by decide) (by decide) (off := 63) (by decide) rfl ?_
      refine A_aload_n hE 65 dX9_count_64 rfl rfl ?_
      refine A_get hE 68 dX9_count_65 rfl fkX9_7 rfl rfl ?_
      refine A_bipush hE 70 dX9_count_68 rfl (8) (by decide) ?_
      refine A_iald hE 71 8 dX9_count_70 rfl rfl rfl (by omega) rfl ?_
      refine A_iret hE dX9_count_71 ⟨rfl, rfl⟩
    | 1, _ =>
      refine A_iload_n hE 1 dX9_count_0 rfl rfl ?_
      refine A_tabIn hE 72 dX9_count_1 (by decide) (by decide) (off := 71) (by decide) rfl ?_
      refine A_aload_n hE 73 dX9_count_72 rfl rfl ?_
      refine A_get hE 76 dX9_count_73 rfl fkX9_7 rfl rfl ?_
      refine A_iconst hE 77 dX9_count_76 rfl (0) rfl ?_
      refine A_iald hE 78 _ dX9_count_77 rfl rfl rfl (by decide) rfl ?_
      refine A_iret hE dX9_count_78 ⟨rfl, rfl⟩
    | 2, _ =>
      refine A_iload_n hE 1 dX9_count_0 rfl rfl ?_
      refine A_tabIn hE 79 dX9_count_1 (by decide) (by decide) (off := 78) (by decide) rfl ?_
      refine A_aload_n hE 80 dX9_count_79 rfl rfl ?_
      refine A_get hE 83 dX9_count_80 rfl fkX9_7 rfl rfl ?_
      refine A_iconst hE 84 dX9_count_83 rfl (4) rfl ?_
      refine A_iald hE 85 _ dX9_count_84 rfl rfl rfl (by decide) rfl ?_
      refine A_iret hE dX9_count_85 ⟨rfl, rfl⟩
    | 3, _ =>
      refine A_iload_n hE 1 dX9_count_0 rfl rfl ?_
      refine A_tabIn hE 86 dX9_count_1 (by decide) (by decide) (off := 85) (by decide) rfl ?_
      refine A_aload_n hE 87 dX9_count_86 rfl rfl ?_
      refine A_get hE 90 dX9_count_87 rfl fkX9_7 rfl rfl ?_
      refine A_iconst hE 91 dX9_count_90 rfl (1) rfl ?_
      refine A_iload_n hE 92 dX9_count_91 rfl rfl ?_
      refine A_iadd hE 93 dX9_count_92 rfl ?_
      refine A_iconst hE 94 dX9_count_93 rfl (3) rfl ?_
      refine A_isub hE 95 dX9_count_94 rfl ?_
      refine A_iald hE 96 1 dX9_count_95 rfl rfl rfl (by omega) rfl ?_
      refine A_iret hE dX9_count_96 ⟨rfl, rfl⟩
    | 4, _ =>
      refine A_iload_n hE 1 dX9_count_0 rfl rfl ?_
      refine A_tabIn hE 86 dX9_count_1 (by decide) (by decide) (off := 85) (by decide) rfl ?_
      refine A_aload_n hE 87 dX9_count_86 rfl rfl ?_
      refine A_get hE 90 dX9_count_87 rfl fkX9_7 rfl rfl ?_
      refine A_iconst hE 91 dX9_count_90 rfl (1) rfl ?_
      refine A_iload_n hE 92 dX9_count_91 rfl rfl ?_
      refine A_iadd hE 93 dX9_count_92 rfl ?_
      refine A_iconst hE 94 dX9_count_93 rfl (3) rfl ?_
      refine A_isub hE 95 dX9_count_94 rfl ?_
      refine A_iald hE 96 2 dX9_count_95 rfl rfl rfl (by omega) rfl ?_
      refine A_iret hE dX9_count_96 ⟨rfl, rfl⟩
    | 5, _ =>
      refine A_iload_n hE 1 dX9_count_0 rfl rfl ?_
      refine A_tabIn hE 86 dX9_count_1 (by decide) (by decide) (off := 85) (by decide) rfl ?_
      refine A_aload_n hE 87 dX9_count_86 rfl rfl ?_
      refine A_get hE 90 dX9_count_87 rfl fkX9_7 rfl rfl ?_
      refine A_iconst hE 91 dX9_count_90 rfl (1) rfl ?_
      refine A_iload_n hE 92 dX9_count_91 rfl rfl ?_
      refine A_iadd hE 93 dX9_count_92 rfl ?_
      refine A_iconst hE 94 dX9_count_93 rfl (3) rfl ?_
      refine A_isub hE 95 dX9_count_94 rfl ?_
      refine A_iald hE 96 3 dX9_count_95 rfl rfl rfl (by omega) rfl ?_
      refine A_iret hE dX9_count_96 ⟨rfl, rfl⟩
    | 6, _ =>
      refine A_iload_n hE 1 dX9_count_0 rfl rfl ?_
      refine A_tabIn hE 97 dX9_count_1 (by decide) (by decide) (off := 96) (by decide) rfl ?_
      refine A_aload_n hE 98 dX9_count_97 rfl rfl ?_
      refine A_callVi hE 101 (c_X9_heardAll s K be er st na pi tr bi sz nu as' im at' op sp us (nI n) sk ip w) [0, 1, 2, 3, 4, 5, 6, 7, 8, 9, 10, 11, 12] dX9_count_98 rfl mkX9_173 rfl rfl rfl rfl rfl rfl rfl (Nat.le_of_ble_eq_true rfl) (Nat.le_of_ble_eq_true rfl) rfl (fun x98 h98 g98 hp98 hw98 => ?_)
      obtain ⟨rfl, rfl⟩ := hp98
      obtain rfl := Option.some.inj hw98
      refine A_h (MW s K be er st na pi tr bi sz nu as' im at' op sp us (nI n) sk ip) rfl ?_
      refine A_iret hE dX9_count_101 ⟨rfl, rfl⟩
    | 7, _ =>
      refine A_iload_n hE 1 dX9_count_0 rfl rfl ?_
      refine A_tabIn hE 102 dX9_count_1 (by decide) (by decide) (off := 101) (by decide) rfl ?_
      refine A_aload_n hE 103 dX9_count_102 rfl rfl ?_
      refine A_callVi hE 106 (c_X9_pastNow s K be er st na pi tr bi sz nu as' im at' op sp us (nI n) sk ip w) [0, 1, 2, 3, 4, 5, 6, 7, 8, 9, 10, 11, 12] dX9_count_103 rfl mkX9_239 rfl rfl rfl rfl rfl rfl rfl (Nat.le_of_ble_eq_true rfl) (Nat.le_of_ble_eq_true rfl) rfl (fun x103 h103 g103 hp103 hw103 => ?_)
      obtain ⟨rfl, rfl⟩ := hp103
      obtain rfl := Option.some.inj hw103
      refine A_h (MW s K be er st na pi tr bi sz nu as' im at' op sp us (nI n) sk ip) rfl ?_
      refine A_iret hE dX9_count_106 ⟨rfl, rfl⟩
    | 8, _ =>
      refine A_iload_n hE 1 dX9_count_0 rfl rfl ?_
      refine A_tabIn hE 107 dX9_count_1 (by decide) (by decide) (off := 106) (by decide) rfl ?_
      refine A_aload_n hE 108 dX9_count_107 rfl rfl ?_
      refine A_get hE 111 dX9_count_108 rfl fkX9_7 rfl rfl ?_
      refine A_bipush hE 113 dX9_count_111 rfl (6) (by decide) ?_
      refine A_iald hE 114 6 dX9_count_113 rfl rfl rfl (by omega) rfl ?_
      refine A_iret hE dX9_count_114 ⟨rfl, rfl⟩
    | 9, _ =>
      refine A_iload_n hE 1 dX9_count_0 rfl rfl ?_
      refine A_tabIn hE 115 dX9_count_1 (by decide) (by decide) (off := 114) (by decide) rfl ?_
      refine A_aload_n hE 116 dX9_count_115 rfl rfl ?_
      refine A_get hE 119 dX9_count_116 rfl fkX9_7 rfl rfl ?_
      refine A_bipush hE 121 dX9_count_119 rfl (7) (by decide) ?_
      refine A_iald hE 122 7 dX9_count_121 rfl rfl rfl (by omega) rfl ?_
      refine A_iret hE dX9_count_122 ⟨rfl, rfl⟩
    | 10, _ =>
      refine A_iload_n hE 1 dX9_count_0 rfl rfl ?_
      refine A_tabIn hE 123 dX9_count_1 (by decide) (by decide) (off := 122) (by decide) rfl ?_
      refine A_aload_n hE 124 dX9_count_123 rfl rfl ?_
      refine A_get hE 127 dX9_count_124 rfl fkX9_198 rfl rfl ?_
      refine A_iret hE dX9_count_127 ⟨rfl, rfl⟩
    | 11, _ =>
      refine A_iload_n hE 1 dX9_count_0 rfl rfl ?_
      refine A_tabIn hE 128 dX9_count_1 (by decide) (by decide) (off := 127) (by decide) rfl ?_
      refine A_aload_n hE 129 dX9_count_128 rfl rfl ?_
      refine A_get hE 132 dX9_count_129 rfl fkX9_7 rfl rfl ?_
      refine A_iconst hE 133 dX9_count_132 rfl (5) rfl ?_
      refine A_iald hE 134 5 dX9_count_133 rfl rfl rfl (by omega) rfl ?_
      refine A_iret hE dX9_count_134 ⟨rfl, rfl⟩
  · rw [countF, if_neg hw]
    refine A_iload_n hE 1 dX9_count_0 rfl rfl ?_
    refine A_tabOut hE 135 dX9_count_1 (tab_out hw) rfl ?_
    refine A_aload_n hE 136 dX9_count_135 rfl rfl ?_
    refine A_iconst hE 137 dX9_count_136 rfl (1) rfl ?_
    refine A_callVi hE 140 (c_X9_error s K be er st na pi tr bi sz nu as' im at' op sp us (nI n) sk ip 1 (by omega)) [0, 1, 2, 3, 4, 5, 6, 7, 8, 9, 10, 11, 12] dX9_count_137 rfl mkX9_51 rfl rfl rfl rfl rfl rfl rfl (Nat.le_of_ble_eq_true rfl) (Nat.le_of_ble_eq_true rfl) rfl (fun x137 h137 g137 hp137 hw137 => ?_)
    obtain ⟨rfl, rfl⟩ := hp137
    obtain rfl := Option.some.inj hw137
    refine A_h (MW s K be (upd er 1 (er 1 + 1)) st na pi tr bi sz nu as' im at' op sp us (nI n) sk ip) rfl ?_
    refine A_iret hE dX9_count_140 ⟨rfl, rfl⟩
set_option maxRecDepth 100000 in
theorem c_X9_told (s K be er st na pi tr bi sz nu as' : Nat → Int32) (im at' op sp us tn sk ip : Int32) (k : Int32) : AMet yX9_told cX9_told 2 (some (.int)) 1 0 0 [.ref 0, .int k] (MW s K be er st na pi tr bi sz nu as' im at' op sp us tn sk ip) (pI fun x0 hz0 => x0 = (toldF s er k).1 ∧ hz0 = MW (toldF s er k).2.1 K be (toldF s er k).2.2 st na pi tr bi sz nu as' im at' op sp us tn sk ip) := by
  refine AMet.of (by decide +kernel) rfl (fun E ad0 hE => ?_)
  refine A_iload_n hE 1 dX9_told_0 rfl rfl ?_
  refine A_iconst hE 2 dX9_told_1 rfl (1) rfl ?_
  refine A_bipush hE 4 dX9_told_2 rfl (6) (by decide) ?_
  refine A_callSi hE 7 (c_X9_in k 1 6) [] dX9_told_4 rfl mkX9_47 rfl rfl rfl rfl rfl rfl (Nat.le_of_ble_eq_true rfl) (Nat.le_of_ble_eq_true rfl) rfl (fun x4 h4 g4 hp4 hw4 => ?_)
  obtain ⟨rfl, rfl⟩ := hp4
  obtain rfl := Option.some.inj hw4
  refine A_if_eq hE 10 19 dX9_told_7 rfl rfl (fun c7 => ?_) (fun c7 => ?_)
  · have hh := bI_0 c7
    refine A_aload_n hE 20 dX9_told_19 rfl rfl ?_
    refine A_iconst hE 21 dX9_told_20 rfl (1) rfl ?_
    refine A_callVi hE 24 (c_X9_error s K be er st na pi tr bi sz nu as' im at' op sp us tn sk ip 1 (by omega)) [0, 1, 2, 3, 4, 5, 6, 7, 8, 9, 10, 11, 12] dX9_told_21 rfl mkX9_51 rfl rfl rfl rfl rfl rfl rfl (Nat.le_of_ble_eq_true rfl) (Nat.le_of_ble_eq_true rfl) rfl (fun x21 h21 g21 hp21 hw21 => ?_)
    obtain ⟨rfl, rfl⟩ := hp21
    obtain rfl := Option.some.inj hw21
    refine A_h (MW s K be (upd er 1 (er 1 + 1)) st na pi tr bi sz nu as' im at' op sp us tn sk ip) rfl ?_
    refine A_iret hE dX9_told_24 ?_
    rw [toldF, if_neg hh]
    exact ⟨rfl, rfl⟩
  · have hh := bI_1 c7
    obtain ⟨j, hkj, rfl⟩ := iK2 (n := 6) (Int32.le_trans (show (0 : Int32) ≤ 1 by decide) hh.1) hh.2 (by omega)
    have ej : (nI j).toNatClampNeg = j := nI_clamp (by omega)
    refine A_aload_n hE 11 dX9_told_10 rfl rfl ?_
    refine A_get hE 14 dX9_told_11 rfl fkX9_19 rfl rfl ?_
    refine A_iload_n hE 15 dX9_told_14 rfl rfl ?_
    refine A_iald hE 16 j dX9_told_15 rfl rfl rfl (by omega) rfl ?_
    refine A_goto hE 24 dX9_told_16 rfl ?_
    refine A_iret hE dX9_told_24 ?_
    rw [toldF, if_pos hh, ej]
    exact ⟨rfl, rfl⟩
