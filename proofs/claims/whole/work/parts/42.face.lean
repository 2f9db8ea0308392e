def shF (j : Nat) : Option Nat := if j = 0 then some 51 else if j = 1 then some 54 else if j = 2 then some 57 else if j = 3 then some 60 else none
abbrev cShs : AE := .inl (1, 4, .inr (.inr (.inr (.inr shF))))
abbrev Y2 (er : Nat → Int32) (im : Int32) : List AE := [.inr (8, [.ref 2, .ref 32, .ref 29, .ref 20, .ref 26, .ref 50, .ref 1, .int im]), cI 7 er]
abbrev Y16 (er : Nat → Int32) (im : Int32) (s : St) (t0 : Sp) (g0 h0 : Nat → Int32) (t1 : Sp) (g1 h1 : Nat → Int32) : List AE := [.inr (8, [.ref 2, .ref 32, .ref 29, .ref 20, .ref 26, .ref 50, .ref 1, .int im]), cI 7 er, StO 11 16 18, LawO 4 6 0, cRow 5 (nI t0.length), cI 60 g0, cI 60 h0, LawO 8 10 1, cRow 9 (nI t1.length), cI 60 g1, cI 60 h1, RoundO 3 7 12 13 14 15 s, cI 8 (arr s 0), cI 8 (arr s 1), cI 8 (arr s 2), cI 8 (arr s 3)]
abbrev Y20 (er : Nat → Int32) (im : Int32) (s : St) (t0 : Sp) (g0 h0 : Nat → Int32) (t1 : Sp) (g1 h1 : Nat → Int32) (tl : Nat) (tp : Nat → Int32) (wl : Nat) (wt : Nat → Int32) : List AE := [.inr (8, [.ref 2, .ref 32, .ref 29, .ref 20, .ref 26, .ref 50, .ref 1, .int im]), cI 7 er, StO 11 16 18, LawO 4 6 0, cRow 5 (nI t0.length), cI 60 g0, cI 60 h0, LawO 8 10 1, cRow 9 (nI t1.length), cI 60 g1, cI 60 h1, RoundO 3 7 12 13 14 15 s, cI 8 (arr s 0), cI 8 (arr s 1), cI 8 (arr s 2), cI 8 (arr s 3), cRow 17 (nI tl), cI 60 tp, cRow 19 (nI wl), cI 24 wt]
abbrev Y26 (er : Nat → Int32) (im : Int32) (s : St) (t0 : Sp) (g0 h0 : Nat → Int32) (t1 : Sp) (g1 h1 : Nat → Int32) (tl : Nat) (tp : Nat → Int32) (wl : Nat) (wt : Nat → Int32) (wh mu : Int32) (J : St) : List AE := [.inr (8, [.ref 2, .ref 32, .ref 29, .ref 20, .ref 26, .ref 50, .ref 1, .int im]), cI 7 er, StO 11 16 18, LawO 4 6 0, cRow 5 (nI t0.length), cI 60 g0, cI 60 h0, LawO 8 10 1, cRow 9 (nI t1.length), cI 60 g1, cI 60 h1, RoundO 3 7 12 13 14 15 s, cI 8 (arr s 0), cI 8 (arr s 1), cI 8 (arr s 2), cI 8 (arr s 3), cRow 17 (nI tl), cI 60 tp, cRow 19 (nI wl), cI 24 wt, .inr (6, [.ref 21, .int wh, .int mu]), RoundO 63 67 22 23 24 25 J, cI 8 (arr J 0), cI 8 (arr J 1), cI 8 (arr J 2), cI 8 (arr J 3)]
abbrev Y29 (er : Nat → Int32) (im : Int32) (s : St) (t0 : Sp) (g0 h0 : Nat → Int32) (t1 : Sp) (g1 h1 : Nat → Int32) (tl : Nat) (tp : Nat → Int32) (wl : Nat) (wt : Nat → Int32) (wh mu : Int32) (J : St) (pt : Int32) (vK : Nat) (vk vm : Int32) (tn : Nat) (tr : Nat → Int32) : List AE := [.inr (8, [.ref 2, .ref 32, .ref 29, .ref 20, .ref 26, .ref 50, .ref 1, .int im]), cI 7 er, StO 11 16 18, LawO 4 6 0, cRow 5 (nI t0.length), cI 60 g0, cI 60 h0, LawO 8 10 1, cRow 9 (nI t1.length), cI 60 g1, cI 60 h1, RoundO 3 7 12 13 14 15 s, cI 8 (arr s 0), cI 8 (arr s 1), cI 8 (arr s 2), cI 8 (arr s 3), cRow 17 (nI tl), cI 60 tp, cRow 19 (nI wl), cI 24 wt, .inr (6, [.ref 21, .int wh, .int mu]), RoundO 63 67 22 23 24 25 J, cI 8 (arr J 0), cI 8 (arr J 1), cI 8 (arr J 2), cI 8 (arr J 3), .inr (7, [.ref 27, .int pt, .int (nI vK), .int vk, .int vm]), cRow 28 (nI tn), cI 30 tr]
abbrev Y32 (er : Nat → Int32) (im : Int32) (s : St) (t0 : Sp) (g0 h0 : Nat → Int32) (t1 : Sp) (g1 h1 : Nat → Int32) (tl : Nat) (tp : Nat → Int32) (wl : Nat) (wt : Nat → Int32) (wh mu : Int32) (J : St) (pt : Int32) (vK : Nat) (vk vm : Int32) (tn : Nat) (tr : Nat → Int32) (v1 v2 : Value) (pl ft : Int32) (rk : Nat) (rf : Nat → Int32) : List AE := [.inr (8, [.ref 2, .ref 32, .ref 29, .ref 20, .ref 26, .ref 50, .ref 1, .int im]), cI 7 er, StO 11 16 18, LawO 4 6 0, cRow 5 (nI t0.length), cI 60 g0, cI 60 h0, LawO 8 10 1, cRow 9 (nI t1.length), cI 60 g1, cI 60 h1, RoundO 3 7 12 13 14 15 s, cI 8 (arr s 0), cI 8 (arr s 1), cI 8 (arr s 2), cI 8 (arr s 3), cRow 17 (nI tl), cI 60 tp, cRow 19 (nI wl), cI 24 wt, .inr (6, [.ref 21, .int wh, .int mu]), RoundO 63 67 22 23 24 25 J, cI 8 (arr J 0), cI 8 (arr J 1), cI 8 (arr J 2), cI 8 (arr J 3), .inr (7, [.ref 27, .int pt, .int (nI vK), .int vk, .int vm]), cRow 28 (nI tn), cI 30 tr, .inr (1, [.ref 30, v1, v2, .int pl, .int ft]), cRow 31 (nI rk), cI 60 rf]
abbrev Y50 (er : Nat → Int32) (im : Int32) (s : St) (t0 : Sp) (g0 h0 : Nat → Int32) (t1 : Sp) (g1 h1 : Nat → Int32) (tl : Nat) (tp : Nat → Int32) (wl : Nat) (wt : Nat → Int32) (wh mu : Int32) (J : St) (pt : Int32) (vK : Nat) (vk vm : Int32) (tn : Nat) (tr : Nat → Int32) (v1 v2 : Value) (pl ft : Int32) (rk : Nat) (rf : Nat → Int32) (K : St) (m0 : Nat) (f0 k0 : Nat → Int32) (m1 : Nat) (f1 k1 : Nat → Int32) (tl2 : Nat) (tp2 : Nat → Int32) (wl2 : Nat) (wt2 : Nat → Int32) : List AE := [.inr (8, [.ref 2, .ref 32, .ref 29, .ref 20, .ref 26, .ref 50, .ref 1, .int im]), cI 7 er, StO 11 16 18, LawO 4 6 0, cRow 5 (nI t0.length), cI 60 g0, cI 60 h0, LawO 8 10 1, cRow 9 (nI t1.length), cI 60 g1, cI 60 h1, RoundO 3 7 12 13 14 15 s, cI 8 (arr s 0), cI 8 (arr s 1), cI 8 (arr s 2), cI 8 (arr s 3), cRow 17 (nI tl), cI 60 tp, cRow 19 (nI wl), cI 24 wt, .inr (6, [.ref 21, .int wh, .int mu]), RoundO 63 67 22 23 24 25 J, cI 8 (arr J 0), cI 8 (arr J 1), cI 8 (arr J 2), cI 8 (arr J 3), .inr (7, [.ref 27, .int pt, .int (nI vK), .int vk, .int vm]), cRow 28 (nI tn), cI 30 tr, .inr (1, [.ref 30, v1, v2, .int pl, .int ft]), cRow 31 (nI rk), cI 60 rf, StO 41 46 48, LawO 34 36 0, cRow 35 (nI m0), cI 60 f0, cI 60 k0, LawO 38 40 1, cRow 39 (nI m1), cI 60 f1, cI 60 k1, RoundO 33 37 42 43 44 45 K, cI 8 (arr K 0), cI 8 (arr K 1), cI 8 (arr K 2), cI 8 (arr K 3), cRow 47 (nI tl2), cI 60 tp2, cRow 49 (nI wl2), cI 24 wt2]
abbrev Y63 (er : Nat → Int32) (im : Int32) (s : St) (t0 : Sp) (g0 h0 : Nat → Int32) (t1 : Sp) (g1 h1 : Nat → Int32) (tl : Nat) (tp : Nat → Int32) (wl : Nat) (wt : Nat → Int32) (wh mu : Int32) (J : St) (pt : Int32) (vK : Nat) (vk vm : Int32) (tn : Nat) (tr : Nat → Int32) (v1 v2 : Value) (pl ft : Int32) (rk : Nat) (rf : Nat → Int32) (K : St) (m0 : Nat) (f0 k0 : Nat → Int32) (m1 : Nat) (f1 k1 : Nat → Int32) (tl2 : Nat) (tp2 : Nat → Int32) (wl2 : Nat) (wt2 sb : Nat → Int32) (zs : Nat → Nat) (sn : Nat → Nat → Int32) : List AE := [.inr (8, [.ref 2, .ref 32, .ref 29, .ref 20, .ref 26, .ref 50, .ref 1, .int im]), cI 7 er, StO 11 16 18, LawO 4 6 0, cRow 5 (nI t0.length), cI 60 g0, cI 60 h0, LawO 8 10 1, cRow 9 (nI t1.length), cI 60 g1, cI 60 h1, RoundO 3 7 12 13 14 15 s, cI 8 (arr s 0), cI 8 (arr s 1), cI 8 (arr s 2), cI 8 (arr s 3), cRow 17 (nI tl), cI 60 tp, cRow 19 (nI wl), cI 24 wt, .inr (6, [.ref 21, .int wh, .int mu]), RoundO 63 67 22 23 24 25 J, cI 8 (arr J 0), cI 8 (arr J 1), cI 8 (arr J 2), cI 8 (arr J 3), .inr (7, [.ref 27, .int pt, .int (nI vK), .int vk, .int vm]), cRow 28 (nI tn), cI 30 tr, .inr (1, [.ref 30, v1, v2, .int pl, .int ft]), cRow 31 (nI rk), cI 60 rf, StO 41 46 48, LawO 34 36 0, cRow 35 (nI m0), cI 60 f0, cI 60 k0, LawO 38 40 1, cRow 39 (nI m1), cI 60 f1, cI 60 k1, RoundO 33 37 42 43 44 45 K, cI 8 (arr K 0), cI 8 (arr K 1), cI 8 (arr K 2), cI 8 (arr K 3), cRow 47 (nI tl2), cI 60 tp2, cRow 49 (nI wl2), cI 24 wt2, cShs, ShO 52 (sb 0), cRow 53 (nI (zs 0)), cI 24 (sn 0), ShO 55 (sb 1), cRow 56 (nI (zs 1)), cI 24 (sn 1), ShO 58 (sb 2), cRow 59 (nI (zs 2)), cI 24 (sn 2), ShO 61 (sb 3), cRow 62 (nI (zs 3)), cI 24 (sn 3)]
abbrev Y71 (er : Nat → Int32) (im : Int32) (s : St) (t0 : Sp) (g0 h0 : Nat → Int32) (t1 : Sp) (g1 h1 : Nat → Int32) (tl : Nat) (tp : Nat → Int32) (wl : Nat) (wt : Nat → Int32) (wh mu : Int32) (J : St) (pt : Int32) (vK : Nat) (vk vm : Int32) (tn : Nat) (tr : Nat → Int32) (v1 v2 : Value) (pl ft : Int32) (rk : Nat) (rf : Nat → Int32) (K : St) (m0 : Nat) (f0 k0 : Nat → Int32) (m1 : Nat) (f1 k1 : Nat → Int32) (tl2 : Nat) (tp2 : Nat → Int32) (wl2 : Nat) (wt2 sb : Nat → Int32) (zs : Nat → Nat) (sn : Nat → Nat → Int32) (dn : Nat) (df dk : Nat → Int32) (dm : Nat) (dg dl : Nat → Int32) : List AE := [.inr (8, [.ref 2, .ref 32, .ref 29, .ref 20, .ref 26, .ref 50, .ref 1, .int im]), cI 7 er, StO 11 16 18, LawO 4 6 0, cRow 5 (nI t0.length), cI 60 g0, cI 60 h0, LawO 8 10 1, cRow 9 (nI t1.length), cI 60 g1, cI 60 h1, RoundO 3 7 12 13 14 15 s, cI 8 (arr s 0), cI 8 (arr s 1), cI 8 (arr s 2), cI 8 (arr s 3), cRow 17 (nI tl), cI 60 tp, cRow 19 (nI wl), cI 24 wt, .inr (6, [.ref 21, .int wh, .int mu]), RoundO 63 67 22 23 24 25 J, cI 8 (arr J 0), cI 8 (arr J 1), cI 8 (arr J 2), cI 8 (arr J 3), .inr (7, [.ref 27, .int pt, .int (nI vK), .int vk, .int vm]), cRow 28 (nI tn), cI 30 tr, .inr (1, [.ref 30, v1, v2, .int pl, .int ft]), cRow 31 (nI rk), cI 60 rf, StO 41 46 48, LawO 34 36 0, cRow 35 (nI m0), cI 60 f0, cI 60 k0, LawO 38 40 1, cRow 39 (nI m1), cI 60 f1, cI 60 k1, RoundO 33 37 42 43 44 45 K, cI 8 (arr K 0), cI 8 (arr K 1), cI 8 (arr K 2), cI 8 (arr K 3), cRow 47 (nI tl2), cI 60 tp2, cRow 49 (nI wl2), cI 24 wt2, cShs, ShO 52 (sb 0), cRow 53 (nI (zs 0)), cI 24 (sn 0), ShO 55 (sb 1), cRow 56 (nI (zs 1)), cI 24 (sn 1), ShO 58 (sb 2), cRow 59 (nI (zs 2)), cI 24 (sn 2), ShO 61 (sb 3), cRow 62 (nI (zs 3)), cI 24 (sn 3), LawO 64 66 0, cRow 65 (nI dn), cI 60 df, cI 60 dk, LawO 68 70 1, cRow 69 (nI dm), cI 60 dg, cI 60 dl]

theorem Y16_hi0 {er : Nat → Int32} {im : Int32} {s : St} {t0 : Sp} {g0 h0 : Nat → Int32} {t1 : Sp} {g1 h1 : Nat → Int32} {a : Nat} {v : Int32} : Y16 er im (upd s (9 + 5 * a + 0) v) t0 g0 h0 t1 g1 h1 = [.inr (8, [.ref 2, .ref 32, .ref 29, .ref 20, .ref 26, .ref 50, .ref 1, .int im]), cI 7 er, StO 11 16 18, LawO 4 6 0, cRow 5 (nI t0.length), cI 60 g0, cI 60 h0, LawO 8 10 1, cRow 9 (nI t1.length), cI 60 g1, cI 60 h1, RoundO 3 7 12 13 14 15 s, cI 8 (upd (arr s 0) a v), cI 8 (arr s 1), cI 8 (arr s 2), cI 8 (arr s 3)] := by
  simp only [Y16, RoundO, pm_ne (i := 0) (by omega), upd_lo_hi (show 8 < 9 by omega), upd_lo_hi (show 0 < 9 by omega), upd_lo_hi (show 1 < 9 by omega), upd_lo_hi (show 2 < 9 by omega), upd_lo_hi (show 3 < 9 by omega), upd_lo_hi (show 4 < 9 by omega), upd_lo_hi (show 5 < 9 by omega), arr_eq (j := 0) (by omega), arr_ne (i := 0) (j := 1) (by omega) (by omega) (by omega), arr_ne (i := 0) (j := 2) (by omega) (by omega) (by omega), arr_ne (i := 0) (j := 3) (by omega) (by omega) (by omega)]

theorem Y16_hi1 {er : Nat → Int32} {im : Int32} {s : St} {t0 : Sp} {g0 h0 : Nat → Int32} {t1 : Sp} {g1 h1 : Nat → Int32} {a : Nat} {v : Int32} : Y16 er im (upd s (9 + 5 * a + 1) v) t0 g0 h0 t1 g1 h1 = [.inr (8, [.ref 2, .ref 32, .ref 29, .ref 20, .ref 26, .ref 50, .ref 1, .int im]), cI 7 er, StO 11 16 18, LawO 4 6 0, cRow 5 (nI t0.length), cI 60 g0, cI 60 h0, LawO 8 10 1, cRow 9 (nI t1.length), cI 60 g1, cI 60 h1, RoundO 3 7 12 13 14 15 s, cI 8 (arr s 0), cI 8 (upd (arr s 1) a v), cI 8 (arr s 2), cI 8 (arr s 3)] := by
  simp only [Y16, RoundO, pm_ne (i := 1) (by omega), upd_lo_hi (show 8 < 9 by omega), upd_lo_hi (show 0 < 9 by omega), upd_lo_hi (show 1 < 9 by omega), upd_lo_hi (show 2 < 9 by omega), upd_lo_hi (show 3 < 9 by omega), upd_lo_hi (show 4 < 9 by omega), upd_lo_hi (show 5 < 9 by omega), arr_eq (j := 1) (by omega), arr_ne (i := 1) (j := 0) (by omega) (by omega) (by omega), arr_ne (i := 1) (j := 2) (by omega) (by omega) (by omega), arr_ne (i := 1) (j := 3) (by omega) (by omega) (by omega)]

theorem Y16_hi2 {er : Nat → Int32} {im : Int32} {s : St} {t0 : Sp} {g0 h0 : Nat → Int32} {t1 : Sp} {g1 h1 : Nat → Int32} {a : Nat} {v : Int32} : Y16 er im (upd s (9 + 5 * a + 2) v) t0 g0 h0 t1 g1 h1 = [.inr (8, [.ref 2, .ref 32, .ref 29, .ref 20, .ref 26, .ref 50, .ref 1, .int im]), cI 7 er, StO 11 16 18, LawO 4 6 0, cRow 5 (nI t0.length), cI 60 g0, cI 60 h0, LawO 8 10 1, cRow 9 (nI t1.length), cI 60 g1, cI 60 h1, RoundO 3 7 12 13 14 15 s, cI 8 (arr s 0), cI 8 (arr s 1), cI 8 (upd (arr s 2) a v), cI 8 (arr s 3)] := by
  simp only [Y16, RoundO, pm_ne (i := 2) (by omega), upd_lo_hi (show 8 < 9 by omega), upd_lo_hi (show 0 < 9 by omega), upd_lo_hi (show 1 < 9 by omega), upd_lo_hi (show 2 < 9 by omega), upd_lo_hi (show 3 < 9 by omega), upd_lo_hi (show 4 < 9 by omega), upd_lo_hi (show 5 < 9 by omega), arr_eq (j := 2) (by omega), arr_ne (i := 2) (j := 0) (by omega) (by omega) (by omega), arr_ne (i := 2) (j := 1) (by omega) (by omega) (by omega), arr_ne (i := 2) (j := 3) (by omega) (by omega) (by omega)]

theorem Y16_hi3 {er : Nat → Int32} {im : Int32} {s : St} {t0 : Sp} {g0 h0 : Nat → Int32} {t1 : Sp} {g1 h1 : Nat → Int32} {a : Nat} {v : Int32} : Y16 er im (upd s (9 + 5 * a + 3) v) t0 g0 h0 t1 g1 h1 = [.inr (8, [.ref 2, .ref 32, .ref 29, .ref 20, .ref 26, .ref 50, .ref 1, .int im]), cI 7 er, StO 11 16 18, LawO 4 6 0, cRow 5 (nI t0.length), cI 60 g0, cI 60 h0, LawO 8 10 1, cRow 9 (nI t1.length), cI 60 g1, cI 60 h1, RoundO 3 7 12 13 14 15 s, cI 8 (arr s 0), cI 8 (arr s 1), cI 8 (arr s 2), cI 8 (upd (arr s 3) a v)] := by
  simp only [Y16, RoundO, pm_ne (i := 3) (by omega), upd_lo_hi (show 8 < 9 by omega), upd_lo_hi (show 0 < 9 by omega), upd_lo_hi (show 1 < 9 by omega), upd_lo_hi (show 2 < 9 by omega), upd_lo_hi (show 3 < 9 by omega), upd_lo_hi (show 4 < 9 by omega), upd_lo_hi (show 5 < 9 by omega), arr_eq (j := 3) (by omega), arr_ne (i := 3) (j := 0) (by omega) (by omega) (by omega), arr_ne (i := 3) (j := 1) (by omega) (by omega) (by omega), arr_ne (i := 3) (j := 2) (by omega) (by omega) (by omega)]

theorem Y16_lo {er : Nat → Int32} {im : Int32} {s : St} {t0 : Sp} {g0 h0 : Nat → Int32} {t1 : Sp} {g1 h1 : Nat → Int32} {k : Nat} {v : Int32} (hk : k < 9) : Y16 er im (upd s k v) t0 g0 h0 t1 g1 h1 = [.inr (8, [.ref 2, .ref 32, .ref 29, .ref 20, .ref 26, .ref 50, .ref 1, .int im]), cI 7 er, StO 11 16 18, LawO 4 6 0, cRow 5 (nI t0.length), cI 60 g0, cI 60 h0, LawO 8 10 1, cRow 9 (nI t1.length), cI 60 g1, cI 60 h1, .inr (2, [.ref 3, .ref 7, .ref 12, .ref 13, .ref 14, .ref 15, .int (pm s), .int (upd s k v 8), .int (upd s k v 0), .int (upd s k v 1), .int (upd s k v 2), .int (upd s k v 3), .int (upd s k v 4), .int (upd s k v 5)]), cI 8 (arr s 0), cI 8 (arr s 1), cI 8 (arr s 2), cI 8 (arr s 3)] := by
  simp only [Y16, RoundO, pm_lo hk, arr_lo hk]

theorem tabO {w : Int32} {n : Nat} (hn : n < 2 ^ 31) (h : ¬ (0 ≤ w ∧ w ≤ nI n)) : w.toInt < 0 ∨ (n : Int) < w.toInt := by
  rw [Int32.le_iff_toInt_le, Int32.le_iff_toInt_le, nI_toInt hn, Int32.toInt_zero] at h
  omega

set_option maxRecDepth 100000 in
theorem c_X8_error (er : Nat → Int32) (im : Int32) (k : Nat) (hk : k < 7) : AMet yX8_error cX8_error 2 (some (.int)) 0 0 0 [.ref 0, .int (nI k)] (Y2 er im) (pI fun x h => x = -1000000000 - nI k ∧ h = Y2 (upd er k (er k + 1)) im) := by
  refine AMet.of (by decide +kernel) rfl (fun E ad0 hE => ?_)
  refine A_aload_n hE 1 dX8_error_0 rfl rfl ?_
  refine A_get hE 4 dX8_error_1 rfl fkX8_46 rfl rfl ?_
  refine A_iload_n hE 5 dX8_error_4 rfl rfl ?_
  refine A_dup2 hE 6 dX8_error_5 rfl rfl rfl ?_
  refine A_iald hE 7 k dX8_error_6 rfl rfl rfl hk rfl ?_
  refine A_iconst hE 8 dX8_error_7 rfl (1) rfl ?_
  refine A_iadd hE 9 dX8_error_8 rfl ?_
  refine A_iast hE 10 k dX8_error_9 rfl rfl rfl hk rfl rfl ?_
  refine A_ldcw hE 13 dX8_error_10 rfl kkX8_295 ?_
  refine A_iload_n hE 14 dX8_error_13 rfl rfl ?_
  refine A_isub hE 15 dX8_error_14 rfl ?_
  refine A_iret hE dX8_error_15 ⟨rfl, rfl⟩
set_option maxRecDepth 100000 in
theorem c_X8_isUse (v : Int32) : AMet yX8_isUse cX8_isUse 1 (some (.boolean)) 1 0 0 [.int v] [] (pI fun r h => r = bI (decide (0 ≤ v ∧ v ≤ 1)) ∧ h = []) := by
  refine AMet.of (by decide +kernel) rfl (fun E ad0 hE => ?_)
  refine A_iload_n hE 1 dX8_isUse_0 rfl rfl ?_
  refine A_iconst hE 2 dX8_isUse_1 rfl (0) rfl ?_
  refine A_iconst hE 3 dX8_isUse_2 rfl (1) rfl ?_
  refine A_callSi hE 6 (c_X8_isWithin v 0 1) [] dX8_isUse_3 rfl mkX8_55 rfl rfl rfl rfl rfl rfl (Nat.le_of_ble_eq_true rfl) (Nat.le_of_ble_eq_true rfl) rfl (fun x3 h3 g3 hp3 hw3 => ?_)
  obtain ⟨rfl, rfl⟩ := hp3
  obtain rfl := Option.some.inj hw3
  refine A_zret hE dX8_isUse_6 (bI_or _) ⟨rfl, rfl⟩
set_option maxRecDepth 100000 in
theorem c_X8_isSheet (v : Int32) : AMet yX8_isSheet cX8_isSheet 1 (some (.boolean)) 1 0 0 [.int v] [] (pI fun r h => r = bI (decide (0 ≤ v ∧ v ≤ 3)) ∧ h = []) := by
  refine AMet.of (by decide +kernel) rfl (fun E ad0 hE => ?_)
  refine A_iload_n hE 1 dX8_isSheet_0 rfl rfl ?_
  refine A_iconst hE 2 dX8_isSheet_1 rfl (0) rfl ?_
  refine A_iconst hE 3 dX8_isSheet_2 rfl (3) rfl ?_
  refine A_callSi hE 6 (c_X8_isWithin v 0 3) [] dX8_isSheet_3 rfl mkX8_55 rfl rfl rfl rfl rfl rfl (Nat.le_of_ble_eq_true rfl) (Nat.le_of_ble_eq_true rfl) rfl (fun x3 h3 g3 hp3 hw3 => ?_)
  obtain ⟨rfl, rfl⟩ := hp3
  obtain rfl := Option.some.inj hw3
  refine A_zret hE dX8_isSheet_6 (bI_or _) ⟨rfl, rfl⟩
set_option maxRecDepth 100000 in
theorem c_X8_home (er : Nat → Int32) (im : Int32) (s : St) (t0 : Sp) (g0 h0 : Nat → Int32) (t1 : Sp) (g1 h1 : Nat → Int32) (km : Int32) (w : wf s) : AMet yX8_home cX8_home 2 (some (.int)) 1 0 0 [.ref 0, .int km] (Y16 er im s t0 g0 h0 t1 g1 h1) (pI fun x0 hz0 => x0 = (homeF s er km).1 ∧ hz0 = Y16 (homeF s er km).2.2 im (homeF s er km).2.1 t0 g0 h0 t1 g1 h1) := by
  refine AMet.of (by decide +kernel) rfl (fun E ad0 hE => ?_)
  obtain ⟨w1, w2, w3, w4, w5, w6, w7⟩ := id w
  refine A_iload_n hE 1 dX8_home_0 rfl rfl ?_
  refine A_iconst hE 2 dX8_home_1 rfl (0) rfl ?_
  refine A_bipush hE 4 dX8_home_2 rfl (69) (by decide) ?_
  refine A_callSi hE 7 (c_X8_isWithin km 0 69) [] dX8_home_4 rfl mkX8_55 rfl rfl rfl rfl rfl rfl (Nat.le_of_ble_eq_true rfl) (Nat.le_of_ble_eq_true rfl) rfl (fun x4 h4 g4 hp4 hw4 => ?_)
  obtain ⟨rfl, rfl⟩ := hp4
  obtain rfl := Option.some.inj hw4
  refine A_if_ne hE 10 16 dX8_home_7 rfl rfl (fun c7 => ?_) (fun c7 => ?_)
  · have hh := bI_1 c7
    refine A_aload_n hE 17 dX8_home_16 rfl rfl ?_
    refine A_get hE 20 dX8_home_17 rfl fkX8_10 rfl rfl ?_
    refine A_get hE 23 dX8_home_20 rfl fkX8_63 rfl rfl ?_
    refine A_get hE 26 dX8_home_23 rfl fkX8_67 rfl rfl ?_
    refine A_bipush hE 28 dX8_home_26 rfl (8) (by decide) ?_
    refine A_icmp_lt hE 31 37 dX8_home_28 rfl rfl (fun c28 => ?_) (fun c28 => ?_)
    · refine A_aload_n hE 38 dX8_home_37 rfl rfl ?_
      refine A_get hE 41 dX8_home_38 rfl fkX8_10 rfl rfl ?_
      refine A_get hE 44 dX8_home_41 rfl fkX8_63 rfl rfl ?_
      refine A_iload_n hE 45 dX8_home_44 rfl rfl ?_
      refine A_callVi hE 48 (c_X2_takeIn s t0 t1 g0 h0 g1 h1 km w (by rw [w2] at c28; exact (nI_ltI (b := 8) (by omega) (by omega)).mp c28)) [11, 3, 4, 5, 6, 7, 8, 9, 10, 12, 13, 14, 15] dX8_home_45 rfl mkX8_72 rfl rfl rfl rfl rfl rfl rfl (Nat.le_of_ble_eq_true rfl) (Nat.le_of_ble_eq_true rfl) rfl (fun x45 h45 g45 hp45 hw45 => ?_)
      obtain ⟨rfl, rfl⟩ := hp45
      obtain rfl := Option.some.inj hw45
      refine A_h (Y16 er im (inS km s) t0 g0 h0 t1 g1 h1) rfl ?_
      refine A_iret hE dX8_home_48 ?_
      rw [homeF, if_pos hh, if_neg (fun z => by rw [z] at c28; exact absurd c28 (by decide))]
      exact ⟨rfl, rfl⟩
    · refine A_aload_n hE 32 dX8_home_31 rfl rfl ?_
      refine A_iconst hE 33 dX8_home_32 rfl (4) rfl ?_
      refine A_callVi hE 36 (c_X8_error er im 4 (by omega)) [0, 1] dX8_home_33 rfl mkX8_59 rfl rfl rfl rfl rfl rfl rfl (Nat.le_of_ble_eq_true rfl) (Nat.le_of_ble_eq_true rfl) rfl (fun x33 h33 g33 hp33 hw33 => ?_)
      obtain ⟨rfl, rfl⟩ := hp33
      obtain rfl := Option.some.inj hw33
      refine A_h (Y16 (upd er 4 (er 4 + 1)) im s t0 g0 h0 t1 g1 h1) rfl ?_
      refine A_iret hE dX8_home_36 ?_
      rw [homeF, if_pos hh, if_pos (show s 8 = 8 from Int32.le_antisymm (by rw [w2]; exact nI_le (b := 8) w1 (by omega)) (iL c28))]
      exact ⟨rfl, rfl⟩
  · have hh := bI_0 c7
    refine A_aload_n hE 11 dX8_home_10 rfl rfl ?_
    refine A_iconst hE 12 dX8_home_11 rfl (1) rfl ?_
    refine A_callVi hE 15 (c_X8_error er im 1 (by omega)) [0, 1] dX8_home_12 rfl mkX8_59 rfl rfl rfl rfl rfl rfl rfl (Nat.le_of_ble_eq_true rfl) (Nat.le_of_ble_eq_true rfl) rfl (fun x12 h12 g12 hp12 hw12 => ?_)
    obtain ⟨rfl, rfl⟩ := hp12
    obtain rfl := Option.some.inj hw12
    refine A_h (Y16 (upd er 1 (er 1 + 1)) im s t0 g0 h0 t1 g1 h1) rfl ?_
    refine A_iret hE dX8_home_15 ?_
    rw [homeF, if_neg hh]
    exact ⟨rfl, rfl⟩
set_option maxRecDepth 100000 in
theorem c_X8_become (er : Nat → Int32) (im : Int32) (s : St) (t0 : Sp) (g0 h0 : Nat → Int32) (t1 : Sp) (g1 h1 : Nat → Int32) (h km : Int32) (w : wf s) : AMet yX8_become cX8_become 4 (some (.int)) 1 0 0 [.ref 0, .int h, .int km] (Y16 er im s t0 g0 h0 t1 g1 h1) (pI fun x0 hz0 => x0 = (becomeF s er h km).1 ∧ hz0 = Y16 (becomeF s er h km).2.2 im (becomeF s er h km).2.1 t0 g0 h0 t1 g1 h1) := by
  refine AMet.of (by decide +kernel) rfl (fun E ad0 hE => ?_)
  obtain ⟨w1, w2, w3, w4, w5, w6, w7⟩ := id w
  refine A_aload_n hE 1 dX8_become_0 rfl rfl ?_
  refine A_get hE 4 dX8_become_1 rfl fkX8_10 rfl rfl ?_
  refine A_get hE 7 dX8_become_4 rfl fkX8_63 rfl rfl ?_
  refine A_iload_n hE 8 dX8_become_7 rfl rfl ?_
  refine A_callVi hE 11 (c_X2_has s t0 t1 g0 h0 g1 h1 h) [11, 3, 4, 5, 6, 7, 8, 9, 10, 12, 13, 14, 15] dX8_become_8 rfl mkX8_75 rfl rfl rfl rfl rfl rfl rfl (Nat.le_of_ble_eq_true rfl) (Nat.le_of_ble_eq_true rfl) rfl (fun x8 h8 g8 hp8 hw8 => ?_)
  obtain ⟨rfl, rfl⟩ := hp8
  obtain rfl := Option.some.inj hw8
  refine A_h (Y16 er im s t0 g0 h0 t1 g1 h1) rfl ?_
  refine A_if_eq hE 14 24 dX8_become_11 rfl rfl (fun c11 => ?_) (fun c11 => ?_)
  · have hh := bI_0 c11
    refine A_aload_n hE 25 dX8_become_24 rfl rfl ?_
    refine A_iconst hE 26 dX8_become_25 rfl (1) rfl ?_
    refine A_callVi hE 29 (c_X8_error er im 1 (by omega)) [0, 1] dX8_become_26 rfl mkX8_59 rfl rfl rfl rfl rfl rfl rfl (Nat.le_of_ble_eq_true rfl) (Nat.le_of_ble_eq_true rfl) rfl (fun x26 h26 g26 hp26 hw26 => ?_)
    obtain ⟨rfl, rfl⟩ := hp26
    obtain rfl := Option.some.inj hw26
    refine A_h (Y16 (upd er 1 (er 1 + 1)) im s t0 g0 h0 t1 g1 h1) rfl ?_
    refine A_iret hE dX8_become_29 ?_
    rw [becomeF, if_neg (fun z => hh z.1)]
    exact ⟨rfl, rfl⟩
  · have hh := bI_1 c11
    have hq := hh
    rw [w2] at hq
    obtain ⟨k, hk, rfl⟩ := iK hq.1 hq.2 (by omega)
    have ek : (nI k).toNatClampNeg = k := nI_clamp (by omega)
    refine A_iload_n hE 15 dX8_become_14 rfl rfl ?_
    refine A_iconst hE 16 dX8_become_15 rfl (0) rfl ?_
    refine A_bipush hE 18 dX8_become_16 rfl (69) (by decide) ?_
    refine A_callSi hE 21 (c_X8_isWithin km 0 69) [] dX8_become_18 rfl mkX8_55 rfl rfl rfl rfl rfl rfl (Nat.le_of_ble_eq_true rfl) (Nat.le_of_ble_eq_true rfl) rfl (fun x18 h18 g18 hp18 hw18 => ?_)
    obtain ⟨rfl, rfl⟩ := hp18
    obtain rfl := Option.some.inj hw18
    refine A_if_ne hE 24 30 dX8_become_21 rfl rfl (fun c21 => ?_) (fun c21 => ?_)
    · have hm := bI_1 c21
      refine A_aload_n hE 31 dX8_become_30 rfl rfl ?_
      refine A_get hE 34 dX8_become_31 rfl fkX8_10 rfl rfl ?_
      refine A_get hE 37 dX8_become_34 rfl fkX8_63 rfl rfl ?_
      refine A_get hE 40 dX8_become_37 rfl fkX8_79 rfl rfl ?_
      refine A_iload_n hE 41 dX8_become_40 rfl rfl ?_
      refine A_iald hE 42 k dX8_become_41 rfl rfl rfl (by omega) rfl ?_
      refine A_istore_n hE 43 dX8_become_42 rfl rfl rfl ?_
      refine A_aload_n hE 44 dX8_become_43 rfl rfl ?_
      refine A_get hE 47 dX8_become_44 rfl fkX8_10 rfl rfl ?_
      refine A_get hE 50 dX8_become_47 rfl fkX8_63 rfl rfl ?_
      refine A_get hE 53 dX8_become_50 rfl fkX8_79 rfl rfl ?_
      refine A_iload_n hE 54 dX8_become_53 rfl rfl ?_
      refine A_iload_n hE 55 dX8_become_54 rfl rfl ?_
      refine A_bipush hE 57 dX8_become_55 rfl (10) (by decide) ?_
      refine A_idiv hE 58 dX8_become_57 rfl (by decide) ?_
      refine A_iast hE 59 k dX8_become_58 rfl rfl rfl (by omega) rfl rfl ?_
      refine A_h (Y16 er im (upd s (9 + 5 * k + 0) (km / 10)) t0 g0 h0 t1 g1 h1) Y16_hi0.symm ?_
      refine A_aload_n hE 60 dX8_become_59 rfl rfl ?_
      refine A_get hE 63 dX8_become_60 rfl fkX8_10 rfl rfl ?_
      refine A_get hE 66 dX8_become_63 rfl fkX8_63 rfl rfl ?_
      refine A_get hE 69 dX8_become_66 rfl fkX8_82 rfl rfl ?_
      refine A_iload_n hE 70 dX8_become_69 rfl rfl ?_
      refine A_iload_n hE 71 dX8_become_70 rfl rfl ?_
      refine A_bipush hE 73 dX8_become_71 rfl (10) (by decide) ?_
      refine A_irem hE 74 dX8_become_73 rfl (by decide) ?_
      refine A_iast hE 75 k dX8_become_74 rfl rfl rfl (by omega) rfl rfl ?_
      refine A_h (Y16 er im (upd (upd s (9 + 5 * k + 0) (km / 10)) (9 + 5 * k + 1) (rm km 10)) t0 g0 h0 t1 g1 h1) Y16_hi1.symm ?_
      refine A_iload_n hE 76 dX8_become_75 rfl rfl ?_
      refine A_iret hE dX8_become_76 ?_
      rw [becomeF, if_pos ⟨hh, hm⟩, ek]
      exact ⟨rfl, rfl⟩
    · have hm := bI_0 c21
      refine A_aload_n hE 25 dX8_become_24 rfl rfl ?_
      refine A_iconst hE 26 dX8_become_25 rfl (1) rfl ?_
      refine A_callVi hE 29 (c_X8_error er im 1 (by omega)) [0, 1] dX8_become_26 rfl mkX8_59 rfl rfl rfl rfl rfl rfl rfl (Nat.le_of_ble_eq_true rfl) (Nat.le_of_ble_eq_true rfl) rfl (fun x26 h26 g26 hp26 hw26 => ?_)
      obtain ⟨rfl, rfl⟩ := hp26
      obtain rfl := Option.some.inj hw26
      refine A_h (Y16 (upd er 1 (er 1 + 1)) im s t0 g0 h0 t1 g1 h1) rfl ?_
      refine A_iret hE dX8_become_29 ?_
      rw [becomeF, if_neg (fun z => hm z.2)]
      exact ⟨rfl, rfl⟩
theorem flAb : Cond.fieldLink RX8 296 "LoanedRound" "ABOVE" "[I" ∈ lw_g := lg_m 418 (by decide +kernel) rfl
theorem abv_l : ∀ k, k < 7 → aboveL.getD k 0 = abv (nI k) ∧ ∃ j, j < 7 ∧ abv (nI k) = nI j ∧ abv (nI j) = 0 := by
  intro k hk
  match k, hk with
  | 0, _ => exact ⟨by decide, 0, by omega, by decide, by decide⟩
  | 1, _ => exact ⟨by decide, 0, by omega, by decide, by decide⟩
  | 2, _ => exact ⟨by decide, 0, by omega, by decide, by decide⟩
  | 3, _ => exact ⟨by decide, 0, by omega, by decide, by decide⟩
  | 4, _ => exact ⟨by decide, 1, by omega, by decide, by decide⟩
  | 5, _ => exact ⟨by decide, 2, by omega, by decide, by decide⟩
  | 6, _ => exact ⟨by decide, 0, by omega, by decide, by decide⟩
set_option maxRecDepth 100000 in
theorem c_X8_isOfKind (q : Nat) (v : Int32) (hq : q < 7) : AMet yX8_isOfKind cX8_isOfKind 3 (some (.boolean)) 0 0 0 [.int (nI q), .int v] [] (pI fun r h => r = bI (decide (v = 0 ∨ nI q = v ∨ abv (nI q) = v)) ∧ h = []) := by
  refine AMet.of (by decide +kernel) rfl (fun E ad0 hE => ?_)
  obtain ⟨ea, j, hj, ej, ek⟩ := abv_l q hq
  refine A_gsAbove hE 3 dX8_isOfKind_0 rfl flAb ?_
  refine A_iload_n hE 4 dX8_isOfKind_3 rfl rfl ?_
  refine A_tabA hE 5 q dX8_isOfKind_4 rfl rfl hq (abv (nI q)) ea ?_
  refine A_istore_n hE 6 dX8_isOfKind_5 rfl rfl rfl ?_
  refine A_iload_n hE 7 dX8_isOfKind_6 rfl rfl ?_
  refine A_iload_n hE 8 dX8_isOfKind_7 rfl rfl ?_
  refine A_icmp_eq hE 11 25 dX8_isOfKind_8 rfl rfl (fun c8 => ?_) (fun c8 => ?_)
  · refine A_iconst hE 26 dX8_isOfKind_25 rfl (1) rfl ?_
    refine A_goto hE 30 dX8_isOfKind_26 rfl ?_
    refine A_zret hE dX8_isOfKind_30 (by first | exact Or.inl rfl | exact Or.inr rfl) ⟨?_, rfl⟩
    exact bI_t (Or.inr (Or.inl c8))
  · refine A_iload_n hE 12 dX8_isOfKind_11 rfl rfl ?_
    refine A_iload_n hE 13 dX8_isOfKind_12 rfl rfl ?_
    refine A_icmp_eq hE 16 25 dX8_isOfKind_13 rfl rfl (fun c13 => ?_) (fun c13 => ?_)
    · refine A_iconst hE 26 dX8_isOfKind_25 rfl (1) rfl ?_
      refine A_goto hE 30 dX8_isOfKind_26 rfl ?_
      refine A_zret hE dX8_isOfKind_30 (by first | exact Or.inl rfl | exact Or.inr rfl) ⟨?_, rfl⟩
      exact bI_t (Or.inr (Or.inr c13))
    · refine A_gsAbove hE 19 dX8_isOfKind_16 rfl flAb ?_
      refine A_iload_n hE 20 dX8_isOfKind_19 rfl rfl ?_
      refine A_tabA hE 21 j dX8_isOfKind_20 rfl ej hj (abv (nI j)) (abv_l j hj).1 ?_
      refine A_iload_n hE 22 dX8_isOfKind_21 rfl rfl ?_
      refine A_icmp_ne hE 25 29 dX8_isOfKind_22 rfl rfl (fun c22 => ?_) (fun c22 => ?_)
      · refine A_iconst hE 30 dX8_isOfKind_29 rfl (0) rfl ?_
        refine A_zret hE dX8_isOfKind_30 (by first | exact Or.inl rfl | exact Or.inr rfl) ⟨?_, rfl⟩
        exact bI_f (fun z => z.elim (fun z => c22 (by rw [ek, z])) (fun z => z.elim c8 c13))
      · refine A_iconst hE 26 dX8_isOfKind_25 rfl (1) rfl ?_
        refine A_goto hE 30 dX8_isOfKind_26 rfl ?_
        refine A_zret hE dX8_isOfKind_30 (by first | exact Or.inl rfl | exact Or.inr rfl) ⟨?_, rfl⟩
        exact bI_t (Or.inl (by rw [← c22, ek]))
set_option maxRecDepth 100000 in
theorem c_X8_as (er : Nat → Int32) (im : Int32) (s : St) (t0 : Sp) (g0 h0 : Nat → Int32) (t1 : Sp) (g1 h1 : Nat → Int32) (h kd : Int32) (w : wf s) : AMet yX8_as cX8_as 3 (some (.int)) 1 0 0 [.ref 0, .int h, .int kd] (Y16 er im s t0 g0 h0 t1 g1 h1) (pI fun x0 hz0 => x0 = (asF s er h kd).1 ∧ hz0 = Y16 (asF s er h kd).2.2 im (asF s er h kd).2.1 t0 g0 h0 t1 g1 h1) := by
  refine AMet.of (by decide +kernel) rfl (fun E ad0 hE => ?_)
  obtain ⟨w1, w2, w3, w4, w5, w6, w7⟩ := id w
  refine A_aload_n hE 1 dX8_as_0 rfl rfl ?_
  refine A_get hE 4 dX8_as_1 rfl fkX8_10 rfl rfl ?_
  refine A_get hE 7 dX8_as_4 rfl fkX8_63 rfl rfl ?_
  refine A_iload_n hE 8 dX8_as_7 rfl rfl ?_
  refine A_callVi hE 11 (c_X2_has s t0 t1 g0 h0 g1 h1 h) [11, 3, 4, 5, 6, 7, 8, 9, 10, 12, 13, 14, 15] dX8_as_8 rfl mkX8_75 rfl rfl rfl rfl rfl rfl rfl (Nat.le_of_ble_eq_true rfl) (Nat.le_of_ble_eq_true rfl) rfl (fun x8 h8 g8 hp8 hw8 => ?_)
  obtain ⟨rfl, rfl⟩ := hp8
  obtain rfl := Option.some.inj hw8
  refine A_h (Y16 er im s t0 g0 h0 t1 g1 h1) rfl ?_
  refine A_if_eq hE 14 24 dX8_as_11 rfl rfl (fun c11 => ?_) (fun c11 => ?_)
  · have hh := bI_0 c11
    refine A_aload_n hE 25 dX8_as_24 rfl rfl ?_
    refine A_iconst hE 26 dX8_as_25 rfl (1) rfl ?_
    refine A_callVi hE 29 (c_X8_error er im 1 (by omega)) [0, 1] dX8_as_26 rfl mkX8_59 rfl rfl rfl rfl rfl rfl rfl (Nat.le_of_ble_eq_true rfl) (Nat.le_of_ble_eq_true rfl) rfl (fun x26 h26 g26 hp26 hw26 => ?_)
    obtain ⟨rfl, rfl⟩ := hp26
    obtain rfl := Option.some.inj hw26
    refine A_h (Y16 (upd er 1 (er 1 + 1)) im s t0 g0 h0 t1 g1 h1) rfl ?_
    refine A_iret hE dX8_as_29 ?_
    rw [asF, if_neg (fun z => hh z.1)]
    exact ⟨rfl, rfl⟩
  · have hh := bI_1 c11
    have hq := hh
    rw [w2] at hq
    obtain ⟨k, hk, rfl⟩ := iK hq.1 hq.2 (by omega)
    have ek : (nI k).toNatClampNeg = k := nI_clamp (by omega)
    refine A_iload_n hE 15 dX8_as_14 rfl rfl ?_
    refine A_iconst hE 16 dX8_as_15 rfl (0) rfl ?_
    refine A_bipush hE 18 dX8_as_16 rfl (6) (by decide) ?_
    refine A_callSi hE 21 (c_X8_isWithin kd 0 6) [] dX8_as_18 rfl mkX8_55 rfl rfl rfl rfl rfl rfl (Nat.le_of_ble_eq_true rfl) (Nat.le_of_ble_eq_true rfl) rfl (fun x18 h18 g18 hp18 hw18 => ?_)
    obtain ⟨rfl, rfl⟩ := hp18
    obtain rfl := Option.some.inj hw18
    refine A_if_ne hE 24 30 dX8_as_21 rfl rfl (fun c21 => ?_) (fun c21 => ?_)
    · have hm := bI_1 c21
      obtain ⟨⟨q, hq7, hqk⟩, -⟩ := w5 k (by omega)
      refine A_aload_n hE 31 dX8_as_30 rfl rfl ?_
      refine A_get hE 34 dX8_as_31 rfl fkX8_10 rfl rfl ?_
      refine A_get hE 37 dX8_as_34 rfl fkX8_63 rfl rfl ?_
      refine A_get hE 40 dX8_as_37 rfl fkX8_79 rfl rfl ?_
      refine A_iload_n hE 41 dX8_as_40 rfl rfl ?_
      refine A_iald hE 42 k dX8_as_41 rfl rfl rfl (by omega) rfl ?_
      rw [show arr s 0 k = nI q from hqk]
      refine A_iload_n hE 43 dX8_as_42 rfl rfl ?_
      refine A_callSi hE 46 (c_X8_isOfKind q kd hq7) [] dX8_as_43 rfl mkX8_103 rfl rfl rfl rfl rfl rfl (Nat.le_of_ble_eq_true rfl) (Nat.le_of_ble_eq_true rfl) rfl (fun x43 h43 g43 hp43 hw43 => ?_)
      obtain ⟨rfl, rfl⟩ := hp43
      obtain rfl := Option.some.inj hw43
      refine A_if_ne hE 49 55 dX8_as_46 rfl rfl (fun c46 => ?_) (fun c46 => ?_)
      · refine A_aload_n hE 56 dX8_as_55 rfl rfl ?_
        refine A_get hE 59 dX8_as_56 rfl fkX8_10 rfl rfl ?_
        refine A_get hE 62 dX8_as_59 rfl fkX8_63 rfl rfl ?_
        refine A_get hE 65 dX8_as_62 rfl fkX8_82 rfl rfl ?_
        refine A_iload_n hE 66 dX8_as_65 rfl rfl ?_
        refine A_iald hE 67 k dX8_as_66 rfl rfl rfl (by omega) rfl ?_
        refine A_iret hE dX8_as_67 ?_
        rw [asF, if_pos ⟨hh, hm⟩, ek, if_pos (by rw [hqk]; exact bI_1 c46)]
        exact ⟨rfl, rfl⟩
      · refine A_aload_n hE 50 dX8_as_49 rfl rfl ?_
        refine A_iconst hE 51 dX8_as_50 rfl (5) rfl ?_
        refine A_callVi hE 54 (c_X8_error er im 5 (by omega)) [0, 1] dX8_as_51 rfl mkX8_59 rfl rfl rfl rfl rfl rfl rfl (Nat.le_of_ble_eq_true rfl) (Nat.le_of_ble_eq_true rfl) rfl (fun x51 h51 g51 hp51 hw51 => ?_)
        obtain ⟨rfl, rfl⟩ := hp51
        obtain rfl := Option.some.inj hw51
        refine A_h (Y16 (upd er 5 (er 5 + 1)) im s t0 g0 h0 t1 g1 h1) rfl ?_
        refine A_iret hE dX8_as_54 ?_
        rw [asF, if_pos ⟨hh, hm⟩, ek, if_neg (by rw [hqk]; exact bI_0 c46)]
        exact ⟨rfl, rfl⟩
    · have hm := bI_0 c21
      refine A_aload_n hE 25 dX8_as_24 rfl rfl ?_
      refine A_iconst hE 26 dX8_as_25 rfl (1) rfl ?_
      refine A_callVi hE 29 (c_X8_error er im 1 (by omega)) [0, 1] dX8_as_26 rfl mkX8_59 rfl rfl rfl rfl rfl rfl rfl (Nat.le_of_ble_eq_true rfl) (Nat.le_of_ble_eq_true rfl) rfl (fun x26 h26 g26 hp26 hw26 => ?_)
      obtain ⟨rfl, rfl⟩ := hp26
      obtain rfl := Option.some.inj hw26
      refine A_h (Y16 (upd er 1 (er 1 + 1)) im s t0 g0 h0 t1 g1 h1) rfl ?_
      refine A_iret hE dX8_as_29 ?_
      rw [asF, if_neg (fun z => hm z.2)]
      exact ⟨rfl, rfl⟩
set_option maxRecDepth 100000 in
theorem c_X8_past (er : Nat → Int32) (im : Int32) (s : St) (t0 : Sp) (g0 h0 : Nat → Int32) (t1 : Sp) (g1 h1 : Nat → Int32) (h v : Int32) (w : wf s) : AMet yX8_past cX8_past 4 (some (.int)) 1 0 0 [.ref 0, .int h, .int v] (Y16 er im s t0 g0 h0 t1 g1 h1) (pI fun x0 hz0 => x0 = (pastF s er h v).1 ∧ hz0 = Y16 (pastF s er h v).2.2 im (pastF s er h v).2.1 t0 g0 h0 t1 g1 h1) := by
  refine AMet.of (by decide +kernel) rfl (fun E ad0 hE => ?_)
  obtain ⟨w1, w2, w3, w4, w5, w6, w7⟩ := id w
  refine A_aload_n hE 1 dX8_past_0 rfl rfl ?_
  refine A_get hE 4 dX8_past_1 rfl fkX8_10 rfl rfl ?_
  refine A_get hE 7 dX8_past_4 rfl fkX8_63 rfl rfl ?_
  refine A_iload_n hE 8 dX8_past_7 rfl rfl ?_
  refine A_callVi hE 11 (c_X2_has s t0 t1 g0 h0 g1 h1 h) [11, 3, 4, 5, 6, 7, 8, 9, 10, 12, 13, 14, 15] dX8_past_8 rfl mkX8_75 rfl rfl rfl rfl rfl rfl rfl (Nat.le_of_ble_eq_true rfl) (Nat.le_of_ble_eq_true rfl) rfl (fun x8 h8 g8 hp8 hw8 => ?_)
  obtain ⟨rfl, rfl⟩ := hp8
  obtain rfl := Option.some.inj hw8
  refine A_h (Y16 er im s t0 g0 h0 t1 g1 h1) rfl ?_
  refine A_if_eq hE 14 23 dX8_past_11 rfl rfl (fun c11 => ?_) (fun c11 => ?_)
  · have hh := bI_0 c11
    refine A_aload_n hE 24 dX8_past_23 rfl rfl ?_
    refine A_iconst hE 25 dX8_past_24 rfl (1) rfl ?_
    refine A_callVi hE 28 (c_X8_error er im 1 (by omega)) [0, 1] dX8_past_25 rfl mkX8_59 rfl rfl rfl rfl rfl rfl rfl (Nat.le_of_ble_eq_true rfl) (Nat.le_of_ble_eq_true rfl) rfl (fun x25 h25 g25 hp25 hw25 => ?_)
    obtain ⟨rfl, rfl⟩ := hp25
    obtain rfl := Option.some.inj hw25
    refine A_h (Y16 (upd er 1 (er 1 + 1)) im s t0 g0 h0 t1 g1 h1) rfl ?_
    refine A_iret hE dX8_past_28 ?_
    rw [pastF, if_neg (fun z => hh z.1)]
    exact ⟨rfl, rfl⟩
  · have hh := bI_1 c11
    have hq := hh
    rw [w2] at hq
    obtain ⟨k, hk, rfl⟩ := iK hq.1 hq.2 (by omega)
    have ek : (nI k).toNatClampNeg = k := nI_clamp (by omega)
    refine A_iload_n hE 15 dX8_past_14 rfl rfl ?_
    refine A_iconst hE 16 dX8_past_15 rfl (0) rfl ?_
    refine A_iconst hE 17 dX8_past_16 rfl (1) rfl ?_
    refine A_callSi hE 20 (c_X8_isWithin v 0 1) [] dX8_past_17 rfl mkX8_55 rfl rfl rfl rfl rfl rfl (Nat.le_of_ble_eq_true rfl) (Nat.le_of_ble_eq_true rfl) rfl (fun x17 h17 g17 hp17 hw17 => ?_)
    obtain ⟨rfl, rfl⟩ := hp17
    obtain rfl := Option.some.inj hw17
    refine A_if_ne hE 23 29 dX8_past_20 rfl rfl (fun c20 => ?_) (fun c20 => ?_)
    · have hm := bI_1 c20
      obtain ⟨j, hj, rfl⟩ := iK2 (n := 1) hm.1 hm.2 (by omega)
      refine A_aload_n hE 30 dX8_past_29 rfl rfl ?_
      refine A_get hE 33 dX8_past_30 rfl fkX8_10 rfl rfl ?_
      refine A_get hE 36 dX8_past_33 rfl fkX8_63 rfl rfl ?_
      refine A_iload_n hE 37 dX8_past_36 rfl rfl ?_
      refine A_callVi hE 40 (c_X2_pastAt s t0 t1 g0 h0 g1 h1 (nI k) k rfl (by omega) (w5 k (by omega)).2.2.2.2.1) [11, 3, 4, 5, 6, 7, 8, 9, 10, 12, 13, 14, 15] dX8_past_37 rfl mkX8_91 rfl rfl rfl rfl rfl rfl rfl (Nat.le_of_ble_eq_true rfl) (Nat.le_of_ble_eq_true rfl) rfl (fun x37 h37 g37 hp37 hw37 => ?_)
      obtain ⟨rfl, rfl⟩ := hp37
      obtain rfl := Option.some.inj hw37
      refine A_h (Y16 er im s t0 g0 h0 t1 g1 h1) rfl ?_
      refine A_istore_n hE 41 dX8_past_40 rfl rfl rfl ?_
      refine A_aload_n hE 42 dX8_past_41 rfl rfl ?_
      refine A_get hE 45 dX8_past_42 rfl fkX8_10 rfl rfl ?_
      refine A_get hE 48 dX8_past_45 rfl fkX8_63 rfl rfl ?_
      refine A_iload_n hE 49 dX8_past_48 rfl rfl ?_
      refine A_iload_n hE 50 dX8_past_49 rfl rfl ?_
      refine A_callVv hE 53 (c_X2_putPast s t0 t1 g0 h0 g1 h1 (nI k) (nI j) k j rfl rfl (by omega) (by omega)) [11, 3, 4, 5, 6, 7, 8, 9, 10, 12, 13, 14, 15] dX8_past_50 rfl mkX8_107 rfl rfl rfl rfl rfl rfl rfl (Nat.le_of_ble_eq_true rfl) (Nat.le_of_ble_eq_true rfl) rfl (fun h50 g50 hp50 hw50 => ?_)
      obtain rfl := hp50
      obtain rfl := Option.some.inj hw50
      refine A_h (Y16 er im (upd s (9 + 5 * k + 4) (nI j)) t0 g0 h0 t1 g1 h1) rfl ?_
      refine A_iload_n hE 54 dX8_past_53 rfl rfl ?_
      refine A_iret hE dX8_past_54 ?_
      rw [pastF, if_pos ⟨hh, hm⟩, ek]
      exact ⟨rfl, rfl⟩
    · have hm := bI_0 c20
      refine A_aload_n hE 24 dX8_past_23 rfl rfl ?_
      refine A_iconst hE 25 dX8_past_24 rfl (1) rfl ?_
      refine A_callVi hE 28 (c_X8_error er im 1 (by omega)) [0, 1] dX8_past_25 rfl mkX8_59 rfl rfl rfl rfl rfl rfl rfl (Nat.le_of_ble_eq_true rfl) (Nat.le_of_ble_eq_true rfl) rfl (fun x25 h25 g25 hp25 hw25 => ?_)
      obtain ⟨rfl, rfl⟩ := hp25
      obtain rfl := Option.some.inj hw25
      refine A_h (Y16 (upd er 1 (er 1 + 1)) im s t0 g0 h0 t1 g1 h1) rfl ?_
      refine A_iret hE dX8_past_28 ?_
      rw [pastF, if_neg (fun z => hm z.2)]
      exact ⟨rfl, rfl⟩
set_option maxRecDepth 100000 in
theorem c_X8_goes (er : Nat → Int32) (im : Int32) (s : St) (t0 : Sp) (g0 h0 : Nat → Int32) (t1 : Sp) (g1 h1 : Nat → Int32) (h : Int32) : AMet yX8_goes cX8_goes 3 (some (.int)) 1 0 0 [.ref 0, .int h] (Y16 er im s t0 g0 h0 t1 g1 h1) (pI fun x0 hz0 => x0 = (goesF s er h).1 ∧ hz0 = Y16 (goesF s er h).2.2 im (goesF s er h).2.1 t0 g0 h0 t1 g1 h1) := by
  refine AMet.of (by decide +kernel) rfl (fun E ad0 hE => ?_)
  refine A_aload_n hE 1 dX8_goes_0 rfl rfl ?_
  refine A_get hE 4 dX8_goes_1 rfl fkX8_10 rfl rfl ?_
  refine A_get hE 7 dX8_goes_4 rfl fkX8_63 rfl rfl ?_
  refine A_iload_n hE 8 dX8_goes_7 rfl rfl ?_
  refine A_callVi hE 11 (c_X2_has s t0 t1 g0 h0 g1 h1 h) [11, 3, 4, 5, 6, 7, 8, 9, 10, 12, 13, 14, 15] dX8_goes_8 rfl mkX8_75 rfl rfl rfl rfl rfl rfl rfl (Nat.le_of_ble_eq_true rfl) (Nat.le_of_ble_eq_true rfl) rfl (fun x8 h8 g8 hp8 hw8 => ?_)
  obtain ⟨rfl, rfl⟩ := hp8
  obtain rfl := Option.some.inj hw8
  refine A_h (Y16 er im s t0 g0 h0 t1 g1 h1) rfl ?_
  refine A_if_ne hE 14 20 dX8_goes_11 rfl rfl (fun c11 => ?_) (fun c11 => ?_)
  · have hh := bI_1 c11
    refine A_aload_n hE 21 dX8_goes_20 rfl rfl ?_
    refine A_get hE 24 dX8_goes_21 rfl fkX8_10 rfl rfl ?_
    refine A_get hE 27 dX8_goes_24 rfl fkX8_63 rfl rfl ?_
    refine A_get hE 30 dX8_goes_27 rfl fkX8_111 rfl rfl ?_
    refine A_istore_n hE 31 dX8_goes_30 rfl rfl rfl ?_
    refine A_aload_n hE 32 dX8_goes_31 rfl rfl ?_
    refine A_get hE 35 dX8_goes_32 rfl fkX8_10 rfl rfl ?_
    refine A_get hE 38 dX8_goes_35 rfl fkX8_63 rfl rfl ?_
    refine A_iload_n hE 39 dX8_goes_38 rfl rfl ?_
    refine A_put hE 42 dX8_goes_39 rfl fkX8_111 rfl rfl rfl rfl ?_
    refine A_h (Y16 er im (upd s 4 h) t0 g0 h0 t1 g1 h1) ((Y16_lo (k := 4) (by omega)).trans rfl).symm ?_
    refine A_iload_n hE 43 dX8_goes_42 rfl rfl ?_
    refine A_iret hE dX8_goes_43 ?_
    rw [goesF, if_pos hh]
    exact ⟨rfl, rfl⟩
  · have hh := bI_0 c11
    refine A_aload_n hE 15 dX8_goes_14 rfl rfl ?_
    refine A_iconst hE 16 dX8_goes_15 rfl (1) rfl ?_
    refine A_callVi hE 19 (c_X8_error er im 1 (by omega)) [0, 1] dX8_goes_16 rfl mkX8_59 rfl rfl rfl rfl rfl rfl rfl (Nat.le_of_ble_eq_true rfl) (Nat.le_of_ble_eq_true rfl) rfl (fun x16 h16 g16 hp16 hw16 => ?_)
    obtain ⟨rfl, rfl⟩ := hp16
    obtain rfl := Option.some.inj hw16
    refine A_h (Y16 (upd er 1 (er 1 + 1)) im s t0 g0 h0 t1 g1 h1) rfl ?_
    refine A_iret hE dX8_goes_19 ?_
    rw [goesF, if_neg hh]
    exact ⟨rfl, rfl⟩
set_option maxRecDepth 100000 in
theorem c_X8_hears (er : Nat → Int32) (im : Int32) (s : St) (t0 : Sp) (g0 h0 : Nat → Int32) (t1 : Sp) (g1 h1 : Nat → Int32) (h v : Int32) (w : wf s) : AMet yX8_hears cX8_hears 4 (some (.int)) 1 0 0 [.ref 0, .int h, .int v] (Y16 er im s t0 g0 h0 t1 g1 h1) (pI fun x0 hz0 => x0 = (hearsF s er h v).1 ∧ hz0 = Y16 (hearsF s er h v).2.2 im (hearsF s er h v).2.1 t0 g0 h0 t1 g1 h1) := by
  refine AMet.of (by decide +kernel) rfl (fun E ad0 hE => ?_)
  obtain ⟨w1, w2, w3, w4, w5, w6, w7⟩ := id w
  refine A_aload_n hE 1 dX8_hears_0 rfl rfl ?_
  refine A_get hE 4 dX8_hears_1 rfl fkX8_10 rfl rfl ?_
  refine A_get hE 7 dX8_hears_4 rfl fkX8_63 rfl rfl ?_
  refine A_iload_n hE 8 dX8_hears_7 rfl rfl ?_
  refine A_callVi hE 11 (c_X2_has s t0 t1 g0 h0 g1 h1 h) [11, 3, 4, 5, 6, 7, 8, 9, 10, 12, 13, 14, 15] dX8_hears_8 rfl mkX8_75 rfl rfl rfl rfl rfl rfl rfl (Nat.le_of_ble_eq_true rfl) (Nat.le_of_ble_eq_true rfl) rfl (fun x8 h8 g8 hp8 hw8 => ?_)
  obtain ⟨rfl, rfl⟩ := hp8
  obtain rfl := Option.some.inj hw8
  refine A_h (Y16 er im s t0 g0 h0 t1 g1 h1) rfl ?_
  refine A_if_eq hE 14 25 dX8_hears_11 rfl rfl (fun c11 => ?_) (fun c11 => ?_)
  · have hh := bI_0 c11
    refine A_aload_n hE 26 dX8_hears_25 rfl rfl ?_
    refine A_iconst hE 27 dX8_hears_26 rfl (1) rfl ?_
    refine A_callVi hE 30 (c_X8_error er im 1 (by omega)) [0, 1] dX8_hears_27 rfl mkX8_59 rfl rfl rfl rfl rfl rfl rfl (Nat.le_of_ble_eq_true rfl) (Nat.le_of_ble_eq_true rfl) rfl (fun x27 h27 g27 hp27 hw27 => ?_)
    obtain ⟨rfl, rfl⟩ := hp27
    obtain rfl := Option.some.inj hw27
    refine A_h (Y16 (upd er 1 (er 1 + 1)) im s t0 g0 h0 t1 g1 h1) rfl ?_
    refine A_iret hE dX8_hears_30 ?_
    rw [hearsF, if_neg (fun z => hh z.1)]
    exact ⟨rfl, rfl⟩
  · have hh := bI_1 c11
    have hq := hh
    rw [w2] at hq
    obtain ⟨k, hk, rfl⟩ := iK hq.1 hq.2 (by omega)
    have ek : (nI k).toNatClampNeg = k := nI_clamp (by omega)
    refine A_iload_n hE 15 dX8_hears_14 rfl rfl ?_
    refine A_iconst hE 16 dX8_hears_15 rfl (0) rfl ?_
    refine A_sipush hE 19 dX8_hears_16 rfl (9999) (by decide) ?_
    refine A_callSi hE 22 (c_X8_isWithin v 0 9999) [] dX8_hears_19 rfl mkX8_55 rfl rfl rfl rfl rfl rfl (Nat.le_of_ble_eq_true rfl) (Nat.le_of_ble_eq_true rfl) rfl (fun x19 h19 g19 hp19 hw19 => ?_)
    obtain ⟨rfl, rfl⟩ := hp19
    obtain rfl := Option.some.inj hw19
    refine A_if_ne hE 25 31 dX8_hears_22 rfl rfl (fun c22 => ?_) (fun c22 => ?_)
    · have hm := bI_1 c22
      refine A_aload_n hE 32 dX8_hears_31 rfl rfl ?_
      refine A_get hE 35 dX8_hears_32 rfl fkX8_10 rfl rfl ?_
      refine A_get hE 38 dX8_hears_35 rfl fkX8_63 rfl rfl ?_
      refine A_get hE 41 dX8_hears_38 rfl fkX8_85 rfl rfl ?_
      refine A_iload_n hE 42 dX8_hears_41 rfl rfl ?_
      refine A_iald hE 43 k dX8_hears_42 rfl rfl rfl (by omega) rfl ?_
      refine A_istore_n hE 44 dX8_hears_43 rfl rfl rfl ?_
      refine A_aload_n hE 45 dX8_hears_44 rfl rfl ?_
      refine A_get hE 48 dX8_hears_45 rfl fkX8_10 rfl rfl ?_
      refine A_get hE 51 dX8_hears_48 rfl fkX8_63 rfl rfl ?_
      refine A_get hE 54 dX8_hears_51 rfl fkX8_85 rfl rfl ?_
      refine A_iload_n hE 55 dX8_hears_54 rfl rfl ?_
      refine A_iload_n hE 56 dX8_hears_55 rfl rfl ?_
      refine A_iast hE 57 k dX8_hears_56 rfl rfl rfl (by omega) rfl rfl ?_
      refine A_h (Y16 er im (upd s (9 + 5 * k + 2) v) t0 g0 h0 t1 g1 h1) Y16_hi2.symm ?_
      refine A_iload_n hE 58 dX8_hears_57 rfl rfl ?_
      refine A_iret hE dX8_hears_58 ?_
      rw [hearsF, if_pos ⟨hh, hm⟩, ek]
      exact ⟨rfl, rfl⟩
    · have hm := bI_0 c22
      refine A_aload_n hE 26 dX8_hears_25 rfl rfl ?_
      refine A_iconst hE 27 dX8_hears_26 rfl (1) rfl ?_
      refine A_callVi hE 30 (c_X8_error er im 1 (by omega)) [0, 1] dX8_hears_27 rfl mkX8_59 rfl rfl rfl rfl rfl rfl rfl (Nat.le_of_ble_eq_true rfl) (Nat.le_of_ble_eq_true rfl) rfl (fun x27 h27 g27 hp27 hw27 => ?_)
      obtain ⟨rfl, rfl⟩ := hp27
      obtain rfl := Option.some.inj hw27
      refine A_h (Y16 (upd er 1 (er 1 + 1)) im s t0 g0 h0 t1 g1 h1) rfl ?_
      refine A_iret hE dX8_hears_30 ?_
      rw [hearsF, if_neg (fun z => hm z.2)]
      exact ⟨rfl, rfl⟩
set_option maxRecDepth 100000 in
theorem c_X8_day (er : Nat → Int32) (im : Int32) (s : St) (t0 : Sp) (g0 h0 : Nat → Int32) (t1 : Sp) (g1 h1 : Nat → Int32) (v : Int32) : AMet yX8_day cX8_day 3 (some (.int)) 1 0 0 [.ref 0, .int v] (Y16 er im s t0 g0 h0 t1 g1 h1) (pI fun x0 hz0 => x0 = (dayF' s er v).1 ∧ hz0 = Y16 (dayF' s er v).2.2 im (dayF' s er v).2.1 t0 g0 h0 t1 g1 h1) := by
  refine AMet.of (by decide +kernel) rfl (fun E ad0 hE => ?_)
  refine A_iload_n hE 1 dX8_day_0 rfl rfl ?_
  refine A_iconst hE 2 dX8_day_1 rfl (0) rfl ?_
  refine A_sipush hE 5 dX8_day_2 rfl (9999) (by decide) ?_
  refine A_callSi hE 8 (c_X8_isWithin v 0 9999) [] dX8_day_5 rfl mkX8_55 rfl rfl rfl rfl rfl rfl (Nat.le_of_ble_eq_true rfl) (Nat.le_of_ble_eq_true rfl) rfl (fun x5 h5 g5 hp5 hw5 => ?_)
  obtain ⟨rfl, rfl⟩ := hp5
  obtain rfl := Option.some.inj hw5
  refine A_if_ne hE 11 17 dX8_day_8 rfl rfl (fun c8 => ?_) (fun c8 => ?_)
  · have hh := bI_1 c8
    refine A_aload_n hE 18 dX8_day_17 rfl rfl ?_
    refine A_get hE 21 dX8_day_18 rfl fkX8_10 rfl rfl ?_
    refine A_get hE 24 dX8_day_21 rfl fkX8_63 rfl rfl ?_
    refine A_get hE 27 dX8_day_24 rfl fkX8_164 rfl rfl ?_
    refine A_istore_n hE 28 dX8_day_27 rfl rfl rfl ?_
    refine A_aload_n hE 29 dX8_day_28 rfl rfl ?_
    refine A_get hE 32 dX8_day_29 rfl fkX8_10 rfl rfl ?_
    refine A_get hE 35 dX8_day_32 rfl fkX8_63 rfl rfl ?_
    refine A_iload_n hE 36 dX8_day_35 rfl rfl ?_
    refine A_put hE 39 dX8_day_36 rfl fkX8_164 rfl rfl rfl rfl ?_
    refine A_h (Y16 er im (upd s 0 v) t0 g0 h0 t1 g1 h1) ((Y16_lo (k := 0) (by omega)).trans rfl).symm ?_
    refine A_iload_n hE 40 dX8_day_39 rfl rfl ?_
    refine A_iret hE dX8_day_40 ?_
    rw [dayF', if_pos hh]
    exact ⟨rfl, rfl⟩
  · have hh := bI_0 c8
    refine A_aload_n hE 12 dX8_day_11 rfl rfl ?_
    refine A_iconst hE 13 dX8_day_12 rfl (1) rfl ?_
    refine A_callVi hE 16 (c_X8_error er im 1 (by omega)) [0, 1] dX8_day_13 rfl mkX8_59 rfl rfl rfl rfl rfl rfl rfl (Nat.le_of_ble_eq_true rfl) (Nat.le_of_ble_eq_true rfl) rfl (fun x13 h13 g13 hp13 hw13 => ?_)
    obtain ⟨rfl, rfl⟩ := hp13
    obtain rfl := Option.some.inj hw13
    refine A_h (Y16 (upd er 1 (er 1 + 1)) im s t0 g0 h0 t1 g1 h1) rfl ?_
    refine A_iret hE dX8_day_16 ?_
    rw [dayF', if_neg hh]
    exact ⟨rfl, rfl⟩
set_option maxRecDepth 100000 in
theorem c_X8_becomeView (er : Nat → Int32) (im : Int32) (s : St) (t0 : Sp) (g0 h0 : Nat → Int32) (t1 : Sp) (g1 h1 : Nat → Int32) (v : Int32) : AMet yX8_becomeView cX8_becomeView 3 (some (.int)) 1 0 0 [.ref 0, .int v] (Y16 er im s t0 g0 h0 t1 g1 h1) (pI fun x0 hz0 => x0 = (if 0 ≤ v ∧ v ≤ 99 then (s 1, upd s 1 v, er) else bad 1 s er).1 ∧ hz0 = Y16 (if 0 ≤ v ∧ v ≤ 99 then (s 1, upd s 1 v, er) else bad 1 s er).2.2 im (if 0 ≤ v ∧ v ≤ 99 then (s 1, upd s 1 v, er) else bad 1 s er).2.1 t0 g0 h0 t1 g1 h1) := by
  refine AMet.of (by decide +kernel) rfl (fun E ad0 hE => ?_)
  refine A_iload_n hE 1 dX8_becomeView_0 rfl rfl ?_
  refine A_iconst hE 2 dX8_becomeView_1 rfl (0) rfl ?_
  refine A_bipush hE 4 dX8_becomeView_2 rfl (99) (by decide) ?_
  refine A_callSi hE 7 (c_X8_isWithin v 0 99) [] dX8_becomeView_4 rfl mkX8_55 rfl rfl rfl rfl rfl rfl (Nat.le_of_ble_eq_true rfl) (Nat.le_of_ble_eq_true rfl) rfl (fun x4 h4 g4 hp4 hw4 => ?_)
  obtain ⟨rfl, rfl⟩ := hp4
  obtain rfl := Option.some.inj hw4
  refine A_if_ne hE 10 16 dX8_becomeView_7 rfl rfl (fun c7 => ?_) (fun c7 => ?_)
  · have hh := bI_1 c7
    refine A_aload_n hE 17 dX8_becomeView_16 rfl rfl ?_
    refine A_get hE 20 dX8_becomeView_17 rfl fkX8_10 rfl rfl ?_
    refine A_get hE 23 dX8_becomeView_20 rfl fkX8_63 rfl rfl ?_
    refine A_get hE 26 dX8_becomeView_23 rfl fkX8_170 rfl rfl ?_
    refine A_istore_n hE 27 dX8_becomeView_26 rfl rfl rfl ?_
    refine A_aload_n hE 28 dX8_becomeView_27 rfl rfl ?_
    refine A_get hE 31 dX8_becomeView_28 rfl fkX8_10 rfl rfl ?_
    refine A_get hE 34 dX8_becomeView_31 rfl fkX8_63 rfl rfl ?_
    refine A_iload_n hE 35 dX8_becomeView_34 rfl rfl ?_
    refine A_put hE 38 dX8_becomeView_35 rfl fkX8_170 rfl rfl rfl rfl ?_
    refine A_h (Y16 er im (upd s 1 v) t0 g0 h0 t1 g1 h1) ((Y16_lo (k := 1) (by omega)).trans rfl).symm ?_
    refine A_iload_n hE 39 dX8_becomeView_38 rfl rfl ?_
    refine A_iret hE dX8_becomeView_39 ?_
    rw [if_pos hh]
    exact ⟨rfl, rfl⟩
  · have hh := bI_0 c7
    refine A_aload_n hE 11 dX8_becomeView_10 rfl rfl ?_
    refine A_iconst hE 12 dX8_becomeView_11 rfl (1) rfl ?_
    refine A_callVi hE 15 (c_X8_error er im 1 (by omega)) [0, 1] dX8_becomeView_12 rfl mkX8_59 rfl rfl rfl rfl rfl rfl rfl (Nat.le_of_ble_eq_true rfl) (Nat.le_of_ble_eq_true rfl) rfl (fun x12 h12 g12 hp12 hw12 => ?_)
    obtain ⟨rfl, rfl⟩ := hp12
    obtain rfl := Option.some.inj hw12
    refine A_h (Y16 (upd er 1 (er 1 + 1)) im s t0 g0 h0 t1 g1 h1) rfl ?_
    refine A_iret hE dX8_becomeView_15 ?_
    rw [if_neg hh]
    exact ⟨rfl, rfl⟩
set_option maxRecDepth 100000 in
theorem c_X8_becomeSharp (er : Nat → Int32) (im : Int32) (s : St) (t0 : Sp) (g0 h0 : Nat → Int32) (t1 : Sp) (g1 h1 : Nat → Int32) (v : Int32) : AMet yX8_becomeSharp cX8_becomeSharp 3 (some (.int)) 1 0 0 [.ref 0, .int v] (Y16 er im s t0 g0 h0 t1 g1 h1) (pI fun x0 hz0 => x0 = (if 0 ≤ v ∧ v ≤ 99 then (s 2, upd s 2 v, er) else bad 1 s er).1 ∧ hz0 = Y16 (if 0 ≤ v ∧ v ≤ 99 then (s 2, upd s 2 v, er) else bad 1 s er).2.2 im (if 0 ≤ v ∧ v ≤ 99 then (s 2, upd s 2 v, er) else bad 1 s er).2.1 t0 g0 h0 t1 g1 h1) := by
  refine AMet.of (by decide +kernel) rfl (fun E ad0 hE => ?_)
  refine A_iload_n hE 1 dX8_becomeSharp_0 rfl rfl ?_
  refine A_iconst hE 2 dX8_becomeSharp_1 rfl (0) rfl ?_
  refine A_bipush hE 4 dX8_becomeSharp_2 rfl (99) (by decide) ?_
  refine A_callSi hE 7 (c_X8_isWithin v 0 99) [] dX8_becomeSharp_4 rfl mkX8_55 rfl rfl rfl rfl rfl rfl (Nat.le_of_ble_eq_true rfl) (Nat.le_of_ble_eq_true rfl) rfl (fun x4 h4 g4 hp4 hw4 => ?_)
  obtain ⟨rfl, rfl⟩ := hp4
  obtain rfl := Option.some.inj hw4
  refine A_if_ne hE 10 16 dX8_becomeSharp_7 rfl rfl (fun c7 => ?_) (fun c7 => ?_)
  · have hh := bI_1 c7
    refine A_aload_n hE 17 dX8_becomeSharp_16 rfl rfl ?_
    refine A_get hE 20 dX8_becomeSharp_17 rfl fkX8_10 rfl rfl ?_
    refine A_get hE 23 dX8_becomeSharp_20 rfl fkX8_63 rfl rfl ?_
    refine A_get hE 26 dX8_becomeSharp_23 rfl fkX8_183 rfl rfl ?_
    refine A_istore_n hE 27 dX8_becomeSharp_26 rfl rfl rfl ?_
    refine A_aload_n hE 28 dX8_becomeSharp_27 rfl rfl ?_
    refine A_get hE 31 dX8_becomeSharp_28 rfl fkX8_10 rfl rfl ?_
    refine A_get hE 34 dX8_becomeSharp_31 rfl fkX8_63 rfl rfl ?_
    refine A_iload_n hE 35 dX8_becomeSharp_34 rfl rfl ?_
    refine A_put hE 38 dX8_becomeSharp_35 rfl fkX8_183 rfl rfl rfl rfl ?_
    refine A_h (Y16 er im (upd s 2 v) t0 g0 h0 t1 g1 h1) ((Y16_lo (k := 2) (by omega)).trans rfl).symm ?_
    refine A_iload_n hE 39 dX8_becomeSharp_38 rfl rfl ?_
    refine A_iret hE dX8_becomeSharp_39 ?_
    rw [if_pos hh]
    exact ⟨rfl, rfl⟩
  · have hh := bI_0 c7
    refine A_aload_n hE 11 dX8_becomeSharp_10 rfl rfl ?_
    refine A_iconst hE 12 dX8_becomeSharp_11 rfl (1) rfl ?_
    refine A_callVi hE 15 (c_X8_error er im 1 (by omega)) [0, 1] dX8_becomeSharp_12 rfl mkX8_59 rfl rfl rfl rfl rfl rfl rfl (Nat.le_of_ble_eq_true rfl) (Nat.le_of_ble_eq_true rfl) rfl (fun x12 h12 g12 hp12 hw12 => ?_)
    obtain ⟨rfl, rfl⟩ := hp12
    obtain rfl := Option.some.inj hw12
    refine A_h (Y16 (upd er 1 (er 1 + 1)) im s t0 g0 h0 t1 g1 h1) rfl ?_
    refine A_iret hE dX8_becomeSharp_15 ?_
    rw [if_neg hh]
    exact ⟨rfl, rfl⟩
set_option maxRecDepth 100000 in
theorem c_X8_becomeSteel (er : Nat → Int32) (im : Int32) (s : St) (t0 : Sp) (g0 h0 : Nat → Int32) (t1 : Sp) (g1 h1 : Nat → Int32) (v : Int32) : AMet yX8_becomeSteel cX8_becomeSteel 3 (some (.int)) 1 0 0 [.ref 0, .int v] (Y16 er im s t0 g0 h0 t1 g1 h1) (pI fun x0 hz0 => x0 = (if 1 ≤ v ∧ v ≤ 40 then (s 3, upd s 3 v, er) else bad 1 s er).1 ∧ hz0 = Y16 (if 1 ≤ v ∧ v ≤ 40 then (s 3, upd s 3 v, er) else bad 1 s er).2.2 im (if 1 ≤ v ∧ v ≤ 40 then (s 3, upd s 3 v, er) else bad 1 s er).2.1 t0 g0 h0 t1 g1 h1) := by
  refine AMet.of (by decide +kernel) rfl (fun E ad0 hE => ?_)
  refine A_iload_n hE 1 dX8_becomeSteel_0 rfl rfl ?_
  refine A_iconst hE 2 dX8_becomeSteel_1 rfl (1) rfl ?_
  refine A_bipush hE 4 dX8_becomeSteel_2 rfl (40) (by decide) ?_
  refine A_callSi hE 7 (c_X8_isWithin v 1 40) [] dX8_becomeSteel_4 rfl mkX8_55 rfl rfl rfl rfl rfl rfl (Nat.le_of_ble_eq_true rfl) (Nat.le_of_ble_eq_true rfl) rfl (fun x4 h4 g4 hp4 hw4 => ?_)
  obtain ⟨rfl, rfl⟩ := hp4
  obtain rfl := Option.some.inj hw4
  refine A_if_ne hE 10 16 dX8_becomeSteel_7 rfl rfl (fun c7 => ?_) (fun c7 => ?_)
  · have hh := bI_1 c7
    refine A_aload_n hE 17 dX8_becomeSteel_16 rfl rfl ?_
    refine A_get hE 20 dX8_becomeSteel_17 rfl fkX8_10 rfl rfl ?_
    refine A_get hE 23 dX8_becomeSteel_20 rfl fkX8_63 rfl rfl ?_
    refine A_get hE 26 dX8_becomeSteel_23 rfl fkX8_289 rfl rfl ?_
    refine A_istore_n hE 27 dX8_becomeSteel_26 rfl rfl rfl ?_
    refine A_aload_n hE 28 dX8_becomeSteel_27 rfl rfl ?_
    refine A_get hE 31 dX8_becomeSteel_28 rfl fkX8_10 rfl rfl ?_
    refine A_get hE 34 dX8_becomeSteel_31 rfl fkX8_63 rfl rfl ?_
    refine A_iload_n hE 35 dX8_becomeSteel_34 rfl rfl ?_
    refine A_put hE 38 dX8_becomeSteel_35 rfl fkX8_289 rfl rfl rfl rfl ?_
    refine A_h (Y16 er im (upd s 3 v) t0 g0 h0 t1 g1 h1) ((Y16_lo (k := 3) (by omega)).trans rfl).symm ?_
    refine A_iload_n hE 39 dX8_becomeSteel_38 rfl rfl ?_
    refine A_iret hE dX8_becomeSteel_39 ?_
    rw [if_pos hh]
    exact ⟨rfl, rfl⟩
  · have hh := bI_0 c7
    refine A_aload_n hE 11 dX8_becomeSteel_10 rfl rfl ?_
    refine A_iconst hE 12 dX8_becomeSteel_11 rfl (1) rfl ?_
    refine A_callVi hE 15 (c_X8_error er im 1 (by omega)) [0, 1] dX8_becomeSteel_12 rfl mkX8_59 rfl rfl rfl rfl rfl rfl rfl (Nat.le_of_ble_eq_true rfl) (Nat.le_of_ble_eq_true rfl) rfl (fun x12 h12 g12 hp12 hw12 => ?_)
    obtain ⟨rfl, rfl⟩ := hp12
    obtain rfl := Option.some.inj hw12
    refine A_h (Y16 (upd er 1 (er 1 + 1)) im s t0 g0 h0 t1 g1 h1) rfl ?_
    refine A_iret hE dX8_becomeSteel_15 ?_
    rw [if_neg hh]
    exact ⟨rfl, rfl⟩
set_option maxRecDepth 100000 in
theorem c_X8_seed (er : Nat → Int32) (im : Int32) (s : St) (t0 : Sp) (g0 h0 : Nat → Int32) (t1 : Sp) (g1 h1 : Nat → Int32) (v : Int32) : AMet yX8_seed cX8_seed 3 (some (.int)) 0 0 0 [.ref 0, .int v] (Y16 er im s t0 g0 h0 t1 g1 h1) (pI fun x0 hz0 => x0 = (seedF s er v).1 ∧ hz0 = Y16 (seedF s er v).2.2 im (seedF s er v).2.1 t0 g0 h0 t1 g1 h1) := by
  refine AMet.of (by decide +kernel) rfl (fun E ad0 hE => ?_)
  refine A_aload_n hE 1 dX8_seed_0 rfl rfl ?_
  refine A_get hE 4 dX8_seed_1 rfl fkX8_10 rfl rfl ?_
  refine A_get hE 7 dX8_seed_4 rfl fkX8_63 rfl rfl ?_
  refine A_get hE 10 dX8_seed_7 rfl fkX8_176 rfl rfl ?_
  refine A_istore_n hE 11 dX8_seed_10 rfl rfl rfl ?_
  refine A_aload_n hE 12 dX8_seed_11 rfl rfl ?_
  refine A_get hE 15 dX8_seed_12 rfl fkX8_10 rfl rfl ?_
  refine A_get hE 18 dX8_seed_15 rfl fkX8_63 rfl rfl ?_
  refine A_iload_n hE 19 dX8_seed_18 rfl rfl ?_
  refine A_put hE 22 dX8_seed_19 rfl fkX8_176 rfl rfl rfl rfl ?_
  refine A_h (Y16 er im (upd s 5 v) t0 g0 h0 t1 g1 h1) ((Y16_lo (k := 5) (by omega)).trans rfl).symm ?_
  refine A_iload_n hE 23 dX8_seed_22 rfl rfl ?_
  refine A_iret hE dX8_seed_23 ⟨rfl, rfl⟩
