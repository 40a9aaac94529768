/-! the whole of the law at one call -/
theorem exn {v : Int32} {K : Nat} (hK : K < 1000) (h1 : 0 ≤ v) (h2 : v ≤ Int32.ofNat K) : ∃ n, v = Int32.ofNat n ∧ n ≤ K := by
  have q1 : (0 : Int) ≤ v.toInt := i_le.mp h1
  have q2 := i_le.mp h2
  rw [n_int (by omega)] at q2
  refine ⟨v.toInt.toNat, ?_, by omega⟩
  apply Int32.toInt_inj.mp
  rw [n_int (by omega)]; omega
theorem lt6 : ∀ L, L < 6 → Int32.ofNat L - 6 < 0 := by decide
def offL (k : Nat) : Int := (#[184, 257, 282, 318, 362, 454, 498, 511, 579, 659, 715, 790, 803, 816, 896, 980, 1067, 1147, 1226, 1306, 1386, 1442, 1498, 1566, 1622, 1690, 1770, 1833, 1901, 1957, 2020, 2088, 2144, 2212, 2292, 2384, 2475, 2559, 2639, 2743, 2754, 2767] : Array Int).getD k 0
theorem offs_ok : ∀ k, k < 42 → (#[184, 257, 282, 318, 362, 454, 498, 511, 579, 659, 715, 790, 803, 816, 896, 980, 1067, 1147, 1226, 1306, 1386, 1442, 1498, 1566, 1622, 1690, 1770, 1833, 1901, 1957, 2020, 2088, 2144, 2212, 2292, 2384, 2475, 2559, 2639, 2743, 2754, 2767] : Array Int)[k]? = some (offL k) := by decide
theorem off_pos : ∀ k, k < 42 → 0 ≤ (((40 : Nat) : Int)) + offL k := by decide
set_option maxRecDepth 100000 in
theorem law_tb {V : V_T} {b x m o nw fr w cc rd bt fv tp al ta tb oc rw wy wz dr dn wh wl kp kw ko ww no im : Nat} {xs : Nat → Int32} {T N : Nat → Nat} {I : IT} {L : LT} {R : RT} {A B : Nat → Prop} (C : Cl 20 q_law 600002 7302232 law_Po V) (S : SB V) (hL : LSc V b 6 xs) (T_x : T x = 12) (R_x_1 : R x 1 = some nw) (T_nw : T nw = 9) (R_nw_8 : R nw 8 = some fr) (I_nw_1 : I nw 1 = 0) (T_m : T m = 13) (R_m_1 : R m 1 = some w) (T_w : T w = 20) (N_w : N w = 4007) (B_m : B m) (I_w_1 : I w 1 = 0) (I_nw_2 : I nw 2 = 0) (I_w_2 : I w 2 = 0) (I_nw_3 : I nw 3 = 0) (I_w_3 : I w 3 = 0) (R_x_6 : R x 6 = some cc) (R_x_0 : R x 0 = some rd) (T_rd : T rd = 5) (R_rd_2 : R rd 2 = some bt) (T_bt : T bt = 20) (N_bt : N bt = 400) (A_rd : A rd) (A_bt : A bt) (I_rd_1 : I rd 1 = 0) (R_m_18 : R m 18 = some fv) (T_fv : T fv = 20) (N_fv : N fv = 5) (B_fv : B fv) (R_m_10 : R m 10 = some tp) (T_tp : T tp = 22) (N_tp : N tp = 400) (B_tp : B tp) (I_m_11 : I m 11 = 0) (A_nw : A nw) (B_w : B w) (R_x_5 : R x 5 = some al) (T_al : T al = 1) (R_al_0 : R al 0 = some nw) (I_nw_0 : I nw 0 = 11) (I_w_0 : I w 0 = 11) (R_nw_9 : R nw 9 = some ta) (T_ta : T ta = 24) (N_ta : N ta = 8) (R_ta_0 : R ta 0 = some tb) (T_tb : T tb = 10) (A_tb : A tb) (T_o : T o = 21) (N_o : N o = 1) (A_o : A o) (A_x : A x) (R_rd_0 : R rd 0 = some oc) (T_oc : T oc = 8) (A_oc : A oc) (I_x_4 : I x 4 = -1) (I_m_17 : I m 17 = -1) (I_nw_4 : I nw 4 = 0) (I_w_4 : I w 4 = 0) (I_nw_5 : I nw 5 = 0) (I_w_5 : I w 5 = 0) (R_x_7 : R x 7 = some rw) (T_rw : T rw = 6) (R_rw_5 : R rw 5 = some wy) (T_wy : T wy = 21) (N_wy : N wy = 637) (A_wy : A wy) (R_m_21 : R m 21 = some wz) (T_wz : T wz = 21) (N_wz : N wz = 1261) (B_wz : B wz) (R_rw_2 : R rw 2 = some dr) (T_dr : T dr = 23) (R_rw_0 : R rw 0 = some al) (A_rw : A rw) (R_m_23 : R m 23 = some dn) (T_dn : T dn = 20) (N_dn : N dn = 108) (B_dn : B dn) (R_x_10 : R x 10 = some wh) (T_wh : T wh = 11) (A_wh : A wh) (R_m_34 : R m 34 = some wl) (T_wl : T wl = 21) (N_wl : N wl = 4) (B_wl : B wl) (J_wh_0 : L wh 0 = 0) (J_wh_1 : L wh 1 = 0) (J_wh_2 : L wh 2 = 0) (I_m_35 : I m 35 = 0) (I_m_36 : I m 36 = 0) (I_m_37 : I m 37 = 0) (R_x_2 : R x 2 = some kp) (T_kp : T kp = 9) (A_kp : A kp) (R_kp_6 : R kp 6 = some kw) (T_kw : T kw = 20) (N_kw : N kw = 40) (A_kw : A kw) (R_kp_7 : R kp 7 = some ko) (T_ko : T ko = 23) (R_nw_6 : R nw 6 = some ww) (T_ww : T ww = 20) (N_ww : N ww = 40) (R_nw_7 : R nw 7 = some no) (T_no : T no = 23) (R_m_2 : R m 2 = some im) (T_im : T im = 20) (N_im : N im = 3606) (B_im : B im) (I_x_3 : I x 3 = 0) (I_m_3 : I m 3 = 0) (hrow : cRow T N R A dr 12) (hko : cRow T N R A ko 40) (hno : cRow T N R A no 40) (hzr : ∀ j, j < 40 → ∀ g, R no j = some g → I g 0 = 0) (hkn : kp ≠ nw) (hwd : w ≠ dn) (nAB : ∀ a, B a → ¬ A a) (nBo : ¬ B o) {k : Nat} (hk : k < 42) : V (tg 40 (offL k)) [(4, .int 0), (3, .ref o), (2, .ref m), (1, .ref x), (0, .ref b)] [] (T, N, I, L, R) 429 34606 := by
  match k, hk with
  | 0, _ =>
    show V 224 [(4, .int 0), (3, .ref o), (2, .ref m), (1, .ref x), (0, .ref b)] [] (T, N, I, L, R) 429 34606
    exact lc_0 (d := 17) (A := A) (B := B) C S hL T_x R_x_0 T_rd R_rd_2 T_bt N_bt A_rd A_bt I_rd_1 T_m B_m R_m_18 T_fv N_fv B_fv R_m_10 T_tp N_tp B_tp I_m_11 nAB 
  | 1, _ =>
    show V 297 [(4, .int 0), (3, .ref o), (2, .ref m), (1, .ref x), (0, .ref b)] [] (T, N, I, L, R) 429 34606
    exact lc_1 (d := 18) (A := A) (B := B) C S hL T_x R_x_0 T_rd I_rd_1 A_rd T_m B_m I_m_11 nAB 
  | 2, _ =>
    show V 322 [(4, .int 0), (3, .ref o), (2, .ref m), (1, .ref x), (0, .ref b)] [] (T, N, I, L, R) 429 34606
    by_cases hp : xs 1 = 11 ∨ xs 1 = 13 ∨ xs 1 = 17 ∨ xs 1 = 19
    · exact lc_2_yes (d := 17) (A := A) (B := B) C S hL T_x R_x_1 T_nw I_nw_1 I_nw_2 A_nw T_m R_m_1 T_w N_w B_m B_w I_w_1 I_w_2 nAB hp
    · exact lc_2_no (d := 17) (A := A) (B := B) C S hL T_x T_m B_m hp
  | 3, _ =>
    show V 358 [(4, .int 0), (3, .ref o), (2, .ref m), (1, .ref x), (0, .ref b)] [] (T, N, I, L, R) 429 34606
    exact lc_3_0 (d := 16) (A := A) (B := B) C S hL T_x R_x_0 T_rd I_rd_1 A_rd T_m B_m I_m_11 nAB 
  | 4, _ =>
    show V 402 [(4, .int 0), (3, .ref o), (2, .ref m), (1, .ref x), (0, .ref b)] [] (T, N, I, L, R) 429 34606
    by_cases h0 : dt (11 : Int32).toInt (xs 1).toInt (xs 2).toInt (xs 3).toInt (xs 4).toInt = 0
    · exact lc_4_no (d := 15) (A := A) (B := B) C S hL T_x R_x_1 R_x_5 T_al R_al_0 T_nw I_nw_0 T_m R_m_1 T_w N_w I_w_0 B_m B_w h0
    · exact lc_4_yes (d := 15) (A := A) (B := B) C S hL T_x R_x_1 R_x_5 T_al R_al_0 T_nw I_nw_0 R_nw_9 T_ta N_ta R_ta_0 I_nw_2 A_nw T_tb A_tb T_o N_o A_o T_m R_m_1 T_w N_w I_w_0 B_m B_w I_w_2 nAB nBo h0
  | 5, _ =>
    show V 494 [(4, .int 0), (3, .ref o), (2, .ref m), (1, .ref x), (0, .ref b)] [] (T, N, I, L, R) 429 34606
    exact lc_5_0 (d := 12) (A := A) (B := B) C S hL T_x R_x_0 A_x T_rd R_rd_0 T_oc A_rd A_oc I_rd_1 T_m B_m I_m_11 nAB 
  | 6, _ =>
    show V 538 [(4, .int 0), (3, .ref o), (2, .ref m), (1, .ref x), (0, .ref b)] [] (T, N, I, L, R) 429 34606
    exact lc_6 (d := 18) (A := A) (B := B) C S hL T_x I_x_4 T_m B_m I_m_17 
  | 7, _ =>
    show V 551 [(4, .int 0), (3, .ref o), (2, .ref m), (1, .ref x), (0, .ref b)] [] (T, N, I, L, R) 429 34606
    exact lc_7 (d := 14) (A := A) (B := B) C S hL T_x R_x_1 T_nw R_nw_8 I_nw_1 T_m R_m_1 T_w N_w B_m I_w_1 
  | 8, _ =>
    show V 619 [(4, .int 0), (3, .ref o), (2, .ref m), (1, .ref x), (0, .ref b)] [] (T, N, I, L, R) 429 34606
    exact lc_8 (d := 14) (A := A) (B := B) C S hL T_x R_x_1 T_nw R_nw_8 I_nw_1 T_m R_m_1 T_w N_w B_m I_w_1 
  | 9, _ =>
    show V 699 [(4, .int 0), (3, .ref o), (2, .ref m), (1, .ref x), (0, .ref b)] [] (T, N, I, L, R) 429 34606
    exact lc_9 (d := 15) (A := A) (B := B) C S hL T_x R_x_1 T_nw I_nw_2 T_m R_m_1 T_w N_w B_m I_w_2 
  | 10, _ =>
    show V 755 [(4, .int 0), (3, .ref o), (2, .ref m), (1, .ref x), (0, .ref b)] [] (T, N, I, L, R) 429 34606
    exact lc_10 (d := 14) (A := A) (B := B) C S hL T_x R_x_1 T_nw R_nw_8 I_nw_1 T_m R_m_1 T_w N_w B_m I_w_1 I_w_2 
  | 11, _ =>
    show V 830 [(4, .int 0), (3, .ref o), (2, .ref m), (1, .ref x), (0, .ref b)] [] (T, N, I, L, R) 429 34606
    exact lc_11 (d := 16) (A := A) (B := B) C S hL T_x R_x_1 T_nw R_nw_8 I_nw_1 I_nw_4 T_m R_m_1 T_w N_w B_m I_w_4 B_w 
  | 12, _ =>
    show V 843 [(4, .int 0), (3, .ref o), (2, .ref m), (1, .ref x), (0, .ref b)] [] (T, N, I, L, R) 429 34606
    exact lc_12 (d := 16) (A := A) (B := B) C S hL T_x R_x_1 T_nw R_nw_8 I_nw_1 I_nw_5 T_m R_m_1 T_w N_w B_m I_w_5 B_w 
  | 13, _ =>
    show V 856 [(4, .int 0), (3, .ref o), (2, .ref m), (1, .ref x), (0, .ref b)] [] (T, N, I, L, R) 429 34606
    exact lc_13 (d := 15) (A := A) (B := B) C S hL T_x R_x_1 T_nw I_nw_3 T_m R_m_1 T_w N_w B_m I_w_1 I_w_3 
  | 14, _ =>
    show V 936 [(4, .int 0), (3, .ref o), (2, .ref m), (1, .ref x), (0, .ref b)] [] (T, N, I, L, R) 429 34606
    exact lc_14 (d := 15) (A := A) (B := B) C S hL T_x R_x_1 T_nw I_nw_3 R_x_6 T_m R_m_1 T_w N_w B_m I_w_3 
  | 15, _ =>
    show V 1020 [(4, .int 0), (3, .ref o), (2, .ref m), (1, .ref x), (0, .ref b)] [] (T, N, I, L, R) 429 34606
    exact lc_15 (d := 15) (A := A) (B := B) C S hL T_x R_x_1 T_nw I_nw_3 T_m R_m_1 T_w N_w B_m I_w_1 I_w_2 I_w_3 
  | 16, _ =>
    show V 1107 [(4, .int 0), (3, .ref o), (2, .ref m), (1, .ref x), (0, .ref b)] [] (T, N, I, L, R) 429 34606
    exact lc_16 (d := 15) (A := A) (B := B) C S hL T_x R_x_1 T_nw I_nw_3 T_m R_m_1 T_w N_w B_m I_w_3 
  | 17, _ =>
    show V 1187 [(4, .int 0), (3, .ref o), (2, .ref m), (1, .ref x), (0, .ref b)] [] (T, N, I, L, R) 429 34606
    by_cases hc : okCnt (xs 1) (xs 2) (xs 3)
    · obtain ⟨⟨a1, a2⟩, ⟨a3, a4⟩, a5, a6⟩ := hc
      obtain ⟨r, hrI, hr9⟩ := exn (K := 12) (by decide) a1 a2
      obtain ⟨e, heI, he⟩ := exn (K := 8) (by decide) (Int32.le_trans (by decide) a3) a4
      obtain ⟨n, hmI, hm⟩ := exn (K := 96) (by decide) a5 a6
      have he1 : 1 ≤ e := by have q := i_le.mp a3; rw [heI, n_int (by omega)] at q; have e1 : (1 : Int32).toInt = 1 := rfl; omega
      by_cases hq : e * r < n
      · exact lc_17_a (d := 17) (A := A) (B := B) C S hL T_x R_x_7 T_rw R_rw_5 T_wy N_wy A_wy T_o N_o A_o T_m B_m R_m_21 T_wz N_wz B_wz nAB nBo hrI heI hmI hr9 he1 he hm hq
      have hge : n ≤ e * r := Nat.le_of_not_lt hq
      by_cases hodd : (e * r - n) % 2 = 1
      · exact lc_17_b (d := 17) (A := A) (B := B) C S hL T_x R_x_7 T_rw R_rw_5 T_wy N_wy A_wy T_o N_o A_o T_m B_m R_m_21 T_wz N_wz B_wz nAB nBo hrI heI hmI hr9 he1 he hm hge hodd
      have hev : (e * r - n) % 2 = 0 := by omega
      by_cases hz : (e * r - n) / 2 = 0
      · exact lc_17_c (d := 15) (A := A) (B := B) C S hL T_x R_x_7 T_rw R_rw_5 T_wy N_wy A_wy T_o N_o A_o T_m B_m R_m_21 T_wz N_wz B_wz nAB nBo hrI heI hmI hr9 he1 he hm hge hev hz
      exact lc_17_d (d := 15) (A := A) (B := B) C S hL T_x R_x_7 T_rw R_rw_5 T_wy N_wy A_wy T_o N_o A_o T_m B_m R_m_21 T_wz N_wz B_wz nAB nBo hrI heI hmI hr9 he1 he hm hge hev (Nat.pos_of_ne_zero hz)
    · exact lc_17_no (d := 17) (A := A) (B := B) C S hL T_x T_m B_m hc
  | 18, _ =>
    show V 1266 [(4, .int 0), (3, .ref o), (2, .ref m), (1, .ref x), (0, .ref b)] [] (T, N, I, L, R) 429 34606
    by_cases h : 1 ≤ xs 2 ∧ xs 2 ≤ 8
    · obtain ⟨n, hfd, hn⟩ := exn (K := 8) (by decide) (Int32.le_trans (by decide) h.1) h.2
      exact lc_18_yes (d := 13) (A := A) (B := B) C S hL T_x R_x_1 R_x_7 T_rw R_rw_2 T_dr R_rw_0 T_al R_al_0 T_nw I_nw_0 A_rw I_nw_3 T_o N_o A_o T_m R_m_1 T_w N_w R_m_23 T_dn N_dn I_w_0 I_w_3 B_m B_dn B_w nAB nBo hrow hfd hn hwd h
    · exact lc_18_no (d := 17) (A := A) (B := B) C S hL T_x T_m B_m h
  | 19, _ =>
    show V 1346 [(4, .int 0), (3, .ref o), (2, .ref m), (1, .ref x), (0, .ref b)] [] (T, N, I, L, R) 429 34606
    by_cases h : 1 ≤ xs 2 ∧ xs 2 ≤ 8
    · obtain ⟨n, hfd, hn⟩ := exn (K := 8) (by decide) (Int32.le_trans (by decide) h.1) h.2
      exact lc_19_yes (d := 13) (A := A) (B := B) C S hL T_x R_x_1 R_x_7 T_rw R_rw_2 T_dr R_rw_0 T_al R_al_0 T_nw I_nw_0 A_rw I_nw_3 T_o N_o A_o T_m R_m_1 T_w N_w R_m_23 T_dn N_dn I_w_0 I_w_3 B_m B_dn B_w nAB nBo hrow hfd hn hwd h
    · exact lc_19_no (d := 17) (A := A) (B := B) C S hL T_x T_m B_m h
  | 20, _ =>
    show V 1426 [(4, .int 0), (3, .ref o), (2, .ref m), (1, .ref x), (0, .ref b)] [] (T, N, I, L, R) 429 34606
    exact lc_20 (d := 14) (A := A) (B := B) C S hL T_x R_x_1 T_nw R_nw_8 I_nw_1 T_m R_m_1 T_w N_w B_m I_w_1 
  | 21, _ =>
    show V 1482 [(4, .int 0), (3, .ref o), (2, .ref m), (1, .ref x), (0, .ref b)] [] (T, N, I, L, R) 429 34606
    exact lc_21 (d := 14) (A := A) (B := B) C S hL T_x R_x_1 T_nw R_nw_8 I_nw_1 T_m R_m_1 T_w N_w B_m I_w_1 
  | 22, _ =>
    show V 1538 [(4, .int 0), (3, .ref o), (2, .ref m), (1, .ref x), (0, .ref b)] [] (T, N, I, L, R) 429 34606
    exact lc_22 (d := 15) (A := A) (B := B) C S hL T_x R_x_1 T_nw I_nw_2 T_m R_m_1 T_w N_w B_m I_w_2 
  | 23, _ =>
    show V 1606 [(4, .int 0), (3, .ref o), (2, .ref m), (1, .ref x), (0, .ref b)] [] (T, N, I, L, R) 429 34606
    exact lc_23 (d := 15) (A := A) (B := B) C S hL T_x R_x_1 T_nw I_nw_2 T_m R_m_1 T_w N_w B_m I_w_2 
  | 24, _ =>
    show V 1662 [(4, .int 0), (3, .ref o), (2, .ref m), (1, .ref x), (0, .ref b)] [] (T, N, I, L, R) 429 34606
    exact lc_24 (d := 15) (A := A) (B := B) C S hL T_x R_x_1 T_nw I_nw_2 T_m R_m_1 T_w N_w B_m I_w_2 
  | 25, _ =>
    show V 1730 [(4, .int 0), (3, .ref o), (2, .ref m), (1, .ref x), (0, .ref b)] [] (T, N, I, L, R) 429 34606
    exact lc_25 (d := 14) (A := A) (B := B) C S hL T_x R_x_1 T_nw R_nw_8 I_nw_1 T_m R_m_1 T_w N_w B_m I_w_1 
  | 26, _ =>
    show V 1810 [(4, .int 0), (3, .ref o), (2, .ref m), (1, .ref x), (0, .ref b)] [] (T, N, I, L, R) 429 34606
    exact lc_26 (d := 14) (A := A) (B := B) C S hL T_x R_x_1 T_nw R_nw_8 I_nw_1 T_m R_m_1 T_w N_w B_m I_w_1 
  | 27, _ =>
    show V 1873 [(4, .int 0), (3, .ref o), (2, .ref m), (1, .ref x), (0, .ref b)] [] (T, N, I, L, R) 429 34606
    exact lc_27 (d := 14) (A := A) (B := B) C S hL T_x R_x_1 T_nw R_nw_8 I_nw_1 T_m R_m_1 T_w N_w B_m I_w_1 
  | 28, _ =>
    show V 1941 [(4, .int 0), (3, .ref o), (2, .ref m), (1, .ref x), (0, .ref b)] [] (T, N, I, L, R) 429 34606
    exact lc_28 (d := 14) (A := A) (B := B) C S hL T_x R_x_1 T_nw R_nw_8 I_nw_1 T_m R_m_1 T_w N_w B_m I_w_1 
  | 29, _ =>
    show V 1997 [(4, .int 0), (3, .ref o), (2, .ref m), (1, .ref x), (0, .ref b)] [] (T, N, I, L, R) 429 34606
    exact lc_29 (d := 14) (A := A) (B := B) C S hL T_x R_x_1 T_nw R_nw_8 I_nw_1 T_m R_m_1 T_w N_w B_m I_w_1 
  | 30, _ =>
    show V 2060 [(4, .int 0), (3, .ref o), (2, .ref m), (1, .ref x), (0, .ref b)] [] (T, N, I, L, R) 429 34606
    exact lc_30 (d := 14) (A := A) (B := B) C S hL T_x R_x_1 T_nw R_nw_8 I_nw_1 T_m R_m_1 T_w N_w B_m I_w_1 
  | 31, _ =>
    show V 2128 [(4, .int 0), (3, .ref o), (2, .ref m), (1, .ref x), (0, .ref b)] [] (T, N, I, L, R) 429 34606
    exact lc_31 (d := 14) (A := A) (B := B) C S hL T_x R_x_1 T_nw R_nw_8 I_nw_1 T_m R_m_1 T_w N_w B_m I_w_1 
  | 32, _ =>
    show V 2184 [(4, .int 0), (3, .ref o), (2, .ref m), (1, .ref x), (0, .ref b)] [] (T, N, I, L, R) 429 34606
    exact lc_32 (d := 14) (A := A) (B := B) C S hL T_x R_x_1 T_nw R_nw_8 I_nw_1 T_m R_m_1 T_w N_w B_m I_w_1 
  | 33, _ =>
    show V 2252 [(4, .int 0), (3, .ref o), (2, .ref m), (1, .ref x), (0, .ref b)] [] (T, N, I, L, R) 429 34606
    exact lc_33 (d := 14) (A := A) (B := B) C S hL T_x R_x_1 T_nw R_nw_8 I_nw_1 T_m R_m_1 T_w N_w B_m I_w_1 
  | 34, _ =>
    show V 2332 [(4, .int 0), (3, .ref o), (2, .ref m), (1, .ref x), (0, .ref b)] [] (T, N, I, L, R) 429 34606
    exact lc_34 (d := 14) (A := A) (B := B) C S hL T_x R_x_1 T_nw R_nw_8 I_nw_1 T_m R_m_1 T_w N_w B_m I_w_1 
  | 35, _ =>
    show V 2424 [(4, .int 0), (3, .ref o), (2, .ref m), (1, .ref x), (0, .ref b)] [] (T, N, I, L, R) 429 34606
    by_cases hok : okRed (xs 1) (xs 2) (xs 3)
    · by_cases hn : 0 ≤ (xs 4).toInt ∧ (xs 4).toInt ≤ 8
      · exact lc_35_yes (d := 14) (A := A) (B := B) C S hL T_x R_x_10 T_wh A_wh T_o N_o A_o T_m B_m R_m_34 T_wl N_wl B_wl nAB nBo hok hn
      · exact lc_35_nse (d := 16) (A := A) (B := B) C S hL T_x T_m B_m hok hn
    · exact lc_35_no (d := 16) (A := A) (B := B) C S hL T_x T_m B_m hok
  | 36, _ =>
    show V 2515 [(4, .int 0), (3, .ref o), (2, .ref m), (1, .ref x), (0, .ref b)] [] (T, N, I, L, R) 429 34606
    by_cases hD : isDc (xs 1)
    · by_cases hz2 : xs 2 = 0
      · exact lc_36_yes_z (d := 14) (A := A) (B := B) C S hL T_x R_x_10 T_wh A_wh J_wh_0 J_wh_1 J_wh_2 T_o N_o A_o T_m B_m I_m_35 I_m_36 I_m_37 nAB nBo hD hz2
      · exact lc_36_yes_n (d := 14) (A := A) (B := B) C S hL T_x R_x_10 T_wh A_wh J_wh_0 J_wh_1 J_wh_2 T_o N_o A_o T_m B_m I_m_35 I_m_36 I_m_37 nAB nBo hD hz2
    · by_cases hz2 : xs 2 = 0
      · exact lc_36_no_z (d := 15) (A := A) (B := B) C S hL T_x T_m B_m hD hz2
      · exact lc_36_no_n (d := 15) (A := A) (B := B) C S hL T_x T_m B_m hD hz2
  | 37, _ =>
    show V 2599 [(4, .int 0), (3, .ref o), (2, .ref m), (1, .ref x), (0, .ref b)] [] (T, N, I, L, R) 429 34606
    by_cases hD : isDc (xs 1)
    · by_cases hk : xs 2 < 0
      · exact lc_37_no2 (d := 15) (A := A) (B := B) C S hL T_x T_m B_m hD hk
      · have hk := Int32.not_lt.mp hk
        by_cases hn : 0 ≤ (xs 3).toInt ∧ (xs 3).toInt ≤ 2
        · exact lc_37_yes (d := 14) (A := A) (B := B) C S hL T_x R_x_10 T_wh A_wh J_wh_0 J_wh_1 J_wh_2 T_o N_o A_o T_m B_m I_m_35 I_m_36 I_m_37 nAB nBo hD hk hn
        · exact lc_37_nse (d := 15) (A := A) (B := B) C S hL T_x T_m B_m hD hk hn
    · exact lc_37_no1 (d := 15) (A := A) (B := B) C S hL T_x T_m B_m hD
  | 38, _ =>
    show V 2679 [(4, .int 0), (3, .ref o), (2, .ref m), (1, .ref x), (0, .ref b)] [] (T, N, I, L, R) 429 34606
    by_cases hok : okReal (xs 1) (xs 2) (xs 3) (xs 4) (xs 5)
    · exact lc_38_yes (d := 15) (A := A) (B := B) C S hL T_x T_o N_o A_o T_m B_m nAB nBo hok
    · exact lc_38_no (d := 16) (A := A) (B := B) C S hL T_x T_m B_m hok
  | 39, _ =>
    show V 2783 [(4, .int 0), (3, .ref o), (2, .ref m), (1, .ref x), (0, .ref b)] [] (T, N, I, L, R) 429 34606
    exact lc_39 (d := 14) (A := A) (B := B) C S hL T_x A_x R_x_1 R_x_2 T_kp A_kp R_kp_6 T_kw N_kw A_kw R_kp_7 T_ko T_nw R_nw_6 T_ww N_ww R_nw_7 T_no I_nw_1 I_nw_2 I_nw_3 T_m R_m_1 T_w N_w B_m R_m_2 T_im N_im B_im nAB hko hno hzr hkn
  | 40, _ =>
    show V 2794 [(4, .int 0), (3, .ref o), (2, .ref m), (1, .ref x), (0, .ref b)] [] (T, N, I, L, R) 429 34606
    exact lc_40 (d := 18) (A := A) (B := B) C S hL T_x I_x_3 T_m B_m I_m_3 
  | 41, _ =>
    show V 2807 [(4, .int 0), (3, .ref o), (2, .ref m), (1, .ref x), (0, .ref b)] [] (T, N, I, L, R) 429 34606
    exact lc_41 (d := 17) (A := A) (B := B) C S hL T_x R_x_1 T_nw I_nw_0 I_nw_1 I_nw_2 I_nw_3 I_nw_4 I_nw_5 T_m R_m_1 T_w N_w B_m I_w_0 I_w_1 I_w_2 I_w_3 I_w_4 I_w_5 B_w 
  | k + 42, h => exact absurd h (by omega)
set_option maxRecDepth 100000 in
theorem law_go {V : V_T} {b x m o nw fr w cc rd bt fv tp al ta tb oc rw wy wz dr dn wh wl kp kw ko ww no im : Nat} {xs : Nat → Int32} {T N : Nat → Nat} {I : IT} {L : LT} {R : RT} {A B : Nat → Prop} (C : Cl 20 q_law 600002 7302232 law_Po V) (S : SB V) {Ln : Nat} (hLn : Ln ≤ 6) (hL : LSc V b Ln xs) (T_x : T x = 12) (R_x_1 : R x 1 = some nw) (T_nw : T nw = 9) (R_nw_8 : R nw 8 = some fr) (I_nw_1 : I nw 1 = 0) (T_m : T m = 13) (R_m_1 : R m 1 = some w) (T_w : T w = 20) (N_w : N w = 4007) (B_m : B m) (I_w_1 : I w 1 = 0) (I_nw_2 : I nw 2 = 0) (I_w_2 : I w 2 = 0) (I_nw_3 : I nw 3 = 0) (I_w_3 : I w 3 = 0) (R_x_6 : R x 6 = some cc) (R_x_0 : R x 0 = some rd) (T_rd : T rd = 5) (R_rd_2 : R rd 2 = some bt) (T_bt : T bt = 20) (N_bt : N bt = 400) (A_rd : A rd) (A_bt : A bt) (I_rd_1 : I rd 1 = 0) (R_m_18 : R m 18 = some fv) (T_fv : T fv = 20) (N_fv : N fv = 5) (B_fv : B fv) (R_m_10 : R m 10 = some tp) (T_tp : T tp = 22) (N_tp : N tp = 400) (B_tp : B tp) (I_m_11 : I m 11 = 0) (A_nw : A nw) (B_w : B w) (R_x_5 : R x 5 = some al) (T_al : T al = 1) (R_al_0 : R al 0 = some nw) (I_nw_0 : I nw 0 = 11) (I_w_0 : I w 0 = 11) (R_nw_9 : R nw 9 = some ta) (T_ta : T ta = 24) (N_ta : N ta = 8) (R_ta_0 : R ta 0 = some tb) (T_tb : T tb = 10) (A_tb : A tb) (T_o : T o = 21) (N_o : N o = 1) (A_o : A o) (A_x : A x) (R_rd_0 : R rd 0 = some oc) (T_oc : T oc = 8) (A_oc : A oc) (I_x_4 : I x 4 = -1) (I_m_17 : I m 17 = -1) (I_nw_4 : I nw 4 = 0) (I_w_4 : I w 4 = 0) (I_nw_5 : I nw 5 = 0) (I_w_5 : I w 5 = 0) (R_x_7 : R x 7 = some rw) (T_rw : T rw = 6) (R_rw_5 : R rw 5 = some wy) (T_wy : T wy = 21) (N_wy : N wy = 637) (A_wy : A wy) (R_m_21 : R m 21 = some wz) (T_wz : T wz = 21) (N_wz : N wz = 1261) (B_wz : B wz) (R_rw_2 : R rw 2 = some dr) (T_dr : T dr = 23) (R_rw_0 : R rw 0 = some al) (A_rw : A rw) (R_m_23 : R m 23 = some dn) (T_dn : T dn = 20) (N_dn : N dn = 108) (B_dn : B dn) (R_x_10 : R x 10 = some wh) (T_wh : T wh = 11) (A_wh : A wh) (R_m_34 : R m 34 = some wl) (T_wl : T wl = 21) (N_wl : N wl = 4) (B_wl : B wl) (J_wh_0 : L wh 0 = 0) (J_wh_1 : L wh 1 = 0) (J_wh_2 : L wh 2 = 0) (I_m_35 : I m 35 = 0) (I_m_36 : I m 36 = 0) (I_m_37 : I m 37 = 0) (R_x_2 : R x 2 = some kp) (T_kp : T kp = 9) (A_kp : A kp) (R_kp_6 : R kp 6 = some kw) (T_kw : T kw = 20) (N_kw : N kw = 40) (A_kw : A kw) (R_kp_7 : R kp 7 = some ko) (T_ko : T ko = 23) (R_nw_6 : R nw 6 = some ww) (T_ww : T ww = 20) (N_ww : N ww = 40) (R_nw_7 : R nw 7 = some no) (T_no : T no = 23) (R_m_2 : R m 2 = some im) (T_im : T im = 20) (N_im : N im = 3606) (B_im : B im) (I_x_3 : I x 3 = 0) (I_m_3 : I m 3 = 0) (hrow : cRow T N R A dr 12) (hko : cRow T N R A ko 40) (hno : cRow T N R A no 40) (hzr : ∀ j, j < 40 → ∀ g, R no j = some g → I g 0 = 0) (hkn : kp ≠ nw) (hwd : w ≠ dn) (nAB : ∀ a, B a → ¬ A a) (nBo : ¬ B o) : V 23 [(4, .int 0), (3, .ref o), (2, .ref m), (1, .ref x), (0, .ref b)] [] (T, N, I, L, R) 429 34606 := by
  refine k_iload C rfl rfl rfl ?_
  refine k_aload_n C rfl rfl rfl ?_
  refine hL.2 _ _ _ _ _ _ rfl ?_
  refine k_bipush C (x := 6) rfl rfl rfl ?_
  refine k_isub C rfl rfl ?_
  refine k_icmp_gt C (t := 2838) rfl rfl rfl (fun _ => ?_) (fun c => ?_)
  · refine k_iconst C (x := 1) rfl rfl rfl ?_
    exact k_iret C rfl (Or.inr ⟨rfl, Or.inr rfl⟩) (Nat.le_of_ble_eq_true rfl) (Nat.le_of_ble_eq_true rfl) rfl
  have hLn6 : Ln = 6 := by
    by_cases q : Ln < 6
    · exact absurd (lt6 Ln q) c
    · omega
  subst hLn6
  refine k_aload_n C rfl rfl rfl ?_
  refine k_iload C rfl rfl rfl ?_
  refine ls_i hL (k := 0) rfl rfl (by unfold vp_in; decide) (by decide) ?_
  refine k_bipush C (x := 63) rfl rfl rfl ?_
  refine k_iand C rfl rfl ?_
  refine k_table C rfl (by decide) (fun _ => ?_) (fun h1 h2 => ?_)
  · exact law_tail C S hL (Nat.le_of_ble_eq_true rfl) (Nat.le_of_ble_eq_true rfl) (List.forall_mem_cons.mpr ⟨List.mem_of_getElem? (i := 0) rfl, List.forall_mem_cons.mpr ⟨List.mem_of_getElem? (i := 4) rfl, fun _ h => nomatch h⟩⟩)
  · generalize (xs 0 &&& 63).toInt = y at h1 h2 ⊢
    obtain ⟨k, rfl⟩ : ∃ k : Nat, y = k := ⟨y.toNat, by omega⟩
    have hk : k < 42 := by omega
    refine ⟨offL k, ?_, ?_, law_tb C S hL T_x R_x_1 T_nw R_nw_8 I_nw_1 T_m R_m_1 T_w N_w B_m I_w_1 I_nw_2 I_w_2 I_nw_3 I_w_3 R_x_6 R_x_0 T_rd R_rd_2 T_bt N_bt A_rd A_bt I_rd_1 R_m_18 T_fv N_fv B_fv R_m_10 T_tp N_tp B_tp I_m_11 A_nw B_w R_x_5 T_al R_al_0 I_nw_0 I_w_0 R_nw_9 T_ta N_ta R_ta_0 T_tb A_tb T_o N_o A_o A_x R_rd_0 T_oc A_oc I_x_4 I_m_17 I_nw_4 I_w_4 I_nw_5 I_w_5 R_x_7 T_rw R_rw_5 T_wy N_wy A_wy R_m_21 T_wz N_wz B_wz R_rw_2 T_dr R_rw_0 A_rw R_m_23 T_dn N_dn B_dn R_x_10 T_wh A_wh R_m_34 T_wl N_wl B_wl J_wh_0 J_wh_1 J_wh_2 I_m_35 I_m_36 I_m_37 R_x_2 T_kp A_kp R_kp_6 T_kw N_kw A_kw R_kp_7 T_ko R_nw_6 T_ww N_ww R_nw_7 T_no R_m_2 T_im N_im B_im I_x_3 I_m_3 hrow hko hno hzr hkn hwd nAB nBo hk⟩
    · rw [show ((k : Int) - 0).toNat = k from by omega]
      exact offs_ok k hk
    · exact off_pos k hk
theorem cRow_of {M M1 : Mm} {r n o : Nat} (E : Ext M M1) (h : gRow M r n) : cRow (mT M1) (mN M1) (mR M1) (fun a => mT M a ≠ 0 ∨ a = o) r n := by
  obtain ⟨h1, h2, h3⟩ := h
  have e := E r (by rw [h1]; decide)
  refine ⟨e.1.trans h1, e.2.1.trans h2, fun j hj => ?_⟩
  obtain ⟨f, f1, f2, f3, nb, f4, f5, f6⟩ := h3 j hj
  have ef := E f (by rw [f2]; decide)
  have en := E nb (by rw [f5]; decide)
  exact ⟨f, nb, (congrFun e.2.2.2.2 j).trans f1, ef.1.trans f2, (congrFun ef.2.2.2.2 1).trans f4, en.1.trans f5, en.2.1.trans f6, Or.inl (by rw [f2]; decide), Or.inl (by rw [f5]; decide)⟩
theorem zRow_of {M M1 : Mm} {r n : Nat} (E : Ext M M1) (h : gRow M r n) : ∀ j, j < n → ∀ g, mR M1 r j = some g → mI M1 g 0 = 0 := by
  obtain ⟨h1, h2, h3⟩ := h
  intro j hj g hg
  have e := E r (by rw [h1]; decide)
  obtain ⟨f, f1, f2, f3, _⟩ := h3 j hj
  have : some g = some f := hg.symm.trans ((congrFun e.2.2.2.2 j).trans f1)
  rw [Option.some.inj this]
  exact (congrFun (E f (by rw [f2]; decide)).2.2.1 0).trans f3
theorem law_st {V : V_T} {b x m o Ln : Nat} {xs : Nat → Int32} {M2 M3 M4 M5 : Mm} (C : Cl 20 q_law 600002 7302232 law_Po V) (S : SB V) (hLn : Ln ≤ 6) (hL : LSc V b Ln xs) (g : gLF M2 x) (gm : gMd M3 M4 m) (E1 : Ext M2 M5) (E2 : Ext M4 M5) (E3 : Ext M2 M3) (hm0 : mT M2 m = 0) (ho0 : mT M4 o = 0) (hoT : mT M5 o = 21) (hoN : mN M5 o = 1) : V 23 [(4, .int 0), (3, .ref o), (2, .ref m), (1, .ref x), (0, .ref b)] [] M5 429 34606 := by
  obtain ⟨tx, ix3, ix4, rd, nw, kp, al, cc, rw, se, po, wh, w1, w2, w3, rx0, rx1, rx2, rx5, rx6, rx7, rx8, rx9, rx10, rx11, rx12, rx13, hrd, hst, hkp, hal, hcc, hrw, hse, hpo, hwh, hw1, hw2, hw3, hkn⟩ := g
  obtain ⟨trd, ird1, ⟨oc, rrd0, toc, -⟩, bt, rrd2, tbt, nbt⟩ := hrd
  obtain ⟨tnw, inw0, inw1, inw2, inw3, inw4, inw5, ⟨ww, rnw6, tww, nww⟩, ⟨no, rnw7, hno⟩, ⟨fr, rnw8, hfr⟩, ⟨ta, rnw9, tta, nta, hta⟩, -⟩ := hst
  obtain ⟨tb, rta0, ttb⟩ := hta 0 (by decide)
  obtain ⟨tkp, -, -, -, -, -, -, ⟨kw, rkp6, tkw, nkw⟩, ⟨ko, rkp7, hko⟩, -⟩ := hkp
  obtain ⟨tal, -, -, ral0⟩ := hal
  obtain ⟨trw, ⟨dr, rrw2, hdr⟩, -, -, ⟨wy, rrw5, twy, nwy⟩, rrw0, -⟩ := hrw
  obtain ⟨twh, lwh⟩ := hwh
  obtain ⟨tm, im0, im3, im11, im17, im35, im36, im37, w, im, dg, nu, tp, fv, rk, wz, rs, dn, vd, pw, sp, fc, wl, iw0, iwj, hwd, rm1, ⟨tw, nw9⟩, zw, rm2, ⟨tim, nim⟩, zim, rm4, hdg, zdg, rm5, hnu, znu, rm10, ⟨ttp, ntp⟩, ztp, rm18, ⟨tfv, nfv⟩, zfv, rm20, hrk, zrk, rm21, ⟨twz, nwz⟩, zwz, rm22, hrs, zrs, rm23, ⟨tdn, ndn⟩, zdn, rm25, hvd, zvd, rm26, hpw, zpw, rm27, hsp, zsp, rm28, hfc, zfc, rm34, ⟨twl, nwl⟩, zwl⟩ := gm
  have hz : ∀ {a : Nat}, mT M3 a = 0 → mT M2 a = 0 := fun {a} h => Classical.byContradiction fun q => q ((E3 a q).1.symm.trans h)
  have e_x9 := E1 x (by rw [tx]; decide)
  have e_m9 := E2 m (by rw [tm]; decide)
  have e_nw9 := E1 nw (by rw [tnw]; decide)
  have e_w9 := E2 w (by rw [tw]; decide)
  have e_rd9 := E1 rd (by rw [trd]; decide)
  have e_bt9 := E1 bt (by rw [tbt]; decide)
  have e_fv9 := E2 fv (by rw [tfv]; decide)
  have e_tp9 := E2 tp (by rw [ttp]; decide)
  have e_al9 := E1 al (by rw [tal]; decide)
  have e_ta9 := E1 ta (by rw [tta]; decide)
  have e_tb9 := E1 tb (by rw [ttb]; decide)
  have e_oc9 := E1 oc (by rw [toc]; decide)
  have e_rw9 := E1 rw (by rw [trw]; decide)
  have e_wy9 := E1 wy (by rw [twy]; decide)
  have e_wz9 := E2 wz (by rw [twz]; decide)
  have e_dr9 := E1 dr (by rw [hdr.1]; decide)
  have e_dn9 := E2 dn (by rw [tdn]; decide)
  have e_wh9 := E1 wh (by rw [twh]; decide)
  have e_wl9 := E2 wl (by rw [twl]; decide)
  have e_kp9 := E1 kp (by rw [tkp]; decide)
  have e_kw9 := E1 kw (by rw [tkw]; decide)
  have e_ko9 := E1 ko (by rw [hko.1]; decide)
  have e_ww9 := E1 ww (by rw [tww]; decide)
  have e_no9 := E1 no (by rw [hno.1]; decide)
  have e_im9 := E2 im (by rw [tim]; decide)
  exact law_go (T := mT M5) (N := mN M5) (I := mI M5) (L := mL M5) (R := mR M5) (A := fun a => mT M2 a ≠ 0 ∨ a = o) (B := fun a => mT M2 a = 0 ∧ mT M4 a ≠ 0) C S hLn hL (e_x9.1.trans tx) ((congrFun e_x9.2.2.2.2 1).trans rx1) (e_nw9.1.trans tnw) ((congrFun e_nw9.2.2.2.2 8).trans rnw8) ((congrFun e_nw9.2.2.1 1).trans inw1) (e_m9.1.trans tm) ((congrFun e_m9.2.2.2.2 1).trans rm1) (e_w9.1.trans tw) (e_w9.2.1.trans nw9) ⟨hm0, by rw [tm]; decide⟩ ((congrFun e_w9.2.2.1 1).trans (iwj 1 (by decide))) ((congrFun e_nw9.2.2.1 2).trans inw2) ((congrFun e_w9.2.2.1 2).trans (iwj 2 (by decide))) ((congrFun e_nw9.2.2.1 3).trans inw3) ((congrFun e_w9.2.2.1 3).trans (iwj 3 (by decide))) ((congrFun e_x9.2.2.2.2 6).trans rx6) ((congrFun e_x9.2.2.2.2 0).trans rx0) (e_rd9.1.trans trd) ((congrFun e_rd9.2.2.2.2 2).trans rrd2) (e_bt9.1.trans tbt) (e_bt9.2.1.trans nbt) (Or.inl (by rw [trd]; decide)) (Or.inl (by rw [tbt]; decide)) ((congrFun e_rd9.2.2.1 1).trans ird1) ((congrFun e_m9.2.2.2.2 18).trans rm18) (e_fv9.1.trans tfv) (e_fv9.2.1.trans nfv) ⟨(hz zfv), by rw [tfv]; decide⟩ ((congrFun e_m9.2.2.2.2 10).trans rm10) (e_tp9.1.trans ttp) (e_tp9.2.1.trans ntp) ⟨(hz ztp), by rw [ttp]; decide⟩ ((congrFun e_m9.2.2.1 11).trans im11) (Or.inl (by rw [tnw]; decide)) ⟨(hz zw), by rw [tw]; decide⟩ ((congrFun e_x9.2.2.2.2 5).trans rx5) (e_al9.1.trans tal) ((congrFun e_al9.2.2.2.2 0).trans ral0) ((congrFun e_nw9.2.2.1 0).trans inw0) ((congrFun e_w9.2.2.1 0).trans iw0) ((congrFun e_nw9.2.2.2.2 9).trans rnw9) (e_ta9.1.trans tta) (e_ta9.2.1.trans nta) ((congrFun e_ta9.2.2.2.2 0).trans rta0) (e_tb9.1.trans ttb) (Or.inl (by rw [ttb]; decide)) hoT hoN (Or.inr rfl) (Or.inl (by rw [tx]; decide)) ((congrFun e_rd9.2.2.2.2 0).trans rrd0) (e_oc9.1.trans toc) (Or.inl (by rw [toc]; decide)) ((congrFun e_x9.2.2.1 4).trans ix4) ((congrFun e_m9.2.2.1 17).trans im17) ((congrFun e_nw9.2.2.1 4).trans inw4) ((congrFun e_w9.2.2.1 4).trans (iwj 4 (by decide))) ((congrFun e_nw9.2.2.1 5).trans inw5) ((congrFun e_w9.2.2.1 5).trans (iwj 5 (by decide))) ((congrFun e_x9.2.2.2.2 7).trans rx7) (e_rw9.1.trans trw) ((congrFun e_rw9.2.2.2.2 5).trans rrw5) (e_wy9.1.trans twy) (e_wy9.2.1.trans nwy) (Or.inl (by rw [twy]; decide)) ((congrFun e_m9.2.2.2.2 21).trans rm21) (e_wz9.1.trans twz) (e_wz9.2.1.trans nwz) ⟨(hz zwz), by rw [twz]; decide⟩ ((congrFun e_rw9.2.2.2.2 2).trans rrw2) (e_dr9.1.trans hdr.1) ((congrFun e_rw9.2.2.2.2 0).trans rrw0) (Or.inl (by rw [trw]; decide)) ((congrFun e_m9.2.2.2.2 23).trans rm23) (e_dn9.1.trans tdn) (e_dn9.2.1.trans ndn) ⟨(hz zdn), by rw [tdn]; decide⟩ ((congrFun e_x9.2.2.2.2 10).trans rx10) (e_wh9.1.trans twh) (Or.inl (by rw [twh]; decide)) ((congrFun e_m9.2.2.2.2 34).trans rm34) (e_wl9.1.trans twl) (e_wl9.2.1.trans nwl) ⟨(hz zwl), by rw [twl]; decide⟩ ((congrFun e_wh9.2.2.2.1 0).trans (lwh 0)) ((congrFun e_wh9.2.2.2.1 1).trans (lwh 1)) ((congrFun e_wh9.2.2.2.1 2).trans (lwh 2)) ((congrFun e_m9.2.2.1 35).trans im35) ((congrFun e_m9.2.2.1 36).trans im36) ((congrFun e_m9.2.2.1 37).trans im37) ((congrFun e_x9.2.2.2.2 2).trans rx2) (e_kp9.1.trans tkp) (Or.inl (by rw [tkp]; decide)) ((congrFun e_kp9.2.2.2.2 6).trans rkp6) (e_kw9.1.trans tkw) (e_kw9.2.1.trans nkw) (Or.inl (by rw [tkw]; decide)) ((congrFun e_kp9.2.2.2.2 7).trans rkp7) (e_ko9.1.trans hko.1) ((congrFun e_nw9.2.2.2.2 6).trans rnw6) (e_ww9.1.trans tww) (e_ww9.2.1.trans nww) ((congrFun e_nw9.2.2.2.2 7).trans rnw7) (e_no9.1.trans hno.1) ((congrFun e_m9.2.2.2.2 2).trans rm2) (e_im9.1.trans tim) (e_im9.2.1.trans nim) ⟨(hz zim), by rw [tim]; decide⟩ ((congrFun e_x9.2.2.1 3).trans ix3) ((congrFun e_m9.2.2.1 3).trans im3) (cRow_of E1 hdr) (cRow_of E1 hko) (cRow_of E1 hno) (zRow_of E1 hno) hkn hwd (fun a h q => q.elim (fun q => q h.1) (fun q => h.2 (q ▸ ho0))) (fun h => h.2 ho0)
set_option maxRecDepth 100000 in
theorem law_all : Law_ok 20 := by
  intro b Ln xs hLn V C S hL
  refine i_new C (n := 14) rfl rfl rfl rfl rfl rfl (Nat.le_of_ble_eq_true rfl) (Nat.le_of_ble_eq_true rfl) (fun x M1 f0 fE fT fI fL => ?_)
  refine k_dup C rfl rfl rfl ?_
  refine i_call C (i_X11 (d := 15) fT fI) rfl rfl rfl rfl rfl ⟨_, rfl, rfl, rfl⟩ rfl rfl (Nat.le_of_ble_eq_true rfl) (Nat.le_of_ble_eq_true rfl) (Nat.le_of_ble_eq_true rfl) ?_
  intro M2 g
  refine k_astore_n C (lw := [(1, _), (0, _)]) rfl rfl (Nat.le_of_ble_eq_true rfl) rfl ?_
  refine i_new C (n := 38) rfl rfl rfl rfl rfl rfl (Nat.le_of_ble_eq_true rfl) (Nat.le_of_ble_eq_true rfl) (fun m M3 f1 fE1 fT1 fI1 fL1 => ?_)
  refine k_dup C rfl rfl rfl ?_
  refine i_call C (i_X12 (d := 19) fT1 fI1) rfl rfl rfl rfl rfl ⟨_, rfl, rfl, rfl⟩ rfl rfl (Nat.le_of_ble_eq_true rfl) (Nat.le_of_ble_eq_true rfl) (Nat.le_of_ble_eq_true rfl) ?_
  intro M4 gm
  refine k_astore_n C (lw := [(2, _), (1, _), (0, _)]) rfl rfl (Nat.le_of_ble_eq_true rfl) rfl ?_
  refine k_iconst C (x := 1) rfl rfl rfl ?_
  refine k_newarr C (tt := 1) (n := 1) rfl rfl (Or.inr (Or.inl ⟨rfl, rfl⟩)) (by decide) (by decide) (by decide) (Nat.le_of_ble_eq_true rfl) (Nat.le_of_ble_eq_true rfl) (fun o ho => ?_)
  refine k_astore_n C (lw := [(3, _), (2, _), (1, _), (0, _)]) rfl rfl (Nat.le_of_ble_eq_true rfl) rfl ?_
  refine k_iconst C (x := 0) rfl rfl rfl ?_
  refine k_istore C (lw := [(4, .int _), (3, _), (2, _), (1, _), (0, _)]) rfl rfl (Nat.le_of_ble_eq_true rfl) rfl ?_
  exact law_st C S hLn hL g.2 gm.2 ((fE1.e1 gm.1 f1).new ho) (Ext.rf.new ho) fE1 f1 ho T_new (by simp [sN, u1, mN])
