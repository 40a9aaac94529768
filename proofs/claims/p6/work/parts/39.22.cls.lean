/-! the class: numbers, tables, tests of numbers -/
theorem of_a {n : Int64} {p : Int32} (hp1 : 2 ≤ p.toInt) (hp2 : p.toInt ≤ 19) (c : 0 ≤ lg_cmp (n - n / p.toInt64 * p.toInt64) 0) : (n - n / p.toInt64 * p.toInt64).toInt32.toInt = n.toInt % p.toInt := by
  have hy : 0 < p.toInt64.toInt := by rw [i2l_eq]; omega
  have h0 := l_le.mp ((lg_cmp_ge _ _).mp c)
  have h1 := l_rem (x := n) hy
  have h2 := Int.tmod_lt_of_pos n.toInt hy
  rw [i2l_eq] at h1 h2
  have h00 : (0 : Int64).toInt = 0 := rfl
  rw [h00, h1] at h0
  rw [l2i_eq (by rw [h1]; omega), h1]
  exact (tm_em _ (by omega)).1 h0
theorem of_b {n : Int64} {p : Int32} (hp1 : 2 ≤ p.toInt) (hp2 : p.toInt ≤ 19) (c : ¬ 0 ≤ lg_cmp (n - n / p.toInt64 * p.toInt64) 0) : (n - n / p.toInt64 * p.toInt64 + p.toInt64).toInt32.toInt = n.toInt % p.toInt := by
  have hy : 0 < p.toInt64.toInt := by rw [i2l_eq]; omega
  have h0 : ¬ (0 : Int64).toInt ≤ (n - n / p.toInt64 * p.toInt64).toInt := fun h => c ((lg_cmp_ge _ _).mpr (l_le.mpr h))
  have h1 := l_rem (x := n) hy
  have h2 := Int.tmod_lt_of_pos n.toInt hy
  have h3 := Int.lt_tmod_of_pos n.toInt hy
  rw [i2l_eq] at h1 h2 h3
  have h00 : (0 : Int64).toInt = 0 := rfl
  rw [h00, h1] at h0
  have h4 : (n - n / p.toInt64 * p.toInt64 + p.toInt64).toInt = n.toInt.tmod p.toInt + p.toInt := by rw [li_add (by rw [h1, i2l_eq]; omega), h1, i2l_eq]
  rw [l2i_eq (by rw [h4]; omega), h4]
  exact (tm_em _ (by omega)).2 (by omega)
theorem md_lt {u n p : Int} (h : u = n % p) (hp1 : 2 ≤ p) : 0 ≤ u ∧ u < p := by
  rw [h]; exact ⟨Int.emod_nonneg _ (by omega), Int.emod_lt_of_pos _ (by omega)⟩
theorem mul_bd {u v : Int} (h1 : 0 ≤ u ∧ u ≤ 18) (h2 : 0 ≤ v ∧ v ≤ 18) : 0 ≤ u * v ∧ u * v ≤ 324 := by
  refine ⟨Int.mul_nonneg h1.1 h2.1, ?_⟩
  have := Int.mul_le_mul h1.2 h2.2 h2.1 (by omega)
  omega
def dt (p a b c d : Int) : Int := ((a % p) * (d % p) - (b % p) * (c % p)) % p
theorem e_of {d : Nat} {T N : Nat → Nat} {I : IT} {L : LT} {R : RT} {al nw : Nat} {n : Int64}{p : Int32} (T_al : T al = 1) (R_al_0 : R al 0 = some nw) (T_nw : T nw = 9) (I_nw_0 : I nw 0 = p) (hp1 : 2 ≤ p.toInt) (hp2 : p.toInt ≤ 19) : Ex (d + 1) 3 [.ref al, .long n] (T, N, I, L, R) 0 0 (pI T N R (fun x9 I9 L9 => I9 = I ∧ L9 = L ∧ (x9.toInt = n.toInt % p.toInt))) := by
  refine ⟨_, rfl, Nat.le_of_ble_eq_true rfl, fun V C S => ?_⟩
  show V 0 [(0, .ref al), (1, .long n)] [] (T, N, I, L, R) 0 0
  refine k_aload_n C rfl rfl rfl ?_
  refine g_R C rfl rfl rfl T_al rfl R_al_0 ?_
  refine g_I C rfl rfl rfl T_nw rfl (I_nw_0) ?_
  refine k_iconst C (x := 2) rfl rfl rfl ?_
  refine k_icmp_ge C (t := 13) rfl rfl rfl (fun c8 => ?_) (fun c8 => ?_)
  · skip
    refine k_lload_n C rfl rfl rfl ?_
    refine k_aload_n C rfl rfl rfl ?_
    refine g_R C rfl rfl rfl T_al rfl R_al_0 ?_
    refine g_I C rfl rfl rfl T_nw rfl (I_nw_0) ?_
    refine k_i2l C rfl rfl ?_
    refine k_lrem C rfl rfl (l_ne0 (by rw [i2l_eq]; omega)) ?_
    refine k_lstore_n C (lw := [(3, .long _), (0, _), (1, .long _)]) rfl rfl (Nat.le_of_ble_eq_true rfl) rfl ?_
    refine k_lload_n C rfl rfl rfl ?_
    refine k_lconst C (x := 0) rfl rfl rfl ?_
    refine k_lcmp C rfl rfl ?_
    refine k_if_ge C (t := 43) rfl rfl rfl (fun c27 => ?_) (fun c27 => ?_)
    · skip
      have q := of_a hp1 hp2 c27
      refine k_lload_n C rfl rfl rfl ?_
      refine k_l2i C rfl rfl ?_
      exact k_iret C rfl (Or.inl rfl) (Nat.le_of_ble_eq_true rfl) (Nat.le_of_ble_eq_true rfl) ⟨_, _, _, rfl, rfl, ⟨rfl, rfl, q⟩⟩
    have q := of_b hp1 hp2 c27
    refine k_lload_n C rfl rfl rfl ?_
    refine k_aload_n C rfl rfl rfl ?_
    refine g_R C rfl rfl rfl T_al rfl R_al_0 ?_
    refine g_I C rfl rfl rfl T_nw rfl (I_nw_0) ?_
    refine k_i2l C rfl rfl ?_
    refine k_ladd C rfl rfl ?_
    refine k_goto C (pc2 := 44) rfl rfl ?_
    refine k_l2i C rfl rfl ?_
    exact k_iret C rfl (Or.inl rfl) (Nat.le_of_ble_eq_true rfl) (Nat.le_of_ble_eq_true rfl) ⟨_, _, _, rfl, rfl, ⟨rfl, rfl, q⟩⟩
  exact absurd ((i_le (x := 2) (y := p)).mpr hp1) c8

theorem e_detOf {d : Nat} {T N : Nat → Nat} {I : IT} {L : LT} {R : RT} {al nw : Nat} {a b c e : Int32}{p : Int32} (T_al : T al = 1) (R_al_0 : R al 0 = some nw) (T_nw : T nw = 9) (I_nw_0 : I nw 0 = p) (hp1 : 2 ≤ p.toInt) (hp2 : p.toInt ≤ 19) : Ex (d + 2) 6 [.ref al, .int a, .int b, .int c, .int e] (T, N, I, L, R) 0 0 (pI T N R (fun x9 I9 L9 => I9 = I ∧ L9 = L ∧ (x9.toInt = dt p.toInt a.toInt b.toInt c.toInt e.toInt))) := by
  refine ⟨_, rfl, Nat.le_of_ble_eq_true rfl, fun V C S => ?_⟩
  show V 0 [(0, .ref al), (1, .int a), (2, .int b), (3, .int c), (4, .int e)] [] (T, N, I, L, R) 0 0
  refine k_aload_n C rfl rfl rfl ?_
  refine k_aload_n C rfl rfl rfl ?_
  refine k_iload_n C rfl rfl rfl ?_
  refine k_i2l C rfl rfl ?_
  refine c_VI C (e_of T_al R_al_0 T_nw (I_nw_0) hp1 hp2) rfl rfl rfl rfl rfl ⟨_, rfl, rfl, T_al, Nat.le_of_ble_eq_true rfl⟩ rfl rfl (Nat.le_of_ble_eq_true rfl) (Nat.le_of_ble_eq_true rfl) (Nat.le_of_ble_eq_true rfl) ?_
  rintro x4 _ _ ⟨rfl, rfl, h4⟩
  refine k_aload_n C rfl rfl rfl ?_
  refine k_iload C rfl rfl rfl ?_
  refine k_i2l C rfl rfl ?_
  refine c_VI C (e_of T_al R_al_0 T_nw (I_nw_0) hp1 hp2) rfl rfl rfl rfl rfl ⟨_, rfl, rfl, T_al, Nat.le_of_ble_eq_true rfl⟩ rfl rfl (Nat.le_of_ble_eq_true rfl) (Nat.le_of_ble_eq_true rfl) (Nat.le_of_ble_eq_true rfl) ?_
  rintro x11 _ _ ⟨rfl, rfl, h11⟩
  refine k_imul C rfl rfl ?_
  refine k_aload_n C rfl rfl rfl ?_
  refine k_iload_n C rfl rfl rfl ?_
  refine k_i2l C rfl rfl ?_
  refine c_VI C (e_of T_al R_al_0 T_nw (I_nw_0) hp1 hp2) rfl rfl rfl rfl rfl ⟨_, rfl, rfl, T_al, Nat.le_of_ble_eq_true rfl⟩ rfl rfl (Nat.le_of_ble_eq_true rfl) (Nat.le_of_ble_eq_true rfl) (Nat.le_of_ble_eq_true rfl) ?_
  rintro x18 _ _ ⟨rfl, rfl, h18⟩
  refine k_aload_n C rfl rfl rfl ?_
  refine k_iload_n C rfl rfl rfl ?_
  refine k_i2l C rfl rfl ?_
  refine c_VI C (e_of T_al R_al_0 T_nw (I_nw_0) hp1 hp2) rfl rfl rfl rfl rfl ⟨_, rfl, rfl, T_al, Nat.le_of_ble_eq_true rfl⟩ rfl rfl (Nat.le_of_ble_eq_true rfl) (Nat.le_of_ble_eq_true rfl) (Nat.le_of_ble_eq_true rfl) ?_
  rintro x24 _ _ ⟨rfl, rfl, h24⟩
  refine k_imul C rfl rfl ?_
  refine k_isub C rfl rfl ?_
  refine k_i2l C rfl rfl ?_
  refine c_VI C (e_of T_al R_al_0 T_nw (I_nw_0) hp1 hp2) rfl rfl rfl rfl rfl ⟨_, rfl, rfl, T_al, Nat.le_of_ble_eq_true rfl⟩ rfl rfl (Nat.le_of_ble_eq_true rfl) (Nat.le_of_ble_eq_true rfl) (Nat.le_of_ble_eq_true rfl) ?_
  rintro x30 _ _ ⟨rfl, rfl, h30⟩
  exact k_iret C rfl (Or.inl rfl) (Nat.le_of_ble_eq_true rfl) (Nat.le_of_ble_eq_true rfl) ⟨_, _, _, rfl, rfl, ⟨rfl, rfl, by
      rw [i2l_eq] at h4 h11 h18 h24
      have b1 := md_lt h4 hp1
      have b2 := md_lt h11 hp1
      have b3 := md_lt h18 hp1
      have b4 := md_lt h24 hp1
      have m1 := mul_bd (u := x4.toInt) (v := x11.toInt) (by omega) (by omega)
      have m2 := mul_bd (u := x18.toInt) (v := x24.toInt) (by omega) (by omega)
      have e1 := ii_mul (x := x4) (y := x11) (by omega)
      have e2 := ii_mul (x := x18) (y := x24) (by omega)
      rw [h30, i2l_eq, ii_sub (by rw [e1, e2]; omega), e1, e2, h4, h11, h18, h24]
      rfl⟩⟩

theorem e_tableAt1 {d : Nat} {T N : Nat → Nat} {I : IT} {L : LT} {R : RT} {st ta tb : Nat} {n : Int32} (T_st : T st = 9) (I_st_2 : I st 2 = 1) (R_st_9 : R st 9 = some ta) (T_ta : T ta = 24) (N_ta : N ta = 8) (R_ta_0 : R ta 0 = some tb) (hn : n = 0) : Ex (d + 1) 97 [.ref st, .int n] (T, N, I, L, R) 0 0 (pR T N R (fun x9 I9 L9 => x9 = (some tb) ∧ I9 = I ∧ L9 = L)) := by
  refine ⟨_, rfl, Nat.le_of_ble_eq_true rfl, fun V C S => ?_⟩
  show V 0 [(0, .ref st), (1, .int n)] [] (T, N, I, L, R) 0 0
  subst hn
  refine k_iload_n C rfl rfl rfl ?_
  refine k_if_lt C (t := 21) rfl rfl rfl (fun c1 => ?_) (fun c1 => ?_)
  · skip
    exact absurd c1 (by decide)
  refine k_iload_n C rfl rfl rfl ?_
  refine k_aload_n C rfl rfl rfl ?_
  refine g_I C rfl rfl rfl T_st rfl (I_st_2) ?_
  refine k_icmp_ge C (t := 21) rfl rfl rfl (fun c9 => ?_) (fun c9 => ?_)
  · skip
    exact absurd c9 (by decide)
  refine k_iload_n C rfl rfl rfl ?_
  refine k_aload_n C rfl rfl rfl ?_
  refine g_R C rfl rfl rfl T_st rfl R_st_9 ?_
  refine a_N C rfl rfl (by rw [T_ta]; exact Nat.le_of_ble_eq_true rfl) N_ta ?_
  refine k_icmp_lt C (t := 25) rfl rfl rfl (fun c18 => ?_) (fun c18 => ?_)
  · skip
    refine k_aload_n C rfl rfl rfl ?_
    refine g_R C rfl rfl rfl T_st rfl R_st_9 ?_
    refine k_iload_n C rfl rfl rfl ?_
    refine a_R C (t := 1) rfl rfl (Nat.le_of_ble_eq_true rfl) T_ta (vin (n := 0) rfl (by rw [N_ta]; exact Nat.le_of_ble_eq_true rfl) (by rw [N_ta]; exact Nat.le_of_ble_eq_true rfl)) R_ta_0 ?_
    exact k_aret C (x := some _) rfl (Or.inl ⟨_, rfl⟩) (Nat.le_of_ble_eq_true rfl) (Nat.le_of_ble_eq_true rfl) ⟨_, _, _, rfl, rfl, ⟨rfl, rfl, rfl⟩⟩
  exact absurd (by decide) c18

theorem e_nextTable0 {d : Nat} {T N : Nat → Nat} {I : IT} {L : LT} {R : RT} {nw ta tb : Nat} (T_nw : T nw = 9) (R_nw_9 : R nw 9 = some ta) (T_ta : T ta = 24) (N_ta : N ta = 8) (R_ta_0 : R ta 0 = some tb) (I_nw_2 : I nw 2 = 0) : Ex (d + 2) 99 [.ref nw] (T, N, I, L, R) 0 0 (pR T N R (fun x9 I9 L9 => x9 = (some tb) ∧ I9 = (u2 I nw 2 1) ∧ L9 = (L))) := by
  refine ⟨_, rfl, Nat.le_of_ble_eq_true rfl, fun V C S => ?_⟩
  show V 0 [(0, .ref nw)] [] (T, N, I, L, R) 0 0
  refine k_aload_n C rfl rfl rfl ?_
  refine g_I C rfl rfl rfl T_nw rfl (I_nw_2) ?_
  refine k_bipush C (x := 8) rfl rfl rfl ?_
  refine k_icmp_lt C (t := 11) rfl rfl rfl (fun c6 => ?_) (fun c6 => ?_)
  · skip
    refine k_aload_n C rfl rfl rfl ?_
    refine k_dup C rfl rfl rfl ?_
    refine g_I C rfl rfl rfl T_nw rfl (I_nw_2) ?_
    refine k_iconst C (x := 1) rfl rfl rfl ?_
    refine k_iadd C rfl rfl ?_
    refine p_I C rfl rfl rfl T_nw (Or.inr rfl) rfl ?_
    refine k_aload_n C rfl rfl rfl ?_
    refine k_aload_n C rfl rfl rfl ?_
    refine g_I C rfl rfl rfl T_nw rfl (u2_s) ?_
    refine k_iconst C (x := 1) rfl rfl rfl ?_
    refine k_isub C rfl rfl ?_
    refine c_VR C (e_tableAt1 T_nw u2_s R_nw_9 T_ta N_ta R_ta_0 (by decide)) rfl rfl rfl rfl rfl ⟨_, rfl, rfl, T_nw, Nat.le_of_ble_eq_true rfl⟩ rfl rfl (Nat.le_of_ble_eq_true rfl) (Nat.le_of_ble_eq_true rfl) (Nat.le_of_ble_eq_true rfl) ?_
    rintro _ _ _ ⟨rfl, rfl, rfl⟩
    exact k_aret C (x := some _) rfl (Or.inl ⟨_, rfl⟩) (Nat.le_of_ble_eq_true rfl) (Nat.le_of_ble_eq_true rfl) ⟨_, _, _, rfl, rfl, ⟨rfl, rfl, rfl⟩⟩
  exact absurd (by decide) c6

theorem e_X9_set {d : Nat} {T N : Nat → Nat} {I : IT} {L : LT} {R : RT} {A : Nat → Prop} {tb : Nat} {a b c e : Int32} (T_tb : T tb = 10) (A_tb : A tb) : Ex (d + 1) 7 [.ref tb, .int a, .int b, .int c, .int e] (T, N, I, L, R) 0 0 (pV T N R (fun I9 L9 => Fr A I L I9 L9 ∧ (∀ z, z ≠ tb → I9 z = I z))) := by
  refine ⟨_, rfl, Nat.le_of_ble_eq_true rfl, fun V C S => ?_⟩
  show V 0 [(0, .ref tb), (1, .int a), (2, .int b), (3, .int c), (4, .int e)] [] (T, N, I, L, R) 0 0
  refine k_aload_n C rfl rfl rfl ?_
  refine k_iload_n C rfl rfl rfl ?_
  refine p_I C rfl rfl rfl T_tb (Or.inr rfl) rfl ?_
  refine k_aload_n C rfl rfl rfl ?_
  refine k_iload_n C rfl rfl rfl ?_
  refine p_I C rfl rfl rfl T_tb (Or.inr rfl) rfl ?_
  refine k_aload_n C rfl rfl rfl ?_
  refine k_iload_n C rfl rfl rfl ?_
  refine p_I C rfl rfl rfl T_tb (Or.inr rfl) rfl ?_
  refine k_aload_n C rfl rfl rfl ?_
  refine k_iload C rfl rfl rfl ?_
  refine p_I C rfl rfl rfl T_tb (Or.inr rfl) rfl ?_
  exact k_vret C rfl rfl (Nat.le_of_ble_eq_true rfl) (Nat.le_of_ble_eq_true rfl) ⟨_, _, rfl, rfl, ⟨(Fr.i (Fr.i (Fr.i (Fr.i Fr.rf A_tb) A_tb) A_tb) A_tb), fun z hz => (u2_r hz).trans ((u2_r hz).trans ((u2_r hz).trans (u2_r hz)))⟩⟩

theorem e_fill {d : Nat} {T N : Nat → Nat} {I : IT} {L : LT} {R : RT} {A : Nat → Prop} {al tb nw : Nat} {a b c e : Int32}{p : Int32} (T_al : T al = 1) (R_al_0 : R al 0 = some nw) (T_nw : T nw = 9) (I_nw_0 : I nw 0 = p) (T_tb : T tb = 10) (A_tb : A tb) (hp1 : 2 ≤ p.toInt) (hp2 : p.toInt ≤ 19) : Ex (d + 2) 8 [.ref al, .ref tb, .int a, .int b, .int c, .int e] (T, N, I, L, R) 0 0 (pV T N R (fun I9 L9 => Fr A I L I9 L9 ∧ (∀ z, z ≠ tb → I9 z = I z))) := by
  refine ⟨_, rfl, Nat.le_of_ble_eq_true rfl, fun V C S => ?_⟩
  show V 0 [(0, .ref al), (1, .ref tb), (2, .int a), (3, .int b), (4, .int c), (5, .int e)] [] (T, N, I, L, R) 0 0
  refine k_aload_n C rfl rfl rfl ?_
  refine k_aload_n C rfl rfl rfl ?_
  refine k_iload_n C rfl rfl rfl ?_
  refine k_i2l C rfl rfl ?_
  refine c_VI C (e_of T_al R_al_0 T_nw (I_nw_0) hp1 hp2) rfl rfl rfl rfl rfl ⟨_, rfl, rfl, T_al, Nat.le_of_ble_eq_true rfl⟩ rfl rfl (Nat.le_of_ble_eq_true rfl) (Nat.le_of_ble_eq_true rfl) (Nat.le_of_ble_eq_true rfl) ?_
  rintro x4 _ _ ⟨rfl, rfl, h4⟩
  refine k_aload_n C rfl rfl rfl ?_
  refine k_iload_n C rfl rfl rfl ?_
  refine k_i2l C rfl rfl ?_
  refine c_VI C (e_of T_al R_al_0 T_nw (I_nw_0) hp1 hp2) rfl rfl rfl rfl rfl ⟨_, rfl, rfl, T_al, Nat.le_of_ble_eq_true rfl⟩ rfl rfl (Nat.le_of_ble_eq_true rfl) (Nat.le_of_ble_eq_true rfl) (Nat.le_of_ble_eq_true rfl) ?_
  rintro x10 _ _ ⟨rfl, rfl, h10⟩
  refine k_aload_n C rfl rfl rfl ?_
  refine k_iload C rfl rfl rfl ?_
  refine k_i2l C rfl rfl ?_
  refine c_VI C (e_of T_al R_al_0 T_nw (I_nw_0) hp1 hp2) rfl rfl rfl rfl rfl ⟨_, rfl, rfl, T_al, Nat.le_of_ble_eq_true rfl⟩ rfl rfl (Nat.le_of_ble_eq_true rfl) (Nat.le_of_ble_eq_true rfl) (Nat.le_of_ble_eq_true rfl) ?_
  rintro x17 _ _ ⟨rfl, rfl, h17⟩
  refine k_aload_n C rfl rfl rfl ?_
  refine k_iload C rfl rfl rfl ?_
  refine k_i2l C rfl rfl ?_
  refine c_VI C (e_of T_al R_al_0 T_nw (I_nw_0) hp1 hp2) rfl rfl rfl rfl rfl ⟨_, rfl, rfl, T_al, Nat.le_of_ble_eq_true rfl⟩ rfl rfl (Nat.le_of_ble_eq_true rfl) (Nat.le_of_ble_eq_true rfl) (Nat.le_of_ble_eq_true rfl) ?_
  rintro x24 _ _ ⟨rfl, rfl, h24⟩
  refine c_VV C (e_X9_set T_tb A_tb ) rfl rfl rfl rfl rfl ⟨_, rfl, rfl, T_tb, Nat.le_of_ble_eq_true rfl⟩ rfl rfl (Nat.le_of_ble_eq_true rfl) (Nat.le_of_ble_eq_true rfl) (Nat.le_of_ble_eq_true rfl) ?_
  intro I27 L27 h27
  exact k_vret C rfl rfl (Nat.le_of_ble_eq_true rfl) (Nat.le_of_ble_eq_true rfl) ⟨_, _, rfl, rfl, h27⟩

theorem e_table_no {d : Nat} {T N : Nat → Nat} {I : IT} {L : LT} {R : RT} {x nw al : Nat} {a b c e : Int32}{p : Int32} (T_x : T x = 12) (R_x_1 : R x 1 = some nw) (R_x_5 : R x 5 = some al) (T_al : T al = 1) (R_al_0 : R al 0 = some nw) (T_nw : T nw = 9) (I_nw_0 : I nw 0 = p) (hp1 : 2 ≤ p.toInt) (hp2 : p.toInt ≤ 19) (h0 : dt p.toInt a.toInt b.toInt c.toInt e.toInt = 0) : Ex (d + 3) 130 [.ref x, .int a, .int b, .int c, .int e] (T, N, I, L, R) 1 6 (pX 0 T N R (fun I9 L9 => I9 = I ∧ L9 = L)) := by
  refine ⟨_, rfl, Nat.le_of_ble_eq_true rfl, fun V C S => ?_⟩
  show V 0 [(0, .ref x), (1, .int a), (2, .int b), (3, .int c), (4, .int e)] [] (T, N, I, L, R) 0 0
  refine k_aload_n C rfl rfl rfl ?_
  refine g_R C rfl rfl rfl T_x rfl R_x_5 ?_
  refine k_iload_n C rfl rfl rfl ?_
  refine k_iload_n C rfl rfl rfl ?_
  refine k_iload_n C rfl rfl rfl ?_
  refine k_iload C rfl rfl rfl ?_
  refine c_VI C (e_detOf T_al R_al_0 T_nw (I_nw_0) hp1 hp2) rfl rfl rfl rfl rfl ⟨_, rfl, rfl, T_al, Nat.le_of_ble_eq_true rfl⟩ rfl rfl (Nat.le_of_ble_eq_true rfl) (Nat.le_of_ble_eq_true rfl) (Nat.le_of_ble_eq_true rfl) ?_
  rintro x9 _ _ ⟨rfl, rfl, h9⟩
  refine k_if_ne C (t := 23) rfl rfl rfl (fun c12 => ?_) (fun c12 => ?_)
  · skip
    exact absurd (Int32.toInt_inj.mp (by rw [h9, h0]; rfl)) c12
  exact k_throw C rfl rfl rfl rfl rfl rfl (Nat.le_of_ble_eq_true rfl) (Nat.le_of_ble_eq_true rfl) (Nat.le_of_ble_eq_true rfl) ⟨_, _, rfl, rfl, ⟨rfl, rfl⟩⟩

theorem e_table_yes {d : Nat} {T N : Nat → Nat} {I : IT} {L : LT} {R : RT} {A : Nat → Prop} {x nw al ta tb : Nat} {a b c e : Int32}{p : Int32} (T_x : T x = 12) (R_x_1 : R x 1 = some nw) (R_x_5 : R x 5 = some al) (T_al : T al = 1) (R_al_0 : R al 0 = some nw) (T_nw : T nw = 9) (I_nw_0 : I nw 0 = p) (R_nw_9 : R nw 9 = some ta) (T_ta : T ta = 24) (N_ta : N ta = 8) (R_ta_0 : R ta 0 = some tb) (I_nw_2 : I nw 2 = 0) (A_nw : A nw) (T_tb : T tb = 10) (A_tb : A tb) (hp1 : 2 ≤ p.toInt) (hp2 : p.toInt ≤ 19) (h0 : dt p.toInt a.toInt b.toInt c.toInt e.toInt ≠ 0) : Ex (d + 3) 130 [.ref x, .int a, .int b, .int c, .int e] (T, N, I, L, R) 0 0 (pI T N R (fun x9 I9 L9 => x9 = 0 ∧ Fr A I L I9 L9)) := by
  refine ⟨_, rfl, Nat.le_of_ble_eq_true rfl, fun V C S => ?_⟩
  show V 0 [(0, .ref x), (1, .int a), (2, .int b), (3, .int c), (4, .int e)] [] (T, N, I, L, R) 0 0
  refine k_aload_n C rfl rfl rfl ?_
  refine g_R C rfl rfl rfl T_x rfl R_x_5 ?_
  refine k_iload_n C rfl rfl rfl ?_
  refine k_iload_n C rfl rfl rfl ?_
  refine k_iload_n C rfl rfl rfl ?_
  refine k_iload C rfl rfl rfl ?_
  refine c_VI C (e_detOf T_al R_al_0 T_nw (I_nw_0) hp1 hp2) rfl rfl rfl rfl rfl ⟨_, rfl, rfl, T_al, Nat.le_of_ble_eq_true rfl⟩ rfl rfl (Nat.le_of_ble_eq_true rfl) (Nat.le_of_ble_eq_true rfl) (Nat.le_of_ble_eq_true rfl) ?_
  rintro x9 _ _ ⟨rfl, rfl, h9⟩
  refine k_if_ne C (t := 23) rfl rfl rfl (fun c12 => ?_) (fun c12 => ?_)
  · skip
    refine k_aload_n C rfl rfl rfl ?_
    refine g_R C rfl rfl rfl T_x rfl R_x_1 ?_
    refine c_VR C (e_nextTable0 T_nw R_nw_9 T_ta N_ta R_ta_0 (I_nw_2) ) rfl rfl rfl rfl rfl ⟨_, rfl, rfl, T_nw, Nat.le_of_ble_eq_true rfl⟩ rfl rfl (Nat.le_of_ble_eq_true rfl) (Nat.le_of_ble_eq_true rfl) (Nat.le_of_ble_eq_true rfl) ?_
    rintro _ _ _ ⟨rfl, rfl, rfl⟩
    refine k_astore C (lw := [(5, _), (0, _), (1, .int _), (2, .int _), (3, .int _), (4, .int _)]) rfl rfl (Nat.le_of_ble_eq_true rfl) rfl ?_
    refine k_aload C rfl rfl rfl ?_
    refine k_ifnonnull C (x := some _) (t := 45) rfl rfl rfl (fun c34 => nomatch c34) (fun _ _ => ?_)
    refine k_aload_n C rfl rfl rfl ?_
    refine g_R C rfl rfl rfl T_x rfl R_x_5 ?_
    refine k_aload C rfl rfl rfl ?_
    refine k_iload_n C rfl rfl rfl ?_
    refine k_iload_n C rfl rfl rfl ?_
    refine k_iload_n C rfl rfl rfl ?_
    refine k_iload C rfl rfl rfl ?_
    refine c_VV C (e_fill T_al R_al_0 T_nw ((u2_k (by decide)).trans I_nw_0) T_tb A_tb hp1 hp2) rfl rfl rfl rfl rfl ⟨_, rfl, rfl, T_al, Nat.le_of_ble_eq_true rfl⟩ rfl rfl (Nat.le_of_ble_eq_true rfl) (Nat.le_of_ble_eq_true rfl) (Nat.le_of_ble_eq_true rfl) ?_
    intro I56 L56 h56
    refine k_aload_n C rfl rfl rfl ?_
    refine g_R C rfl rfl rfl T_x rfl R_x_1 ?_
    refine g_I C rfl rfl rfl T_nw rfl (((congrFun (h56.2 nw (t_nq T_nw T_tb (by decide))) 2).trans u2_s)) ?_
    refine k_iconst C (x := 1) rfl rfl rfl ?_
    refine k_isub C rfl rfl ?_
    exact k_iret C rfl (Or.inl rfl) (Nat.le_of_ble_eq_true rfl) (Nat.le_of_ble_eq_true rfl) ⟨_, _, _, rfl, rfl, ⟨by decide, Fr.tr (Fr.i Fr.rf A_nw) h56.1⟩⟩
  have c12 : x9 = 0 := Decidable.not_not.mp c12
  exact absurd (by rw [← h9, c12]; rfl) h0

theorem e_fmL {d : Nat} {T N : Nat → Nat} {I : IT} {L : LT} {R : RT} {x y : Int64}  (hy : 0 < y.toInt) : Ex (d + 1) 191 [.long x, .long y] (T, N, I, L, R) 0 0 (pL T N R (fun x9 I9 L9 => I9 = I ∧ L9 = L ∧ (x9.toInt = x.toInt % y.toInt))) := by
  refine ⟨_, rfl, Nat.le_of_ble_eq_true rfl, fun V C S => ?_⟩
  show V 0 [(0, .long x), (2, .long y)] [] (T, N, I, L, R) 0 0
  refine k_lload_n C rfl rfl rfl ?_
  refine k_lload_n C rfl rfl rfl ?_
  refine k_lrem C rfl rfl (l_ne0 (by omega)) ?_
  refine k_lstore C (lw := [(4, .long _), (0, .long _), (2, .long _)]) rfl rfl (Nat.le_of_ble_eq_true rfl) rfl ?_
  refine k_lload_n C rfl rfl rfl ?_
  refine k_lload_n C rfl rfl rfl ?_
  refine k_lxor C rfl rfl ?_
  refine k_lconst C (x := 0) rfl rfl rfl ?_
  refine k_lcmp C rfl rfl ?_
  refine k_if_ge C (t := 25) rfl rfl rfl (fun c10 => ?_) (fun c10 => ?_)
  · skip
    have q := fm64a hy ((lg_cmp_ge _ _).mp c10)
    refine k_lload C rfl rfl rfl ?_
    exact k_lret C rfl rfl (Nat.le_of_ble_eq_true rfl) (Nat.le_of_ble_eq_true rfl) ⟨_, _, _, rfl, rfl, ⟨rfl, rfl, q⟩⟩
  have c10 : ¬ (0 : Int64) ≤ x ^^^ y := fun h => c10 ((lg_cmp_ge _ _).mpr h)
  refine k_lload C rfl rfl rfl ?_
  refine k_lconst C (x := 0) rfl rfl rfl ?_
  refine k_lcmp C rfl rfl ?_
  refine k_if_eq C (t := 25) rfl rfl rfl (fun c17 => ?_) (fun c17 => ?_)
  · skip
    have q := fm64b hy ((lg_cmp_eq _ _).mp c17)
    refine k_lload C rfl rfl rfl ?_
    exact k_lret C rfl rfl (Nat.le_of_ble_eq_true rfl) (Nat.le_of_ble_eq_true rfl) ⟨_, _, _, rfl, rfl, ⟨rfl, rfl, q⟩⟩
  have q := fm64c hy c10 (fun h => c17 ((lg_cmp_eq _ _).mpr h))
  refine k_lload C rfl rfl rfl ?_
  refine k_lload_n C rfl rfl rfl ?_
  refine k_ladd C rfl rfl ?_
  exact k_lret C rfl rfl (Nat.le_of_ble_eq_true rfl) (Nat.le_of_ble_eq_true rfl) ⟨_, _, _, rfl, rfl, ⟨rfl, rfl, q⟩⟩

theorem e_fmI {d : Nat} {T N : Nat → Nat} {I : IT} {L : LT} {R : RT} {x y : Int32}  (hy : 0 < y.toInt) : Ex (d + 1) 169 [.int x, .int y] (T, N, I, L, R) 0 0 (pI T N R (fun x9 I9 L9 => I9 = I ∧ L9 = L ∧ (x9.toInt = x.toInt % y.toInt))) := by
  refine ⟨_, rfl, Nat.le_of_ble_eq_true rfl, fun V C S => ?_⟩
  show V 0 [(0, .int x), (1, .int y)] [] (T, N, I, L, R) 0 0
  refine k_iload_n C rfl rfl rfl ?_
  refine k_iload_n C rfl rfl rfl ?_
  refine k_irem C rfl rfl (i_ne0 (by omega)) ?_
  refine k_istore_n C (lw := [(2, .int _), (0, .int _), (1, .int _)]) rfl rfl (Nat.le_of_ble_eq_true rfl) rfl ?_
  refine k_iload_n C rfl rfl rfl ?_
  refine k_iload_n C rfl rfl rfl ?_
  refine k_ixor C rfl rfl ?_
  refine k_if_ge C (t := 18) rfl rfl rfl (fun c7 => ?_) (fun c7 => ?_)
  · skip
    have q := fm32a hy c7
    refine k_iload_n C rfl rfl rfl ?_
    exact k_iret C rfl (Or.inl rfl) (Nat.le_of_ble_eq_true rfl) (Nat.le_of_ble_eq_true rfl) ⟨_, _, _, rfl, rfl, ⟨rfl, rfl, q⟩⟩
  refine k_iload_n C rfl rfl rfl ?_
  refine k_if_eq C (t := 18) rfl rfl rfl (fun c11 => ?_) (fun c11 => ?_)
  · skip
    have q := fm32b hy c11
    refine k_iload_n C rfl rfl rfl ?_
    exact k_iret C rfl (Or.inl rfl) (Nat.le_of_ble_eq_true rfl) (Nat.le_of_ble_eq_true rfl) ⟨_, _, _, rfl, rfl, ⟨rfl, rfl, q⟩⟩
  have q := fm32c hy c7 c11
  refine k_iload_n C rfl rfl rfl ?_
  refine k_iload_n C rfl rfl rfl ?_
  refine k_iadd C rfl rfl ?_
  exact k_iret C rfl (Or.inl rfl) (Nat.le_of_ble_eq_true rfl) (Nat.le_of_ble_eq_true rfl) ⟨_, _, _, rfl, rfl, ⟨rfl, rfl, q⟩⟩

theorem e_fdL {d : Nat} {T N : Nat → Nat} {I : IT} {L : LT} {R : RT} {x y : Int64}  (hy : 0 < y.toInt) : Ex (d + 1) 113 [.long x, .long y] (T, N, I, L, R) 0 0 (pL T N R (fun x9 I9 L9 => I9 = I ∧ L9 = L ∧ (x9.toInt = x.toInt / y.toInt))) := by
  refine ⟨_, rfl, Nat.le_of_ble_eq_true rfl, fun V C S => ?_⟩
  show V 0 [(0, .long x), (2, .long y)] [] (T, N, I, L, R) 0 0
  refine k_lload_n C rfl rfl rfl ?_
  refine k_lload_n C rfl rfl rfl ?_
  refine k_ldiv C rfl rfl (l_ne0 (by omega)) ?_
  refine k_lstore C (lw := [(4, .long _), (0, .long _), (2, .long _)]) rfl rfl (Nat.le_of_ble_eq_true rfl) rfl ?_
  refine k_lload_n C rfl rfl rfl ?_
  refine k_lload_n C rfl rfl rfl ?_
  refine k_lxor C rfl rfl ?_
  refine k_lconst C (x := 0) rfl rfl rfl ?_
  refine k_lcmp C rfl rfl ?_
  refine k_if_ge C (t := 27) rfl rfl rfl (fun c10 => ?_) (fun c10 => ?_)
  · skip
    have q := fd64a hy ((lg_cmp_ge _ _).mp c10)
    refine k_lload C rfl rfl rfl ?_
    exact k_lret C rfl rfl (Nat.le_of_ble_eq_true rfl) (Nat.le_of_ble_eq_true rfl) ⟨_, _, _, rfl, rfl, ⟨rfl, rfl, q⟩⟩
  have c10 : ¬ (0 : Int64) ≤ x ^^^ y := fun h => c10 ((lg_cmp_ge _ _).mpr h)
  refine k_lload C rfl rfl rfl ?_
  refine k_lload_n C rfl rfl rfl ?_
  refine k_lmul C rfl rfl ?_
  refine k_lload_n C rfl rfl rfl ?_
  refine k_lcmp C rfl rfl ?_
  refine k_if_eq C (t := 27) rfl rfl rfl (fun c19 => ?_) (fun c19 => ?_)
  · skip
    have q := fd64b hy ((lg_cmp_eq _ _).mp c19)
    refine k_lload C rfl rfl rfl ?_
    exact k_lret C rfl rfl (Nat.le_of_ble_eq_true rfl) (Nat.le_of_ble_eq_true rfl) ⟨_, _, _, rfl, rfl, ⟨rfl, rfl, q⟩⟩
  have q := fd64c hy c10 (fun h => c19 ((lg_cmp_eq _ _).mpr h))
  refine k_lload C rfl rfl rfl ?_
  refine k_lconst C (x := 1) rfl rfl rfl ?_
  refine k_lsub C rfl rfl ?_
  exact k_lret C rfl rfl (Nat.le_of_ble_eq_true rfl) (Nat.le_of_ble_eq_true rfl) ⟨_, _, _, rfl, rfl, ⟨rfl, rfl, q⟩⟩

theorem e_abs {d : Nat} {T N : Nat → Nat} {I : IT} {L : LT} {R : RT} {x : Int32}  : Ex (d + 1) 314 [.int x] (T, N, I, L, R) 0 0 (pI T N R (fun x9 I9 L9 => x9 = (if 0 ≤ x then x else -x) ∧ I9 = I ∧ L9 = L)) := by
  refine ⟨_, rfl, Nat.le_of_ble_eq_true rfl, fun V C S => ?_⟩
  show V 0 [(0, .int x)] [] (T, N, I, L, R) 0 0
  refine k_iload_n C rfl rfl rfl ?_
  refine k_if_ge C (t := 9) rfl rfl rfl (fun c1 => ?_) (fun c1 => ?_)
  · skip
    refine k_iload_n C rfl rfl rfl ?_
    exact k_iret C rfl (Or.inl rfl) (Nat.le_of_ble_eq_true rfl) (Nat.le_of_ble_eq_true rfl) ⟨_, _, _, rfl, rfl, ⟨by first | exact (if_pos c1).symm | exact (if_neg c1).symm, rfl, rfl⟩⟩
  refine k_iload_n C rfl rfl rfl ?_
  refine k_ineg C rfl rfl ?_
  refine k_goto C (pc2 := 10) rfl rfl ?_
  exact k_iret C rfl (Or.inl rfl) (Nat.le_of_ble_eq_true rfl) (Nat.le_of_ble_eq_true rfl) ⟨_, _, _, rfl, rfl, ⟨by first | exact (if_pos c1).symm | exact (if_neg c1).symm, rfl, rfl⟩⟩

theorem e_isWhole {d : Nat} {T N : Nat → Nat} {I : IT} {L : LT} {R : RT} {v w : Int32}  : Ex (d + 1) 167 [.int v, .int w] (T, N, I, L, R) 0 0 (pI T N R (fun x9 I9 L9 => x9 = (if -w ≤ v ∧ v ≤ w then (1 : Int32) else 0) ∧ I9 = I ∧ L9 = L)) := by
  refine ⟨_, rfl, Nat.le_of_ble_eq_true rfl, fun V C S => ?_⟩
  show V 0 [(0, .int v), (1, .int w)] [] (T, N, I, L, R) 0 0
  refine k_iload_n C rfl rfl rfl ?_
  refine k_iload_n C rfl rfl rfl ?_
  refine k_ineg C rfl rfl ?_
  refine k_icmp_lt C (t := 15) rfl rfl rfl (fun c3 => ?_) (fun c3 => ?_)
  · skip
    refine k_iconst C (x := 0) rfl rfl rfl ?_
    exact k_iret C rfl (Or.inr ⟨rfl, by first | exact Or.inl rfl | exact Or.inr rfl⟩) (Nat.le_of_ble_eq_true rfl) (Nat.le_of_ble_eq_true rfl) ⟨_, _, _, rfl, rfl, ⟨by first | exact (if_pos ⟨Int32.not_lt.mp c3, Int32.not_lt.mp c8⟩).symm | exact (if_neg (fun h => Int32.not_lt.mpr h.2 c8)).symm | exact (if_neg (fun h => Int32.not_lt.mpr h.1 c3)).symm, rfl, rfl⟩⟩
  refine k_iload_n C rfl rfl rfl ?_
  refine k_iload_n C rfl rfl rfl ?_
  refine k_icmp_gt C (t := 15) rfl rfl rfl (fun c8 => ?_) (fun c8 => ?_)
  · skip
    refine k_iconst C (x := 0) rfl rfl rfl ?_
    exact k_iret C rfl (Or.inr ⟨rfl, by first | exact Or.inl rfl | exact Or.inr rfl⟩) (Nat.le_of_ble_eq_true rfl) (Nat.le_of_ble_eq_true rfl) ⟨_, _, _, rfl, rfl, ⟨by first | exact (if_pos ⟨Int32.not_lt.mp c3, Int32.not_lt.mp c8⟩).symm | exact (if_neg (fun h => Int32.not_lt.mpr h.2 c8)).symm | exact (if_neg (fun h => Int32.not_lt.mpr h.1 c3)).symm, rfl, rfl⟩⟩
  refine k_iconst C (x := 1) rfl rfl rfl ?_
  refine k_goto C (pc2 := 16) rfl rfl ?_
  exact k_iret C rfl (Or.inr ⟨rfl, by first | exact Or.inl rfl | exact Or.inr rfl⟩) (Nat.le_of_ble_eq_true rfl) (Nat.le_of_ble_eq_true rfl) ⟨_, _, _, rfl, rfl, ⟨by first | exact (if_pos ⟨Int32.not_lt.mp c3, Int32.not_lt.mp c8⟩).symm | exact (if_neg (fun h => Int32.not_lt.mpr h.2 c8)).symm | exact (if_neg (fun h => Int32.not_lt.mpr h.1 c3)).symm, rfl, rfl⟩⟩

def isDc (x : Int32) : Prop := -9999 ≤ x.toInt ∧ x.toInt ≤ -3 ∧ x.toInt % 4 ≤ 1
theorem e_isDisc_yes {d : Nat} {T N : Nat → Nat} {I : IT} {L : LT} {R : RT} {x : Int32}  (h : isDc x) : Ex (d + 2) 170 [.int x] (T, N, I, L, R) 0 0 (pI T N R (fun x9 I9 L9 => I9 = I ∧ L9 = L ∧ (x9 = 1))) := by
  refine ⟨_, rfl, Nat.le_of_ble_eq_true rfl, fun V C S => ?_⟩
  show V 0 [(0, .int x)] [] (T, N, I, L, R) 0 0
  refine k_iload_n C rfl rfl rfl ?_
  refine k_bipush C (x := -3) rfl rfl rfl ?_
  refine k_icmp_gt C (t := 34) rfl rfl rfl (fun c3 => ?_) (fun c3 => ?_)
  · skip
    exact absurd (i_lt.mp c3) (by have := h.2.1; show ¬ (-3 : Int) < _; omega)
  refine k_iload_n C rfl rfl rfl ?_
  refine k_sipush C (x := -9999) rfl rfl rfl ?_
  refine k_icmp_lt C (t := 34) rfl rfl rfl (fun c10 => ?_) (fun c10 => ?_)
  · skip
    exact absurd (i_lt.mp c10) (by have := h.1; show ¬ _ < (-9999 : Int); omega)
  refine k_iload_n C rfl rfl rfl ?_
  refine k_iconst C (x := 4) rfl rfl rfl ?_
  refine c_SI C (e_fmI  (by decide)) rfl rfl rfl rfl rfl rfl rfl (Nat.le_of_ble_eq_true rfl) (Nat.le_of_ble_eq_true rfl) (Nat.le_of_ble_eq_true rfl) ?_
  rintro x15 _ _ ⟨rfl, rfl, h15⟩
  refine k_if_eq C (t := 30) rfl rfl rfl (fun c18 => ?_) (fun c18 => ?_)
  · skip
    refine k_iconst C (x := 1) rfl rfl rfl ?_
    refine k_goto C (pc2 := 35) rfl rfl ?_
    exact k_iret C rfl (Or.inr ⟨rfl, Or.inr rfl⟩) (Nat.le_of_ble_eq_true rfl) (Nat.le_of_ble_eq_true rfl) ⟨_, _, _, rfl, rfl, ⟨rfl, rfl, rfl⟩⟩
  refine k_iload_n C rfl rfl rfl ?_
  refine k_iconst C (x := 4) rfl rfl rfl ?_
  refine c_SI C (e_fmI  (by decide)) rfl rfl rfl rfl rfl rfl rfl (Nat.le_of_ble_eq_true rfl) (Nat.le_of_ble_eq_true rfl) (Nat.le_of_ble_eq_true rfl) ?_
  rintro x23 _ _ ⟨rfl, rfl, h23⟩
  refine k_iconst C (x := 1) rfl rfl rfl ?_
  refine k_icmp_ne C (t := 34) rfl rfl rfl (fun c27 => ?_) (fun c27 => ?_)
  · skip
    exact absurd (Int32.toInt_inj.mp (by have q1 : x23.toInt = x.toInt % 4 := h23; have q2 : ¬ x.toInt % 4 = 0 := fun e => c18 (Int32.toInt_inj.mp (by rw [h15]; exact e)); have q3 := h.2.2; rw [q1]; show _ = (1 : Int); omega)) c27
  refine k_iconst C (x := 1) rfl rfl rfl ?_
  refine k_goto C (pc2 := 35) rfl rfl ?_
  exact k_iret C rfl (Or.inr ⟨rfl, Or.inr rfl⟩) (Nat.le_of_ble_eq_true rfl) (Nat.le_of_ble_eq_true rfl) ⟨_, _, _, rfl, rfl, ⟨rfl, rfl, rfl⟩⟩

theorem e_isDisc_no {d : Nat} {T N : Nat → Nat} {I : IT} {L : LT} {R : RT} {x : Int32}  (h : ¬ isDc x) : Ex (d + 2) 170 [.int x] (T, N, I, L, R) 0 0 (pI T N R (fun x9 I9 L9 => I9 = I ∧ L9 = L ∧ (x9 = 0))) := by
  refine ⟨_, rfl, Nat.le_of_ble_eq_true rfl, fun V C S => ?_⟩
  show V 0 [(0, .int x)] [] (T, N, I, L, R) 0 0
  refine k_iload_n C rfl rfl rfl ?_
  refine k_bipush C (x := -3) rfl rfl rfl ?_
  refine k_icmp_gt C (t := 34) rfl rfl rfl (fun c3 => ?_) (fun c3 => ?_)
  · skip
    refine k_iconst C (x := 0) rfl rfl rfl ?_
    exact k_iret C rfl (Or.inr ⟨rfl, Or.inl rfl⟩) (Nat.le_of_ble_eq_true rfl) (Nat.le_of_ble_eq_true rfl) ⟨_, _, _, rfl, rfl, ⟨rfl, rfl, rfl⟩⟩
  refine k_iload_n C rfl rfl rfl ?_
  refine k_sipush C (x := -9999) rfl rfl rfl ?_
  refine k_icmp_lt C (t := 34) rfl rfl rfl (fun c10 => ?_) (fun c10 => ?_)
  · skip
    refine k_iconst C (x := 0) rfl rfl rfl ?_
    exact k_iret C rfl (Or.inr ⟨rfl, Or.inl rfl⟩) (Nat.le_of_ble_eq_true rfl) (Nat.le_of_ble_eq_true rfl) ⟨_, _, _, rfl, rfl, ⟨rfl, rfl, rfl⟩⟩
  refine k_iload_n C rfl rfl rfl ?_
  refine k_iconst C (x := 4) rfl rfl rfl ?_
  refine c_SI C (e_fmI  (by decide)) rfl rfl rfl rfl rfl rfl rfl (Nat.le_of_ble_eq_true rfl) (Nat.le_of_ble_eq_true rfl) (Nat.le_of_ble_eq_true rfl) ?_
  rintro x15 _ _ ⟨rfl, rfl, h15⟩
  refine k_if_eq C (t := 30) rfl rfl rfl (fun c18 => ?_) (fun c18 => ?_)
  · skip
    exact absurd ⟨i_le.mp (Int32.not_lt.mp c10), i_le.mp (Int32.not_lt.mp c3), by have q1 : x15.toInt = x.toInt % 4 := h15; rw [← q1, c18]; decide⟩ h
  refine k_iload_n C rfl rfl rfl ?_
  refine k_iconst C (x := 4) rfl rfl rfl ?_
  refine c_SI C (e_fmI  (by decide)) rfl rfl rfl rfl rfl rfl rfl (Nat.le_of_ble_eq_true rfl) (Nat.le_of_ble_eq_true rfl) (Nat.le_of_ble_eq_true rfl) ?_
  rintro x23 _ _ ⟨rfl, rfl, h23⟩
  refine k_iconst C (x := 1) rfl rfl rfl ?_
  refine k_icmp_ne C (t := 34) rfl rfl rfl (fun c27 => ?_) (fun c27 => ?_)
  · skip
    refine k_iconst C (x := 0) rfl rfl rfl ?_
    exact k_iret C rfl (Or.inr ⟨rfl, Or.inl rfl⟩) (Nat.le_of_ble_eq_true rfl) (Nat.le_of_ble_eq_true rfl) ⟨_, _, _, rfl, rfl, ⟨rfl, rfl, rfl⟩⟩
  exact absurd ⟨i_le.mp (Int32.not_lt.mp c10), i_le.mp (Int32.not_lt.mp c3), by have q1 : x23.toInt = x.toInt % 4 := h23; rw [← q1, Decidable.not_not.mp c27]; decide⟩ h

