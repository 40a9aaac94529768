/-! the reference: span: exactly -/
theorem a_J6_bitCount_0f7a4_m_x {d : Nat} {T N : Nat → Nat} {I : IT} {L : LT} {R : RT} {n0 : Int32}   : Ex (d + 1) 152 [.int n0] (T, N, I, L, R) 0 0 (pI T N R (fun x9 I9 L9 => (x9 = BTC n0) ∧ (I = I9 ∧ L = L9))) := by
  refine ⟨_, rfl, Nat.le_of_ble_eq_true rfl, fun V C S => ?_⟩
  show V 0 [(0, .int n0)] [] (T, N, I, L, R) 0 0
  have gn0 := rg n0
  refine k_iload_n C rfl rfl rfl ?_
  refine k_iload_n C rfl rfl rfl ?_
  refine z_iconst C (z := 1) rfl rfl rfl (fun x1 ex1 => ?_)
  have d3 : x1 = 1 := cq (ex1.trans (by decide))
  refine z_iushrQ C rfl rfl (fun x2 ex2 => ?_)
  have gx2 := rg x2
  have m3 := ex2
  refine z_ldc_w C (y := 1431655765) rfl rfl rfl (fun x3 ex3 => ?_)
  have gx3 := rg x3
  have c4 : x3.toInt = 1431655765 := ex3.trans (by decide)
  clear ex3
  have d4 : x3 = 1431655765 := cq (c4.trans (by decide))
  refine z_iandQ C rfl rfl (fun x4 ex4 => ?_)
  have gx4 := rg x4
  have m7 := ex4
  refine z_isubR C rfl rfl (fun x5 ex5 => ?_)
  have gx5 := rg x5
  have m8 := ex5
  refine k_istore_n C (lw := [(0, .int x5)]) rfl rfl (Nat.le_of_ble_eq_true rfl) rfl ?_
  refine k_iload_n C rfl rfl rfl ?_
  refine z_ldc_w C (y := 858993459) rfl rfl rfl (fun x6 ex6 => ?_)
  have gx6 := rg x6
  have c11 : x6.toInt = 858993459 := ex6.trans (by decide)
  clear ex6
  have d11 : x6 = 858993459 := cq (c11.trans (by decide))
  refine z_iandQ C rfl rfl (fun x7 ex7 => ?_)
  have gx7 := rg x7
  have m14 := ex7
  refine k_iload_n C rfl rfl rfl ?_
  refine z_iconst C (z := 2) rfl rfl rfl (fun x8 ex8 => ?_)
  have d17 : x8 = 2 := cq (ex8.trans (by decide))
  refine z_iushrQ C rfl rfl (fun x9 ex9 => ?_)
  have gx9 := rg x9
  have m17 := ex9
  refine z_ldc_w C (y := 858993459) rfl rfl rfl (fun x10 ex10 => ?_)
  have gx10 := rg x10
  have c18 : x10.toInt = 858993459 := ex10.trans (by decide)
  clear ex10
  have d18 : x10 = 858993459 := cq (c18.trans (by decide))
  refine z_iandQ C rfl rfl (fun x11 ex11 => ?_)
  have gx11 := rg x11
  have m21 := ex11
  refine z_iaddQ C rfl rfl (fun x12 ex12 => ?_)
  have gx12 := rg x12
  have m22 := ex12
  refine k_istore_n C (lw := [(0, .int x12)]) rfl rfl (Nat.le_of_ble_eq_true rfl) rfl ?_
  refine k_iload_n C rfl rfl rfl ?_
  refine k_iload_n C rfl rfl rfl ?_
  refine z_iconst C (z := 4) rfl rfl rfl (fun x13 ex13 => ?_)
  have d27 : x13 = 4 := cq (ex13.trans (by decide))
  refine z_iushrQ C rfl rfl (fun x14 ex14 => ?_)
  have gx14 := rg x14
  have m27 := ex14
  refine z_iaddQ C rfl rfl (fun x15 ex15 => ?_)
  have gx15 := rg x15
  have m28 := ex15
  refine z_ldc_w C (y := 252645135) rfl rfl rfl (fun x16 ex16 => ?_)
  have gx16 := rg x16
  have c29 : x16.toInt = 252645135 := ex16.trans (by decide)
  clear ex16
  have d29 : x16 = 252645135 := cq (c29.trans (by decide))
  refine z_iandQ C rfl rfl (fun x17 ex17 => ?_)
  have gx17 := rg x17
  have m32 := ex17
  refine k_istore_n C (lw := [(0, .int x17)]) rfl rfl (Nat.le_of_ble_eq_true rfl) rfl ?_
  refine k_iload_n C rfl rfl rfl ?_
  refine k_iload_n C rfl rfl rfl ?_
  refine z_bipush C (z := 8) rfl rfl rfl (fun x18 ex18 => ?_)
  have d38 : x18 = 8 := cq (ex18.trans (by decide))
  refine z_iushrQ C rfl rfl (fun x19 ex19 => ?_)
  have gx19 := rg x19
  have m38 := ex19
  refine z_iaddQ C rfl rfl (fun x20 ex20 => ?_)
  have gx20 := rg x20
  have m39 := ex20
  refine k_istore_n C (lw := [(0, .int x20)]) rfl rfl (Nat.le_of_ble_eq_true rfl) rfl ?_
  refine k_iload_n C rfl rfl rfl ?_
  refine k_iload_n C rfl rfl rfl ?_
  refine z_bipush C (z := 16) rfl rfl rfl (fun x21 ex21 => ?_)
  have d45 : x21 = 16 := cq (ex21.trans (by decide))
  refine z_iushrQ C rfl rfl (fun x22 ex22 => ?_)
  have gx22 := rg x22
  have m45 := ex22
  refine z_iaddQ C rfl rfl (fun x23 ex23 => ?_)
  have gx23 := rg x23
  have m46 := ex23
  refine k_istore_n C (lw := [(0, .int x23)]) rfl rfl (Nat.le_of_ble_eq_true rfl) rfl ?_
  refine k_iload_n C rfl rfl rfl ?_
  refine z_bipush C (z := 63) rfl rfl rfl (fun x24 ex24 => ?_)
  have d51 : x24 = 63 := cq (ex24.trans (by decide))
  refine z_iandQ C rfl rfl (fun x25 ex25 => ?_)
  have gx25 := rg x25
  have m51 := ex25
  exact k_iret C rfl (Or.inl rfl) (Nat.le_of_ble_eq_true rfl) (Nat.le_of_ble_eq_true rfl) ⟨_, _, _, rfl, rfl, by rw [m51, d51, m46, m45, d45, m39, m38, d38, m32, d29, m28, m27, d27, m22, m21, d18, m17, d17, m14, d11, m8, m7, d4, m3, d3]; rfl, rfl, rfl⟩

theorem a_X12_span_x {d : Nat} {T N : Nat → Nat} {I : IT} {L : LT} {R : RT} {A : Nat → Prop} {r0 : Nat} {n1 n2 n3 : Int32} (hI : IM R r0 I) (H_r0 : (h_MD T N R A) r0) (hp0 : ∀ a1, R r0 1 = some a1 → ∀ j : Nat, j < 8 → (j : Int) < (I a1 3).toInt → HOV (WSL (I a1) j) 0) : Ex (d + 11) 265 [.ref r0, .int n1, .int n2, .int n3] (T, N, I, L, R) 0 0 (pI T N R (fun x9 I9 L9 => (∀ a1, R r0 1 = some a1 → (n2.toInt < 1 ∨ 8 < n2.toInt) ∧ (I9 r0 0).toInt = 1 ∨ ¬ (n2.toInt < 1 ∨ 8 < n2.toInt) ∧ (I9 r0 0).toInt = 0 ∧ ∃ y, SPQ y (SPF (I a1 0).toInt n3 n2.toInt n1.toInt (I a1 3).toInt (WSL (I a1)) 8) ∧ (y.toInt < 0 ∧ x9.toInt = -1 ∨ 0 ≤ y.toInt ∧ x9 = BTC y)) ∧ (IM R r0 I9 ∧ CM A R r0 [0, 24] [4, 5, 22, 23] I L I9 L9))) := by
  refine ⟨_, rfl, Nat.le_of_ble_eq_true rfl, fun V C S => ?_⟩
  show V 0 [(0, .ref r0), (1, .int n1), (2, .int n2), (3, .int n3)] [] (T, N, I, L, R) 0 0
  have gn1 := rg n1
  have gn2 := rg n2
  have gn3 := rg n3
  obtain ⟨T_r0, A_r0, ⟨r0_1, R_r0_1, H_r0_1⟩, ⟨r0_2, R_r0_2, H_r0_2⟩, ⟨r0_4, R_r0_4, H_r0_4⟩, ⟨r0_5, R_r0_5, H_r0_5⟩, ⟨r0_10, R_r0_10, H_r0_10⟩, ⟨r0_18, R_r0_18, H_r0_18⟩, ⟨r0_20, R_r0_20, H_r0_20⟩, ⟨r0_21, R_r0_21, H_r0_21⟩, ⟨r0_22, R_r0_22, H_r0_22⟩, ⟨r0_23, R_r0_23, H_r0_23⟩, ⟨r0_25, R_r0_25, H_r0_25⟩, ⟨r0_26, R_r0_26, H_r0_26⟩, ⟨r0_27, R_r0_27, H_r0_27⟩, ⟨r0_28, R_r0_28, H_r0_28⟩, ⟨r0_34, R_r0_34, H_r0_34⟩, J_r0, Y_r0⟩ := id H_r0
  have G_r0 : mF T R r0 := ⟨J_r0, Y_r0, T_r0⟩
  obtain ⟨w_r0_1_0, k0_r0_1_0⟩ : ∃ x, I r0_1 0 = x := ⟨_, rfl⟩
  have gw_r0_1_0 := rg w_r0_1_0
  have ow_r0_1_0 := IM.pi hI R_r0_1 k0_r0_1_0
  obtain ⟨w_r0_1_3, k0_r0_1_3⟩ : ∃ x, I r0_1 3 = x := ⟨_, rfl⟩
  have gw_r0_1_3 := rg w_r0_1_3
  have ow_r0_1_3 := IM.c3 hI R_r0_1 k0_r0_1_3
  have hp0 := hp0 r0_1 R_r0_1
  try simp only [k0_r0_1_0, k0_r0_1_3] at hp0
  refine k_aload_n C rfl rfl rfl ?_
  refine z_iconst C (z := 0) rfl rfl rfl (fun x1 ex1 => ?_)
  refine z_pI C rfl rfl rfl T_r0 (Or.inr rfl) rfl (fun I2 uI2 => ?_)
  have hI2 : IM R r0 I2 := IM.fld hI G_r0 ⟨(fun h => absurd h (by decide)), (fun h => absurd h (by decide)), (fun h => absurd h (by decide)), (fun h => absurd h (by decide)), (fun h => absurd h (by decide))⟩ uI2
  have S3 : CM A R r0 [0] [] I L I2 L := CM.f G_r0 A_r0 uI2
  have e4 := u2_n uI2 (mF.ne G_r0 R_r0_1) k0_r0_1_0
  have e5 := u2_n uI2 (mF.ne G_r0 R_r0_1) k0_r0_1_3
  have e6 := u2_e uI2
  refine k_aload_n C rfl rfl rfl ?_
  refine k_iload_n C rfl rfl rfl ?_
  refine z_iconst C (z := 1) rfl rfl rfl (fun x7 ex7 => ?_)
  refine z_bipush C (z := 8) rfl rfl rfl (fun x8 ex8 => ?_)
  have q9 : x7.toNatClampNeg = 1 := nck (by omega)
  have q10 : x8.toNatClampNeg = 8 := nck (by omega)
  refine c_SI C a_X12_in rfl rfl rfl rfl rfl rfl rfl (Nat.le_of_ble_eq_true rfl) (Nat.le_of_ble_eq_true rfl) (Nat.le_of_ble_eq_true rfl) ?_
  rintro x11 _ _ ⟨o0x11, o1x11, p0x11, rfl, rfl⟩
  have gx11 := rg x11
  try simp only [q9, q10, e4, e5, e6] at p0x11
  try have q0x11 := congrArg Int32.toInt p0x11
  refine b_if_ne C (t := 20) rfl rfl rfl (fun c12 => ?_) (fun c12 => ?_)
  · skip
    refine z_iconst C (z := 0) rfl rfl rfl (fun x13 ex13 => ?_)
    refine z_iconst C (z := 1) rfl rfl rfl (fun x14 ex14 => ?_)
    have q15 : x13.toNatClampNeg = 0 := nck (by omega)
    have q16 : x14.toNatClampNeg = 1 := nck (by omega)
    refine c_VI C (a_X12_throwsIf_e hI2 H_r0 (by omega) (by omega)) rfl rfl rfl rfl rfl ⟨_, rfl, rfl, T_r0, Nat.le_of_ble_eq_true rfl⟩ rfl rfl (Nat.le_of_ble_eq_true rfl) (Nat.le_of_ble_eq_true rfl) (Nat.le_of_ble_eq_true rfl) ?_
    rintro x17 I18 L19 ⟨o0x17, o1x17, p0x17, p1x17, hI18, S20⟩
    have e21 := CM.j S20 R_r0_1 (by decide) e4
    have e22 := CM.j S20 R_r0_1 (by decide) e5
    have gx17 := rg x17
    obtain ⟨x24, e25⟩ : ∃ x, I18 r0 0 = x := ⟨_, rfl⟩
    have gx24 := rg x24
    try simp only [q15, q16, e4, e5, e6, e25] at p0x17
    try have q0x17 := congrArg Int32.toInt p0x17
    try simp only [q15, q16, e4, e5, e6, e25] at p1x17
    try have q1x17 := congrArg Int32.toInt p1x17
    refine b_if_eq C (t := 30) rfl rfl rfl (fun c26 => ?_) (fun c26 => by exfalso; omega)
    refine k_aload_n C rfl rfl rfl ?_
    refine k_iload_n C rfl rfl rfl ?_
    refine k_iload_n C rfl rfl rfl ?_
    refine k_iload_n C rfl rfl rfl ?_
    have hw9 := CM.j0 (W := [0]) (WA := []) (CM.cons S3 (CM.mono S20 (by decide) (by decide)) (by decide) (by decide)) R_r0_1 (by decide)
    refine c_VI C (a_X12_basisOf_x hI18 H_r0 (by omega) (by omega) (fun a1 h1 => by cases (R_r0_1.symm.trans h1); rw [hw9]; (try simp only [k0_r0_1_3]); exact hp0)) rfl rfl rfl rfl rfl ⟨_, rfl, rfl, T_r0, Nat.le_of_ble_eq_true rfl⟩ rfl rfl (Nat.le_of_ble_eq_true rfl) (Nat.le_of_ble_eq_true rfl) (Nat.le_of_ble_eq_true rfl) ?_
    rintro x27 I28 L29 ⟨p0x27, hI28, S30⟩
    have p0x27 := p0x27 r0_1 R_r0_1
    have e31 := CM.j S30 R_r0_1 (by decide) e21
    have e32 := CM.j S30 R_r0_1 (by decide) e22
    have e33 := CM.k S30 (by decide) e25
    have gx27 := rg x27
    try simp only [e21, e22, e25] at p0x27
    try have q0x27 := congrArg Int32.toInt p0x27
    have hq9 := p0x27
    rw [hw9] at hq9
    (try rw [k0_r0_1_0] at hq9)
    (try rw [k0_r0_1_3] at hq9)
    refine k_istore C (lw := [(4, .int x27), (0, .ref r0), (1, .int n1), (2, .int n2), (3, .int n3)]) rfl rfl (Nat.le_of_ble_eq_true rfl) rfl ?_
    refine k_iload C rfl rfl rfl ?_
    refine b_if_ge C (t := 48) rfl rfl rfl (fun c34 => ?_) (fun c34 => ?_)
    · skip
      refine k_iload C rfl rfl rfl ?_
      refine c_SI C a_J6_bitCount_0f7a4_m_x rfl rfl rfl rfl rfl rfl rfl (Nat.le_of_ble_eq_true rfl) (Nat.le_of_ble_eq_true rfl) (Nat.le_of_ble_eq_true rfl) ?_
      rintro x35 _ _ ⟨p0x35, rfl, rfl⟩
      have gx35 := rg x35
      try simp only [e31, e32, e33] at p0x35
      try have q0x35 := congrArg Int32.toInt p0x35
      have hb50 := p0x35
      exact k_iret C rfl (Or.inl rfl) (Nat.le_of_ble_eq_true rfl) (Nat.le_of_ble_eq_true rfl) ⟨_, _, _, rfl, rfl, fun a1 h1 => by cases (R_r0_1.symm.trans h1); refine Or.inr ⟨by omega, by rw [e33]; omega, ?_⟩; simp only [k0_r0_1_0, k0_r0_1_3]; first | exact ⟨_, hq9, Or.inl ⟨by omega, by omega⟩⟩ | exact ⟨_, hq9, Or.inr ⟨by omega, hb50⟩⟩, hI28, (CM.cons S3 (CM.cons S20 (CM.mono S30 (by decide) (by decide)) (by decide) (by decide)) (by decide) (by decide))⟩
    refine z_iconst C (z := -1) rfl rfl rfl (fun x36 ex36 => ?_)
    refine k_goto C (pc2 := 53) rfl rfl ?_
    exact k_iret C rfl (Or.inl rfl) (Nat.le_of_ble_eq_true rfl) (Nat.le_of_ble_eq_true rfl) ⟨_, _, _, rfl, rfl, fun a1 h1 => by cases (R_r0_1.symm.trans h1); refine Or.inr ⟨by omega, by rw [e33]; omega, ?_⟩; simp only [k0_r0_1_0, k0_r0_1_3]; first | exact ⟨_, hq9, Or.inl ⟨by omega, by omega⟩⟩ | exact ⟨_, hq9, Or.inr ⟨by omega, hb50⟩⟩, hI28, (CM.cons S3 (CM.cons S20 (CM.mono S30 (by decide) (by decide)) (by decide) (by decide)) (by decide) (by decide))⟩
  refine z_iconst C (z := 1) rfl rfl rfl (fun x37 ex37 => ?_)
  refine k_goto C (pc2 := 21) rfl rfl ?_
  refine z_iconst C (z := 1) rfl rfl rfl (fun x38 ex38 => ?_)
  have q39 : x37.toNatClampNeg = 1 := nck (by omega)
  have q40 : x38.toNatClampNeg = 1 := nck (by omega)
  refine c_VI C (a_X12_throwsIf_e hI2 H_r0 (by omega) (by omega)) rfl rfl rfl rfl rfl ⟨_, rfl, rfl, T_r0, Nat.le_of_ble_eq_true rfl⟩ rfl rfl (Nat.le_of_ble_eq_true rfl) (Nat.le_of_ble_eq_true rfl) (Nat.le_of_ble_eq_true rfl) ?_
  rintro x41 I42 L43 ⟨o0x41, o1x41, p0x41, p1x41, hI42, S44⟩
  have e45 := CM.j S44 R_r0_1 (by decide) e4
  have e46 := CM.j S44 R_r0_1 (by decide) e5
  have gx41 := rg x41
  obtain ⟨x48, e49⟩ : ∃ x, I42 r0 0 = x := ⟨_, rfl⟩
  have gx48 := rg x48
  try simp only [q39, q40, e4, e5, e6, e49] at p0x41
  try have q0x41 := congrArg Int32.toInt p0x41
  try simp only [q39, q40, e4, e5, e6, e49] at p1x41
  try have q1x41 := congrArg Int32.toInt p1x41
  refine b_if_eq C (t := 30) rfl rfl rfl (fun c50 => by exfalso; omega) (fun c50 => ?_)
  refine z_iconst C (z := 0) rfl rfl rfl (fun x51 ex51 => ?_)
  exact k_iret C rfl (Or.inl rfl) (Nat.le_of_ble_eq_true rfl) (Nat.le_of_ble_eq_true rfl) ⟨_, _, _, rfl, rfl, fun a1 h1 => by cases (R_r0_1.symm.trans h1); exact Or.inl ⟨by omega, by rw [e49]; omega⟩, hI42, (CM.cons S3 (CM.mono S44 (by decide) (by decide)) (by decide) (by decide))⟩

