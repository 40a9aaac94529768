/-! the reference in any state: roots, powers -/
theorem a_X12_fault {d : Nat} {T N : Nat → Nat} {I : IT} {L : LT} {R : RT} {A : Nat → Prop} {r0 : Nat} (hI : IM R r0 I) (H_r0 : (h_MD T N R A) r0) : Ex (d + 1) 223 [.ref r0] (T, N, I, L, R) 0 0 (pI T N R (fun x9 I9 L9 => (IM R r0 I9 ∧ CM A R r0 [0] [] I L I9 L9))) := by
  refine ⟨_, rfl, Nat.le_of_ble_eq_true rfl, fun V C S => ?_⟩
  show V 0 [(0, .ref r0)] [] (T, N, I, L, R) 0 0
  obtain ⟨T_r0, A_r0, ⟨r0_1, R_r0_1, H_r0_1⟩, ⟨r0_2, R_r0_2, H_r0_2⟩, ⟨r0_4, R_r0_4, H_r0_4⟩, ⟨r0_5, R_r0_5, H_r0_5⟩, ⟨r0_10, R_r0_10, H_r0_10⟩, ⟨r0_18, R_r0_18, H_r0_18⟩, ⟨r0_20, R_r0_20, H_r0_20⟩, ⟨r0_21, R_r0_21, H_r0_21⟩, ⟨r0_22, R_r0_22, H_r0_22⟩, ⟨r0_23, R_r0_23, H_r0_23⟩, ⟨r0_25, R_r0_25, H_r0_25⟩, ⟨r0_26, R_r0_26, H_r0_26⟩, ⟨r0_27, R_r0_27, H_r0_27⟩, ⟨r0_28, R_r0_28, H_r0_28⟩, ⟨r0_34, R_r0_34, H_r0_34⟩, J_r0, Y_r0⟩ := id H_r0
  have G_r0 : mF T R r0 := ⟨J_r0, Y_r0, T_r0⟩
  refine k_aload_n C rfl rfl rfl ?_
  refine z_iconst C (z := 0) rfl rfl rfl (fun x1 ex1 => ?_)
  refine z_pI C rfl rfl rfl T_r0 (Or.inr rfl) rfl (fun I2 uI2 => ?_)
  have hI2 : IM R r0 I2 := IM.fld hI G_r0 ⟨(fun h => absurd h (by decide)), (fun h => absurd h (by decide)), (fun h => absurd h (by decide)), (fun h => absurd h (by decide)), (fun h => absurd h (by decide))⟩ uI2
  have S3 : CM A R r0 [0] [] I L I2 L := CM.f G_r0 A_r0 uI2
  have e4 := u2_e uI2
  refine k_aload_n C rfl rfl rfl ?_
  refine z_gI C rfl rfl rfl T_r0 rfl (fun x5 ex5 => ?_)
  have gx5 := rg x5
  exact k_iret C rfl (Or.inl rfl) (Nat.le_of_ble_eq_true rfl) (Nat.le_of_ble_eq_true rfl) ⟨_, _, _, rfl, rfl, hI2, (CM.mono S3 (by decide) (by decide))⟩

theorem a_X12_noPoint {d : Nat} {T N : Nat → Nat} {I : IT} {L : LT} {R : RT} {A : Nat → Prop} {r0 : Nat} {n1 : Int32} (hI : IM R r0 I) (H_r0 : (h_MD T N R A) r0) : Ex (d + 2) 267 [.ref r0, .int n1] (T, N, I, L, R) 0 0 (pI T N R (fun x9 I9 L9 => (0 ≤ x9.toInt) ∧ (x9.toInt ≤ 1) ∧ (∀ a1, R r0 1 = some a1 → x9.toInt = 1 ∨ x9.toInt = 0 ∧ 0 ≤ n1.toInt ∧ n1.toInt ≤ (I a1 0).toInt) ∧ (I = I9 ∧ L = L9))) := by
  refine ⟨_, rfl, Nat.le_of_ble_eq_true rfl, fun V C S => ?_⟩
  show V 0 [(0, .ref r0), (1, .int n1)] [] (T, N, I, L, R) 0 0
  have gn1 := rg n1
  obtain ⟨T_r0, A_r0, ⟨r0_1, R_r0_1, H_r0_1⟩, ⟨r0_2, R_r0_2, H_r0_2⟩, ⟨r0_4, R_r0_4, H_r0_4⟩, ⟨r0_5, R_r0_5, H_r0_5⟩, ⟨r0_10, R_r0_10, H_r0_10⟩, ⟨r0_18, R_r0_18, H_r0_18⟩, ⟨r0_20, R_r0_20, H_r0_20⟩, ⟨r0_21, R_r0_21, H_r0_21⟩, ⟨r0_22, R_r0_22, H_r0_22⟩, ⟨r0_23, R_r0_23, H_r0_23⟩, ⟨r0_25, R_r0_25, H_r0_25⟩, ⟨r0_26, R_r0_26, H_r0_26⟩, ⟨r0_27, R_r0_27, H_r0_27⟩, ⟨r0_28, R_r0_28, H_r0_28⟩, ⟨r0_34, R_r0_34, H_r0_34⟩, J_r0, Y_r0⟩ := id H_r0
  have G_r0 : mF T R r0 := ⟨J_r0, Y_r0, T_r0⟩
  obtain ⟨w_r0_1_0, k0_r0_1_0⟩ : ∃ x, I r0_1 0 = x := ⟨_, rfl⟩
  have gw_r0_1_0 := rg w_r0_1_0
  have ow_r0_1_0 := IM.pi hI R_r0_1 k0_r0_1_0
  refine k_iload_n C rfl rfl rfl ?_
  refine z_iconst C (z := 0) rfl rfl rfl (fun x1 ex1 => ?_)
  refine k_aload_n C rfl rfl rfl ?_
  refine c_VI C (a_X12_p hI H_r0) rfl rfl rfl rfl rfl ⟨_, rfl, rfl, T_r0, Nat.le_of_ble_eq_true rfl⟩ rfl rfl (Nat.le_of_ble_eq_true rfl) (Nat.le_of_ble_eq_true rfl) (Nat.le_of_ble_eq_true rfl) ?_
  rintro x2 _ _ ⟨o0x2, o1x2, p0x2, rfl, rfl⟩
  have p0x2 := p0x2 r0_1 R_r0_1
  have gx2 := rg x2
  try simp only [k0_r0_1_0, k0_r0_1_0] at p0x2
  try have q0x2 := congrArg Int32.toInt p0x2
  have q3 : x1.toNatClampNeg = 0 := nck (by omega)
  refine c_SI C a_X12_in rfl rfl rfl rfl rfl rfl rfl (Nat.le_of_ble_eq_true rfl) (Nat.le_of_ble_eq_true rfl) (Nat.le_of_ble_eq_true rfl) ?_
  rintro x4 _ _ ⟨o0x4, o1x4, p0x4, rfl, rfl⟩
  have gx4 := rg x4
  try simp only [q3, k0_r0_1_0] at p0x4
  try have q0x4 := congrArg Int32.toInt p0x4
  refine b_if_ne C (t := 16) rfl rfl rfl (fun c5 => ?_) (fun c5 => ?_)
  · skip
    refine z_iconst C (z := 0) rfl rfl rfl (fun x6 ex6 => ?_)
    exact k_iret C rfl (Or.inr ⟨rfl, z01 (by omega) (by omega)⟩) (Nat.le_of_ble_eq_true rfl) (Nat.le_of_ble_eq_true rfl) ⟨_, _, _, rfl, rfl, by omega, by omega, fun a1 h1 => by cases (R_r0_1.symm.trans h1); first | omega | (simp only [k0_r0_1_0] <;> omega), rfl, rfl⟩
  refine z_iconst C (z := 1) rfl rfl rfl (fun x7 ex7 => ?_)
  refine k_goto C (pc2 := 17) rfl rfl ?_
  exact k_iret C rfl (Or.inr ⟨rfl, z01 (by omega) (by omega)⟩) (Nat.le_of_ble_eq_true rfl) (Nat.le_of_ble_eq_true rfl) ⟨_, _, _, rfl, rfl, by omega, by omega, fun a1 h1 => by cases (R_r0_1.symm.trans h1); first | omega | (simp only [k0_r0_1_0] <;> omega), rfl, rfl⟩

theorem a_X12_told {d : Nat} {T N : Nat → Nat} {I : IT} {L : LT} {R : RT} {A : Nat → Prop} {r0 : Nat} {n1 n2 : Int32} (hI : IM R r0 I) (H_r0 : (h_MD T N R A) r0) : Ex (d + 3) 239 [.ref r0, .int n1, .int n2] (T, N, I, L, R) 0 0 (pI T N R (fun x9 I9 L9 => (-18 ≤ x9.toInt) ∧ (x9.toInt ≤ 18) ∧ (IM R r0 I9 ∧ CM A R r0 [0] [] I L I9 L9))) := by
  refine ⟨_, rfl, Nat.le_of_ble_eq_true rfl, fun V C S => ?_⟩
  show V 0 [(0, .ref r0), (1, .int n1), (2, .int n2)] [] (T, N, I, L, R) 0 0
  have gn1 := rg n1
  have gn2 := rg n2
  obtain ⟨T_r0, A_r0, ⟨r0_1, R_r0_1, H_r0_1⟩, ⟨r0_2, R_r0_2, H_r0_2⟩, ⟨r0_4, R_r0_4, H_r0_4⟩, ⟨r0_5, R_r0_5, H_r0_5⟩, ⟨r0_10, R_r0_10, H_r0_10⟩, ⟨r0_18, R_r0_18, H_r0_18⟩, ⟨r0_20, R_r0_20, H_r0_20⟩, ⟨r0_21, R_r0_21, H_r0_21⟩, ⟨r0_22, R_r0_22, H_r0_22⟩, ⟨r0_23, R_r0_23, H_r0_23⟩, ⟨r0_25, R_r0_25, H_r0_25⟩, ⟨r0_26, R_r0_26, H_r0_26⟩, ⟨r0_27, R_r0_27, H_r0_27⟩, ⟨r0_28, R_r0_28, H_r0_28⟩, ⟨r0_34, R_r0_34, H_r0_34⟩, J_r0, Y_r0⟩ := id H_r0
  have G_r0 : mF T R r0 := ⟨J_r0, Y_r0, T_r0⟩
  refine k_aload_n C rfl rfl rfl ?_
  refine z_iconst C (z := 0) rfl rfl rfl (fun x1 ex1 => ?_)
  refine z_pI C rfl rfl rfl T_r0 (Or.inr rfl) rfl (fun I2 uI2 => ?_)
  have hI2 : IM R r0 I2 := IM.fld hI G_r0 ⟨(fun h => absurd h (by decide)), (fun h => absurd h (by decide)), (fun h => absurd h (by decide)), (fun h => absurd h (by decide)), (fun h => absurd h (by decide))⟩ uI2
  have S3 : CM A R r0 [0] [] I L I2 L := CM.f G_r0 A_r0 uI2
  have e4 := u2_e uI2
  refine k_aload_n C rfl rfl rfl ?_
  refine k_aload_n C rfl rfl rfl ?_
  refine k_iload_n C rfl rfl rfl ?_
  refine c_VI C (a_X12_noTable hI2 H_r0) rfl rfl rfl rfl rfl ⟨_, rfl, rfl, T_r0, Nat.le_of_ble_eq_true rfl⟩ rfl rfl (Nat.le_of_ble_eq_true rfl) (Nat.le_of_ble_eq_true rfl) (Nat.le_of_ble_eq_true rfl) ?_
  rintro x5 _ _ ⟨o0x5, o1x5, p0x5, rfl, rfl⟩
  have p0x5 := p0x5 r0_1 R_r0_1
  have gx5 := rg x5
  obtain ⟨x6, e7⟩ : ∃ x, I2 r0_1 2 = x := ⟨_, rfl⟩
  have gx6 := rg x6
  have ox6 := IM.c2 hI2 R_r0_1 e7
  try simp only [e4, e7] at p0x5
  try have q0x5 := congrArg Int32.toInt p0x5
  refine z_iconst C (z := 1) rfl rfl rfl (fun x8 ex8 => ?_)
  have q9 : x8.toNatClampNeg = 1 := nck (by omega)
  refine c_VI C (a_X12_throwsIf hI2 H_r0 (by omega) (by omega)) rfl rfl rfl rfl rfl ⟨_, rfl, rfl, T_r0, Nat.le_of_ble_eq_true rfl⟩ rfl rfl (Nat.le_of_ble_eq_true rfl) (Nat.le_of_ble_eq_true rfl) (Nat.le_of_ble_eq_true rfl) ?_
  rintro x10 I11 L12 ⟨o0x10, o1x10, p0x10, hI11, S13⟩
  have e15 := CM.j S13 R_r0_1 (by decide) e7
  have gx10 := rg x10
  try simp only [q9, e4, e7] at p0x10
  try have q0x10 := congrArg Int32.toInt p0x10
  refine b_if_eq C (t := 22) rfl rfl rfl (fun c16 => ?_) (fun c16 => ?_)
  · skip
    refine k_iload_n C rfl rfl rfl ?_
    refine z_iconst C (z := 0) rfl rfl rfl (fun x17 ex17 => ?_)
    refine z_iconst C (z := 3) rfl rfl rfl (fun x18 ex18 => ?_)
    have q19 : x17.toNatClampNeg = 0 := nck (by omega)
    have q20 : x18.toNatClampNeg = 3 := nck (by omega)
    refine c_SI C a_X12_in rfl rfl rfl rfl rfl rfl rfl (Nat.le_of_ble_eq_true rfl) (Nat.le_of_ble_eq_true rfl) (Nat.le_of_ble_eq_true rfl) ?_
    rintro x21 _ _ ⟨o0x21, o1x21, p0x21, rfl, rfl⟩
    have gx21 := rg x21
    try simp only [q19, q20, e15] at p0x21
    try have q0x21 := congrArg Int32.toInt p0x21
    refine b_if_eq C (t := 40) rfl rfl rfl (fun c22 => ?_) (fun c22 => ?_)
    · skip
      refine z_iconst C (z := -1) rfl rfl rfl (fun x23 ex23 => ?_)
      exact k_iret C rfl (Or.inl rfl) (Nat.le_of_ble_eq_true rfl) (Nat.le_of_ble_eq_true rfl) ⟨_, _, _, rfl, rfl, by omega, by omega, hI11, (CM.cons S3 (CM.mono S13 (by decide) (by decide)) (by decide) (by decide))⟩
    refine k_aload_n C rfl rfl rfl ?_
    refine k_iload_n C rfl rfl rfl ?_
    refine k_iload_n C rfl rfl rfl ?_
    refine c_VI C (a_X12_ofTable hI11 H_r0 (by omega) (by omega) (by omega) (by omega)) rfl rfl rfl rfl rfl ⟨_, rfl, rfl, T_r0, Nat.le_of_ble_eq_true rfl⟩ rfl rfl (Nat.le_of_ble_eq_true rfl) (Nat.le_of_ble_eq_true rfl) (Nat.le_of_ble_eq_true rfl) ?_
    rintro x24 _ _ ⟨o0x24, o1x24, p0x24, rfl, rfl⟩
    have p0x24 := p0x24 r0_1 R_r0_1
    have gx24 := rg x24
    try simp only [e15] at p0x24
    try have q0x24 := congrArg Int32.toInt p0x24
    refine k_goto C (pc2 := 41) rfl rfl ?_
    exact k_iret C rfl (Or.inl rfl) (Nat.le_of_ble_eq_true rfl) (Nat.le_of_ble_eq_true rfl) ⟨_, _, _, rfl, rfl, by omega, by omega, hI11, (CM.cons S3 (CM.mono S13 (by decide) (by decide)) (by decide) (by decide))⟩
  refine z_iconst C (z := 0) rfl rfl rfl (fun x25 ex25 => ?_)
  refine k_goto C (pc2 := 41) rfl rfl ?_
  exact k_iret C rfl (Or.inl rfl) (Nat.le_of_ble_eq_true rfl) (Nat.le_of_ble_eq_true rfl) ⟨_, _, _, rfl, rfl, by omega, by omega, hI11, (CM.cons S3 (CM.mono S13 (by decide) (by decide)) (by decide) (by decide))⟩

theorem a_X12_det {d : Nat} {T N : Nat → Nat} {I : IT} {L : LT} {R : RT} {A : Nat → Prop} {r0 : Nat} {n1 : Int32} (hI : IM R r0 I) (H_r0 : (h_MD T N R A) r0) : Ex (d + 4) 240 [.ref r0, .int n1] (T, N, I, L, R) 0 0 (pI T N R (fun x9 I9 L9 => (-18 ≤ x9.toInt) ∧ (x9.toInt ≤ 18) ∧ (IM R r0 I9 ∧ CM A R r0 [0, 6, 7, 8, 9] [] I L I9 L9))) := by
  refine ⟨_, rfl, Nat.le_of_ble_eq_true rfl, fun V C S => ?_⟩
  show V 0 [(0, .ref r0), (1, .int n1)] [] (T, N, I, L, R) 0 0
  have gn1 := rg n1
  obtain ⟨T_r0, A_r0, ⟨r0_1, R_r0_1, H_r0_1⟩, ⟨r0_2, R_r0_2, H_r0_2⟩, ⟨r0_4, R_r0_4, H_r0_4⟩, ⟨r0_5, R_r0_5, H_r0_5⟩, ⟨r0_10, R_r0_10, H_r0_10⟩, ⟨r0_18, R_r0_18, H_r0_18⟩, ⟨r0_20, R_r0_20, H_r0_20⟩, ⟨r0_21, R_r0_21, H_r0_21⟩, ⟨r0_22, R_r0_22, H_r0_22⟩, ⟨r0_23, R_r0_23, H_r0_23⟩, ⟨r0_25, R_r0_25, H_r0_25⟩, ⟨r0_26, R_r0_26, H_r0_26⟩, ⟨r0_27, R_r0_27, H_r0_27⟩, ⟨r0_28, R_r0_28, H_r0_28⟩, ⟨r0_34, R_r0_34, H_r0_34⟩, J_r0, Y_r0⟩ := id H_r0
  have G_r0 : mF T R r0 := ⟨J_r0, Y_r0, T_r0⟩
  refine k_aload_n C rfl rfl rfl ?_
  refine z_iconst C (z := 0) rfl rfl rfl (fun x1 ex1 => ?_)
  refine z_pI C rfl rfl rfl T_r0 (Or.inr rfl) rfl (fun I2 uI2 => ?_)
  have hI2 : IM R r0 I2 := IM.fld hI G_r0 ⟨(fun h => absurd h (by decide)), (fun h => absurd h (by decide)), (fun h => absurd h (by decide)), (fun h => absurd h (by decide)), (fun h => absurd h (by decide))⟩ uI2
  have S3 : CM A R r0 [0] [] I L I2 L := CM.f G_r0 A_r0 uI2
  have e4 := u2_e uI2
  refine k_aload_n C rfl rfl rfl ?_
  refine k_aload_n C rfl rfl rfl ?_
  refine k_iload_n C rfl rfl rfl ?_
  refine c_VI C (a_X12_noTable hI2 H_r0) rfl rfl rfl rfl rfl ⟨_, rfl, rfl, T_r0, Nat.le_of_ble_eq_true rfl⟩ rfl rfl (Nat.le_of_ble_eq_true rfl) (Nat.le_of_ble_eq_true rfl) (Nat.le_of_ble_eq_true rfl) ?_
  rintro x5 _ _ ⟨o0x5, o1x5, p0x5, rfl, rfl⟩
  have p0x5 := p0x5 r0_1 R_r0_1
  have gx5 := rg x5
  obtain ⟨x6, e7⟩ : ∃ x, I2 r0_1 2 = x := ⟨_, rfl⟩
  have gx6 := rg x6
  have ox6 := IM.c2 hI2 R_r0_1 e7
  try simp only [e4, e7] at p0x5
  try have q0x5 := congrArg Int32.toInt p0x5
  refine z_iconst C (z := 1) rfl rfl rfl (fun x8 ex8 => ?_)
  have q9 : x8.toNatClampNeg = 1 := nck (by omega)
  refine c_VI C (a_X12_throwsIf hI2 H_r0 (by omega) (by omega)) rfl rfl rfl rfl rfl ⟨_, rfl, rfl, T_r0, Nat.le_of_ble_eq_true rfl⟩ rfl rfl (Nat.le_of_ble_eq_true rfl) (Nat.le_of_ble_eq_true rfl) (Nat.le_of_ble_eq_true rfl) ?_
  rintro x10 I11 L12 ⟨o0x10, o1x10, p0x10, hI11, S13⟩
  have e15 := CM.j S13 R_r0_1 (by decide) e7
  have gx10 := rg x10
  try simp only [q9, e4, e7] at p0x10
  try have q0x10 := congrArg Int32.toInt p0x10
  refine b_if_eq C (t := 20) rfl rfl rfl (fun c16 => ?_) (fun c16 => ?_)
  · skip
    refine k_aload_n C rfl rfl rfl ?_
    refine k_iload_n C rfl rfl rfl ?_
    refine c_VV C (a_X12_tables hI11 H_r0 (by omega) (by omega)) rfl rfl rfl rfl rfl ⟨_, rfl, rfl, T_r0, Nat.le_of_ble_eq_true rfl⟩ rfl rfl (Nat.le_of_ble_eq_true rfl) (Nat.le_of_ble_eq_true rfl) (Nat.le_of_ble_eq_true rfl) ?_
    rintro I18 L19 ⟨hI18, S20⟩
    have e21 := CM.j S20 R_r0_1 (by decide) e15
    refine k_aload_n C rfl rfl rfl ?_
    refine c_VI C (a_X12_detNow hI18 H_r0) rfl rfl rfl rfl rfl ⟨_, rfl, rfl, T_r0, Nat.le_of_ble_eq_true rfl⟩ rfl rfl (Nat.le_of_ble_eq_true rfl) (Nat.le_of_ble_eq_true rfl) (Nat.le_of_ble_eq_true rfl) ?_
    rintro x22 _ _ ⟨o0x22, o1x22, rfl, rfl⟩
    have gx22 := rg x22
    exact k_iret C rfl (Or.inl rfl) (Nat.le_of_ble_eq_true rfl) (Nat.le_of_ble_eq_true rfl) ⟨_, _, _, rfl, rfl, by omega, by omega, hI18, (CM.cons S3 (CM.cons S13 (CM.mono S20 (by decide) (by decide)) (by decide) (by decide)) (by decide) (by decide))⟩
  refine z_iconst C (z := 0) rfl rfl rfl (fun x23 ex23 => ?_)
  exact k_iret C rfl (Or.inl rfl) (Nat.le_of_ble_eq_true rfl) (Nat.le_of_ble_eq_true rfl) ⟨_, _, _, rfl, rfl, by omega, by omega, hI11, (CM.cons S3 (CM.mono S13 (by decide) (by decide)) (by decide) (by decide))⟩

theorem a_X12_look {d : Nat} {T N : Nat → Nat} {I : IT} {L : LT} {R : RT} {A : Nat → Prop} {r0 : Nat} {n1 n2 : Int32} (hI : IM R r0 I) (H_r0 : (h_MD T N R A) r0) : Ex (d + 3) 241 [.ref r0, .int n1, .int n2] (T, N, I, L, R) 0 0 (pI T N R (fun x9 I9 L9 => (-18 ≤ x9.toInt) ∧ (x9.toInt ≤ 18) ∧ (IM R r0 I9 ∧ CM A R r0 [0] [] I L I9 L9))) := by
  refine ⟨_, rfl, Nat.le_of_ble_eq_true rfl, fun V C S => ?_⟩
  show V 0 [(0, .ref r0), (1, .int n1), (2, .int n2)] [] (T, N, I, L, R) 0 0
  have gn1 := rg n1
  have gn2 := rg n2
  obtain ⟨T_r0, A_r0, ⟨r0_1, R_r0_1, H_r0_1⟩, ⟨r0_2, R_r0_2, H_r0_2⟩, ⟨r0_4, R_r0_4, H_r0_4⟩, ⟨r0_5, R_r0_5, H_r0_5⟩, ⟨r0_10, R_r0_10, H_r0_10⟩, ⟨r0_18, R_r0_18, H_r0_18⟩, ⟨r0_20, R_r0_20, H_r0_20⟩, ⟨r0_21, R_r0_21, H_r0_21⟩, ⟨r0_22, R_r0_22, H_r0_22⟩, ⟨r0_23, R_r0_23, H_r0_23⟩, ⟨r0_25, R_r0_25, H_r0_25⟩, ⟨r0_26, R_r0_26, H_r0_26⟩, ⟨r0_27, R_r0_27, H_r0_27⟩, ⟨r0_28, R_r0_28, H_r0_28⟩, ⟨r0_34, R_r0_34, H_r0_34⟩, J_r0, Y_r0⟩ := id H_r0
  have G_r0 : mF T R r0 := ⟨J_r0, Y_r0, T_r0⟩
  refine k_aload_n C rfl rfl rfl ?_
  refine z_iconst C (z := 0) rfl rfl rfl (fun x1 ex1 => ?_)
  refine z_pI C rfl rfl rfl T_r0 (Or.inr rfl) rfl (fun I2 uI2 => ?_)
  have hI2 : IM R r0 I2 := IM.fld hI G_r0 ⟨(fun h => absurd h (by decide)), (fun h => absurd h (by decide)), (fun h => absurd h (by decide)), (fun h => absurd h (by decide)), (fun h => absurd h (by decide))⟩ uI2
  have S3 : CM A R r0 [0] [] I L I2 L := CM.f G_r0 A_r0 uI2
  have e4 := u2_e uI2
  refine k_aload_n C rfl rfl rfl ?_
  refine k_aload_n C rfl rfl rfl ?_
  refine k_iload_n C rfl rfl rfl ?_
  refine c_VI C (a_X12_noForm hI2 H_r0) rfl rfl rfl rfl rfl ⟨_, rfl, rfl, T_r0, Nat.le_of_ble_eq_true rfl⟩ rfl rfl (Nat.le_of_ble_eq_true rfl) (Nat.le_of_ble_eq_true rfl) (Nat.le_of_ble_eq_true rfl) ?_
  rintro x5 _ _ ⟨o0x5, o1x5, p0x5, rfl, rfl⟩
  have p0x5 := p0x5 r0_1 R_r0_1
  have gx5 := rg x5
  obtain ⟨x6, e7⟩ : ∃ x, I2 r0_1 1 = x := ⟨_, rfl⟩
  have gx6 := rg x6
  have ox6 := IM.c1 hI2 R_r0_1 e7
  try simp only [e4, e7] at p0x5
  try have q0x5 := congrArg Int32.toInt p0x5
  refine z_iconst C (z := 1) rfl rfl rfl (fun x8 ex8 => ?_)
  have q9 : x8.toNatClampNeg = 1 := nck (by omega)
  refine c_VI C (a_X12_throwsIf hI2 H_r0 (by omega) (by omega)) rfl rfl rfl rfl rfl ⟨_, rfl, rfl, T_r0, Nat.le_of_ble_eq_true rfl⟩ rfl rfl (Nat.le_of_ble_eq_true rfl) (Nat.le_of_ble_eq_true rfl) (Nat.le_of_ble_eq_true rfl) ?_
  rintro x10 I11 L12 ⟨o0x10, o1x10, p0x10, hI11, S13⟩
  have e15 := CM.j S13 R_r0_1 (by decide) e7
  have gx10 := rg x10
  try simp only [q9, e4, e7] at p0x10
  try have q0x10 := congrArg Int32.toInt p0x10
  refine b_if_eq C (t := 20) rfl rfl rfl (fun c16 => ?_) (fun c16 => ?_)
  · skip
    refine k_iload_n C rfl rfl rfl ?_
    refine z_iconst C (z := -1) rfl rfl rfl (fun x17 ex17 => ?_)
    refine b_icmp_ne C (t := 33) rfl rfl rfl (fun c18 => ?_) (fun c18 => ?_)
    · skip
      refine k_iload_n C rfl rfl rfl ?_
      refine z_iconst C (z := 0) rfl rfl rfl (fun x19 ex19 => ?_)
      refine k_aload_n C rfl rfl rfl ?_
      refine k_iload_n C rfl rfl rfl ?_
      refine c_VI C (a_X12_degreeOf hI11 H_r0 (by omega) (by omega)) rfl rfl rfl rfl rfl ⟨_, rfl, rfl, T_r0, Nat.le_of_ble_eq_true rfl⟩ rfl rfl (Nat.le_of_ble_eq_true rfl) (Nat.le_of_ble_eq_true rfl) (Nat.le_of_ble_eq_true rfl) ?_
      rintro x20 _ _ ⟨o0x20, o1x20, p0x20, rfl, rfl⟩
      have p0x20 := p0x20 r0_1 R_r0_1
      have gx20 := rg x20
      obtain ⟨x21, e22⟩ : ∃ x, I11 r0_1 (6 + 10 * n1.toNatClampNeg) = x := ⟨_, rfl⟩
      have gx21 := rg x21
      try simp only [e15, e22] at p0x20
      try have q0x20 := congrArg Int32.toInt p0x20
      have q23 : x19.toNatClampNeg = 0 := nck (by omega)
      refine c_SI C a_X12_in rfl rfl rfl rfl rfl rfl rfl (Nat.le_of_ble_eq_true rfl) (Nat.le_of_ble_eq_true rfl) (Nat.le_of_ble_eq_true rfl) ?_
      rintro x24 _ _ ⟨o0x24, o1x24, p0x24, rfl, rfl⟩
      have gx24 := rg x24
      try simp only [q23, e15, e22] at p0x24
      try have q0x24 := congrArg Int32.toInt p0x24
      refine b_if_eq C (t := 55) rfl rfl rfl (fun c25 => ?_) (fun c25 => ?_)
      · skip
        refine z_iconst C (z := -1) rfl rfl rfl (fun x26 ex26 => ?_)
        exact k_iret C rfl (Or.inl rfl) (Nat.le_of_ble_eq_true rfl) (Nat.le_of_ble_eq_true rfl) ⟨_, _, _, rfl, rfl, by omega, by omega, hI11, (CM.cons S3 (CM.mono S13 (by decide) (by decide)) (by decide) (by decide))⟩
      refine k_aload_n C rfl rfl rfl ?_
      refine k_iload_n C rfl rfl rfl ?_
      refine k_iload_n C rfl rfl rfl ?_
      refine c_VI C (a_X12_numberOf hI11 H_r0 (by omega) (by omega) (by omega) (by omega)) rfl rfl rfl rfl rfl ⟨_, rfl, rfl, T_r0, Nat.le_of_ble_eq_true rfl⟩ rfl rfl (Nat.le_of_ble_eq_true rfl) (Nat.le_of_ble_eq_true rfl) (Nat.le_of_ble_eq_true rfl) ?_
      rintro x27 _ _ ⟨o0x27, o1x27, p0x27, rfl, rfl⟩
      have p0x27 := p0x27 r0_1 R_r0_1
      have gx27 := rg x27
      try simp only [e15, e22] at p0x27
      try have q0x27 := congrArg Int32.toInt p0x27
      refine k_goto C (pc2 := 56) rfl rfl ?_
      exact k_iret C rfl (Or.inl rfl) (Nat.le_of_ble_eq_true rfl) (Nat.le_of_ble_eq_true rfl) ⟨_, _, _, rfl, rfl, by omega, by omega, hI11, (CM.cons S3 (CM.mono S13 (by decide) (by decide)) (by decide) (by decide))⟩
    refine k_aload_n C rfl rfl rfl ?_
    refine k_iload_n C rfl rfl rfl ?_
    refine c_VI C (a_X12_degreeOf hI11 H_r0 (by omega) (by omega)) rfl rfl rfl rfl rfl ⟨_, rfl, rfl, T_r0, Nat.le_of_ble_eq_true rfl⟩ rfl rfl (Nat.le_of_ble_eq_true rfl) (Nat.le_of_ble_eq_true rfl) (Nat.le_of_ble_eq_true rfl) ?_
    rintro x28 _ _ ⟨o0x28, o1x28, p0x28, rfl, rfl⟩
    have p0x28 := p0x28 r0_1 R_r0_1
    have gx28 := rg x28
    obtain ⟨x29, e30⟩ : ∃ x, I11 r0_1 (6 + 10 * n1.toNatClampNeg) = x := ⟨_, rfl⟩
    have gx29 := rg x29
    try simp only [e15, e30] at p0x28
    try have q0x28 := congrArg Int32.toInt p0x28
    refine k_goto C (pc2 := 56) rfl rfl ?_
    exact k_iret C rfl (Or.inl rfl) (Nat.le_of_ble_eq_true rfl) (Nat.le_of_ble_eq_true rfl) ⟨_, _, _, rfl, rfl, by omega, by omega, hI11, (CM.cons S3 (CM.mono S13 (by decide) (by decide)) (by decide) (by decide))⟩
  refine z_iconst C (z := 0) rfl rfl rfl (fun x31 ex31 => ?_)
  exact k_iret C rfl (Or.inl rfl) (Nat.le_of_ble_eq_true rfl) (Nat.le_of_ble_eq_true rfl) ⟨_, _, _, rfl, rfl, by omega, by omega, hI11, (CM.cons S3 (CM.mono S13 (by decide) (by decide)) (by decide) (by decide))⟩

theorem a_X12_at {d : Nat} {T N : Nat → Nat} {I : IT} {L : LT} {R : RT} {A : Nat → Prop} {r0 : Nat} {n1 n2 n3 : Int32} (hI : IM R r0 I) (H_r0 : (h_MD T N R A) r0) : Ex (d + 5) 242 [.ref r0, .int n1, .int n2, .int n3] (T, N, I, L, R) 0 0 (pI T N R (fun x9 I9 L9 => (-18 ≤ x9.toInt) ∧ (x9.toInt ≤ 18) ∧ (IM R r0 I9 ∧ CM A R r0 [0] [4, 5] I L I9 L9))) := by
  refine ⟨_, rfl, Nat.le_of_ble_eq_true rfl, fun V C S => ?_⟩
  show V 0 [(0, .ref r0), (1, .int n1), (2, .int n2), (3, .int n3)] [] (T, N, I, L, R) 0 0
  have gn1 := rg n1
  have gn2 := rg n2
  have gn3 := rg n3
  obtain ⟨T_r0, A_r0, ⟨r0_1, R_r0_1, H_r0_1⟩, ⟨r0_2, R_r0_2, H_r0_2⟩, ⟨r0_4, R_r0_4, H_r0_4⟩, ⟨r0_5, R_r0_5, H_r0_5⟩, ⟨r0_10, R_r0_10, H_r0_10⟩, ⟨r0_18, R_r0_18, H_r0_18⟩, ⟨r0_20, R_r0_20, H_r0_20⟩, ⟨r0_21, R_r0_21, H_r0_21⟩, ⟨r0_22, R_r0_22, H_r0_22⟩, ⟨r0_23, R_r0_23, H_r0_23⟩, ⟨r0_25, R_r0_25, H_r0_25⟩, ⟨r0_26, R_r0_26, H_r0_26⟩, ⟨r0_27, R_r0_27, H_r0_27⟩, ⟨r0_28, R_r0_28, H_r0_28⟩, ⟨r0_34, R_r0_34, H_r0_34⟩, J_r0, Y_r0⟩ := id H_r0
  have G_r0 : mF T R r0 := ⟨J_r0, Y_r0, T_r0⟩
  refine k_aload_n C rfl rfl rfl ?_
  refine z_iconst C (z := 0) rfl rfl rfl (fun x1 ex1 => ?_)
  refine z_pI C rfl rfl rfl T_r0 (Or.inr rfl) rfl (fun I2 uI2 => ?_)
  have hI2 : IM R r0 I2 := IM.fld hI G_r0 ⟨(fun h => absurd h (by decide)), (fun h => absurd h (by decide)), (fun h => absurd h (by decide)), (fun h => absurd h (by decide)), (fun h => absurd h (by decide))⟩ uI2
  have S3 : CM A R r0 [0] [] I L I2 L := CM.f G_r0 A_r0 uI2
  have e4 := u2_e uI2
  refine k_aload_n C rfl rfl rfl ?_
  refine k_aload_n C rfl rfl rfl ?_
  refine k_iload_n C rfl rfl rfl ?_
  refine c_VI C (a_X12_noForm hI2 H_r0) rfl rfl rfl rfl rfl ⟨_, rfl, rfl, T_r0, Nat.le_of_ble_eq_true rfl⟩ rfl rfl (Nat.le_of_ble_eq_true rfl) (Nat.le_of_ble_eq_true rfl) (Nat.le_of_ble_eq_true rfl) ?_
  rintro x5 _ _ ⟨o0x5, o1x5, p0x5, rfl, rfl⟩
  have p0x5 := p0x5 r0_1 R_r0_1
  have gx5 := rg x5
  obtain ⟨x6, e7⟩ : ∃ x, I2 r0_1 1 = x := ⟨_, rfl⟩
  have gx6 := rg x6
  have ox6 := IM.c1 hI2 R_r0_1 e7
  try simp only [e4, e7] at p0x5
  try have q0x5 := congrArg Int32.toInt p0x5
  refine z_iconst C (z := 1) rfl rfl rfl (fun x8 ex8 => ?_)
  have q9 : x8.toNatClampNeg = 1 := nck (by omega)
  refine c_VI C (a_X12_throwsIf hI2 H_r0 (by omega) (by omega)) rfl rfl rfl rfl rfl ⟨_, rfl, rfl, T_r0, Nat.le_of_ble_eq_true rfl⟩ rfl rfl (Nat.le_of_ble_eq_true rfl) (Nat.le_of_ble_eq_true rfl) (Nat.le_of_ble_eq_true rfl) ?_
  rintro x10 I11 L12 ⟨o0x10, o1x10, p0x10, hI11, S13⟩
  have e15 := CM.j S13 R_r0_1 (by decide) e7
  have gx10 := rg x10
  try simp only [q9, e4, e7] at p0x10
  try have q0x10 := congrArg Int32.toInt p0x10
  refine b_if_eq C (t := 20) rfl rfl rfl (fun c16 => ?_) (fun c16 => ?_)
  · skip
    refine k_aload_n C rfl rfl rfl ?_
    refine z_bipush C (z := 40) rfl rfl rfl (fun x17 ex17 => ?_)
    refine k_iload_n C rfl rfl rfl ?_
    obtain ⟨x18, e19⟩ : ∃ x, I11 r0_1 (6 + 10 * n1.toNatClampNeg) = x := ⟨_, rfl⟩
    have gx18 := rg x18
    obtain ⟨x20, e21⟩ : ∃ x, I11 r0_1 0 = x := ⟨_, rfl⟩
    have gx20 := rg x20
    have ox20 := IM.pi hI11 R_r0_1 e21
    have q22 : x17.toNatClampNeg = 40 := nck (by omega)
    refine c_VV C (a_X12_takes hI11 H_r0 (by omega) (by omega) (by omega) (by omega)) rfl rfl rfl rfl rfl ⟨_, rfl, rfl, T_r0, Nat.le_of_ble_eq_true rfl⟩ rfl rfl (Nat.le_of_ble_eq_true rfl) (Nat.le_of_ble_eq_true rfl) (Nat.le_of_ble_eq_true rfl) ?_
    rintro I24 L25 ⟨p0v23, p1v23, p2v23, p3v23, p4v23, hI24, S26⟩
    have p0v23 := p0v23 r0_4 R_r0_4
    have p1v23 := p1v23 r0_1 r0_4 R_r0_1 R_r0_4
    have p2v23 := p2v23 r0_1 r0_4 r0_5 R_r0_1 R_r0_4 R_r0_5
    have p3v23 := p3v23 r0_4 R_r0_4
    have p4v23 := p4v23 r0_5 R_r0_5
    try simp only [q22] at p3v23
    try simp only [q22] at p4v23
    have e27 := CM.j S26 R_r0_1 (by decide) e15
    have e28 := CM.j S26 R_r0_1 (by decide) e19
    have e29 := CM.j S26 R_r0_1 (by decide) e21
    obtain ⟨x30, e31⟩ : ∃ x, I24 r0_4 40 = x := ⟨_, rfl⟩
    have gx30 := rg x30
    have ox30 := IM.dgR hI24 R_r0_4 e31
    try simp only [q22, e15, e19, e21, e31] at p0v23
    try have q0v23 := congrArg Int32.toInt p0v23
    try simp only [q22, e15, e19, e21, e31] at p1v23
    try have q1v23 := congrArg Int32.toInt p1v23
    try simp only [q22, e15, e19, e21, e31] at p2v23
    try have q2v23 := congrArg Int32.toInt p2v23
    refine k_aload_n C rfl rfl rfl ?_
    refine z_bipush C (z := 40) rfl rfl rfl (fun x32 ex32 => ?_)
    refine k_aload_n C rfl rfl rfl ?_
    refine k_iload_n C rfl rfl rfl ?_
    refine z_i2l C rfl rfl (fun lg33 elg33 => ?_)
    refine c_VI C (a_X12_mod hI24 H_r0) rfl rfl rfl rfl rfl ⟨_, rfl, rfl, T_r0, Nat.le_of_ble_eq_true rfl⟩ rfl rfl (Nat.le_of_ble_eq_true rfl) (Nat.le_of_ble_eq_true rfl) (Nat.le_of_ble_eq_true rfl) ?_
    rintro x34 _ _ ⟨o0x34, o1x34, p0x34, rfl, rfl⟩
    have p0x34 := p0x34 r0_1 R_r0_1
    have gx34 := rg x34
    try simp only [e27, e28, e29, e31] at p0x34
    try have q0x34 := congrArg Int32.toInt p0x34
    refine k_aload_n C rfl rfl rfl ?_
    refine k_iload_n C rfl rfl rfl ?_
    refine z_i2l C rfl rfl (fun lg35 elg35 => ?_)
    refine c_VI C (a_X12_mod hI24 H_r0) rfl rfl rfl rfl rfl ⟨_, rfl, rfl, T_r0, Nat.le_of_ble_eq_true rfl⟩ rfl rfl (Nat.le_of_ble_eq_true rfl) (Nat.le_of_ble_eq_true rfl) (Nat.le_of_ble_eq_true rfl) ?_
    rintro x36 _ _ ⟨o0x36, o1x36, p0x36, rfl, rfl⟩
    have p0x36 := p0x36 r0_1 R_r0_1
    have gx36 := rg x36
    try simp only [e27, e28, e29, e31] at p0x36
    try have q0x36 := congrArg Int32.toInt p0x36
    refine c_VI C (a_X12_valueAt hI24 H_r0 (by omega) (by omega) (by omega) (by omega) (by omega) (by omega)) rfl rfl rfl rfl rfl ⟨_, rfl, rfl, T_r0, Nat.le_of_ble_eq_true rfl⟩ rfl rfl (Nat.le_of_ble_eq_true rfl) (Nat.le_of_ble_eq_true rfl) (Nat.le_of_ble_eq_true rfl) ?_
    rintro x37 _ _ ⟨o0x37, o1x37, rfl, rfl⟩
    have gx37 := rg x37
    exact k_iret C rfl (Or.inl rfl) (Nat.le_of_ble_eq_true rfl) (Nat.le_of_ble_eq_true rfl) ⟨_, _, _, rfl, rfl, by omega, by omega, hI24, (CM.cons S3 (CM.cons S13 (CM.mono S26 (by decide) (by decide)) (by decide) (by decide)) (by decide) (by decide))⟩
  refine z_iconst C (z := 0) rfl rfl rfl (fun x38 ex38 => ?_)
  exact k_iret C rfl (Or.inl rfl) (Nat.le_of_ble_eq_true rfl) (Nat.le_of_ble_eq_true rfl) ⟨_, _, _, rfl, rfl, by omega, by omega, hI11, (CM.cons S3 (CM.mono S13 (by decide) (by decide)) (by decide) (by decide))⟩

theorem a_X12_stepOf {d : Nat} {T N : Nat → Nat} {I : IT} {L : LT} {R : RT} {A : Nat → Prop} {r0 : Nat} {n1 n2 : Int32} (hI : IM R r0 I) (H_r0 : (h_MD T N R A) r0) (b0_n1 : 0 ≤ n1.toInt) (b1_n1 : n1.toInt ≤ 7) (b0_n2 : 0 ≤ n2.toInt) (b1_n2 : n2.toInt ≤ 198) : Ex (d + 1) 248 [.ref r0, .int n1, .int n2] (T, N, I, L, R) 0 0 (pI T N R (fun x9 I9 L9 => (∀ a1, R r0 1 = some a1 → x9.toInt = (I a1 (198 + 401 * n1.toNatClampNeg + 1 + 2 * n2.toNatClampNeg)).toInt) ∧ (I = I9 ∧ L = L9))) := by
  refine ⟨_, rfl, Nat.le_of_ble_eq_true rfl, fun V C S => ?_⟩
  show V 0 [(0, .ref r0), (1, .int n1), (2, .int n2)] [] (T, N, I, L, R) 0 0
  have gn1 := rg n1
  have gn2 := rg n2
  obtain ⟨T_r0, A_r0, ⟨r0_1, R_r0_1, H_r0_1⟩, ⟨r0_2, R_r0_2, H_r0_2⟩, ⟨r0_4, R_r0_4, H_r0_4⟩, ⟨r0_5, R_r0_5, H_r0_5⟩, ⟨r0_10, R_r0_10, H_r0_10⟩, ⟨r0_18, R_r0_18, H_r0_18⟩, ⟨r0_20, R_r0_20, H_r0_20⟩, ⟨r0_21, R_r0_21, H_r0_21⟩, ⟨r0_22, R_r0_22, H_r0_22⟩, ⟨r0_23, R_r0_23, H_r0_23⟩, ⟨r0_25, R_r0_25, H_r0_25⟩, ⟨r0_26, R_r0_26, H_r0_26⟩, ⟨r0_27, R_r0_27, H_r0_27⟩, ⟨r0_28, R_r0_28, H_r0_28⟩, ⟨r0_34, R_r0_34, H_r0_34⟩, J_r0, Y_r0⟩ := id H_r0
  have G_r0 : mF T R r0 := ⟨J_r0, Y_r0, T_r0⟩
  refine k_aload_n C rfl rfl rfl ?_
  refine g_R C rfl rfl rfl T_r0 rfl R_r0_1 ?_
  refine z_sipush C (z := 198) rfl rfl rfl (fun x1 ex1 => ?_)
  refine z_sipush C (z := 401) rfl rfl rfl (fun x2 ex2 => ?_)
  refine k_iload_n C rfl rfl rfl ?_
  refine z_imulL C (c := 401) rfl rfl (by omega) ⟨by omega, by omega⟩ (fun x3 ex3 => ?_)
  refine z_iadd C rfl rfl ⟨by omega, by omega⟩ (fun x4 ex4 => ?_)
  refine z_iconst C (z := 1) rfl rfl rfl (fun x5 ex5 => ?_)
  refine z_iadd C rfl rfl ⟨by omega, by omega⟩ (fun x6 ex6 => ?_)
  refine z_iconst C (z := 2) rfl rfl rfl (fun x7 ex7 => ?_)
  refine k_iload_n C rfl rfl rfl ?_
  refine z_imulL C (c := 2) rfl rfl (by omega) ⟨by omega, by omega⟩ (fun x8 ex8 => ?_)
  refine z_iadd C rfl rfl ⟨by omega, by omega⟩ (fun x9 ex9 => ?_)
  obtain ⟨T_r0_1, N_r0_1, A_r0_1⟩ := id H_r0_1
  refine z_aI C rfl rfl T_r0_1 N_r0_1 (by omega) (by omega) (fun x10 ex10 => ?_)
  have gx10 := rg x10
  have jj : x9.toNatClampNeg = 198 + 401 * n1.toNatClampNeg + 1 + 2 * n2.toNatClampNeg := by (have h_n1 := ncz (x := n1) (by omega)); (have h_n2 := ncz (x := n2) (by omega)); have hj := ncz (x := x9) (by omega); omega
  have ee := ex10; rw [jj] at ee
  exact k_iret C rfl (Or.inl rfl) (Nat.le_of_ble_eq_true rfl) (Nat.le_of_ble_eq_true rfl) ⟨_, _, _, rfl, rfl, fun a1 h1 => by cases (R_r0_1.symm.trans h1); rw [ee], rfl, rfl⟩

theorem a_X12_toldBy {d : Nat} {T N : Nat → Nat} {I : IT} {L : LT} {R : RT} {A : Nat → Prop} {r0 : Nat} {n1 n2 : Int32} (hI : IM R r0 I) (H_r0 : (h_MD T N R A) r0) (b0_n1 : 0 ≤ n1.toInt) (b1_n1 : n1.toInt ≤ 7) (b0_n2 : 0 ≤ n2.toInt) (b1_n2 : n2.toInt ≤ 198) : Ex (d + 1) 249 [.ref r0, .int n1, .int n2] (T, N, I, L, R) 0 0 (pI T N R (fun x9 I9 L9 => (∀ a1, R r0 1 = some a1 → x9.toInt = (I a1 (198 + 401 * n1.toNatClampNeg + 2 + 2 * n2.toNatClampNeg)).toInt) ∧ (I = I9 ∧ L = L9))) := by
  refine ⟨_, rfl, Nat.le_of_ble_eq_true rfl, fun V C S => ?_⟩
  show V 0 [(0, .ref r0), (1, .int n1), (2, .int n2)] [] (T, N, I, L, R) 0 0
  have gn1 := rg n1
  have gn2 := rg n2
  obtain ⟨T_r0, A_r0, ⟨r0_1, R_r0_1, H_r0_1⟩, ⟨r0_2, R_r0_2, H_r0_2⟩, ⟨r0_4, R_r0_4, H_r0_4⟩, ⟨r0_5, R_r0_5, H_r0_5⟩, ⟨r0_10, R_r0_10, H_r0_10⟩, ⟨r0_18, R_r0_18, H_r0_18⟩, ⟨r0_20, R_r0_20, H_r0_20⟩, ⟨r0_21, R_r0_21, H_r0_21⟩, ⟨r0_22, R_r0_22, H_r0_22⟩, ⟨r0_23, R_r0_23, H_r0_23⟩, ⟨r0_25, R_r0_25, H_r0_25⟩, ⟨r0_26, R_r0_26, H_r0_26⟩, ⟨r0_27, R_r0_27, H_r0_27⟩, ⟨r0_28, R_r0_28, H_r0_28⟩, ⟨r0_34, R_r0_34, H_r0_34⟩, J_r0, Y_r0⟩ := id H_r0
  have G_r0 : mF T R r0 := ⟨J_r0, Y_r0, T_r0⟩
  refine k_aload_n C rfl rfl rfl ?_
  refine g_R C rfl rfl rfl T_r0 rfl R_r0_1 ?_
  refine z_sipush C (z := 198) rfl rfl rfl (fun x1 ex1 => ?_)
  refine z_sipush C (z := 401) rfl rfl rfl (fun x2 ex2 => ?_)
  refine k_iload_n C rfl rfl rfl ?_
  refine z_imulL C (c := 401) rfl rfl (by omega) ⟨by omega, by omega⟩ (fun x3 ex3 => ?_)
  refine z_iadd C rfl rfl ⟨by omega, by omega⟩ (fun x4 ex4 => ?_)
  refine z_iconst C (z := 2) rfl rfl rfl (fun x5 ex5 => ?_)
  refine z_iadd C rfl rfl ⟨by omega, by omega⟩ (fun x6 ex6 => ?_)
  refine z_iconst C (z := 2) rfl rfl rfl (fun x7 ex7 => ?_)
  refine k_iload_n C rfl rfl rfl ?_
  refine z_imulL C (c := 2) rfl rfl (by omega) ⟨by omega, by omega⟩ (fun x8 ex8 => ?_)
  refine z_iadd C rfl rfl ⟨by omega, by omega⟩ (fun x9 ex9 => ?_)
  obtain ⟨T_r0_1, N_r0_1, A_r0_1⟩ := id H_r0_1
  refine z_aI C rfl rfl T_r0_1 N_r0_1 (by omega) (by omega) (fun x10 ex10 => ?_)
  have gx10 := rg x10
  have jj : x9.toNatClampNeg = 198 + 401 * n1.toNatClampNeg + 2 + 2 * n2.toNatClampNeg := by (have h_n1 := ncz (x := n1) (by omega)); (have h_n2 := ncz (x := n2) (by omega)); have hj := ncz (x := x9) (by omega); omega
  have ee := ex10; rw [jj] at ee
  exact k_iret C rfl (Or.inl rfl) (Nat.le_of_ble_eq_true rfl) (Nat.le_of_ble_eq_true rfl) ⟨_, _, _, rfl, rfl, fun a1 h1 => by cases (R_r0_1.symm.trans h1); rw [ee], rfl, rfl⟩

theorem a_X12_stepsOf {d : Nat} {T N : Nat → Nat} {I : IT} {L : LT} {R : RT} {A : Nat → Prop} {r0 : Nat} {n1 : Int32} (hI : IM R r0 I) (H_r0 : (h_MD T N R A) r0) (b0_n1 : 0 ≤ n1.toInt) (b1_n1 : n1.toInt ≤ 7) : Ex (d + 1) 250 [.ref r0, .int n1] (T, N, I, L, R) 0 0 (pI T N R (fun x9 I9 L9 => (∀ a1, R r0 1 = some a1 → x9.toInt = (I a1 (198 + 401 * n1.toNatClampNeg)).toInt) ∧ (I = I9 ∧ L = L9))) := by
  refine ⟨_, rfl, Nat.le_of_ble_eq_true rfl, fun V C S => ?_⟩
  show V 0 [(0, .ref r0), (1, .int n1)] [] (T, N, I, L, R) 0 0
  have gn1 := rg n1
  obtain ⟨T_r0, A_r0, ⟨r0_1, R_r0_1, H_r0_1⟩, ⟨r0_2, R_r0_2, H_r0_2⟩, ⟨r0_4, R_r0_4, H_r0_4⟩, ⟨r0_5, R_r0_5, H_r0_5⟩, ⟨r0_10, R_r0_10, H_r0_10⟩, ⟨r0_18, R_r0_18, H_r0_18⟩, ⟨r0_20, R_r0_20, H_r0_20⟩, ⟨r0_21, R_r0_21, H_r0_21⟩, ⟨r0_22, R_r0_22, H_r0_22⟩, ⟨r0_23, R_r0_23, H_r0_23⟩, ⟨r0_25, R_r0_25, H_r0_25⟩, ⟨r0_26, R_r0_26, H_r0_26⟩, ⟨r0_27, R_r0_27, H_r0_27⟩, ⟨r0_28, R_r0_28, H_r0_28⟩, ⟨r0_34, R_r0_34, H_r0_34⟩, J_r0, Y_r0⟩ := id H_r0
  have G_r0 : mF T R r0 := ⟨J_r0, Y_r0, T_r0⟩
  refine k_aload_n C rfl rfl rfl ?_
  refine g_R C rfl rfl rfl T_r0 rfl R_r0_1 ?_
  refine z_sipush C (z := 198) rfl rfl rfl (fun x1 ex1 => ?_)
  refine z_sipush C (z := 401) rfl rfl rfl (fun x2 ex2 => ?_)
  refine k_iload_n C rfl rfl rfl ?_
  refine z_imulL C (c := 401) rfl rfl (by omega) ⟨by omega, by omega⟩ (fun x3 ex3 => ?_)
  refine z_iadd C rfl rfl ⟨by omega, by omega⟩ (fun x4 ex4 => ?_)
  obtain ⟨T_r0_1, N_r0_1, A_r0_1⟩ := id H_r0_1
  refine z_aI C rfl rfl T_r0_1 N_r0_1 (by omega) (by omega) (fun x5 ex5 => ?_)
  have gx5 := rg x5
  have jj : x4.toNatClampNeg = 198 + 401 * n1.toNatClampNeg := by (have h_n1 := ncz (x := n1) (by omega)); have hj := ncz (x := x4) (by omega); omega
  have ee := ex5; rw [jj] at ee
  exact k_iret C rfl (Or.inl rfl) (Nat.le_of_ble_eq_true rfl) (Nat.le_of_ble_eq_true rfl) ⟨_, _, _, rfl, rfl, fun a1 h1 => by cases (R_r0_1.symm.trans h1); rw [ee], rfl, rfl⟩

theorem a_X12_powerAt {d : Nat} {T N : Nat → Nat} {I : IT} {L : LT} {R : RT} {A : Nat → Prop} {r0 : Nat} {n1 n2 : Int32} (hI : IM R r0 I) (H_r0 : (h_MD T N R A) r0) (b0_n1 : 0 ≤ n1.toInt) (b1_n1 : n1.toInt ≤ 19) (b0_n2 : 0 ≤ n2.toInt) (b1_n2 : n2.toInt ≤ 8) : Ex (d + 1) 281 [.ref r0, .int n1, .int n2] (T, N, I, L, R) 0 0 (pI T N R (fun x9 I9 L9 => (-18 ≤ x9.toInt) ∧ (x9.toInt ≤ 18) ∧ (I = I9 ∧ L = L9))) := by
  refine ⟨_, rfl, Nat.le_of_ble_eq_true rfl, fun V C S => ?_⟩
  show V 0 [(0, .ref r0), (1, .int n1), (2, .int n2)] [] (T, N, I, L, R) 0 0
  have gn1 := rg n1
  have gn2 := rg n2
  obtain ⟨T_r0, A_r0, ⟨r0_1, R_r0_1, H_r0_1⟩, ⟨r0_2, R_r0_2, H_r0_2⟩, ⟨r0_4, R_r0_4, H_r0_4⟩, ⟨r0_5, R_r0_5, H_r0_5⟩, ⟨r0_10, R_r0_10, H_r0_10⟩, ⟨r0_18, R_r0_18, H_r0_18⟩, ⟨r0_20, R_r0_20, H_r0_20⟩, ⟨r0_21, R_r0_21, H_r0_21⟩, ⟨r0_22, R_r0_22, H_r0_22⟩, ⟨r0_23, R_r0_23, H_r0_23⟩, ⟨r0_25, R_r0_25, H_r0_25⟩, ⟨r0_26, R_r0_26, H_r0_26⟩, ⟨r0_27, R_r0_27, H_r0_27⟩, ⟨r0_28, R_r0_28, H_r0_28⟩, ⟨r0_34, R_r0_34, H_r0_34⟩, J_r0, Y_r0⟩ := id H_r0
  have G_r0 : mF T R r0 := ⟨J_r0, Y_r0, T_r0⟩
  refine k_aload_n C rfl rfl rfl ?_
  refine g_R C rfl rfl rfl T_r0 rfl R_r0_26 ?_
  refine z_bipush C (z := 9) rfl rfl rfl (fun x1 ex1 => ?_)
  refine k_iload_n C rfl rfl rfl ?_
  refine z_imulL C (c := 9) rfl rfl (by omega) ⟨by omega, by omega⟩ (fun x2 ex2 => ?_)
  refine k_iload_n C rfl rfl rfl ?_
  refine z_iadd C rfl rfl ⟨by omega, by omega⟩ (fun x3 ex3 => ?_)
  obtain ⟨T_r0_26, N_r0_26, A_r0_26⟩ := id H_r0_26
  refine z_aI C rfl rfl T_r0_26 N_r0_26 (by omega) (by omega) (fun x4 ex4 => ?_)
  have gx4 := rg x4
  have ox4 := IM.pwR hI R_r0_26 ex4
  exact k_iret C rfl (Or.inl rfl) (Nat.le_of_ble_eq_true rfl) (Nat.le_of_ble_eq_true rfl) ⟨_, _, _, rfl, rfl, by omega, by omega, rfl, rfl⟩

theorem a_X12_raises {d : Nat} {T N : Nat → Nat} {I : IT} {L : LT} {R : RT} {A : Nat → Prop} {r0 : Nat} {n1 : Int32} (hI : IM R r0 I) (H_r0 : (h_MD T N R A) r0) (b0_n1 : 0 ≤ n1.toInt) (b1_n1 : n1.toInt ≤ 8) : Ex (d + 4) 282 [.ref r0, .int n1] (T, N, I, L, R) 0 0 (pV T N R (fun I9 L9 => (∀ a4, R r0 4 = some a4 → ∀ r : Nat, r ≠ 45 → I9 a4 r = I a4 r) ∧ (∀ a5, R r0 5 = some a5 → ∀ r : Nat, (r < 41 * 45 ∨ 41 * 45 + 41 ≤ r) → I9 a5 r = I a5 r) ∧ (IM R r0 I9 ∧ CM A R r0 [] [4, 5, 26] I L I9 L9))) := by
  refine ⟨_, rfl, Nat.le_of_ble_eq_true rfl, fun V C S => ?_⟩
  show V 0 [(0, .ref r0), (1, .int n1)] [] (T, N, I, L, R) 0 0
  have gn1 := rg n1
  obtain ⟨T_r0, A_r0, ⟨r0_1, R_r0_1, H_r0_1⟩, ⟨r0_2, R_r0_2, H_r0_2⟩, ⟨r0_4, R_r0_4, H_r0_4⟩, ⟨r0_5, R_r0_5, H_r0_5⟩, ⟨r0_10, R_r0_10, H_r0_10⟩, ⟨r0_18, R_r0_18, H_r0_18⟩, ⟨r0_20, R_r0_20, H_r0_20⟩, ⟨r0_21, R_r0_21, H_r0_21⟩, ⟨r0_22, R_r0_22, H_r0_22⟩, ⟨r0_23, R_r0_23, H_r0_23⟩, ⟨r0_25, R_r0_25, H_r0_25⟩, ⟨r0_26, R_r0_26, H_r0_26⟩, ⟨r0_27, R_r0_27, H_r0_27⟩, ⟨r0_28, R_r0_28, H_r0_28⟩, ⟨r0_34, R_r0_34, H_r0_34⟩, J_r0, Y_r0⟩ := id H_r0
  have G_r0 : mF T R r0 := ⟨J_r0, Y_r0, T_r0⟩
  refine z_iconst C (z := 0) rfl rfl rfl (fun x1 ex1 => ?_)
  have J2 : ∀ (nn3 : Nat) (I4 : IT) (L5 : LT) (x6 : Int32), (MN (20 - x6.toInt) nn3) → (IM R r0 I4) → (CM A R r0 [] [4, 5, 26] I L I4 L5) → (∀ r : Nat, r ≠ 45 → I4 r0_4 r = I r0_4 r) → (∀ r : Nat, (r < 41 * 45 ∨ 41 * 45 + 41 ≤ r) → I4 r0_5 r = I r0_5 r) → (0 ≤ x6.toInt) → (x6.toInt ≤ 20) → V 2 [(0, .ref r0), (1, .int n1), (2, .int x6)] [] (T, N, I4, L5, R) 0 0 := by
    intro nn3
    induction nn3 using Nat.strongRecOn with
    | _ nn3 ihJ2 =>
      intro I4 L5 x6 hmnn3 hI10 S9 F11 F12 b7 b8
      have gx6 := rg x6
      refine k_iload_n C rfl rfl rfl ?_
      refine k_aload_n C rfl rfl rfl ?_
      refine c_VI C (a_X12_p hI10 H_r0) rfl rfl rfl rfl rfl ⟨_, rfl, rfl, T_r0, Nat.le_of_ble_eq_true rfl⟩ rfl rfl (Nat.le_of_ble_eq_true rfl) (Nat.le_of_ble_eq_true rfl) (Nat.le_of_ble_eq_true rfl) ?_
      rintro x13 _ _ ⟨o0x13, o1x13, p0x13, rfl, rfl⟩
      have p0x13 := p0x13 r0_1 R_r0_1
      have gx13 := rg x13
      obtain ⟨x14, e15⟩ : ∃ x, I4 r0_1 0 = x := ⟨_, rfl⟩
      have gx14 := rg x14
      have ox14 := IM.pi hI10 R_r0_1 e15
      try simp only [e15] at p0x13
      try have q0x13 := congrArg Int32.toInt p0x13
      refine b_icmp_gt C (t := 112) rfl rfl rfl (fun c16 => ?_) (fun c16 => ?_)
      · skip
        exact k_vret C rfl rfl (Nat.le_of_ble_eq_true rfl) (Nat.le_of_ble_eq_true rfl) ⟨_, _, rfl, rfl, fun a4 h4 => by cases (R_r0_4.symm.trans h4); exact (fun r z0 => (F11 r z0)), fun a5 h5 => by cases (R_r0_5.symm.trans h5); exact (fun r z0 => (F12 r z0)), hI10, (CM.mono S9 (by decide) (by decide))⟩
      refine k_aload_n C rfl rfl rfl ?_
      refine z_bipush C (z := 45) rfl rfl rfl (fun x17 ex17 => ?_)
      refine z_iconst C (z := 0) rfl rfl rfl (fun x18 ex18 => ?_)
      have q19 : x17.toNatClampNeg = 45 := nck (by omega)
      have q20 : x18.toNatClampNeg = 0 := nck (by omega)
      refine c_VV C (a_X12_clears hI10 H_r0 (by omega) (by omega) (by omega) (by omega)) rfl rfl rfl rfl rfl ⟨_, rfl, rfl, T_r0, Nat.le_of_ble_eq_true rfl⟩ rfl rfl (Nat.le_of_ble_eq_true rfl) (Nat.le_of_ble_eq_true rfl) (Nat.le_of_ble_eq_true rfl) ?_
      rintro I22 L23 ⟨p0v21, p1v21, p2v21, p3v21, hI22, S24⟩
      have p0v21 := p0v21 r0_4 R_r0_4
      have p1v21 := p1v21 r0_5 R_r0_5
      have p2v21 := p2v21 r0_4 R_r0_4
      have p3v21 := p3v21 r0_5 R_r0_5
      try simp only [q19, q20] at p2v21
      have F25 : ∀ r : Nat, r ≠ 45 → I22 r0_4 r = I4 r0_4 r := fun r z0 => p2v21 r (by first | exact z0)
      try simp only [q19, q20] at p3v21
      have F26 : ∀ r : Nat, (r < 41 * 45 ∨ 41 * 45 + 41 ≤ r) → I22 r0_5 r = I4 r0_5 r := fun r z0 => p3v21 r (by first | exact z0)
      have e27 := CM.j S24 R_r0_1 (by decide) e15
      obtain ⟨x28, e29⟩ : ∃ x, I22 r0_4 45 = x := ⟨_, rfl⟩
      have gx28 := rg x28
      have ox28 := IM.dgR hI22 R_r0_4 e29
      try simp only [q19, q20, e15, e29] at p0v21
      try have q0v21 := congrArg Int32.toInt p0v21
      try simp only [q19, q20, e15, e29] at p1v21
      try have q1v21 := congrArg Int32.toInt p1v21
      refine k_aload_n C rfl rfl rfl ?_
      refine z_bipush C (z := 45) rfl rfl rfl (fun x30 ex30 => ?_)
      refine z_iconst C (z := 0) rfl rfl rfl (fun x31 ex31 => ?_)
      refine z_iconst C (z := 1) rfl rfl rfl (fun x32 ex32 => ?_)
      have q33 : x30.toNatClampNeg = 45 := nck (by omega)
      have q34 : x31.toNatClampNeg = 0 := nck (by omega)
      have q35 : x32.toNatClampNeg = 1 := nck (by omega)
      refine c_VV C (a_X12_put hI22 H_r0 (by omega) (by omega) (by omega) (by omega) (by omega) (by omega)) rfl rfl rfl rfl rfl ⟨_, rfl, rfl, T_r0, Nat.le_of_ble_eq_true rfl⟩ rfl rfl (Nat.le_of_ble_eq_true rfl) (Nat.le_of_ble_eq_true rfl) (Nat.le_of_ble_eq_true rfl) ?_
      rintro I37 L38 ⟨p0v36, p1v36, hI37, S39⟩
      have p0v36 := p0v36 r0_5 R_r0_5
      have p1v36 := p1v36 r0_5 R_r0_5
      try simp only [q33, q34, q35] at p1v36
      have F40 : ∀ r : Nat, (r < 41 * 45 ∨ 41 * 45 + 41 ≤ r) → I37 r0_5 r = I22 r0_5 r := fun r z0 => p1v36 r (by first | exact z0)
      have e41 := CM.j S39 R_r0_1 (by decide) e27
      have e42 := CM.j S39 R_r0_4 (by decide) e29
      try simp only [q33, q34, q35, e27, e29] at p0v36
      try have q0v36 := congrArg Int32.toInt p0v36
      refine z_iconst C (z := 0) rfl rfl rfl (fun x43 ex43 => ?_)
      have J44 : ∀ (nn45 : Nat) (I46 : IT) (L47 : LT) (x48 : Int32) (x55 : Int32), (MN (8 - x48.toInt) nn45) → (IM R r0 I46) → (CM A R r0 [] [4, 5] I37 L38 I46 L47) → (∀ r : Nat, r ≠ 45 → I46 r0_4 r = I37 r0_4 r) → (∀ r : Nat, (r < 41 * 45 ∨ 41 * 45 + 41 ≤ r) → I46 r0_5 r = I37 r0_5 r) → (0 ≤ x48.toInt) → (x48.toInt ≤ 8) → (I46 r0_4 45 = x55) → (0 ≤ x55.toInt) → (x55.toInt ≤ 40) → (x55.toInt = x48.toInt) → V 27 [(0, .ref r0), (1, .int n1), (2, .int x6), (3, .int x48)] [] (T, N, I46, L47, R) 0 0 := by
        intro nn45
        induction nn45 using Nat.strongRecOn with
        | _ nn45 ihJ44 =>
          intro I46 L47 x48 x55 hmnn45 hI52 S51 F53 F54 b49 b50 e56 b57 b58 ff27_0
          have gx48 := rg x48
          have gx55 := rg x55
          have e59 := CM.j S51 R_r0_1 (by decide) e41
          refine k_iload_n C rfl rfl rfl ?_
          refine k_iload_n C rfl rfl rfl ?_
          refine b_icmp_ge C (t := 75) rfl rfl rfl (fun c60 => ?_) (fun c60 => ?_)
          · skip
            refine z_iconst C (z := 0) rfl rfl rfl (fun x61 ex61 => ?_)
            have J62 : ∀ (nn63 : Nat) (I64 : IT) (L65 : LT) (x66 : Int32), (MN (9 - x66.toInt) nn63) → (IM R r0 I64) → (CM A R r0 [] [26] I46 L47 I64 L65) → (0 ≤ x66.toInt) → (x66.toInt ≤ 9) → V 77 [(0, .ref r0), (1, .int n1), (2, .int x6), (3, .int x66)] [] (T, N, I64, L65, R) 0 0 := by
              intro nn63
              induction nn63 using Nat.strongRecOn with
              | _ nn63 ihJ62 =>
                intro I64 L65 x66 hmnn63 hI70 S69 b67 b68
                have gx66 := rg x66
                have e71 := CM.j S69 R_r0_1 (by decide) e59
                have e72 := CM.j S69 R_r0_4 (by decide) e56
                refine k_iload_n C rfl rfl rfl ?_
                refine k_iload_n C rfl rfl rfl ?_
                refine b_icmp_gt C (t := 106) rfl rfl rfl (fun c73 => ?_) (fun c73 => ?_)
                · skip
                  refine z_iinc C (z := 1) (lw := fun x74 => [(2, .int x74), (0, .ref r0), (1, .int n1), (3, .int x66)]) rfl rfl rfl (Nat.le_of_ble_eq_true rfl) rfl ⟨by omega, by omega⟩ (fun _ => rfl) (fun x74 ex74 => ?_)
                  show V 109 [(2, .int x74), (0, .ref r0), (1, .int n1), (3, .int x66)] _ _ _ _
                  refine k_goto C (pc2 := 2) rfl rfl ?_
                  refine k_sub S [(0, .ref r0), (1, .int n1), (2, .int x74)] (List.forall_mem_cons.mpr ⟨List.mem_of_getElem? (i := 1) rfl, List.forall_mem_cons.mpr ⟨List.mem_of_getElem? (i := 2) rfl, List.forall_mem_cons.mpr ⟨List.mem_of_getElem? (i := 0) rfl, fun _ h => nomatch h⟩⟩⟩) ?_
                  exact ihJ2 _ (MN.lt hmnn3 (by omega) (by omega)) I64 L65 x74 rfl hI70 (CM.cons S9 (CM.cons S24 (CM.cons S39 (CM.cons S51 (CM.mono S69 (by decide) (by decide)) (by decide) (by decide)) (by decide) (by decide)) (by decide) (by decide)) (by decide) (by decide)) (fun r z0 => ((congrFun (CM.j0 S69 R_r0_4 (by decide)) r).trans ((F53 r z0).trans ((congrFun (CM.j0 S39 R_r0_4 (by decide)) r).trans ((F25 r z0).trans (F11 r z0)))))) (fun r z0 => ((congrFun (CM.j0 S69 R_r0_5 (by decide)) r).trans ((F54 r z0).trans ((F40 r z0).trans ((F26 r z0).trans (F12 r z0)))))) (by omega) (by omega)
                refine k_aload_n C rfl rfl rfl ?_
                refine g_R C rfl rfl rfl T_r0 rfl R_r0_26 ?_
                refine z_bipush C (z := 9) rfl rfl rfl (fun x75 ex75 => ?_)
                refine k_iload_n C rfl rfl rfl ?_
                refine z_imulL C (c := 9) rfl rfl (by omega) ⟨by omega, by omega⟩ (fun x76 ex76 => ?_)
                refine k_iload_n C rfl rfl rfl ?_
                refine z_iadd C rfl rfl ⟨by omega, by omega⟩ (fun x77 ex77 => ?_)
                refine k_aload_n C rfl rfl rfl ?_
                refine z_bipush C (z := 45) rfl rfl rfl (fun x78 ex78 => ?_)
                refine k_iload_n C rfl rfl rfl ?_
                have q79 : x78.toNatClampNeg = 45 := nck (by omega)
                refine c_VI C (a_X12_of hI70 H_r0 (by omega) (by omega) (by omega) (by omega)) rfl rfl rfl rfl rfl ⟨_, rfl, rfl, T_r0, Nat.le_of_ble_eq_true rfl⟩ rfl rfl (Nat.le_of_ble_eq_true rfl) (Nat.le_of_ble_eq_true rfl) (Nat.le_of_ble_eq_true rfl) ?_
                rintro x80 _ _ ⟨o0x80, o1x80, p0x80, rfl, rfl⟩
                have p0x80 := p0x80 r0_5 R_r0_5
                have gx80 := rg x80
                try simp only [q79, e71, e72] at p0x80
                try have q0x80 := congrArg Int32.toInt p0x80
                obtain ⟨T_r0_26, N_r0_26, A_r0_26⟩ := id H_r0_26
                refine z_sI C rfl rfl T_r0_26 N_r0_26 (by omega) (by omega) (fun I81 uI81 => ?_)
                have hI81 : IM R r0 I81 := IM.arr hI70 G_r0 R_r0_26 ⟨(fun h => absurd h (by decide)), (fun h => absurd h (by decide)), (fun _ => ⟨by omega, by omega⟩)⟩ (fun h => absurd h (by decide)) uI81
                have S82 : CM A R r0 [] [26] I64 L65 I81 L65 := CM.a G_r0 R_r0_26 A_r0_26 uI81
                have e83 := u2_n uI81 (mF.nq G_r0 R_r0_1 R_r0_26 (by decide)) e71
                have e84 := u2_n uI81 (mF.nq G_r0 R_r0_4 R_r0_26 (by decide)) e72
                have e85 := u2_e uI81
                refine z_iinc C (z := 1) (lw := fun x86 => [(3, .int x86), (0, .ref r0), (1, .int n1), (2, .int x6)]) rfl rfl rfl (Nat.le_of_ble_eq_true rfl) rfl ⟨by omega, by omega⟩ (fun _ => rfl) (fun x86 ex86 => ?_)
                show V 103 [(3, .int x86), (0, .ref r0), (1, .int n1), (2, .int x6)] _ _ _ _
                refine k_goto C (pc2 := 77) rfl rfl ?_
                refine k_sub S [(0, .ref r0), (1, .int n1), (2, .int x6), (3, .int x86)] (List.forall_mem_cons.mpr ⟨List.mem_of_getElem? (i := 1) rfl, List.forall_mem_cons.mpr ⟨List.mem_of_getElem? (i := 2) rfl, List.forall_mem_cons.mpr ⟨List.mem_of_getElem? (i := 3) rfl, List.forall_mem_cons.mpr ⟨List.mem_of_getElem? (i := 0) rfl, fun _ h => nomatch h⟩⟩⟩⟩) ?_
                exact ihJ62 _ (MN.lt hmnn63 (by omega) (by omega)) I81 L65 x86 rfl hI81 (CM.cons S69 (CM.mono S82 (by decide) (by decide)) (by decide) (by decide)) (by omega) (by omega)
            refine k_istore_n C (lw := [(3, .int x61), (0, .ref r0), (1, .int n1), (2, .int x6)]) rfl rfl (Nat.le_of_ble_eq_true rfl) rfl ?_
            refine k_sub S [(0, .ref r0), (1, .int n1), (2, .int x6), (3, .int x61)] (List.forall_mem_cons.mpr ⟨List.mem_of_getElem? (i := 1) rfl, List.forall_mem_cons.mpr ⟨List.mem_of_getElem? (i := 2) rfl, List.forall_mem_cons.mpr ⟨List.mem_of_getElem? (i := 3) rfl, List.forall_mem_cons.mpr ⟨List.mem_of_getElem? (i := 0) rfl, fun _ h => nomatch h⟩⟩⟩⟩) ?_
            exact J62 _ I46 L47 x61 rfl hI52 CM.rf (by omega) (by omega)
          refine k_aload_n C rfl rfl rfl ?_
          refine z_bipush C (z := 45) rfl rfl rfl (fun x87 ex87 => ?_)
          refine k_iload_n C rfl rfl rfl ?_
          refine k_aload_n C rfl rfl rfl ?_
          refine c_VI C (a_X12_p hI52 H_r0) rfl rfl rfl rfl rfl ⟨_, rfl, rfl, T_r0, Nat.le_of_ble_eq_true rfl⟩ rfl rfl (Nat.le_of_ble_eq_true rfl) (Nat.le_of_ble_eq_true rfl) (Nat.le_of_ble_eq_true rfl) ?_
          rintro x88 _ _ ⟨o0x88, o1x88, p0x88, rfl, rfl⟩
          have p0x88 := p0x88 r0_1 R_r0_1
          have gx88 := rg x88
          try simp only [e59, e56, e59] at p0x88
          try have q0x88 := congrArg Int32.toInt p0x88
          have J89 : ∀ (x91 : Int32), (0 ≤ x91.toInt) → (x91.toInt ≤ 1) → V 48 [(0, .ref r0), (1, .int n1), (2, .int x6), (3, .int x48)] [.int x91, .int x87, .ref r0] (T, N, I46, L47, R) 0 0 := by
            intro x91 b92 b93
            have gx91 := rg x91
            refine k_iload_n C rfl rfl rfl ?_
            refine k_aload_n C rfl rfl rfl ?_
            refine c_VI C (a_X12_p hI52 H_r0) rfl rfl rfl rfl rfl ⟨_, rfl, rfl, T_r0, Nat.le_of_ble_eq_true rfl⟩ rfl rfl (Nat.le_of_ble_eq_true rfl) (Nat.le_of_ble_eq_true rfl) (Nat.le_of_ble_eq_true rfl) ?_
            rintro x94 _ _ ⟨o0x94, o1x94, p0x94, rfl, rfl⟩
            have p0x94 := p0x94 r0_1 R_r0_1
            have gx94 := rg x94
            try simp only [e59, e56, e59] at p0x94
            try have q0x94 := congrArg Int32.toInt p0x94
            refine b_icmp_ge C (t := 65) rfl rfl rfl (fun c95 => ?_) (fun c95 => ?_)
            · skip
              refine z_iconst C (z := 1) rfl rfl rfl (fun x96 ex96 => ?_)
              have q97 : x87.toNatClampNeg = 45 := nck (by omega)
              have q98 : x96.toNatClampNeg = 1 := nck (by omega)
              refine c_VV C (a_X12_widens hI52 H_r0 (by omega) (by omega) (by omega) (by omega) (by omega) (by omega) (fun a4 h4 => by cases (R_r0_4.symm.trans h4); first | omega | (simp only [q97, q98, e59, e56] <;> omega))) rfl rfl rfl rfl rfl ⟨_, rfl, rfl, T_r0, Nat.le_of_ble_eq_true rfl⟩ rfl rfl (Nat.le_of_ble_eq_true rfl) (Nat.le_of_ble_eq_true rfl) (Nat.le_of_ble_eq_true rfl) ?_
              rintro I100 L101 ⟨p0v99, p1v99, p2v99, hI100, S102⟩
              have p0v99 := p0v99 r0_4 R_r0_4
              have p1v99 := p1v99 r0_4 R_r0_4
              have p2v99 := p2v99 r0_5 R_r0_5
              try simp only [q97, q98] at p1v99
              have F103 : ∀ r : Nat, r ≠ 45 → I100 r0_4 r = I46 r0_4 r := fun r z0 => p1v99 r (by first | exact z0)
              try simp only [q97, q98] at p2v99
              have F104 : ∀ r : Nat, (r < 41 * 45 ∨ 41 * 45 + 41 ≤ r) → I100 r0_5 r = I46 r0_5 r := fun r z0 => p2v99 r (by first | exact z0)
              have e105 := CM.j S102 R_r0_1 (by decide) e59
              obtain ⟨x107, e108⟩ : ∃ x, I100 r0_4 45 = x := ⟨_, rfl⟩
              have gx107 := rg x107
              have ox107 := IM.dgR hI100 R_r0_4 e108
              try simp only [q97, q98, e59, e56, e108] at p0v99
              try have q0v99 := congrArg Int32.toInt p0v99
              refine z_iinc C (z := 1) (lw := fun x109 => [(3, .int x109), (0, .ref r0), (1, .int n1), (2, .int x6)]) rfl rfl rfl (Nat.le_of_ble_eq_true rfl) rfl ⟨by omega, by omega⟩ (fun _ => rfl) (fun x109 ex109 => ?_)
              show V 72 [(3, .int x109), (0, .ref r0), (1, .int n1), (2, .int x6)] _ _ _ _
              refine k_goto C (pc2 := 27) rfl rfl ?_
              refine k_sub S [(0, .ref r0), (1, .int n1), (2, .int x6), (3, .int x109)] (List.forall_mem_cons.mpr ⟨List.mem_of_getElem? (i := 1) rfl, List.forall_mem_cons.mpr ⟨List.mem_of_getElem? (i := 2) rfl, List.forall_mem_cons.mpr ⟨List.mem_of_getElem? (i := 3) rfl, List.forall_mem_cons.mpr ⟨List.mem_of_getElem? (i := 0) rfl, fun _ h => nomatch h⟩⟩⟩⟩) ?_
              exact ihJ44 _ (MN.lt hmnn45 (by omega) (by omega)) I100 L101 x109 x107 rfl hI100 (CM.cons S51 (CM.mono S102 (by decide) (by decide)) (by decide) (by decide)) (fun r z0 => ((F103 r z0).trans (F53 r z0))) (fun r z0 => ((F104 r z0).trans (F54 r z0))) (by omega) (by omega) e108 (by omega) (by omega) (by omega)
            refine k_aload_n C rfl rfl rfl ?_
            refine z_iconst C (z := 0) rfl rfl rfl (fun x110 ex110 => ?_)
            refine k_iload_n C rfl rfl rfl ?_
            have q111 : x110.toNatClampNeg = 0 := nck (by omega)
            refine c_VI C (a_X12_less hI52 H_r0 (by omega) (by omega) (by omega) (by omega)) rfl rfl rfl rfl rfl ⟨_, rfl, rfl, T_r0, Nat.le_of_ble_eq_true rfl⟩ rfl rfl (Nat.le_of_ble_eq_true rfl) (Nat.le_of_ble_eq_true rfl) (Nat.le_of_ble_eq_true rfl) ?_
            rintro x112 _ _ ⟨o0x112, o1x112, p0x112, p1x112, p2x112, p3x112, rfl, rfl⟩
            have p0x112 := p0x112 r0_1 R_r0_1
            have p2x112 := p2x112 r0_1 R_r0_1
            have p3x112 := p3x112 r0_1 R_r0_1
            have gx112 := rg x112
            try simp only [q111, e59, e56] at p0x112
            try have q0x112 := congrArg Int32.toInt p0x112
            try simp only [q111, e59, e56] at p1x112
            try have q1x112 := congrArg Int32.toInt p1x112
            try simp only [q111, e59, e56] at p2x112
            try have q2x112 := congrArg Int32.toInt p2x112
            try simp only [q111, e59, e56] at p3x112
            try have q3x112 := congrArg Int32.toInt p3x112
            refine k_goto C (pc2 := 66) rfl rfl ?_
            have q113 : x87.toNatClampNeg = 45 := nck (by omega)
            refine c_VV C (a_X12_widens hI52 H_r0 (by omega) (by omega) (by omega) (by omega) (by omega) (by omega) (fun a4 h4 => by cases (R_r0_4.symm.trans h4); first | omega | (simp only [q113, e59, e56] <;> omega))) rfl rfl rfl rfl rfl ⟨_, rfl, rfl, T_r0, Nat.le_of_ble_eq_true rfl⟩ rfl rfl (Nat.le_of_ble_eq_true rfl) (Nat.le_of_ble_eq_true rfl) (Nat.le_of_ble_eq_true rfl) ?_
            rintro I115 L116 ⟨p0v114, p1v114, p2v114, hI115, S117⟩
            have p0v114 := p0v114 r0_4 R_r0_4
            have p1v114 := p1v114 r0_4 R_r0_4
            have p2v114 := p2v114 r0_5 R_r0_5
            try simp only [q113] at p1v114
            have F118 : ∀ r : Nat, r ≠ 45 → I115 r0_4 r = I46 r0_4 r := fun r z0 => p1v114 r (by first | exact z0)
            try simp only [q113] at p2v114
            have F119 : ∀ r : Nat, (r < 41 * 45 ∨ 41 * 45 + 41 ≤ r) → I115 r0_5 r = I46 r0_5 r := fun r z0 => p2v114 r (by first | exact z0)
            have e120 := CM.j S117 R_r0_1 (by decide) e59
            obtain ⟨x122, e123⟩ : ∃ x, I115 r0_4 45 = x := ⟨_, rfl⟩
            have gx122 := rg x122
            have ox122 := IM.dgR hI115 R_r0_4 e123
            try simp only [q113, e59, e56, e123] at p0v114
            try have q0v114 := congrArg Int32.toInt p0v114
            refine z_iinc C (z := 1) (lw := fun x124 => [(3, .int x124), (0, .ref r0), (1, .int n1), (2, .int x6)]) rfl rfl rfl (Nat.le_of_ble_eq_true rfl) rfl ⟨by omega, by omega⟩ (fun _ => rfl) (fun x124 ex124 => ?_)
            show V 72 [(3, .int x124), (0, .ref r0), (1, .int n1), (2, .int x6)] _ _ _ _
            refine k_goto C (pc2 := 27) rfl rfl ?_
            refine k_sub S [(0, .ref r0), (1, .int n1), (2, .int x6), (3, .int x124)] (List.forall_mem_cons.mpr ⟨List.mem_of_getElem? (i := 1) rfl, List.forall_mem_cons.mpr ⟨List.mem_of_getElem? (i := 2) rfl, List.forall_mem_cons.mpr ⟨List.mem_of_getElem? (i := 3) rfl, List.forall_mem_cons.mpr ⟨List.mem_of_getElem? (i := 0) rfl, fun _ h => nomatch h⟩⟩⟩⟩) ?_
            exact ihJ44 _ (MN.lt hmnn45 (by omega) (by omega)) I115 L116 x124 x122 rfl hI115 (CM.cons S51 (CM.mono S117 (by decide) (by decide)) (by decide) (by decide)) (fun r z0 => ((F118 r z0).trans (F53 r z0))) (fun r z0 => ((F119 r z0).trans (F54 r z0))) (by omega) (by omega) e123 (by omega) (by omega) (by omega)
          refine b_icmp_ge C (t := 47) rfl rfl rfl (fun c125 => ?_) (fun c125 => ?_)
          · skip
            refine z_iconst C (z := 0) rfl rfl rfl (fun x126 ex126 => ?_)
            refine k_sub S [(0, .ref r0), (1, .int n1), (2, .int x6), (3, .int x48)] (List.forall_mem_cons.mpr ⟨List.mem_of_getElem? (i := 0) rfl, List.forall_mem_cons.mpr ⟨List.mem_of_getElem? (i := 1) rfl, List.forall_mem_cons.mpr ⟨List.mem_of_getElem? (i := 2) rfl, List.forall_mem_cons.mpr ⟨List.mem_of_getElem? (i := 3) rfl, fun _ h => nomatch h⟩⟩⟩⟩) ?_
            exact J89 x126 (by omega) (by omega)
          refine z_iconst C (z := 1) rfl rfl rfl (fun x127 ex127 => ?_)
          refine k_goto C (pc2 := 48) rfl rfl ?_
          refine k_sub S [(0, .ref r0), (1, .int n1), (2, .int x6), (3, .int x48)] (List.forall_mem_cons.mpr ⟨List.mem_of_getElem? (i := 0) rfl, List.forall_mem_cons.mpr ⟨List.mem_of_getElem? (i := 1) rfl, List.forall_mem_cons.mpr ⟨List.mem_of_getElem? (i := 2) rfl, List.forall_mem_cons.mpr ⟨List.mem_of_getElem? (i := 3) rfl, fun _ h => nomatch h⟩⟩⟩⟩) ?_
          exact J89 x127 (by omega) (by omega)
      refine k_istore_n C (lw := [(3, .int x43), (0, .ref r0), (1, .int n1), (2, .int x6)]) rfl rfl (Nat.le_of_ble_eq_true rfl) rfl ?_
      refine k_sub S [(0, .ref r0), (1, .int n1), (2, .int x6), (3, .int x43)] (List.forall_mem_cons.mpr ⟨List.mem_of_getElem? (i := 1) rfl, List.forall_mem_cons.mpr ⟨List.mem_of_getElem? (i := 2) rfl, List.forall_mem_cons.mpr ⟨List.mem_of_getElem? (i := 3) rfl, List.forall_mem_cons.mpr ⟨List.mem_of_getElem? (i := 0) rfl, fun _ h => nomatch h⟩⟩⟩⟩) ?_
      exact J44 _ I37 L38 x43 x28 rfl hI37 CM.rf (fun r z0 => rfl) (fun r z0 => rfl) (by omega) (by omega) e42 (by omega) (by omega) (by omega)
  refine k_istore_n C (lw := [(2, .int x1), (0, .ref r0), (1, .int n1)]) rfl rfl (Nat.le_of_ble_eq_true rfl) rfl ?_
  refine k_sub S [(0, .ref r0), (1, .int n1), (2, .int x1)] (List.forall_mem_cons.mpr ⟨List.mem_of_getElem? (i := 1) rfl, List.forall_mem_cons.mpr ⟨List.mem_of_getElem? (i := 2) rfl, List.forall_mem_cons.mpr ⟨List.mem_of_getElem? (i := 0) rfl, fun _ h => nomatch h⟩⟩⟩) ?_
  exact J2 _ I L x1 rfl hI CM.rf (fun r z0 => rfl) (fun r z0 => rfl) (by omega) (by omega)

theorem a_X12_isLast {d : Nat} {T N : Nat → Nat} {I : IT} {L : LT} {R : RT} {A : Nat → Prop} {r0 : Nat} {n1 : Int32} (hI : IM R r0 I) (H_r0 : (h_MD T N R A) r0) (b0_n1 : 0 ≤ n1.toInt) (b1_n1 : n1.toInt ≤ 2) (hp0 : ∀ a4, R r0 4 = some a4 → (I a4 40).toInt ≤ 8) : Ex (d + 3) 283 [.ref r0, .int n1] (T, N, I, L, R) 0 0 (pI T N R (fun x9 I9 L9 => (0 ≤ x9.toInt) ∧ (x9.toInt ≤ 1) ∧ (∀ a4, R r0 4 = some a4 → ∀ r : Nat, r ≠ 42 → I9 a4 r = I a4 r) ∧ (IM R r0 I9 ∧ CM A R r0 [] [4, 5, 28] I L I9 L9))) := by
  refine ⟨_, rfl, Nat.le_of_ble_eq_true rfl, fun V C S => ?_⟩
  show V 0 [(0, .ref r0), (1, .int n1)] [] (T, N, I, L, R) 0 0
  have gn1 := rg n1
  obtain ⟨T_r0, A_r0, ⟨r0_1, R_r0_1, H_r0_1⟩, ⟨r0_2, R_r0_2, H_r0_2⟩, ⟨r0_4, R_r0_4, H_r0_4⟩, ⟨r0_5, R_r0_5, H_r0_5⟩, ⟨r0_10, R_r0_10, H_r0_10⟩, ⟨r0_18, R_r0_18, H_r0_18⟩, ⟨r0_20, R_r0_20, H_r0_20⟩, ⟨r0_21, R_r0_21, H_r0_21⟩, ⟨r0_22, R_r0_22, H_r0_22⟩, ⟨r0_23, R_r0_23, H_r0_23⟩, ⟨r0_25, R_r0_25, H_r0_25⟩, ⟨r0_26, R_r0_26, H_r0_26⟩, ⟨r0_27, R_r0_27, H_r0_27⟩, ⟨r0_28, R_r0_28, H_r0_28⟩, ⟨r0_34, R_r0_34, H_r0_34⟩, J_r0, Y_r0⟩ := id H_r0
  have G_r0 : mF T R r0 := ⟨J_r0, Y_r0, T_r0⟩
  obtain ⟨w_r0_4_40, k0_r0_4_40⟩ : ∃ x, I r0_4 40 = x := ⟨_, rfl⟩
  have gw_r0_4_40 := rg w_r0_4_40
  have ow_r0_4_40 := IM.dgR hI R_r0_4 k0_r0_4_40
  have hp0 := hp0 r0_4 R_r0_4
  try simp only [k0_r0_4_40] at hp0
  refine k_aload_n C rfl rfl rfl ?_
  refine g_R C rfl rfl rfl T_r0 rfl R_r0_27 ?_
  refine k_iload_n C rfl rfl rfl ?_
  obtain ⟨T_r0_27, N_r0_27, A_r0_27⟩ := id H_r0_27
  refine z_aI C rfl rfl T_r0_27 N_r0_27 (by omega) (by omega) (fun x1 ex1 => ?_)
  have gx1 := rg x1
  have ox1 := IM.spR hI R_r0_27 ex1
  refine k_istore_n C (lw := [(2, .int x1), (0, .ref r0), (1, .int n1)]) rfl rfl (Nat.le_of_ble_eq_true rfl) rfl ?_
  refine k_aload_n C rfl rfl rfl ?_
  refine z_bipush C (z := 40) rfl rfl rfl (fun x2 ex2 => ?_)
  refine z_bipush C (z := 42) rfl rfl rfl (fun x3 ex3 => ?_)
  have q4 : x2.toNatClampNeg = 40 := nck (by omega)
  have q5 : x3.toNatClampNeg = 42 := nck (by omega)
  refine c_VV C (a_X12_copies hI H_r0 (by omega) (by omega) (by omega) (by omega) (by first | omega | (simp only [q4, q5, k0_r0_4_40, ex1] <;> omega))) rfl rfl rfl rfl rfl ⟨_, rfl, rfl, T_r0, Nat.le_of_ble_eq_true rfl⟩ rfl rfl (Nat.le_of_ble_eq_true rfl) (Nat.le_of_ble_eq_true rfl) (Nat.le_of_ble_eq_true rfl) ?_
  rintro I7 L8 ⟨p0v6, p1v6, p2v6, p3v6, hI7, S9⟩
  have p0v6 := p0v6 r0_4 R_r0_4
  have p1v6 := p1v6 r0_4 r0_5 R_r0_4 R_r0_5
  have p2v6 := p2v6 r0_4 R_r0_4
  have p3v6 := p3v6 r0_5 R_r0_5
  try simp only [q4, q5] at p2v6
  have F10 : ∀ r : Nat, r ≠ 42 → I7 r0_4 r = I r0_4 r := fun r z0 => p2v6 r (by first | exact z0)
  try simp only [q4, q5] at p3v6
  have e11 := (p2v6 40 (by first | decide | exact ncne (by omega) (by omega) (by omega) | exact nckn (by omega) (by omega) | exact (nckn (by omega) (by omega)).symm)).trans k0_r0_4_40
  have e12 := CM.j S9 R_r0_27 (by decide) ex1
  obtain ⟨x13, e14⟩ : ∃ x, I7 r0_4 42 = x := ⟨_, rfl⟩
  have gx13 := rg x13
  have ox13 := IM.dgR hI7 R_r0_4 e14
  try simp only [q4, q5, k0_r0_4_40, ex1, e14] at p0v6
  try have q0v6 := congrArg Int32.toInt p0v6
  try simp only [q4, q5, k0_r0_4_40, ex1, e14] at p1v6
  try have q1v6 := congrArg Int32.toInt p1v6
  refine z_iconst C (z := 0) rfl rfl rfl (fun x15 ex15 => ?_)
  have J16 : ∀ (nn17 : Nat) (I18 : IT) (L19 : LT) (x20 : Int32), (MN (2 - x20.toInt) nn17) → (IM R r0 I18) → (CM A R r0 [] [5] I7 L8 I18 L19) → (0 ≤ x20.toInt) → (x20.toInt ≤ 2) → V 17 [(0, .ref r0), (1, .int n1), (2, .int x1), (3, .int x20)] [] (T, N, I18, L19, R) 0 0 := by
    intro nn17
    induction nn17 using Nat.strongRecOn with
    | _ nn17 ihJ16 =>
      intro I18 L19 x20 hmnn17 hI24 S23 b21 b22
      have gx20 := rg x20
      have e25 := CM.j S23 R_r0_4 (by decide) e11
      have e26 := CM.j S23 R_r0_27 (by decide) e12
      have e27 := CM.j S23 R_r0_4 (by decide) e14
      refine k_iload_n C rfl rfl rfl ?_
      refine k_iload_n C rfl rfl rfl ?_
      refine b_icmp_ge C (t := 91) rfl rfl rfl (fun c28 => ?_) (fun c28 => ?_)
      · skip
        refine k_iload_n C rfl rfl rfl ?_
        refine k_aload_n C rfl rfl rfl ?_
        refine c_VI C (a_X12_p hI24 H_r0) rfl rfl rfl rfl rfl ⟨_, rfl, rfl, T_r0, Nat.le_of_ble_eq_true rfl⟩ rfl rfl (Nat.le_of_ble_eq_true rfl) (Nat.le_of_ble_eq_true rfl) (Nat.le_of_ble_eq_true rfl) ?_
        rintro x29 _ _ ⟨o0x29, o1x29, p0x29, rfl, rfl⟩
        have p0x29 := p0x29 r0_1 R_r0_1
        have gx29 := rg x29
        obtain ⟨x30, e31⟩ : ∃ x, I18 r0_1 0 = x := ⟨_, rfl⟩
        have gx30 := rg x30
        have ox30 := IM.pi hI24 R_r0_1 e31
        try simp only [e25, e26, e27, e31] at p0x29
        try have q0x29 := congrArg Int32.toInt p0x29
        have J32 : ∀ (x34 : Int32), (-18 ≤ x34.toInt) → (x34.toInt ≤ 18) → V 122 [(0, .ref r0), (1, .int n1), (2, .int x1)] [.int x34] (T, N, I18, L19, R) 0 0 := by
          intro x34 b35 b36
          have gx34 := rg x34
          refine k_istore_n C (lw := [(3, .int x34), (0, .ref r0), (1, .int n1), (2, .int x1)]) rfl rfl (Nat.le_of_ble_eq_true rfl) rfl ?_
          refine k_aload_n C rfl rfl rfl ?_
          refine g_R C rfl rfl rfl T_r0 rfl R_r0_28 ?_
          refine k_iload_n C rfl rfl rfl ?_
          refine k_iload_n C rfl rfl rfl ?_
          obtain ⟨T_r0_28, N_r0_28, A_r0_28⟩ := id H_r0_28
          refine z_sI C rfl rfl T_r0_28 N_r0_28 (by omega) (by omega) (fun I37 uI37 => ?_)
          have hI37 : IM R r0 I37 := IM.arr hI24 G_r0 R_r0_28 ⟨(fun h => absurd h (by decide)), (fun h => absurd h (by decide)), (fun _ => ⟨by omega, by omega⟩)⟩ (fun h => absurd h (by decide)) uI37
          have S38 : CM A R r0 [] [28] I18 L19 I37 L19 := CM.a G_r0 R_r0_28 A_r0_28 uI37
          have e39 := u2_n uI37 (mF.nq G_r0 R_r0_4 R_r0_28 (by decide)) e25
          have e40 := u2_n uI37 (mF.nq G_r0 R_r0_27 R_r0_28 (by decide)) e26
          have e41 := u2_n uI37 (mF.nq G_r0 R_r0_4 R_r0_28 (by decide)) e27
          have e42 := u2_n uI37 (mF.nq G_r0 R_r0_1 R_r0_28 (by decide)) e31
          have e43 := u2_e uI37
          refine k_iload_n C rfl rfl rfl ?_
          refine b_if_eq C (t := 138) rfl rfl rfl (fun c44 => ?_) (fun c44 => ?_)
          · skip
            refine z_iconst C (z := 0) rfl rfl rfl (fun x45 ex45 => ?_)
            refine k_istore C (lw := [(4, .int x45), (3, .int x34), (0, .ref r0), (1, .int n1), (2, .int x1)]) rfl rfl (Nat.le_of_ble_eq_true rfl) rfl ?_
            refine z_iconst C (z := 0) rfl rfl rfl (fun x46 ex46 => ?_)
            have J47 : ∀ (nn48 : Nat) (x49 : Int32) (x52 : Int32), (MN (41 - x52.toInt) nn48) → (0 ≤ x49.toInt) → (x49.toInt ≤ 1) → (0 ≤ x52.toInt) → (x52.toInt ≤ 41) → V 144 [(0, .ref r0), (2, .int x1), (3, .int x34), (4, .int x49), (5, .int x52)] [] (T, N, I37, L19, R) 0 0 := by
              intro nn48
              induction nn48 using Nat.strongRecOn with
              | _ nn48 ihJ47 =>
                intro x49 x52 hmnn48 b50 b51 b53 b54
                have gx49 := rg x49
                have gx52 := rg x52
                refine k_iload C rfl rfl rfl ?_
                refine k_aload_n C rfl rfl rfl ?_
                refine g_R C rfl rfl rfl T_r0 rfl R_r0_4 ?_
                refine z_bipush C (z := 42) rfl rfl rfl (fun x55 ex55 => ?_)
                obtain ⟨T_r0_4, N_r0_4, A_r0_4⟩ := id H_r0_4
                refine a_I C rfl rfl T_r0_4 (by rw [N_r0_4]; exact vpi (by omega) (by omega)) ((congrArg (I37 r0_4) (nck (n := 42) (by omega))).trans e41) ?_
                refine b_icmp_gt C (t := 197) rfl rfl rfl (fun c56 => ?_) (fun c56 => ?_)
                · skip
                  refine k_iload C rfl rfl rfl ?_
                  exact k_iret C rfl (Or.inr ⟨rfl, z01 (by omega) (by omega)⟩) (Nat.le_of_ble_eq_true rfl) (Nat.le_of_ble_eq_true rfl) ⟨_, _, _, rfl, rfl, by omega, by omega, fun a4 h4 => by cases (R_r0_4.symm.trans h4); exact (fun r z0 => ((congrFun (CM.j0 S38 R_r0_4 (by decide)) r).trans ((congrFun (CM.j0 S23 R_r0_4 (by decide)) r).trans (F10 r z0)))), hI37, (CM.cons S9 (CM.cons S23 (CM.mono S38 (by decide) (by decide)) (by decide) (by decide)) (by decide) (by decide))⟩
                refine k_iload C rfl rfl rfl ?_
                refine b_if_eq C (t := 197) rfl rfl rfl (fun c57 => ?_) (fun c57 => ?_)
                · skip
                  refine k_iload C rfl rfl rfl ?_
                  exact k_iret C rfl (Or.inr ⟨rfl, z01 (by omega) (by omega)⟩) (Nat.le_of_ble_eq_true rfl) (Nat.le_of_ble_eq_true rfl) ⟨_, _, _, rfl, rfl, by omega, by omega, fun a4 h4 => by cases (R_r0_4.symm.trans h4); exact (fun r z0 => ((congrFun (CM.j0 S38 R_r0_4 (by decide)) r).trans ((congrFun (CM.j0 S23 R_r0_4 (by decide)) r).trans (F10 r z0)))), hI37, (CM.cons S9 (CM.cons S23 (CM.mono S38 (by decide) (by decide)) (by decide) (by decide)) (by decide) (by decide))⟩
                refine k_aload_n C rfl rfl rfl ?_
                refine z_bipush C (z := 42) rfl rfl rfl (fun x58 ex58 => ?_)
                refine k_iload C rfl rfl rfl ?_
                have q59 : x58.toNatClampNeg = 42 := nck (by omega)
                refine c_VI C (a_X12_of hI37 H_r0 (by omega) (by omega) (by omega) (by omega)) rfl rfl rfl rfl rfl ⟨_, rfl, rfl, T_r0, Nat.le_of_ble_eq_true rfl⟩ rfl rfl (Nat.le_of_ble_eq_true rfl) (Nat.le_of_ble_eq_true rfl) (Nat.le_of_ble_eq_true rfl) ?_
                rintro x60 _ _ ⟨o0x60, o1x60, p0x60, rfl, rfl⟩
                have p0x60 := p0x60 r0_5 R_r0_5
                have gx60 := rg x60
                try simp only [q59, e39, e40, e41, e42, e43] at p0x60
                try have q0x60 := congrArg Int32.toInt p0x60
                refine k_aload_n C rfl rfl rfl ?_
                refine k_iload_n C rfl rfl rfl ?_
                refine k_aload_n C rfl rfl rfl ?_
                refine k_iload_n C rfl rfl rfl ?_
                refine k_iload C rfl rfl rfl ?_
                refine c_VI C (a_X12_powerAt hI37 H_r0 (by omega) (by omega) (by omega) (by omega)) rfl rfl rfl rfl rfl ⟨_, rfl, rfl, T_r0, Nat.le_of_ble_eq_true rfl⟩ rfl rfl (Nat.le_of_ble_eq_true rfl) (Nat.le_of_ble_eq_true rfl) (Nat.le_of_ble_eq_true rfl) ?_
                rintro x61 _ _ ⟨o0x61, o1x61, rfl, rfl⟩
                have gx61 := rg x61
                have q62 : x34.toNatClampNeg = 0 := nck (by omega)
                refine c_VI C (a_X12_times hI37 H_r0 (by omega) (by omega) (by omega) (by omega)) rfl rfl rfl rfl rfl ⟨_, rfl, rfl, T_r0, Nat.le_of_ble_eq_true rfl⟩ rfl rfl (Nat.le_of_ble_eq_true rfl) (Nat.le_of_ble_eq_true rfl) (Nat.le_of_ble_eq_true rfl) ?_
                rintro x63 _ _ ⟨o0x63, o1x63, p0x63, p1x63, p2x63, p3x63, rfl, rfl⟩
                have p0x63 := p0x63 r0_1 R_r0_1
                have p2x63 := p2x63 r0_1 R_r0_1
                have p3x63 := p3x63 r0_1 R_r0_1
                have gx63 := rg x63
                try simp only [q62, e39, e40, e41, e42, e43] at p0x63
                try have q0x63 := congrArg Int32.toInt p0x63
                try simp only [q62, e39, e40, e41, e42, e43] at p1x63
                try have q1x63 := congrArg Int32.toInt p1x63
                try simp only [q62, e39, e40, e41, e42, e43] at p2x63
                try have q2x63 := congrArg Int32.toInt p2x63
                try simp only [q62, e39, e40, e41, e42, e43] at p3x63
                try have q3x63 := congrArg Int32.toInt p3x63
                refine b_icmp_ne C (t := 188) rfl rfl rfl (fun c64 => ?_) (fun c64 => ?_)
                · skip
                  refine z_iconst C (z := 0) rfl rfl rfl (fun x65 ex65 => ?_)
                  refine k_istore C (lw := [(4, .int x65), (0, .ref r0), (2, .int x1), (3, .int x34), (5, .int x52)]) rfl rfl (Nat.le_of_ble_eq_true rfl) rfl ?_
                  refine z_iinc C (z := 1) (lw := fun x66 => [(5, .int x66), (4, .int x65), (0, .ref r0), (2, .int x1), (3, .int x34)]) rfl rfl rfl (Nat.le_of_ble_eq_true rfl) rfl ⟨by omega, by omega⟩ (fun _ => rfl) (fun x66 ex66 => ?_)
                  show V 194 [(5, .int x66), (4, .int x65), (0, .ref r0), (2, .int x1), (3, .int x34)] _ _ _ _
                  refine k_goto C (pc2 := 144) rfl rfl ?_
                  refine k_sub S [(0, .ref r0), (2, .int x1), (3, .int x34), (4, .int x65), (5, .int x66)] (List.forall_mem_cons.mpr ⟨List.mem_of_getElem? (i := 2) rfl, List.forall_mem_cons.mpr ⟨List.mem_of_getElem? (i := 3) rfl, List.forall_mem_cons.mpr ⟨List.mem_of_getElem? (i := 4) rfl, List.forall_mem_cons.mpr ⟨List.mem_of_getElem? (i := 1) rfl, List.forall_mem_cons.mpr ⟨List.mem_of_getElem? (i := 0) rfl, fun _ h => nomatch h⟩⟩⟩⟩⟩) ?_
                  exact ihJ47 _ (MN.lt hmnn48 (by omega) (by omega)) x65 x66 rfl (by omega) (by omega) (by omega) (by omega)
                refine z_iconst C (z := 1) rfl rfl rfl (fun x67 ex67 => ?_)
                refine k_goto C (pc2 := 189) rfl rfl ?_
                refine k_istore C (lw := [(4, .int x67), (0, .ref r0), (2, .int x1), (3, .int x34), (5, .int x52)]) rfl rfl (Nat.le_of_ble_eq_true rfl) rfl ?_
                refine z_iinc C (z := 1) (lw := fun x68 => [(5, .int x68), (4, .int x67), (0, .ref r0), (2, .int x1), (3, .int x34)]) rfl rfl rfl (Nat.le_of_ble_eq_true rfl) rfl ⟨by omega, by omega⟩ (fun _ => rfl) (fun x68 ex68 => ?_)
                show V 194 [(5, .int x68), (4, .int x67), (0, .ref r0), (2, .int x1), (3, .int x34)] _ _ _ _
                refine k_goto C (pc2 := 144) rfl rfl ?_
                refine k_sub S [(0, .ref r0), (2, .int x1), (3, .int x34), (4, .int x67), (5, .int x68)] (List.forall_mem_cons.mpr ⟨List.mem_of_getElem? (i := 2) rfl, List.forall_mem_cons.mpr ⟨List.mem_of_getElem? (i := 3) rfl, List.forall_mem_cons.mpr ⟨List.mem_of_getElem? (i := 4) rfl, List.forall_mem_cons.mpr ⟨List.mem_of_getElem? (i := 1) rfl, List.forall_mem_cons.mpr ⟨List.mem_of_getElem? (i := 0) rfl, fun _ h => nomatch h⟩⟩⟩⟩⟩) ?_
                exact ihJ47 _ (MN.lt hmnn48 (by omega) (by omega)) x67 x68 rfl (by omega) (by omega) (by omega) (by omega)
            refine k_istore C (lw := [(5, .int x46), (4, .int x45), (3, .int x34), (0, .ref r0), (1, .int n1), (2, .int x1)]) rfl rfl (Nat.le_of_ble_eq_true rfl) rfl ?_
            refine k_sub S [(0, .ref r0), (2, .int x1), (3, .int x34), (4, .int x45), (5, .int x46)] (List.forall_mem_cons.mpr ⟨List.mem_of_getElem? (i := 3) rfl, List.forall_mem_cons.mpr ⟨List.mem_of_getElem? (i := 5) rfl, List.forall_mem_cons.mpr ⟨List.mem_of_getElem? (i := 2) rfl, List.forall_mem_cons.mpr ⟨List.mem_of_getElem? (i := 1) rfl, List.forall_mem_cons.mpr ⟨List.mem_of_getElem? (i := 0) rfl, fun _ h => nomatch h⟩⟩⟩⟩⟩) ?_
            exact J47 _ x45 x46 rfl (by omega) (by omega) (by omega) (by omega)
          refine z_iconst C (z := 1) rfl rfl rfl (fun x69 ex69 => ?_)
          refine k_goto C (pc2 := 139) rfl rfl ?_
          refine k_istore C (lw := [(4, .int x69), (3, .int x34), (0, .ref r0), (1, .int n1), (2, .int x1)]) rfl rfl (Nat.le_of_ble_eq_true rfl) rfl ?_
          refine z_iconst C (z := 0) rfl rfl rfl (fun x70 ex70 => ?_)
          have J71 : ∀ (nn72 : Nat) (x73 : Int32) (x76 : Int32), (MN (41 - x76.toInt) nn72) → (0 ≤ x73.toInt) → (x73.toInt ≤ 1) → (0 ≤ x76.toInt) → (x76.toInt ≤ 41) → V 144 [(0, .ref r0), (2, .int x1), (3, .int x34), (4, .int x73), (5, .int x76)] [] (T, N, I37, L19, R) 0 0 := by
            intro nn72
            induction nn72 using Nat.strongRecOn with
            | _ nn72 ihJ71 =>
              intro x73 x76 hmnn72 b74 b75 b77 b78
              have gx73 := rg x73
              have gx76 := rg x76
              refine k_iload C rfl rfl rfl ?_
              refine k_aload_n C rfl rfl rfl ?_
              refine g_R C rfl rfl rfl T_r0 rfl R_r0_4 ?_
              refine z_bipush C (z := 42) rfl rfl rfl (fun x79 ex79 => ?_)
              obtain ⟨T_r0_4, N_r0_4, A_r0_4⟩ := id H_r0_4
              refine a_I C rfl rfl T_r0_4 (by rw [N_r0_4]; exact vpi (by omega) (by omega)) ((congrArg (I37 r0_4) (nck (n := 42) (by omega))).trans e41) ?_
              refine b_icmp_gt C (t := 197) rfl rfl rfl (fun c80 => ?_) (fun c80 => ?_)
              · skip
                refine k_iload C rfl rfl rfl ?_
                exact k_iret C rfl (Or.inr ⟨rfl, z01 (by omega) (by omega)⟩) (Nat.le_of_ble_eq_true rfl) (Nat.le_of_ble_eq_true rfl) ⟨_, _, _, rfl, rfl, by omega, by omega, fun a4 h4 => by cases (R_r0_4.symm.trans h4); exact (fun r z0 => ((congrFun (CM.j0 S38 R_r0_4 (by decide)) r).trans ((congrFun (CM.j0 S23 R_r0_4 (by decide)) r).trans (F10 r z0)))), hI37, (CM.cons S9 (CM.cons S23 (CM.mono S38 (by decide) (by decide)) (by decide) (by decide)) (by decide) (by decide))⟩
              refine k_iload C rfl rfl rfl ?_
              refine b_if_eq C (t := 197) rfl rfl rfl (fun c81 => ?_) (fun c81 => ?_)
              · skip
                refine k_iload C rfl rfl rfl ?_
                exact k_iret C rfl (Or.inr ⟨rfl, z01 (by omega) (by omega)⟩) (Nat.le_of_ble_eq_true rfl) (Nat.le_of_ble_eq_true rfl) ⟨_, _, _, rfl, rfl, by omega, by omega, fun a4 h4 => by cases (R_r0_4.symm.trans h4); exact (fun r z0 => ((congrFun (CM.j0 S38 R_r0_4 (by decide)) r).trans ((congrFun (CM.j0 S23 R_r0_4 (by decide)) r).trans (F10 r z0)))), hI37, (CM.cons S9 (CM.cons S23 (CM.mono S38 (by decide) (by decide)) (by decide) (by decide)) (by decide) (by decide))⟩
              refine k_aload_n C rfl rfl rfl ?_
              refine z_bipush C (z := 42) rfl rfl rfl (fun x82 ex82 => ?_)
              refine k_iload C rfl rfl rfl ?_
              have q83 : x82.toNatClampNeg = 42 := nck (by omega)
              refine c_VI C (a_X12_of hI37 H_r0 (by omega) (by omega) (by omega) (by omega)) rfl rfl rfl rfl rfl ⟨_, rfl, rfl, T_r0, Nat.le_of_ble_eq_true rfl⟩ rfl rfl (Nat.le_of_ble_eq_true rfl) (Nat.le_of_ble_eq_true rfl) (Nat.le_of_ble_eq_true rfl) ?_
              rintro x84 _ _ ⟨o0x84, o1x84, p0x84, rfl, rfl⟩
              have p0x84 := p0x84 r0_5 R_r0_5
              have gx84 := rg x84
              try simp only [q83, e39, e40, e41, e42, e43] at p0x84
              try have q0x84 := congrArg Int32.toInt p0x84
              refine k_aload_n C rfl rfl rfl ?_
              refine k_iload_n C rfl rfl rfl ?_
              refine k_aload_n C rfl rfl rfl ?_
              refine k_iload_n C rfl rfl rfl ?_
              refine k_iload C rfl rfl rfl ?_
              refine c_VI C (a_X12_powerAt hI37 H_r0 (by omega) (by omega) (by omega) (by omega)) rfl rfl rfl rfl rfl ⟨_, rfl, rfl, T_r0, Nat.le_of_ble_eq_true rfl⟩ rfl rfl (Nat.le_of_ble_eq_true rfl) (Nat.le_of_ble_eq_true rfl) (Nat.le_of_ble_eq_true rfl) ?_
              rintro x85 _ _ ⟨o0x85, o1x85, rfl, rfl⟩
              have gx85 := rg x85
              refine c_VI C (a_X12_times hI37 H_r0 (by omega) (by omega) (by omega) (by omega)) rfl rfl rfl rfl rfl ⟨_, rfl, rfl, T_r0, Nat.le_of_ble_eq_true rfl⟩ rfl rfl (Nat.le_of_ble_eq_true rfl) (Nat.le_of_ble_eq_true rfl) (Nat.le_of_ble_eq_true rfl) ?_
              rintro x86 _ _ ⟨o0x86, o1x86, p0x86, p1x86, p2x86, p3x86, rfl, rfl⟩
              have p0x86 := p0x86 r0_1 R_r0_1
              have p2x86 := p2x86 r0_1 R_r0_1
              have p3x86 := p3x86 r0_1 R_r0_1
              have gx86 := rg x86
              try simp only [e39, e40, e41, e42, e43] at p0x86
              try have q0x86 := congrArg Int32.toInt p0x86
              try simp only [e39, e40, e41, e42, e43] at p1x86
              try have q1x86 := congrArg Int32.toInt p1x86
              try simp only [e39, e40, e41, e42, e43] at p2x86
              try have q2x86 := congrArg Int32.toInt p2x86
              try simp only [e39, e40, e41, e42, e43] at p3x86
              try have q3x86 := congrArg Int32.toInt p3x86
              refine b_icmp_ne C (t := 188) rfl rfl rfl (fun c87 => ?_) (fun c87 => ?_)
              · skip
                refine z_iconst C (z := 0) rfl rfl rfl (fun x88 ex88 => ?_)
                refine k_istore C (lw := [(4, .int x88), (0, .ref r0), (2, .int x1), (3, .int x34), (5, .int x76)]) rfl rfl (Nat.le_of_ble_eq_true rfl) rfl ?_
                refine z_iinc C (z := 1) (lw := fun x89 => [(5, .int x89), (4, .int x88), (0, .ref r0), (2, .int x1), (3, .int x34)]) rfl rfl rfl (Nat.le_of_ble_eq_true rfl) rfl ⟨by omega, by omega⟩ (fun _ => rfl) (fun x89 ex89 => ?_)
                show V 194 [(5, .int x89), (4, .int x88), (0, .ref r0), (2, .int x1), (3, .int x34)] _ _ _ _
                refine k_goto C (pc2 := 144) rfl rfl ?_
                refine k_sub S [(0, .ref r0), (2, .int x1), (3, .int x34), (4, .int x88), (5, .int x89)] (List.forall_mem_cons.mpr ⟨List.mem_of_getElem? (i := 2) rfl, List.forall_mem_cons.mpr ⟨List.mem_of_getElem? (i := 3) rfl, List.forall_mem_cons.mpr ⟨List.mem_of_getElem? (i := 4) rfl, List.forall_mem_cons.mpr ⟨List.mem_of_getElem? (i := 1) rfl, List.forall_mem_cons.mpr ⟨List.mem_of_getElem? (i := 0) rfl, fun _ h => nomatch h⟩⟩⟩⟩⟩) ?_
                exact ihJ71 _ (MN.lt hmnn72 (by omega) (by omega)) x88 x89 rfl (by omega) (by omega) (by omega) (by omega)
              refine z_iconst C (z := 1) rfl rfl rfl (fun x90 ex90 => ?_)
              refine k_goto C (pc2 := 189) rfl rfl ?_
              refine k_istore C (lw := [(4, .int x90), (0, .ref r0), (2, .int x1), (3, .int x34), (5, .int x76)]) rfl rfl (Nat.le_of_ble_eq_true rfl) rfl ?_
              refine z_iinc C (z := 1) (lw := fun x91 => [(5, .int x91), (4, .int x90), (0, .ref r0), (2, .int x1), (3, .int x34)]) rfl rfl rfl (Nat.le_of_ble_eq_true rfl) rfl ⟨by omega, by omega⟩ (fun _ => rfl) (fun x91 ex91 => ?_)
              show V 194 [(5, .int x91), (4, .int x90), (0, .ref r0), (2, .int x1), (3, .int x34)] _ _ _ _
              refine k_goto C (pc2 := 144) rfl rfl ?_
              refine k_sub S [(0, .ref r0), (2, .int x1), (3, .int x34), (4, .int x90), (5, .int x91)] (List.forall_mem_cons.mpr ⟨List.mem_of_getElem? (i := 2) rfl, List.forall_mem_cons.mpr ⟨List.mem_of_getElem? (i := 3) rfl, List.forall_mem_cons.mpr ⟨List.mem_of_getElem? (i := 4) rfl, List.forall_mem_cons.mpr ⟨List.mem_of_getElem? (i := 1) rfl, List.forall_mem_cons.mpr ⟨List.mem_of_getElem? (i := 0) rfl, fun _ h => nomatch h⟩⟩⟩⟩⟩) ?_
              exact ihJ71 _ (MN.lt hmnn72 (by omega) (by omega)) x90 x91 rfl (by omega) (by omega) (by omega) (by omega)
          refine k_istore C (lw := [(5, .int x70), (4, .int x69), (3, .int x34), (0, .ref r0), (1, .int n1), (2, .int x1)]) rfl rfl (Nat.le_of_ble_eq_true rfl) rfl ?_
          refine k_sub S [(0, .ref r0), (2, .int x1), (3, .int x34), (4, .int x69), (5, .int x70)] (List.forall_mem_cons.mpr ⟨List.mem_of_getElem? (i := 3) rfl, List.forall_mem_cons.mpr ⟨List.mem_of_getElem? (i := 5) rfl, List.forall_mem_cons.mpr ⟨List.mem_of_getElem? (i := 2) rfl, List.forall_mem_cons.mpr ⟨List.mem_of_getElem? (i := 1) rfl, List.forall_mem_cons.mpr ⟨List.mem_of_getElem? (i := 0) rfl, fun _ h => nomatch h⟩⟩⟩⟩⟩) ?_
          exact J71 _ x69 x70 rfl (by omega) (by omega) (by omega) (by omega)
        refine b_icmp_ge C (t := 109) rfl rfl rfl (fun c92 => ?_) (fun c92 => ?_)
        · skip
          refine k_aload_n C rfl rfl rfl ?_
          refine z_bipush C (z := 42) rfl rfl rfl (fun x93 ex93 => ?_)
          refine k_aload_n C rfl rfl rfl ?_
          refine g_R C rfl rfl rfl T_r0 rfl R_r0_4 ?_
          refine z_bipush C (z := 42) rfl rfl rfl (fun x94 ex94 => ?_)
          obtain ⟨T_r0_4, N_r0_4, A_r0_4⟩ := id H_r0_4
          refine a_I C rfl rfl T_r0_4 (by rw [N_r0_4]; exact vpi (by omega) (by omega)) ((congrArg (I18 r0_4) (nck (n := 42) (by omega))).trans e27) ?_
          have q95 : x93.toNatClampNeg = 42 := nck (by omega)
          refine c_VI C (a_X12_of hI24 H_r0 (by omega) (by omega) (by omega) (by omega)) rfl rfl rfl rfl rfl ⟨_, rfl, rfl, T_r0, Nat.le_of_ble_eq_true rfl⟩ rfl rfl (Nat.le_of_ble_eq_true rfl) (Nat.le_of_ble_eq_true rfl) (Nat.le_of_ble_eq_true rfl) ?_
          rintro x96 _ _ ⟨o0x96, o1x96, p0x96, rfl, rfl⟩
          have p0x96 := p0x96 r0_5 R_r0_5
          have gx96 := rg x96
          try simp only [q95, e25, e26, e27, e31] at p0x96
          try have q0x96 := congrArg Int32.toInt p0x96
          refine k_sub S [(0, .ref r0), (1, .int n1), (2, .int x1)] (List.forall_mem_cons.mpr ⟨List.mem_of_getElem? (i := 0) rfl, List.forall_mem_cons.mpr ⟨List.mem_of_getElem? (i := 1) rfl, List.forall_mem_cons.mpr ⟨List.mem_of_getElem? (i := 2) rfl, fun _ h => nomatch h⟩⟩⟩) ?_
          exact J32 x96 (by omega) (by omega)
        refine k_aload_n C rfl rfl rfl ?_
        refine z_bipush C (z := 42) rfl rfl rfl (fun x97 ex97 => ?_)
        refine z_iconst C (z := 0) rfl rfl rfl (fun x98 ex98 => ?_)
        have q99 : x97.toNatClampNeg = 42 := nck (by omega)
        have q100 : x98.toNatClampNeg = 0 := nck (by omega)
        refine c_VI C (a_X12_of hI24 H_r0 (by omega) (by omega) (by omega) (by omega)) rfl rfl rfl rfl rfl ⟨_, rfl, rfl, T_r0, Nat.le_of_ble_eq_true rfl⟩ rfl rfl (Nat.le_of_ble_eq_true rfl) (Nat.le_of_ble_eq_true rfl) (Nat.le_of_ble_eq_true rfl) ?_
        rintro x101 _ _ ⟨o0x101, o1x101, p0x101, rfl, rfl⟩
        have p0x101 := p0x101 r0_5 R_r0_5
        have gx101 := rg x101
        try simp only [q99, q100, e25, e26, e27, e31] at p0x101
        try have q0x101 := congrArg Int32.toInt p0x101
        refine k_goto C (pc2 := 122) rfl rfl ?_
        refine k_sub S [(0, .ref r0), (1, .int n1), (2, .int x1)] (List.forall_mem_cons.mpr ⟨List.mem_of_getElem? (i := 0) rfl, List.forall_mem_cons.mpr ⟨List.mem_of_getElem? (i := 1) rfl, List.forall_mem_cons.mpr ⟨List.mem_of_getElem? (i := 2) rfl, fun _ h => nomatch h⟩⟩⟩) ?_
        exact J32 x101 (by omega) (by omega)
      refine z_iconst C (z := 0) rfl rfl rfl (fun x102 ex102 => ?_)
      have J103 : ∀ (nn104 : Nat) (I105 : IT) (L106 : LT) (x107 : Int32), (MN (41 - x107.toInt) nn104) → (IM R r0 I105) → (CM A R r0 [] [5] I18 L19 I105 L106) → (0 ≤ x107.toInt) → (x107.toInt ≤ 41) → V 25 [(0, .ref r0), (1, .int n1), (2, .int x1), (3, .int x20), (4, .int x107)] [] (T, N, I105, L106, R) 0 0 := by
        intro nn104
        induction nn104 using Nat.strongRecOn with
        | _ nn104 ihJ103 =>
          intro I105 L106 x107 hmnn104 hI111 S110 b108 b109
          have gx107 := rg x107
          have e112 := CM.j S110 R_r0_4 (by decide) e25
          have e113 := CM.j S110 R_r0_27 (by decide) e26
          have e114 := CM.j S110 R_r0_4 (by decide) e27
          refine k_iload C rfl rfl rfl ?_
          refine k_aload_n C rfl rfl rfl ?_
          refine g_R C rfl rfl rfl T_r0 rfl R_r0_4 ?_
          refine z_bipush C (z := 42) rfl rfl rfl (fun x115 ex115 => ?_)
          obtain ⟨T_r0_4, N_r0_4, A_r0_4⟩ := id H_r0_4
          refine a_I C rfl rfl T_r0_4 (by rw [N_r0_4]; exact vpi (by omega) (by omega)) ((congrArg (I105 r0_4) (nck (n := 42) (by omega))).trans e114) ?_
          refine b_icmp_gt C (t := 85) rfl rfl rfl (fun c116 => ?_) (fun c116 => ?_)
          · skip
            refine z_iinc C (z := 1) (lw := fun x117 => [(3, .int x117), (0, .ref r0), (1, .int n1), (2, .int x1), (4, .int x107)]) rfl rfl rfl (Nat.le_of_ble_eq_true rfl) rfl ⟨by omega, by omega⟩ (fun _ => rfl) (fun x117 ex117 => ?_)
            show V 88 [(3, .int x117), (0, .ref r0), (1, .int n1), (2, .int x1), (4, .int x107)] _ _ _ _
            refine k_goto C (pc2 := 17) rfl rfl ?_
            refine k_sub S [(0, .ref r0), (1, .int n1), (2, .int x1), (3, .int x117)] (List.forall_mem_cons.mpr ⟨List.mem_of_getElem? (i := 1) rfl, List.forall_mem_cons.mpr ⟨List.mem_of_getElem? (i := 2) rfl, List.forall_mem_cons.mpr ⟨List.mem_of_getElem? (i := 3) rfl, List.forall_mem_cons.mpr ⟨List.mem_of_getElem? (i := 0) rfl, fun _ h => nomatch h⟩⟩⟩⟩) ?_
            exact ihJ16 _ (MN.lt hmnn17 (by omega) (by omega)) I105 L106 x117 rfl hI111 (CM.cons S23 (CM.mono S110 (by decide) (by decide)) (by decide) (by decide)) (by omega) (by omega)
          refine k_aload_n C rfl rfl rfl ?_
          refine z_bipush C (z := 42) rfl rfl rfl (fun x118 ex118 => ?_)
          refine k_iload C rfl rfl rfl ?_
          refine k_aload_n C rfl rfl rfl ?_
          refine k_aload_n C rfl rfl rfl ?_
          refine z_bipush C (z := 42) rfl rfl rfl (fun x119 ex119 => ?_)
          refine k_iload C rfl rfl rfl ?_
          have q120 : x119.toNatClampNeg = 42 := nck (by omega)
          refine c_VI C (a_X12_of hI111 H_r0 (by omega) (by omega) (by omega) (by omega)) rfl rfl rfl rfl rfl ⟨_, rfl, rfl, T_r0, Nat.le_of_ble_eq_true rfl⟩ rfl rfl (Nat.le_of_ble_eq_true rfl) (Nat.le_of_ble_eq_true rfl) (Nat.le_of_ble_eq_true rfl) ?_
          rintro x121 _ _ ⟨o0x121, o1x121, p0x121, rfl, rfl⟩
          have p0x121 := p0x121 r0_5 R_r0_5
          have gx121 := rg x121
          try simp only [q120, e112, e113, e114] at p0x121
          try have q0x121 := congrArg Int32.toInt p0x121
          refine k_aload_n C rfl rfl rfl ?_
          refine k_aload_n C rfl rfl rfl ?_
          refine g_R C rfl rfl rfl T_r0 rfl R_r0_28 ?_
          refine k_iload_n C rfl rfl rfl ?_
          obtain ⟨T_r0_28, N_r0_28, A_r0_28⟩ := id H_r0_28
          refine z_aI C rfl rfl T_r0_28 N_r0_28 (by omega) (by omega) (fun x122 ex122 => ?_)
          have gx122 := rg x122
          have ox122 := IM.faR hI111 R_r0_28 ex122
          refine k_aload_n C rfl rfl rfl ?_
          refine k_aload_n C rfl rfl rfl ?_
          refine g_R C rfl rfl rfl T_r0 rfl R_r0_27 ?_
          refine k_iload_n C rfl rfl rfl ?_
          refine z_aI C rfl rfl T_r0_27 N_r0_27 (by omega) (by omega) (fun x123 ex123 => ?_)
          have gx123 := rg x123
          have ox123 := IM.spR hI111 R_r0_27 ex123
          refine k_iload C rfl rfl rfl ?_
          refine c_VI C (a_X12_powerAt hI111 H_r0 (by omega) (by omega) (by omega) (by omega)) rfl rfl rfl rfl rfl ⟨_, rfl, rfl, T_r0, Nat.le_of_ble_eq_true rfl⟩ rfl rfl (Nat.le_of_ble_eq_true rfl) (Nat.le_of_ble_eq_true rfl) (Nat.le_of_ble_eq_true rfl) ?_
          rintro x124 _ _ ⟨o0x124, o1x124, rfl, rfl⟩
          have gx124 := rg x124
          obtain ⟨x125, e126⟩ : ∃ x, I105 r0_1 0 = x := ⟨_, rfl⟩
          have gx125 := rg x125
          have ox125 := IM.pi hI111 R_r0_1 e126
          refine c_VI C (a_X12_times hI111 H_r0 (by omega) (by omega) (by omega) (by omega)) rfl rfl rfl rfl rfl ⟨_, rfl, rfl, T_r0, Nat.le_of_ble_eq_true rfl⟩ rfl rfl (Nat.le_of_ble_eq_true rfl) (Nat.le_of_ble_eq_true rfl) (Nat.le_of_ble_eq_true rfl) ?_
          rintro x127 _ _ ⟨o0x127, o1x127, p0x127, p1x127, p2x127, p3x127, rfl, rfl⟩
          have p0x127 := p0x127 r0_1 R_r0_1
          have p2x127 := p2x127 r0_1 R_r0_1
          have p3x127 := p3x127 r0_1 R_r0_1
          have gx127 := rg x127
          try simp only [e112, e113, e114, ex122, ex123, e126] at p0x127
          try have q0x127 := congrArg Int32.toInt p0x127
          try simp only [e112, e113, e114, ex122, ex123, e126] at p1x127
          try have q1x127 := congrArg Int32.toInt p1x127
          try simp only [e112, e113, e114, ex122, ex123, e126] at p2x127
          try have q2x127 := congrArg Int32.toInt p2x127
          try simp only [e112, e113, e114, ex122, ex123, e126] at p3x127
          try have q3x127 := congrArg Int32.toInt p3x127
          refine c_VI C (a_X12_less hI111 H_r0 (by omega) (by omega) (by omega) (by omega)) rfl rfl rfl rfl rfl ⟨_, rfl, rfl, T_r0, Nat.le_of_ble_eq_true rfl⟩ rfl rfl (Nat.le_of_ble_eq_true rfl) (Nat.le_of_ble_eq_true rfl) (Nat.le_of_ble_eq_true rfl) ?_
          rintro x128 _ _ ⟨o0x128, o1x128, p0x128, p1x128, p2x128, p3x128, rfl, rfl⟩
          have p0x128 := p0x128 r0_1 R_r0_1
          have p2x128 := p2x128 r0_1 R_r0_1
          have p3x128 := p3x128 r0_1 R_r0_1
          have gx128 := rg x128
          try simp only [e112, e113, e114, ex122, ex123, e126] at p0x128
          try have q0x128 := congrArg Int32.toInt p0x128
          try simp only [e112, e113, e114, ex122, ex123, e126] at p1x128
          try have q1x128 := congrArg Int32.toInt p1x128
          try simp only [e112, e113, e114, ex122, ex123, e126] at p2x128
          try have q2x128 := congrArg Int32.toInt p2x128
          try simp only [e112, e113, e114, ex122, ex123, e126] at p3x128
          try have q3x128 := congrArg Int32.toInt p3x128
          have q129 : x118.toNatClampNeg = 42 := nck (by omega)
          refine c_VV C (a_X12_put hI111 H_r0 (by omega) (by omega) (by omega) (by omega) (by omega) (by omega)) rfl rfl rfl rfl rfl ⟨_, rfl, rfl, T_r0, Nat.le_of_ble_eq_true rfl⟩ rfl rfl (Nat.le_of_ble_eq_true rfl) (Nat.le_of_ble_eq_true rfl) (Nat.le_of_ble_eq_true rfl) ?_
          rintro I131 L132 ⟨p0v130, p1v130, hI131, S133⟩
          have p0v130 := p0v130 r0_5 R_r0_5
          have p1v130 := p1v130 r0_5 R_r0_5
          try simp only [q129] at p1v130
          have e134 := CM.j S133 R_r0_4 (by decide) e112
          have e135 := CM.j S133 R_r0_27 (by decide) e113
          have e136 := CM.j S133 R_r0_4 (by decide) e114
          have e137 := CM.j S133 R_r0_28 (by decide) ex122
          have e138 := CM.j S133 R_r0_27 (by decide) ex123
          have e139 := CM.j S133 R_r0_1 (by decide) e126
          try simp only [q129, e112, e113, e114, ex122, ex123, e126] at p0v130
          try have q0v130 := congrArg Int32.toInt p0v130
          refine z_iinc C (z := 1) (lw := fun x140 => [(4, .int x140), (0, .ref r0), (1, .int n1), (2, .int x1), (3, .int x20)]) rfl rfl rfl (Nat.le_of_ble_eq_true rfl) rfl ⟨by omega, by omega⟩ (fun _ => rfl) (fun x140 ex140 => ?_)
          show V 82 [(4, .int x140), (0, .ref r0), (1, .int n1), (2, .int x1), (3, .int x20)] _ _ _ _
          refine k_goto C (pc2 := 25) rfl rfl ?_
          refine k_sub S [(0, .ref r0), (1, .int n1), (2, .int x1), (3, .int x20), (4, .int x140)] (List.forall_mem_cons.mpr ⟨List.mem_of_getElem? (i := 1) rfl, List.forall_mem_cons.mpr ⟨List.mem_of_getElem? (i := 2) rfl, List.forall_mem_cons.mpr ⟨List.mem_of_getElem? (i := 3) rfl, List.forall_mem_cons.mpr ⟨List.mem_of_getElem? (i := 4) rfl, List.forall_mem_cons.mpr ⟨List.mem_of_getElem? (i := 0) rfl, fun _ h => nomatch h⟩⟩⟩⟩⟩) ?_
          exact ihJ103 _ (MN.lt hmnn104 (by omega) (by omega)) I131 L132 x140 rfl hI131 (CM.cons S110 (CM.mono S133 (by decide) (by decide)) (by decide) (by decide)) (by omega) (by omega)
      refine k_istore C (lw := [(4, .int x102), (0, .ref r0), (1, .int n1), (2, .int x1), (3, .int x20)]) rfl rfl (Nat.le_of_ble_eq_true rfl) rfl ?_
      refine k_sub S [(0, .ref r0), (1, .int n1), (2, .int x1), (3, .int x20), (4, .int x102)] (List.forall_mem_cons.mpr ⟨List.mem_of_getElem? (i := 1) rfl, List.forall_mem_cons.mpr ⟨List.mem_of_getElem? (i := 2) rfl, List.forall_mem_cons.mpr ⟨List.mem_of_getElem? (i := 3) rfl, List.forall_mem_cons.mpr ⟨List.mem_of_getElem? (i := 4) rfl, List.forall_mem_cons.mpr ⟨List.mem_of_getElem? (i := 0) rfl, fun _ h => nomatch h⟩⟩⟩⟩⟩) ?_
      exact J103 _ I18 L19 x102 rfl hI24 CM.rf (by omega) (by omega)
  refine k_istore_n C (lw := [(3, .int x15), (2, .int x1), (0, .ref r0), (1, .int n1)]) rfl rfl (Nat.le_of_ble_eq_true rfl) rfl ?_
  refine k_sub S [(0, .ref r0), (1, .int n1), (2, .int x1), (3, .int x15)] (List.forall_mem_cons.mpr ⟨List.mem_of_getElem? (i := 2) rfl, List.forall_mem_cons.mpr ⟨List.mem_of_getElem? (i := 3) rfl, List.forall_mem_cons.mpr ⟨List.mem_of_getElem? (i := 1) rfl, List.forall_mem_cons.mpr ⟨List.mem_of_getElem? (i := 0) rfl, fun _ h => nomatch h⟩⟩⟩⟩) ?_
  exact J16 _ I7 L8 x15 rfl hI7 CM.rf (by omega) (by omega)

theorem a_X12_isPair {d : Nat} {T N : Nat → Nat} {I : IT} {L : LT} {R : RT} {A : Nat → Prop} {r0 : Nat} {n1 : Int32} (hI : IM R r0 I) (H_r0 : (h_MD T N R A) r0) (b0_n1 : 1 ≤ n1.toInt) (b1_n1 : n1.toInt ≤ 2) (hp0 : ∀ a4, R r0 4 = some a4 → (I a4 40).toInt ≤ 8) : Ex (d + 4) 284 [.ref r0, .int n1] (T, N, I, L, R) 0 0 (pI T N R (fun x9 I9 L9 => (0 ≤ x9.toInt) ∧ (x9.toInt ≤ 1) ∧ (∀ a4, R r0 4 = some a4 → ∀ r : Nat, r ≠ 42 → I9 a4 r = I a4 r) ∧ (IM R r0 I9 ∧ CM A R r0 [] [4, 5, 28] I L I9 L9))) := by
  refine ⟨_, rfl, Nat.le_of_ble_eq_true rfl, fun V C S => ?_⟩
  show V 0 [(0, .ref r0), (1, .int n1)] [] (T, N, I, L, R) 0 0
  have gn1 := rg n1
  obtain ⟨T_r0, A_r0, ⟨r0_1, R_r0_1, H_r0_1⟩, ⟨r0_2, R_r0_2, H_r0_2⟩, ⟨r0_4, R_r0_4, H_r0_4⟩, ⟨r0_5, R_r0_5, H_r0_5⟩, ⟨r0_10, R_r0_10, H_r0_10⟩, ⟨r0_18, R_r0_18, H_r0_18⟩, ⟨r0_20, R_r0_20, H_r0_20⟩, ⟨r0_21, R_r0_21, H_r0_21⟩, ⟨r0_22, R_r0_22, H_r0_22⟩, ⟨r0_23, R_r0_23, H_r0_23⟩, ⟨r0_25, R_r0_25, H_r0_25⟩, ⟨r0_26, R_r0_26, H_r0_26⟩, ⟨r0_27, R_r0_27, H_r0_27⟩, ⟨r0_28, R_r0_28, H_r0_28⟩, ⟨r0_34, R_r0_34, H_r0_34⟩, J_r0, Y_r0⟩ := id H_r0
  have G_r0 : mF T R r0 := ⟨J_r0, Y_r0, T_r0⟩
  obtain ⟨w_r0_4_40, k0_r0_4_40⟩ : ∃ x, I r0_4 40 = x := ⟨_, rfl⟩
  have gw_r0_4_40 := rg w_r0_4_40
  have ow_r0_4_40 := IM.dgR hI R_r0_4 k0_r0_4_40
  have hp0 := hp0 r0_4 R_r0_4
  try simp only [k0_r0_4_40] at hp0
  refine z_iconst C (z := 1) rfl rfl rfl (fun x1 ex1 => ?_)
  have J2 : ∀ (nn3 : Nat) (I4 : IT) (L5 : LT) (x6 : Int32), (MN (19 - x6.toInt) nn3) → (IM R r0 I4) → (CM A R r0 [] [4, 5, 28] I L I4 L5) → (∀ r : Nat, r ≠ 42 → I4 r0_4 r = I r0_4 r) → (1 ≤ x6.toInt) → (x6.toInt ≤ 19) → V 2 [(0, .ref r0), (1, .int n1), (2, .int x6)] [] (T, N, I4, L5, R) 0 0 := by
    intro nn3
    induction nn3 using Nat.strongRecOn with
    | _ nn3 ihJ2 =>
      intro I4 L5 x6 hmnn3 hI10 S9 F11 b7 b8
      have gx6 := rg x6
      have e12 := (F11 40 (by first | decide | exact ncne (by omega) (by omega) (by omega) | exact nckn (by omega) (by omega) | exact (nckn (by omega) (by omega)).symm)).trans k0_r0_4_40
      refine k_iload_n C rfl rfl rfl ?_
      refine k_aload_n C rfl rfl rfl ?_
      refine c_VI C (a_X12_p hI10 H_r0) rfl rfl rfl rfl rfl ⟨_, rfl, rfl, T_r0, Nat.le_of_ble_eq_true rfl⟩ rfl rfl (Nat.le_of_ble_eq_true rfl) (Nat.le_of_ble_eq_true rfl) (Nat.le_of_ble_eq_true rfl) ?_
      rintro x13 _ _ ⟨o0x13, o1x13, p0x13, rfl, rfl⟩
      have p0x13 := p0x13 r0_1 R_r0_1
      have gx13 := rg x13
      obtain ⟨x14, e15⟩ : ∃ x, I4 r0_1 0 = x := ⟨_, rfl⟩
      have gx14 := rg x14
      have ox14 := IM.pi hI10 R_r0_1 e15
      try simp only [e12, e15] at p0x13
      try have q0x13 := congrArg Int32.toInt p0x13
      refine b_icmp_ge C (t := 35) rfl rfl rfl (fun c16 => ?_) (fun c16 => ?_)
      · skip
        refine z_iconst C (z := 0) rfl rfl rfl (fun x17 ex17 => ?_)
        exact k_iret C rfl (Or.inr ⟨rfl, z01 (by omega) (by omega)⟩) (Nat.le_of_ble_eq_true rfl) (Nat.le_of_ble_eq_true rfl) ⟨_, _, _, rfl, rfl, by omega, by omega, fun a4 h4 => by cases (R_r0_4.symm.trans h4); exact (fun r z0 => (F11 r z0)), hI10, (CM.mono S9 (by decide) (by decide))⟩
      refine k_aload_n C rfl rfl rfl ?_
      refine g_R C rfl rfl rfl T_r0 rfl R_r0_28 ?_
      refine k_iload_n C rfl rfl rfl ?_
      refine z_iconst C (z := 1) rfl rfl rfl (fun x18 ex18 => ?_)
      refine z_isub C rfl rfl ⟨by omega, by omega⟩ (fun x19 ex19 => ?_)
      refine k_iload_n C rfl rfl rfl ?_
      obtain ⟨T_r0_28, N_r0_28, A_r0_28⟩ := id H_r0_28
      refine z_sI C rfl rfl T_r0_28 N_r0_28 (by omega) (by omega) (fun I20 uI20 => ?_)
      have hI20 : IM R r0 I20 := IM.arr hI10 G_r0 R_r0_28 ⟨(fun h => absurd h (by decide)), (fun h => absurd h (by decide)), (fun _ => ⟨by omega, by omega⟩)⟩ (fun h => absurd h (by decide)) uI20
      have S21 : CM A R r0 [] [28] I4 L5 I20 L5 := CM.a G_r0 R_r0_28 A_r0_28 uI20
      have e22 := u2_n uI20 (mF.nq G_r0 R_r0_4 R_r0_28 (by decide)) e12
      have e23 := u2_n uI20 (mF.nq G_r0 R_r0_1 R_r0_28 (by decide)) e15
      have e24 := u2_e uI20
      refine k_aload_n C rfl rfl rfl ?_
      refine k_iload_n C rfl rfl rfl ?_
      refine c_VI C (a_X12_isLast hI20 H_r0 (by omega) (by omega) (fun a4 h4 => by cases (R_r0_4.symm.trans h4); first | omega | (simp only [e22, e23, e24] <;> omega))) rfl rfl rfl rfl rfl ⟨_, rfl, rfl, T_r0, Nat.le_of_ble_eq_true rfl⟩ rfl rfl (Nat.le_of_ble_eq_true rfl) (Nat.le_of_ble_eq_true rfl) (Nat.le_of_ble_eq_true rfl) ?_
      rintro x25 I26 L27 ⟨o0x25, o1x25, p0x25, hI26, S28⟩
      have p0x25 := p0x25 r0_4 R_r0_4
      have F29 : ∀ r : Nat, r ≠ 42 → I26 r0_4 r = I20 r0_4 r := fun r z0 => p0x25 r (by first | exact z0)
      have e30 := (p0x25 40 (by first | decide | exact ncne (by omega) (by omega) (by omega) | exact nckn (by omega) (by omega) | exact (nckn (by omega) (by omega)).symm)).trans e22
      have e31 := CM.j S28 R_r0_1 (by decide) e23
      have gx25 := rg x25
      refine b_if_eq C (t := 29) rfl rfl rfl (fun c33 => ?_) (fun c33 => ?_)
      · skip
        refine z_iinc C (z := 1) (lw := fun x34 => [(2, .int x34), (0, .ref r0), (1, .int n1)]) rfl rfl rfl (Nat.le_of_ble_eq_true rfl) rfl ⟨by omega, by omega⟩ (fun _ => rfl) (fun x34 ex34 => ?_)
        show V 32 [(2, .int x34), (0, .ref r0), (1, .int n1)] _ _ _ _
        refine k_goto C (pc2 := 2) rfl rfl ?_
        refine k_sub S [(0, .ref r0), (1, .int n1), (2, .int x34)] (List.forall_mem_cons.mpr ⟨List.mem_of_getElem? (i := 1) rfl, List.forall_mem_cons.mpr ⟨List.mem_of_getElem? (i := 2) rfl, List.forall_mem_cons.mpr ⟨List.mem_of_getElem? (i := 0) rfl, fun _ h => nomatch h⟩⟩⟩) ?_
        exact ihJ2 _ (MN.lt hmnn3 (by omega) (by omega)) I26 L27 x34 rfl hI26 (CM.cons S9 (CM.cons S21 (CM.mono S28 (by decide) (by decide)) (by decide) (by decide)) (by decide) (by decide)) (fun r z0 => ((F29 r z0).trans ((congrFun (CM.j0 S21 R_r0_4 (by decide)) r).trans (F11 r z0)))) (by omega) (by omega)
      refine z_iconst C (z := 1) rfl rfl rfl (fun x35 ex35 => ?_)
      exact k_iret C rfl (Or.inr ⟨rfl, z01 (by omega) (by omega)⟩) (Nat.le_of_ble_eq_true rfl) (Nat.le_of_ble_eq_true rfl) ⟨_, _, _, rfl, rfl, by omega, by omega, fun a4 h4 => by cases (R_r0_4.symm.trans h4); exact (fun r z0 => ((F29 r z0).trans ((congrFun (CM.j0 S21 R_r0_4 (by decide)) r).trans (F11 r z0)))), hI26, (CM.cons S9 (CM.cons S21 (CM.mono S28 (by decide) (by decide)) (by decide) (by decide)) (by decide) (by decide))⟩
  refine k_istore_n C (lw := [(2, .int x1), (0, .ref r0), (1, .int n1)]) rfl rfl (Nat.le_of_ble_eq_true rfl) rfl ?_
  refine k_sub S [(0, .ref r0), (1, .int n1), (2, .int x1)] (List.forall_mem_cons.mpr ⟨List.mem_of_getElem? (i := 1) rfl, List.forall_mem_cons.mpr ⟨List.mem_of_getElem? (i := 2) rfl, List.forall_mem_cons.mpr ⟨List.mem_of_getElem? (i := 0) rfl, fun _ h => nomatch h⟩⟩⟩) ?_
  exact J2 _ I L x1 rfl hI CM.rf (fun r z0 => rfl) (by omega) (by omega)

theorem a_X12_isTriple {d : Nat} {T N : Nat → Nat} {I : IT} {L : LT} {R : RT} {A : Nat → Prop} {r0 : Nat} (hI : IM R r0 I) (H_r0 : (h_MD T N R A) r0) (hp0 : ∀ a4, R r0 4 = some a4 → (I a4 40).toInt ≤ 8) : Ex (d + 5) 285 [.ref r0] (T, N, I, L, R) 0 0 (pI T N R (fun x9 I9 L9 => (0 ≤ x9.toInt) ∧ (x9.toInt ≤ 1) ∧ (∀ a4, R r0 4 = some a4 → ∀ r : Nat, r ≠ 42 → I9 a4 r = I a4 r) ∧ (IM R r0 I9 ∧ CM A R r0 [] [4, 5, 28] I L I9 L9))) := by
  refine ⟨_, rfl, Nat.le_of_ble_eq_true rfl, fun V C S => ?_⟩
  show V 0 [(0, .ref r0)] [] (T, N, I, L, R) 0 0
  obtain ⟨T_r0, A_r0, ⟨r0_1, R_r0_1, H_r0_1⟩, ⟨r0_2, R_r0_2, H_r0_2⟩, ⟨r0_4, R_r0_4, H_r0_4⟩, ⟨r0_5, R_r0_5, H_r0_5⟩, ⟨r0_10, R_r0_10, H_r0_10⟩, ⟨r0_18, R_r0_18, H_r0_18⟩, ⟨r0_20, R_r0_20, H_r0_20⟩, ⟨r0_21, R_r0_21, H_r0_21⟩, ⟨r0_22, R_r0_22, H_r0_22⟩, ⟨r0_23, R_r0_23, H_r0_23⟩, ⟨r0_25, R_r0_25, H_r0_25⟩, ⟨r0_26, R_r0_26, H_r0_26⟩, ⟨r0_27, R_r0_27, H_r0_27⟩, ⟨r0_28, R_r0_28, H_r0_28⟩, ⟨r0_34, R_r0_34, H_r0_34⟩, J_r0, Y_r0⟩ := id H_r0
  have G_r0 : mF T R r0 := ⟨J_r0, Y_r0, T_r0⟩
  obtain ⟨w_r0_4_40, k0_r0_4_40⟩ : ∃ x, I r0_4 40 = x := ⟨_, rfl⟩
  have gw_r0_4_40 := rg w_r0_4_40
  have ow_r0_4_40 := IM.dgR hI R_r0_4 k0_r0_4_40
  have hp0 := hp0 r0_4 R_r0_4
  try simp only [k0_r0_4_40] at hp0
  refine z_iconst C (z := 1) rfl rfl rfl (fun x1 ex1 => ?_)
  have J2 : ∀ (nn3 : Nat) (I4 : IT) (L5 : LT) (x6 : Int32), (MN (19 - x6.toInt) nn3) → (IM R r0 I4) → (CM A R r0 [] [4, 5, 28] I L I4 L5) → (∀ r : Nat, r ≠ 42 → I4 r0_4 r = I r0_4 r) → (1 ≤ x6.toInt) → (x6.toInt ≤ 19) → V 2 [(0, .ref r0), (1, .int x6)] [] (T, N, I4, L5, R) 0 0 := by
    intro nn3
    induction nn3 using Nat.strongRecOn with
    | _ nn3 ihJ2 =>
      intro I4 L5 x6 hmnn3 hI10 S9 F11 b7 b8
      have gx6 := rg x6
      have e12 := (F11 40 (by first | decide | exact ncne (by omega) (by omega) (by omega) | exact nckn (by omega) (by omega) | exact (nckn (by omega) (by omega)).symm)).trans k0_r0_4_40
      refine k_iload_n C rfl rfl rfl ?_
      refine k_aload_n C rfl rfl rfl ?_
      refine c_VI C (a_X12_p hI10 H_r0) rfl rfl rfl rfl rfl ⟨_, rfl, rfl, T_r0, Nat.le_of_ble_eq_true rfl⟩ rfl rfl (Nat.le_of_ble_eq_true rfl) (Nat.le_of_ble_eq_true rfl) (Nat.le_of_ble_eq_true rfl) ?_
      rintro x13 _ _ ⟨o0x13, o1x13, p0x13, rfl, rfl⟩
      have p0x13 := p0x13 r0_1 R_r0_1
      have gx13 := rg x13
      obtain ⟨x14, e15⟩ : ∃ x, I4 r0_1 0 = x := ⟨_, rfl⟩
      have gx14 := rg x14
      have ox14 := IM.pi hI10 R_r0_1 e15
      try simp only [e12, e15] at p0x13
      try have q0x13 := congrArg Int32.toInt p0x13
      refine b_icmp_ge C (t := 33) rfl rfl rfl (fun c16 => ?_) (fun c16 => ?_)
      · skip
        refine z_iconst C (z := 0) rfl rfl rfl (fun x17 ex17 => ?_)
        exact k_iret C rfl (Or.inr ⟨rfl, z01 (by omega) (by omega)⟩) (Nat.le_of_ble_eq_true rfl) (Nat.le_of_ble_eq_true rfl) ⟨_, _, _, rfl, rfl, by omega, by omega, fun a4 h4 => by cases (R_r0_4.symm.trans h4); exact (fun r z0 => (F11 r z0)), hI10, (CM.mono S9 (by decide) (by decide))⟩
      refine k_aload_n C rfl rfl rfl ?_
      refine g_R C rfl rfl rfl T_r0 rfl R_r0_28 ?_
      refine z_iconst C (z := 0) rfl rfl rfl (fun x18 ex18 => ?_)
      refine k_iload_n C rfl rfl rfl ?_
      obtain ⟨T_r0_28, N_r0_28, A_r0_28⟩ := id H_r0_28
      refine z_sI C rfl rfl T_r0_28 N_r0_28 (by omega) (by omega) (fun I19 uI19 => ?_)
      have uI19 : I19 = u2 I4 r0_28 0 (x6) := by rw [uI19, nck (n := 0) (by omega)]
      have hI19 : IM R r0 I19 := IM.arr hI10 G_r0 R_r0_28 ⟨(fun h => absurd h (by decide)), (fun h => absurd h (by decide)), (fun _ => ⟨by omega, by omega⟩)⟩ (fun h => absurd h (by decide)) uI19
      have S20 : CM A R r0 [] [28] I4 L5 I19 L5 := CM.a G_r0 R_r0_28 A_r0_28 uI19
      have e21 := u2_n uI19 (mF.nq G_r0 R_r0_4 R_r0_28 (by decide)) e12
      have e22 := u2_n uI19 (mF.nq G_r0 R_r0_1 R_r0_28 (by decide)) e15
      have e23 := u2_e uI19
      refine k_aload_n C rfl rfl rfl ?_
      refine z_iconst C (z := 2) rfl rfl rfl (fun x24 ex24 => ?_)
      have q25 : x24.toNatClampNeg = 2 := nck (by omega)
      refine c_VI C (a_X12_isPair hI19 H_r0 (by omega) (by omega) (fun a4 h4 => by cases (R_r0_4.symm.trans h4); first | omega | (simp only [q25, e21, e22, e23] <;> omega))) rfl rfl rfl rfl rfl ⟨_, rfl, rfl, T_r0, Nat.le_of_ble_eq_true rfl⟩ rfl rfl (Nat.le_of_ble_eq_true rfl) (Nat.le_of_ble_eq_true rfl) (Nat.le_of_ble_eq_true rfl) ?_
      rintro x26 I27 L28 ⟨o0x26, o1x26, p0x26, hI27, S29⟩
      have p0x26 := p0x26 r0_4 R_r0_4
      try simp only [q25] at p0x26
      have F30 : ∀ r : Nat, r ≠ 42 → I27 r0_4 r = I19 r0_4 r := fun r z0 => p0x26 r (by first | exact z0)
      have e31 := (p0x26 40 (by first | decide | exact ncne (by omega) (by omega) (by omega) | exact nckn (by omega) (by omega) | exact (nckn (by omega) (by omega)).symm)).trans e21
      have e32 := CM.j S29 R_r0_1 (by decide) e22
      have gx26 := rg x26
      refine b_if_eq C (t := 27) rfl rfl rfl (fun c34 => ?_) (fun c34 => ?_)
      · skip
        refine z_iinc C (z := 1) (lw := fun x35 => [(1, .int x35), (0, .ref r0)]) rfl rfl rfl (Nat.le_of_ble_eq_true rfl) rfl ⟨by omega, by omega⟩ (fun _ => rfl) (fun x35 ex35 => ?_)
        show V 30 [(1, .int x35), (0, .ref r0)] _ _ _ _
        refine k_goto C (pc2 := 2) rfl rfl ?_
        refine k_sub S [(0, .ref r0), (1, .int x35)] (List.forall_mem_cons.mpr ⟨List.mem_of_getElem? (i := 1) rfl, List.forall_mem_cons.mpr ⟨List.mem_of_getElem? (i := 0) rfl, fun _ h => nomatch h⟩⟩) ?_
        exact ihJ2 _ (MN.lt hmnn3 (by omega) (by omega)) I27 L28 x35 rfl hI27 (CM.cons S9 (CM.cons S20 (CM.mono S29 (by decide) (by decide)) (by decide) (by decide)) (by decide) (by decide)) (fun r z0 => ((F30 r z0).trans ((congrFun (CM.j0 S20 R_r0_4 (by decide)) r).trans (F11 r z0)))) (by omega) (by omega)
      refine z_iconst C (z := 1) rfl rfl rfl (fun x36 ex36 => ?_)
      exact k_iret C rfl (Or.inr ⟨rfl, z01 (by omega) (by omega)⟩) (Nat.le_of_ble_eq_true rfl) (Nat.le_of_ble_eq_true rfl) ⟨_, _, _, rfl, rfl, by omega, by omega, fun a4 h4 => by cases (R_r0_4.symm.trans h4); exact (fun r z0 => ((F30 r z0).trans ((congrFun (CM.j0 S20 R_r0_4 (by decide)) r).trans (F11 r z0)))), hI27, (CM.cons S9 (CM.cons S20 (CM.mono S29 (by decide) (by decide)) (by decide) (by decide)) (by decide) (by decide))⟩
  refine k_istore_n C (lw := [(1, .int x1), (0, .ref r0)]) rfl rfl (Nat.le_of_ble_eq_true rfl) rfl ?_
  refine k_sub S [(0, .ref r0), (1, .int x1)] (List.forall_mem_cons.mpr ⟨List.mem_of_getElem? (i := 1) rfl, List.forall_mem_cons.mpr ⟨List.mem_of_getElem? (i := 0) rfl, fun _ h => nomatch h⟩⟩) ?_
  exact J2 _ I L x1 rfl hI CM.rf (fun r z0 => rfl) (by omega) (by omega)

theorem a_X12_isSum {d : Nat} {T N : Nat → Nat} {I : IT} {L : LT} {R : RT} {A : Nat → Prop} {r0 : Nat} {n1 : Int32} (hI : IM R r0 I) (H_r0 : (h_MD T N R A) r0) (b0_n1 : 1 ≤ n1.toInt) (b1_n1 : n1.toInt ≤ 3) (hp0 : ∀ a4, R r0 4 = some a4 → (I a4 40).toInt ≤ 8) : Ex (d + 6) 286 [.ref r0, .int n1] (T, N, I, L, R) 0 0 (pI T N R (fun x9 I9 L9 => (0 ≤ x9.toInt) ∧ (x9.toInt ≤ 1) ∧ (∀ a4, R r0 4 = some a4 → ∀ r : Nat, r ≠ 42 → I9 a4 r = I a4 r) ∧ (IM R r0 I9 ∧ CM A R r0 [] [4, 5, 27, 28] I L I9 L9))) := by
  refine ⟨_, rfl, Nat.le_of_ble_eq_true rfl, fun V C S => ?_⟩
  show V 0 [(0, .ref r0), (1, .int n1)] [] (T, N, I, L, R) 0 0
  have gn1 := rg n1
  obtain ⟨T_r0, A_r0, ⟨r0_1, R_r0_1, H_r0_1⟩, ⟨r0_2, R_r0_2, H_r0_2⟩, ⟨r0_4, R_r0_4, H_r0_4⟩, ⟨r0_5, R_r0_5, H_r0_5⟩, ⟨r0_10, R_r0_10, H_r0_10⟩, ⟨r0_18, R_r0_18, H_r0_18⟩, ⟨r0_20, R_r0_20, H_r0_20⟩, ⟨r0_21, R_r0_21, H_r0_21⟩, ⟨r0_22, R_r0_22, H_r0_22⟩, ⟨r0_23, R_r0_23, H_r0_23⟩, ⟨r0_25, R_r0_25, H_r0_25⟩, ⟨r0_26, R_r0_26, H_r0_26⟩, ⟨r0_27, R_r0_27, H_r0_27⟩, ⟨r0_28, R_r0_28, H_r0_28⟩, ⟨r0_34, R_r0_34, H_r0_34⟩, J_r0, Y_r0⟩ := id H_r0
  have G_r0 : mF T R r0 := ⟨J_r0, Y_r0, T_r0⟩
  obtain ⟨w_r0_4_40, k0_r0_4_40⟩ : ∃ x, I r0_4 40 = x := ⟨_, rfl⟩
  have gw_r0_4_40 := rg w_r0_4_40
  have ow_r0_4_40 := IM.dgR hI R_r0_4 k0_r0_4_40
  have hp0 := hp0 r0_4 R_r0_4
  try simp only [k0_r0_4_40] at hp0
  refine z_iconst C (z := 0) rfl rfl rfl (fun x1 ex1 => ?_)
  have J2 : ∀ (nn3 : Nat) (I4 : IT) (L5 : LT) (x6 : Int32), (MN (20 - x6.toInt) nn3) → (IM R r0 I4) → (CM A R r0 [] [4, 5, 27, 28] I L I4 L5) → (∀ r : Nat, r ≠ 42 → I4 r0_4 r = I r0_4 r) → (0 ≤ x6.toInt) → (x6.toInt ≤ 20) → V 2 [(0, .ref r0), (1, .int n1), (2, .int x6)] [] (T, N, I4, L5, R) 0 0 := by
    intro nn3
    induction nn3 using Nat.strongRecOn with
    | _ nn3 ihJ2 =>
      intro I4 L5 x6 hmnn3 hI10 S9 F11 b7 b8
      have gx6 := rg x6
      have e12 := (F11 40 (by first | decide | exact ncne (by omega) (by omega) (by omega) | exact nckn (by omega) (by omega) | exact (nckn (by omega) (by omega)).symm)).trans k0_r0_4_40
      refine k_iload_n C rfl rfl rfl ?_
      refine k_aload_n C rfl rfl rfl ?_
      refine c_VI C (a_X12_p hI10 H_r0) rfl rfl rfl rfl rfl ⟨_, rfl, rfl, T_r0, Nat.le_of_ble_eq_true rfl⟩ rfl rfl (Nat.le_of_ble_eq_true rfl) (Nat.le_of_ble_eq_true rfl) (Nat.le_of_ble_eq_true rfl) ?_
      rintro x13 _ _ ⟨o0x13, o1x13, p0x13, rfl, rfl⟩
      have p0x13 := p0x13 r0_1 R_r0_1
      have gx13 := rg x13
      obtain ⟨x14, e15⟩ : ∃ x, I4 r0_1 0 = x := ⟨_, rfl⟩
      have gx14 := rg x14
      have ox14 := IM.pi hI10 R_r0_1 e15
      try simp only [e12, e15] at p0x13
      try have q0x13 := congrArg Int32.toInt p0x13
      refine b_icmp_gt C (t := 120) rfl rfl rfl (fun c16 => ?_) (fun c16 => ?_)
      · skip
        refine z_iconst C (z := 0) rfl rfl rfl (fun x17 ex17 => ?_)
        exact k_iret C rfl (Or.inr ⟨rfl, z01 (by omega) (by omega)⟩) (Nat.le_of_ble_eq_true rfl) (Nat.le_of_ble_eq_true rfl) ⟨_, _, _, rfl, rfl, by omega, by omega, fun a4 h4 => by cases (R_r0_4.symm.trans h4); exact (fun r z0 => (F11 r z0)), hI10, (CM.mono S9 (by decide) (by decide))⟩
      refine k_aload_n C rfl rfl rfl ?_
      refine g_R C rfl rfl rfl T_r0 rfl R_r0_27 ?_
      refine z_iconst C (z := 0) rfl rfl rfl (fun x18 ex18 => ?_)
      refine k_iload_n C rfl rfl rfl ?_
      obtain ⟨T_r0_27, N_r0_27, A_r0_27⟩ := id H_r0_27
      refine z_sI C rfl rfl T_r0_27 N_r0_27 (by omega) (by omega) (fun I19 uI19 => ?_)
      have uI19 : I19 = u2 I4 r0_27 0 (x6) := by rw [uI19, nck (n := 0) (by omega)]
      have hI19 : IM R r0 I19 := IM.arr hI10 G_r0 R_r0_27 ⟨(fun h => absurd h (by decide)), (fun _ => ⟨by omega, by omega⟩), (fun h => absurd h (by decide))⟩ (fun h => absurd h (by decide)) uI19
      have S20 : CM A R r0 [] [27] I4 L5 I19 L5 := CM.a G_r0 R_r0_27 A_r0_27 uI19
      have e21 := u2_n uI19 (mF.nq G_r0 R_r0_4 R_r0_27 (by decide)) e12
      have e22 := u2_n uI19 (mF.nq G_r0 R_r0_1 R_r0_27 (by decide)) e15
      have e23 := u2_e uI19
      refine k_iload_n C rfl rfl rfl ?_
      refine z_iconst C (z := 1) rfl rfl rfl (fun x24 ex24 => ?_)
      refine b_icmp_ne C (t := 32) rfl rfl rfl (fun c25 => ?_) (fun c25 => ?_)
      · skip
        refine k_iload_n C rfl rfl rfl ?_
        refine z_iconst C (z := 1) rfl rfl rfl (fun x26 ex26 => ?_)
        refine z_iadd C rfl rfl ⟨by omega, by omega⟩ (fun x27 ex27 => ?_)
        have J28 : ∀ (nn29 : Nat) (I30 : IT) (L31 : LT) (x32 : Int32), (MN (20 - x32.toInt) nn29) → (IM R r0 I30) → (CM A R r0 [] [4, 5, 27, 28] I19 L5 I30 L31) → (∀ r : Nat, r ≠ 42 → I30 r0_4 r = I19 r0_4 r) → (1 ≤ x32.toInt) → (x32.toInt ≤ 20) → V 36 [(0, .ref r0), (1, .int n1), (2, .int x6), (3, .int x32)] [] (T, N, I30, L31, R) 0 0 := by
          intro nn29
          induction nn29 using Nat.strongRecOn with
          | _ nn29 ihJ28 =>
            intro I30 L31 x32 hmnn29 hI36 S35 F37 b33 b34
            have gx32 := rg x32
            have e38 := (F37 40 (by first | decide | exact ncne (by omega) (by omega) (by omega) | exact nckn (by omega) (by omega) | exact (nckn (by omega) (by omega)).symm)).trans e21
            have e39 := CM.j S35 R_r0_1 (by decide) e22
            refine k_iload_n C rfl rfl rfl ?_
            refine k_aload_n C rfl rfl rfl ?_
            refine c_VI C (a_X12_p hI36 H_r0) rfl rfl rfl rfl rfl ⟨_, rfl, rfl, T_r0, Nat.le_of_ble_eq_true rfl⟩ rfl rfl (Nat.le_of_ble_eq_true rfl) (Nat.le_of_ble_eq_true rfl) (Nat.le_of_ble_eq_true rfl) ?_
            rintro x40 _ _ ⟨o0x40, o1x40, p0x40, rfl, rfl⟩
            have p0x40 := p0x40 r0_1 R_r0_1
            have gx40 := rg x40
            try simp only [e38, e39, e39] at p0x40
            try have q0x40 := congrArg Int32.toInt p0x40
            refine b_icmp_gt C (t := 114) rfl rfl rfl (fun c41 => ?_) (fun c41 => ?_)
            · skip
              refine z_iinc C (z := 1) (lw := fun x42 => [(2, .int x42), (0, .ref r0), (1, .int n1), (3, .int x32)]) rfl rfl rfl (Nat.le_of_ble_eq_true rfl) rfl ⟨by omega, by omega⟩ (fun _ => rfl) (fun x42 ex42 => ?_)
              show V 117 [(2, .int x42), (0, .ref r0), (1, .int n1), (3, .int x32)] _ _ _ _
              refine k_goto C (pc2 := 2) rfl rfl ?_
              refine k_sub S [(0, .ref r0), (1, .int n1), (2, .int x42)] (List.forall_mem_cons.mpr ⟨List.mem_of_getElem? (i := 1) rfl, List.forall_mem_cons.mpr ⟨List.mem_of_getElem? (i := 2) rfl, List.forall_mem_cons.mpr ⟨List.mem_of_getElem? (i := 0) rfl, fun _ h => nomatch h⟩⟩⟩) ?_
              exact ihJ2 _ (MN.lt hmnn3 (by omega) (by omega)) I30 L31 x42 rfl hI36 (CM.cons S9 (CM.cons S20 (CM.mono S35 (by decide) (by decide)) (by decide) (by decide)) (by decide) (by decide)) (fun r z0 => ((F37 r z0).trans ((congrFun (CM.j0 S20 R_r0_4 (by decide)) r).trans (F11 r z0)))) (by omega) (by omega)
            refine k_aload_n C rfl rfl rfl ?_
            refine g_R C rfl rfl rfl T_r0 rfl R_r0_27 ?_
            refine z_iconst C (z := 1) rfl rfl rfl (fun x43 ex43 => ?_)
            refine k_iload_n C rfl rfl rfl ?_
            refine z_sI C rfl rfl T_r0_27 N_r0_27 (by omega) (by omega) (fun I44 uI44 => ?_)
            have uI44 : I44 = u2 I30 r0_27 1 (x32) := by rw [uI44, nck (n := 1) (by omega)]
            have hI44 : IM R r0 I44 := IM.arr hI36 G_r0 R_r0_27 ⟨(fun h => absurd h (by decide)), (fun _ => ⟨by omega, by omega⟩), (fun h => absurd h (by decide))⟩ (fun h => absurd h (by decide)) uI44
            have S45 : CM A R r0 [] [27] I30 L31 I44 L31 := CM.a G_r0 R_r0_27 A_r0_27 uI44
            have e46 := u2_n uI44 (mF.nq G_r0 R_r0_4 R_r0_27 (by decide)) e38
            have e47 := u2_n uI44 (mF.nq G_r0 R_r0_1 R_r0_27 (by decide)) e39
            have e48 := u2_e uI44
            refine k_iload_n C rfl rfl rfl ?_
            refine z_iconst C (z := 2) rfl rfl rfl (fun x49 ex49 => ?_)
            refine b_icmp_ne C (t := 66) rfl rfl rfl (fun c50 => ?_) (fun c50 => ?_)
            · skip
              refine k_iload_n C rfl rfl rfl ?_
              refine z_iconst C (z := 1) rfl rfl rfl (fun x51 ex51 => ?_)
              refine z_iadd C rfl rfl ⟨by omega, by omega⟩ (fun x52 ex52 => ?_)
              have J53 : ∀ (nn54 : Nat) (I55 : IT) (L56 : LT) (x57 : Int32), (MN (20 - x57.toInt) nn54) → (IM R r0 I55) → (CM A R r0 [] [4, 5, 27, 28] I44 L31 I55 L56) → (∀ r : Nat, r ≠ 42 → I55 r0_4 r = I44 r0_4 r) → (2 ≤ x57.toInt) → (x57.toInt ≤ 20) → V 71 [(0, .ref r0), (1, .int n1), (2, .int x6), (3, .int x32), (4, .int x57)] [] (T, N, I55, L56, R) 0 0 := by
                intro nn54
                induction nn54 using Nat.strongRecOn with
                | _ nn54 ihJ53 =>
                  intro I55 L56 x57 hmnn54 hI61 S60 F62 b58 b59
                  have gx57 := rg x57
                  have e63 := (F62 40 (by first | decide | exact ncne (by omega) (by omega) (by omega) | exact nckn (by omega) (by omega) | exact (nckn (by omega) (by omega)).symm)).trans e46
                  have e64 := CM.j S60 R_r0_1 (by decide) e47
                  refine k_iload C rfl rfl rfl ?_
                  refine k_aload_n C rfl rfl rfl ?_
                  refine c_VI C (a_X12_p hI61 H_r0) rfl rfl rfl rfl rfl ⟨_, rfl, rfl, T_r0, Nat.le_of_ble_eq_true rfl⟩ rfl rfl (Nat.le_of_ble_eq_true rfl) (Nat.le_of_ble_eq_true rfl) (Nat.le_of_ble_eq_true rfl) ?_
                  rintro x65 _ _ ⟨o0x65, o1x65, p0x65, rfl, rfl⟩
                  have p0x65 := p0x65 r0_1 R_r0_1
                  have gx65 := rg x65
                  try simp only [e63, e64, e64] at p0x65
                  try have q0x65 := congrArg Int32.toInt p0x65
                  refine b_icmp_gt C (t := 108) rfl rfl rfl (fun c66 => ?_) (fun c66 => ?_)
                  · skip
                    refine z_iinc C (z := 1) (lw := fun x67 => [(3, .int x67), (0, .ref r0), (1, .int n1), (2, .int x6), (4, .int x57)]) rfl rfl rfl (Nat.le_of_ble_eq_true rfl) rfl ⟨by omega, by omega⟩ (fun _ => rfl) (fun x67 ex67 => ?_)
                    show V 111 [(3, .int x67), (0, .ref r0), (1, .int n1), (2, .int x6), (4, .int x57)] _ _ _ _
                    refine k_goto C (pc2 := 36) rfl rfl ?_
                    refine k_sub S [(0, .ref r0), (1, .int n1), (2, .int x6), (3, .int x67)] (List.forall_mem_cons.mpr ⟨List.mem_of_getElem? (i := 1) rfl, List.forall_mem_cons.mpr ⟨List.mem_of_getElem? (i := 2) rfl, List.forall_mem_cons.mpr ⟨List.mem_of_getElem? (i := 3) rfl, List.forall_mem_cons.mpr ⟨List.mem_of_getElem? (i := 0) rfl, fun _ h => nomatch h⟩⟩⟩⟩) ?_
                    exact ihJ28 _ (MN.lt hmnn29 (by omega) (by omega)) I55 L56 x67 rfl hI61 (CM.cons S35 (CM.cons S45 (CM.mono S60 (by decide) (by decide)) (by decide) (by decide)) (by decide) (by decide)) (fun r z0 => ((F62 r z0).trans ((congrFun (CM.j0 S45 R_r0_4 (by decide)) r).trans (F37 r z0)))) (by omega) (by omega)
                  refine k_iload_n C rfl rfl rfl ?_
                  refine z_iconst C (z := 3) rfl rfl rfl (fun x68 ex68 => ?_)
                  refine b_icmp_ne C (t := 108) rfl rfl rfl (fun c69 => by exfalso; omega) (fun c69 => ?_)
                  refine k_aload_n C rfl rfl rfl ?_
                  refine g_R C rfl rfl rfl T_r0 rfl R_r0_27 ?_
                  refine z_iconst C (z := 2) rfl rfl rfl (fun x70 ex70 => ?_)
                  refine k_iload C rfl rfl rfl ?_
                  refine z_sI C rfl rfl T_r0_27 N_r0_27 (by omega) (by omega) (fun I71 uI71 => ?_)
                  have uI71 : I71 = u2 I55 r0_27 2 (x57) := by rw [uI71, nck (n := 2) (by omega)]
                  have hI71 : IM R r0 I71 := IM.arr hI61 G_r0 R_r0_27 ⟨(fun h => absurd h (by decide)), (fun _ => ⟨by omega, by omega⟩), (fun h => absurd h (by decide))⟩ (fun h => absurd h (by decide)) uI71
                  have S72 : CM A R r0 [] [27] I55 L56 I71 L56 := CM.a G_r0 R_r0_27 A_r0_27 uI71
                  have e73 := u2_n uI71 (mF.nq G_r0 R_r0_4 R_r0_27 (by decide)) e63
                  have e74 := u2_n uI71 (mF.nq G_r0 R_r0_1 R_r0_27 (by decide)) e64
                  have e75 := u2_e uI71
                  refine k_aload_n C rfl rfl rfl ?_
                  refine c_VI C (a_X12_isTriple hI71 H_r0 (fun a4 h4 => by cases (R_r0_4.symm.trans h4); first | omega | (simp only [e73, e74, e75] <;> omega))) rfl rfl rfl rfl rfl ⟨_, rfl, rfl, T_r0, Nat.le_of_ble_eq_true rfl⟩ rfl rfl (Nat.le_of_ble_eq_true rfl) (Nat.le_of_ble_eq_true rfl) (Nat.le_of_ble_eq_true rfl) ?_
                  rintro x76 I77 L78 ⟨o0x76, o1x76, p0x76, hI77, S79⟩
                  have p0x76 := p0x76 r0_4 R_r0_4
                  have F80 : ∀ r : Nat, r ≠ 42 → I77 r0_4 r = I71 r0_4 r := fun r z0 => p0x76 r (by first | exact z0)
                  have e81 := (p0x76 40 (by first | decide | exact ncne (by omega) (by omega) (by omega) | exact nckn (by omega) (by omega) | exact (nckn (by omega) (by omega)).symm)).trans e73
                  have e82 := CM.j S79 R_r0_1 (by decide) e74
                  have e83 := CM.j S79 R_r0_27 (by decide) e75
                  have gx76 := rg x76
                  refine b_if_eq C (t := 102) rfl rfl rfl (fun c84 => ?_) (fun c84 => ?_)
                  · skip
                    refine z_iinc C (z := 1) (lw := fun x85 => [(4, .int x85), (0, .ref r0), (1, .int n1), (2, .int x6), (3, .int x32)]) rfl rfl rfl (Nat.le_of_ble_eq_true rfl) rfl ⟨by omega, by omega⟩ (fun _ => rfl) (fun x85 ex85 => ?_)
                    show V 105 [(4, .int x85), (0, .ref r0), (1, .int n1), (2, .int x6), (3, .int x32)] _ _ _ _
                    refine k_goto C (pc2 := 71) rfl rfl ?_
                    refine k_sub S [(0, .ref r0), (1, .int n1), (2, .int x6), (3, .int x32), (4, .int x85)] (List.forall_mem_cons.mpr ⟨List.mem_of_getElem? (i := 1) rfl, List.forall_mem_cons.mpr ⟨List.mem_of_getElem? (i := 2) rfl, List.forall_mem_cons.mpr ⟨List.mem_of_getElem? (i := 3) rfl, List.forall_mem_cons.mpr ⟨List.mem_of_getElem? (i := 4) rfl, List.forall_mem_cons.mpr ⟨List.mem_of_getElem? (i := 0) rfl, fun _ h => nomatch h⟩⟩⟩⟩⟩) ?_
                    exact ihJ53 _ (MN.lt hmnn54 (by omega) (by omega)) I77 L78 x85 rfl hI77 (CM.cons S60 (CM.cons S72 (CM.mono S79 (by decide) (by decide)) (by decide) (by decide)) (by decide) (by decide)) (fun r z0 => ((F80 r z0).trans ((congrFun (CM.j0 S72 R_r0_4 (by decide)) r).trans (F62 r z0)))) (by omega) (by omega)
                  refine z_iconst C (z := 1) rfl rfl rfl (fun x86 ex86 => ?_)
                  exact k_iret C rfl (Or.inr ⟨rfl, z01 (by omega) (by omega)⟩) (Nat.le_of_ble_eq_true rfl) (Nat.le_of_ble_eq_true rfl) ⟨_, _, _, rfl, rfl, by omega, by omega, fun a4 h4 => by cases (R_r0_4.symm.trans h4); exact (fun r z0 => ((F80 r z0).trans ((congrFun (CM.j0 S72 R_r0_4 (by decide)) r).trans ((F62 r z0).trans ((congrFun (CM.j0 S45 R_r0_4 (by decide)) r).trans ((F37 r z0).trans ((congrFun (CM.j0 S20 R_r0_4 (by decide)) r).trans (F11 r z0)))))))), hI77, (CM.cons S9 (CM.cons S20 (CM.cons S35 (CM.cons S45 (CM.cons S60 (CM.cons S72 (CM.mono S79 (by decide) (by decide)) (by decide) (by decide)) (by decide) (by decide)) (by decide) (by decide)) (by decide) (by decide)) (by decide) (by decide)) (by decide) (by decide))⟩
              refine k_istore C (lw := [(4, .int x52), (0, .ref r0), (1, .int n1), (2, .int x6), (3, .int x32)]) rfl rfl (Nat.le_of_ble_eq_true rfl) rfl ?_
              refine k_sub S [(0, .ref r0), (1, .int n1), (2, .int x6), (3, .int x32), (4, .int x52)] (List.forall_mem_cons.mpr ⟨List.mem_of_getElem? (i := 1) rfl, List.forall_mem_cons.mpr ⟨List.mem_of_getElem? (i := 2) rfl, List.forall_mem_cons.mpr ⟨List.mem_of_getElem? (i := 3) rfl, List.forall_mem_cons.mpr ⟨List.mem_of_getElem? (i := 4) rfl, List.forall_mem_cons.mpr ⟨List.mem_of_getElem? (i := 0) rfl, fun _ h => nomatch h⟩⟩⟩⟩⟩) ?_
              exact J53 _ I44 L31 x52 rfl hI44 CM.rf (fun r z0 => rfl) (by omega) (by omega)
            refine k_aload_n C rfl rfl rfl ?_
            refine z_iconst C (z := 1) rfl rfl rfl (fun x87 ex87 => ?_)
            have q88 : x87.toNatClampNeg = 1 := nck (by omega)
            refine c_VI C (a_X12_isPair hI44 H_r0 (by omega) (by omega) (fun a4 h4 => by cases (R_r0_4.symm.trans h4); first | omega | (simp only [q88, e46, e47, e48] <;> omega))) rfl rfl rfl rfl rfl ⟨_, rfl, rfl, T_r0, Nat.le_of_ble_eq_true rfl⟩ rfl rfl (Nat.le_of_ble_eq_true rfl) (Nat.le_of_ble_eq_true rfl) (Nat.le_of_ble_eq_true rfl) ?_
            rintro x89 I90 L91 ⟨o0x89, o1x89, p0x89, hI90, S92⟩
            have p0x89 := p0x89 r0_4 R_r0_4
            try simp only [q88] at p0x89
            have F93 : ∀ r : Nat, r ≠ 42 → I90 r0_4 r = I44 r0_4 r := fun r z0 => p0x89 r (by first | exact z0)
            have e94 := (p0x89 40 (by first | decide | exact ncne (by omega) (by omega) (by omega) | exact nckn (by omega) (by omega) | exact (nckn (by omega) (by omega)).symm)).trans e46
            have e95 := CM.j S92 R_r0_1 (by decide) e47
            have e96 := CM.j S92 R_r0_27 (by decide) e48
            have gx89 := rg x89
            refine b_if_eq C (t := 66) rfl rfl rfl (fun c97 => ?_) (fun c97 => ?_)
            · skip
              refine k_iload_n C rfl rfl rfl ?_
              refine z_iconst C (z := 1) rfl rfl rfl (fun x98 ex98 => ?_)
              refine z_iadd C rfl rfl ⟨by omega, by omega⟩ (fun x99 ex99 => ?_)
              have J100 : ∀ (nn101 : Nat) (I102 : IT) (L103 : LT) (x104 : Int32), (MN (20 - x104.toInt) nn101) → (IM R r0 I102) → (CM A R r0 [] [4, 5, 27, 28] I90 L91 I102 L103) → (∀ r : Nat, r ≠ 42 → I102 r0_4 r = I90 r0_4 r) → (2 ≤ x104.toInt) → (x104.toInt ≤ 20) → V 71 [(0, .ref r0), (1, .int n1), (2, .int x6), (3, .int x32), (4, .int x104)] [] (T, N, I102, L103, R) 0 0 := by
                intro nn101
                induction nn101 using Nat.strongRecOn with
                | _ nn101 ihJ100 =>
                  intro I102 L103 x104 hmnn101 hI108 S107 F109 b105 b106
                  have gx104 := rg x104
                  have e110 := (F109 40 (by first | decide | exact ncne (by omega) (by omega) (by omega) | exact nckn (by omega) (by omega) | exact (nckn (by omega) (by omega)).symm)).trans e94
                  have e111 := CM.j S107 R_r0_1 (by decide) e95
                  refine k_iload C rfl rfl rfl ?_
                  refine k_aload_n C rfl rfl rfl ?_
                  refine c_VI C (a_X12_p hI108 H_r0) rfl rfl rfl rfl rfl ⟨_, rfl, rfl, T_r0, Nat.le_of_ble_eq_true rfl⟩ rfl rfl (Nat.le_of_ble_eq_true rfl) (Nat.le_of_ble_eq_true rfl) (Nat.le_of_ble_eq_true rfl) ?_
                  rintro x112 _ _ ⟨o0x112, o1x112, p0x112, rfl, rfl⟩
                  have p0x112 := p0x112 r0_1 R_r0_1
                  have gx112 := rg x112
                  try simp only [e110, e111, e111] at p0x112
                  try have q0x112 := congrArg Int32.toInt p0x112
                  refine b_icmp_gt C (t := 108) rfl rfl rfl (fun c113 => ?_) (fun c113 => ?_)
                  · skip
                    refine z_iinc C (z := 1) (lw := fun x114 => [(3, .int x114), (0, .ref r0), (1, .int n1), (2, .int x6), (4, .int x104)]) rfl rfl rfl (Nat.le_of_ble_eq_true rfl) rfl ⟨by omega, by omega⟩ (fun _ => rfl) (fun x114 ex114 => ?_)
                    show V 111 [(3, .int x114), (0, .ref r0), (1, .int n1), (2, .int x6), (4, .int x104)] _ _ _ _
                    refine k_goto C (pc2 := 36) rfl rfl ?_
                    refine k_sub S [(0, .ref r0), (1, .int n1), (2, .int x6), (3, .int x114)] (List.forall_mem_cons.mpr ⟨List.mem_of_getElem? (i := 1) rfl, List.forall_mem_cons.mpr ⟨List.mem_of_getElem? (i := 2) rfl, List.forall_mem_cons.mpr ⟨List.mem_of_getElem? (i := 3) rfl, List.forall_mem_cons.mpr ⟨List.mem_of_getElem? (i := 0) rfl, fun _ h => nomatch h⟩⟩⟩⟩) ?_
                    exact ihJ28 _ (MN.lt hmnn29 (by omega) (by omega)) I102 L103 x114 rfl hI108 (CM.cons S35 (CM.cons S45 (CM.cons S92 (CM.mono S107 (by decide) (by decide)) (by decide) (by decide)) (by decide) (by decide)) (by decide) (by decide)) (fun r z0 => ((F109 r z0).trans ((F93 r z0).trans ((congrFun (CM.j0 S45 R_r0_4 (by decide)) r).trans (F37 r z0))))) (by omega) (by omega)
                  refine k_iload_n C rfl rfl rfl ?_
                  refine z_iconst C (z := 3) rfl rfl rfl (fun x115 ex115 => ?_)
                  refine b_icmp_ne C (t := 108) rfl rfl rfl (fun c116 => ?_) (fun c116 => by exfalso; omega)
                  refine z_iinc C (z := 1) (lw := fun x117 => [(3, .int x117), (0, .ref r0), (1, .int n1), (2, .int x6), (4, .int x104)]) rfl rfl rfl (Nat.le_of_ble_eq_true rfl) rfl ⟨by omega, by omega⟩ (fun _ => rfl) (fun x117 ex117 => ?_)
                  show V 111 [(3, .int x117), (0, .ref r0), (1, .int n1), (2, .int x6), (4, .int x104)] _ _ _ _
                  refine k_goto C (pc2 := 36) rfl rfl ?_
                  refine k_sub S [(0, .ref r0), (1, .int n1), (2, .int x6), (3, .int x117)] (List.forall_mem_cons.mpr ⟨List.mem_of_getElem? (i := 1) rfl, List.forall_mem_cons.mpr ⟨List.mem_of_getElem? (i := 2) rfl, List.forall_mem_cons.mpr ⟨List.mem_of_getElem? (i := 3) rfl, List.forall_mem_cons.mpr ⟨List.mem_of_getElem? (i := 0) rfl, fun _ h => nomatch h⟩⟩⟩⟩) ?_
                  exact ihJ28 _ (MN.lt hmnn29 (by omega) (by omega)) I102 L103 x117 rfl hI108 (CM.cons S35 (CM.cons S45 (CM.cons S92 (CM.mono S107 (by decide) (by decide)) (by decide) (by decide)) (by decide) (by decide)) (by decide) (by decide)) (fun r z0 => ((F109 r z0).trans ((F93 r z0).trans ((congrFun (CM.j0 S45 R_r0_4 (by decide)) r).trans (F37 r z0))))) (by omega) (by omega)
              refine k_istore C (lw := [(4, .int x99), (0, .ref r0), (1, .int n1), (2, .int x6), (3, .int x32)]) rfl rfl (Nat.le_of_ble_eq_true rfl) rfl ?_
              refine k_sub S [(0, .ref r0), (1, .int n1), (2, .int x6), (3, .int x32), (4, .int x99)] (List.forall_mem_cons.mpr ⟨List.mem_of_getElem? (i := 1) rfl, List.forall_mem_cons.mpr ⟨List.mem_of_getElem? (i := 2) rfl, List.forall_mem_cons.mpr ⟨List.mem_of_getElem? (i := 3) rfl, List.forall_mem_cons.mpr ⟨List.mem_of_getElem? (i := 4) rfl, List.forall_mem_cons.mpr ⟨List.mem_of_getElem? (i := 0) rfl, fun _ h => nomatch h⟩⟩⟩⟩⟩) ?_
              exact J100 _ I90 L91 x99 rfl hI90 CM.rf (fun r z0 => rfl) (by omega) (by omega)
            refine z_iconst C (z := 1) rfl rfl rfl (fun x118 ex118 => ?_)
            exact k_iret C rfl (Or.inr ⟨rfl, z01 (by omega) (by omega)⟩) (Nat.le_of_ble_eq_true rfl) (Nat.le_of_ble_eq_true rfl) ⟨_, _, _, rfl, rfl, by omega, by omega, fun a4 h4 => by cases (R_r0_4.symm.trans h4); exact (fun r z0 => ((F93 r z0).trans ((congrFun (CM.j0 S45 R_r0_4 (by decide)) r).trans ((F37 r z0).trans ((congrFun (CM.j0 S20 R_r0_4 (by decide)) r).trans (F11 r z0)))))), hI90, (CM.cons S9 (CM.cons S20 (CM.cons S35 (CM.cons S45 (CM.mono S92 (by decide) (by decide)) (by decide) (by decide)) (by decide) (by decide)) (by decide) (by decide)) (by decide) (by decide))⟩
        refine k_istore_n C (lw := [(3, .int x27), (0, .ref r0), (1, .int n1), (2, .int x6)]) rfl rfl (Nat.le_of_ble_eq_true rfl) rfl ?_
        refine k_sub S [(0, .ref r0), (1, .int n1), (2, .int x6), (3, .int x27)] (List.forall_mem_cons.mpr ⟨List.mem_of_getElem? (i := 1) rfl, List.forall_mem_cons.mpr ⟨List.mem_of_getElem? (i := 2) rfl, List.forall_mem_cons.mpr ⟨List.mem_of_getElem? (i := 3) rfl, List.forall_mem_cons.mpr ⟨List.mem_of_getElem? (i := 0) rfl, fun _ h => nomatch h⟩⟩⟩⟩) ?_
        exact J28 _ I19 L5 x27 rfl hI19 CM.rf (fun r z0 => rfl) (by omega) (by omega)
      refine k_aload_n C rfl rfl rfl ?_
      refine z_iconst C (z := 0) rfl rfl rfl (fun x119 ex119 => ?_)
      have q120 : x119.toNatClampNeg = 0 := nck (by omega)
      refine c_VI C (a_X12_isLast hI19 H_r0 (by omega) (by omega) (fun a4 h4 => by cases (R_r0_4.symm.trans h4); first | omega | (simp only [q120, e21, e22, e23] <;> omega))) rfl rfl rfl rfl rfl ⟨_, rfl, rfl, T_r0, Nat.le_of_ble_eq_true rfl⟩ rfl rfl (Nat.le_of_ble_eq_true rfl) (Nat.le_of_ble_eq_true rfl) (Nat.le_of_ble_eq_true rfl) ?_
      rintro x121 I122 L123 ⟨o0x121, o1x121, p0x121, hI122, S124⟩
      have p0x121 := p0x121 r0_4 R_r0_4
      try simp only [q120] at p0x121
      have F125 : ∀ r : Nat, r ≠ 42 → I122 r0_4 r = I19 r0_4 r := fun r z0 => p0x121 r (by first | exact z0)
      have e126 := (p0x121 40 (by first | decide | exact ncne (by omega) (by omega) (by omega) | exact nckn (by omega) (by omega) | exact (nckn (by omega) (by omega)).symm)).trans e21
      have e127 := CM.j S124 R_r0_1 (by decide) e22
      have e128 := CM.j S124 R_r0_27 (by decide) e23
      have gx121 := rg x121
      refine b_if_eq C (t := 114) rfl rfl rfl (fun c129 => ?_) (fun c129 => ?_)
      · skip
        refine z_iinc C (z := 1) (lw := fun x130 => [(2, .int x130), (0, .ref r0), (1, .int n1)]) rfl rfl rfl (Nat.le_of_ble_eq_true rfl) rfl ⟨by omega, by omega⟩ (fun _ => rfl) (fun x130 ex130 => ?_)
        show V 117 [(2, .int x130), (0, .ref r0), (1, .int n1)] _ _ _ _
        refine k_goto C (pc2 := 2) rfl rfl ?_
        refine k_sub S [(0, .ref r0), (1, .int n1), (2, .int x130)] (List.forall_mem_cons.mpr ⟨List.mem_of_getElem? (i := 1) rfl, List.forall_mem_cons.mpr ⟨List.mem_of_getElem? (i := 2) rfl, List.forall_mem_cons.mpr ⟨List.mem_of_getElem? (i := 0) rfl, fun _ h => nomatch h⟩⟩⟩) ?_
        exact ihJ2 _ (MN.lt hmnn3 (by omega) (by omega)) I122 L123 x130 rfl hI122 (CM.cons S9 (CM.cons S20 (CM.mono S124 (by decide) (by decide)) (by decide) (by decide)) (by decide) (by decide)) (fun r z0 => ((F125 r z0).trans ((congrFun (CM.j0 S20 R_r0_4 (by decide)) r).trans (F11 r z0)))) (by omega) (by omega)
      refine z_iconst C (z := 1) rfl rfl rfl (fun x131 ex131 => ?_)
      exact k_iret C rfl (Or.inr ⟨rfl, z01 (by omega) (by omega)⟩) (Nat.le_of_ble_eq_true rfl) (Nat.le_of_ble_eq_true rfl) ⟨_, _, _, rfl, rfl, by omega, by omega, fun a4 h4 => by cases (R_r0_4.symm.trans h4); exact (fun r z0 => ((F125 r z0).trans ((congrFun (CM.j0 S20 R_r0_4 (by decide)) r).trans (F11 r z0)))), hI122, (CM.cons S9 (CM.cons S20 (CM.mono S124 (by decide) (by decide)) (by decide) (by decide)) (by decide) (by decide))⟩
  refine k_istore_n C (lw := [(2, .int x1), (0, .ref r0), (1, .int n1)]) rfl rfl (Nat.le_of_ble_eq_true rfl) rfl ?_
  refine k_sub S [(0, .ref r0), (1, .int n1), (2, .int x1)] (List.forall_mem_cons.mpr ⟨List.mem_of_getElem? (i := 1) rfl, List.forall_mem_cons.mpr ⟨List.mem_of_getElem? (i := 2) rfl, List.forall_mem_cons.mpr ⟨List.mem_of_getElem? (i := 0) rfl, fun _ h => nomatch h⟩⟩⟩) ?_
  exact J2 _ I L x1 rfl hI CM.rf (fun r z0 => rfl) (by omega) (by omega)

theorem a_X12_powers {d : Nat} {T N : Nat → Nat} {I : IT} {L : LT} {R : RT} {A : Nat → Prop} {r0 : Nat} {n1 n2 : Int32} (hI : IM R r0 I) (H_r0 : (h_MD T N R A) r0) : Ex (d + 7) 287 [.ref r0, .int n1, .int n2] (T, N, I, L, R) 0 0 (pI T N R (fun x9 I9 L9 => (IM R r0 I9 ∧ CM A R r0 [0, 29] [4, 5, 26, 27, 28] I L I9 L9))) := by
  refine ⟨_, rfl, Nat.le_of_ble_eq_true rfl, fun V C S => ?_⟩
  show V 0 [(0, .ref r0), (1, .int n1), (2, .int n2)] [] (T, N, I, L, R) 0 0
  have gn1 := rg n1
  have gn2 := rg n2
  obtain ⟨T_r0, A_r0, ⟨r0_1, R_r0_1, H_r0_1⟩, ⟨r0_2, R_r0_2, H_r0_2⟩, ⟨r0_4, R_r0_4, H_r0_4⟩, ⟨r0_5, R_r0_5, H_r0_5⟩, ⟨r0_10, R_r0_10, H_r0_10⟩, ⟨r0_18, R_r0_18, H_r0_18⟩, ⟨r0_20, R_r0_20, H_r0_20⟩, ⟨r0_21, R_r0_21, H_r0_21⟩, ⟨r0_22, R_r0_22, H_r0_22⟩, ⟨r0_23, R_r0_23, H_r0_23⟩, ⟨r0_25, R_r0_25, H_r0_25⟩, ⟨r0_26, R_r0_26, H_r0_26⟩, ⟨r0_27, R_r0_27, H_r0_27⟩, ⟨r0_28, R_r0_28, H_r0_28⟩, ⟨r0_34, R_r0_34, H_r0_34⟩, J_r0, Y_r0⟩ := id H_r0
  have G_r0 : mF T R r0 := ⟨J_r0, Y_r0, T_r0⟩
  refine k_aload_n C rfl rfl rfl ?_
  refine z_iconst C (z := 0) rfl rfl rfl (fun x1 ex1 => ?_)
  refine z_pI C rfl rfl rfl T_r0 (Or.inr rfl) rfl (fun I2 uI2 => ?_)
  have hI2 : IM R r0 I2 := IM.fld hI G_r0 ⟨(fun h => absurd h (by decide)), (fun h => absurd h (by decide)), (fun h => absurd h (by decide)), (fun h => absurd h (by decide)), (fun h => absurd h (by decide))⟩ uI2
  have S3 : CM A R r0 [0] [] I L I2 L := CM.f G_r0 A_r0 uI2
  have e4 := u2_e uI2
  refine k_aload_n C rfl rfl rfl ?_
  refine k_aload_n C rfl rfl rfl ?_
  refine k_iload_n C rfl rfl rfl ?_
  refine c_VI C (a_X12_noForm hI2 H_r0) rfl rfl rfl rfl rfl ⟨_, rfl, rfl, T_r0, Nat.le_of_ble_eq_true rfl⟩ rfl rfl (Nat.le_of_ble_eq_true rfl) (Nat.le_of_ble_eq_true rfl) (Nat.le_of_ble_eq_true rfl) ?_
  rintro x5 _ _ ⟨o0x5, o1x5, p0x5, rfl, rfl⟩
  have p0x5 := p0x5 r0_1 R_r0_1
  have gx5 := rg x5
  obtain ⟨x6, e7⟩ : ∃ x, I2 r0_1 1 = x := ⟨_, rfl⟩
  have gx6 := rg x6
  have ox6 := IM.c1 hI2 R_r0_1 e7
  try simp only [e4, e7] at p0x5
  try have q0x5 := congrArg Int32.toInt p0x5
  refine z_iconst C (z := 1) rfl rfl rfl (fun x8 ex8 => ?_)
  have q9 : x8.toNatClampNeg = 1 := nck (by omega)
  refine c_VI C (a_X12_throwsIf hI2 H_r0 (by omega) (by omega)) rfl rfl rfl rfl rfl ⟨_, rfl, rfl, T_r0, Nat.le_of_ble_eq_true rfl⟩ rfl rfl (Nat.le_of_ble_eq_true rfl) (Nat.le_of_ble_eq_true rfl) (Nat.le_of_ble_eq_true rfl) ?_
  rintro x10 I11 L12 ⟨o0x10, o1x10, p0x10, hI11, S13⟩
  have e15 := CM.j S13 R_r0_1 (by decide) e7
  have gx10 := rg x10
  try simp only [q9, e4, e7] at p0x10
  try have q0x10 := congrArg Int32.toInt p0x10
  refine b_if_ne C (t := 44) rfl rfl rfl (fun c16 => ?_) (fun c16 => ?_)
  · skip
    refine z_iconst C (z := 0) rfl rfl rfl (fun x17 ex17 => ?_)
    exact k_iret C rfl (Or.inl rfl) (Nat.le_of_ble_eq_true rfl) (Nat.le_of_ble_eq_true rfl) ⟨_, _, _, rfl, rfl, hI11, (CM.cons S3 (CM.mono S13 (by decide) (by decide)) (by decide) (by decide))⟩
  refine k_aload_n C rfl rfl rfl ?_
  refine k_aload_n C rfl rfl rfl ?_
  refine k_iload_n C rfl rfl rfl ?_
  refine c_VI C (a_X12_degreeOf hI11 H_r0 (by omega) (by omega)) rfl rfl rfl rfl rfl ⟨_, rfl, rfl, T_r0, Nat.le_of_ble_eq_true rfl⟩ rfl rfl (Nat.le_of_ble_eq_true rfl) (Nat.le_of_ble_eq_true rfl) (Nat.le_of_ble_eq_true rfl) ?_
  rintro x18 _ _ ⟨o0x18, o1x18, p0x18, rfl, rfl⟩
  have p0x18 := p0x18 r0_1 R_r0_1
  have gx18 := rg x18
  obtain ⟨x19, e20⟩ : ∃ x, I11 r0_1 (6 + 10 * n1.toNatClampNeg) = x := ⟨_, rfl⟩
  have gx19 := rg x19
  try simp only [e15, e20] at p0x18
  try have q0x18 := congrArg Int32.toInt p0x18
  refine b_if_eq C (t := 32) rfl rfl rfl (fun c21 => ?_) (fun c21 => ?_)
  · skip
    refine z_iconst C (z := 1) rfl rfl rfl (fun x22 ex22 => ?_)
    refine k_goto C (pc2 := 37) rfl rfl ?_
    refine z_iconst C (z := 2) rfl rfl rfl (fun x23 ex23 => ?_)
    have q24 : x22.toNatClampNeg = 1 := nck (by omega)
    have q25 : x23.toNatClampNeg = 2 := nck (by omega)
    refine c_VI C (a_X12_throwsIf hI11 H_r0 (by omega) (by omega)) rfl rfl rfl rfl rfl ⟨_, rfl, rfl, T_r0, Nat.le_of_ble_eq_true rfl⟩ rfl rfl (Nat.le_of_ble_eq_true rfl) (Nat.le_of_ble_eq_true rfl) (Nat.le_of_ble_eq_true rfl) ?_
    rintro x26 I27 L28 ⟨o0x26, o1x26, p0x26, hI27, S29⟩
    have e30 := CM.j S29 R_r0_1 (by decide) e15
    have e31 := CM.j S29 R_r0_1 (by decide) e20
    have gx26 := rg x26
    try simp only [q24, q25, e15, e20] at p0x26
    try have q0x26 := congrArg Int32.toInt p0x26
    refine b_if_eq C (t := 46) rfl rfl rfl (fun c32 => by exfalso; omega) (fun c32 => ?_)
    refine z_iconst C (z := 0) rfl rfl rfl (fun x33 ex33 => ?_)
    exact k_iret C rfl (Or.inl rfl) (Nat.le_of_ble_eq_true rfl) (Nat.le_of_ble_eq_true rfl) ⟨_, _, _, rfl, rfl, hI27, (CM.cons S3 (CM.cons S13 (CM.mono S29 (by decide) (by decide)) (by decide) (by decide)) (by decide) (by decide))⟩
  refine k_iload_n C rfl rfl rfl ?_
  refine z_iconst C (z := -1) rfl rfl rfl (fun x34 ex34 => ?_)
  refine b_icmp_ge C (t := 36) rfl rfl rfl (fun c35 => ?_) (fun c35 => ?_)
  · skip
    refine z_iconst C (z := 0) rfl rfl rfl (fun x36 ex36 => ?_)
    refine z_iconst C (z := 2) rfl rfl rfl (fun x37 ex37 => ?_)
    have q38 : x36.toNatClampNeg = 0 := nck (by omega)
    have q39 : x37.toNatClampNeg = 2 := nck (by omega)
    refine c_VI C (a_X12_throwsIf hI11 H_r0 (by omega) (by omega)) rfl rfl rfl rfl rfl ⟨_, rfl, rfl, T_r0, Nat.le_of_ble_eq_true rfl⟩ rfl rfl (Nat.le_of_ble_eq_true rfl) (Nat.le_of_ble_eq_true rfl) (Nat.le_of_ble_eq_true rfl) ?_
    rintro x40 I41 L42 ⟨o0x40, o1x40, p0x40, hI41, S43⟩
    have e44 := CM.j S43 R_r0_1 (by decide) e15
    have e45 := CM.j S43 R_r0_1 (by decide) e20
    have gx40 := rg x40
    try simp only [q38, q39, e15, e20] at p0x40
    try have q0x40 := congrArg Int32.toInt p0x40
    refine b_if_eq C (t := 46) rfl rfl rfl (fun c46 => ?_) (fun c46 => by exfalso; omega)
    refine k_aload_n C rfl rfl rfl ?_
    refine z_bipush C (z := 40) rfl rfl rfl (fun x47 ex47 => ?_)
    refine k_iload_n C rfl rfl rfl ?_
    obtain ⟨x48, e49⟩ : ∃ x, I41 r0_1 0 = x := ⟨_, rfl⟩
    have gx48 := rg x48
    have ox48 := IM.pi hI41 R_r0_1 e49
    have q50 : x47.toNatClampNeg = 40 := nck (by omega)
    refine c_VV C (a_X12_takes hI41 H_r0 (by omega) (by omega) (by omega) (by omega)) rfl rfl rfl rfl rfl ⟨_, rfl, rfl, T_r0, Nat.le_of_ble_eq_true rfl⟩ rfl rfl (Nat.le_of_ble_eq_true rfl) (Nat.le_of_ble_eq_true rfl) (Nat.le_of_ble_eq_true rfl) ?_
    rintro I52 L53 ⟨p0v51, p1v51, p2v51, p3v51, p4v51, hI52, S54⟩
    have p0v51 := p0v51 r0_4 R_r0_4
    have p1v51 := p1v51 r0_1 r0_4 R_r0_1 R_r0_4
    have p2v51 := p2v51 r0_1 r0_4 r0_5 R_r0_1 R_r0_4 R_r0_5
    have p3v51 := p3v51 r0_4 R_r0_4
    have p4v51 := p4v51 r0_5 R_r0_5
    try simp only [q50] at p3v51
    try simp only [q50] at p4v51
    have e55 := CM.j S54 R_r0_1 (by decide) e44
    have e56 := CM.j S54 R_r0_1 (by decide) e45
    have e57 := CM.j S54 R_r0_1 (by decide) e49
    obtain ⟨x58, e59⟩ : ∃ x, I52 r0_4 40 = x := ⟨_, rfl⟩
    have gx58 := rg x58
    have ox58 := IM.dgR hI52 R_r0_4 e59
    try simp only [q50, e44, e45, e49, e59] at p0v51
    try have q0v51 := congrArg Int32.toInt p0v51
    try simp only [q50, e44, e45, e49, e59] at p1v51
    try have q1v51 := congrArg Int32.toInt p1v51
    try simp only [q50, e44, e45, e49, e59] at p2v51
    try have q2v51 := congrArg Int32.toInt p2v51
    refine k_aload_n C rfl rfl rfl ?_
    refine k_aload_n C rfl rfl rfl ?_
    refine g_R C rfl rfl rfl T_r0 rfl R_r0_4 ?_
    refine z_bipush C (z := 40) rfl rfl rfl (fun x60 ex60 => ?_)
    obtain ⟨T_r0_4, N_r0_4, A_r0_4⟩ := id H_r0_4
    refine a_I C rfl rfl T_r0_4 (by rw [N_r0_4]; exact vpi (by omega) (by omega)) ((congrArg (I52 r0_4) (nck (n := 40) (by omega))).trans e59) ?_
    refine c_VV C (a_X12_raises hI52 H_r0 (by omega) (by omega)) rfl rfl rfl rfl rfl ⟨_, rfl, rfl, T_r0, Nat.le_of_ble_eq_true rfl⟩ rfl rfl (Nat.le_of_ble_eq_true rfl) (Nat.le_of_ble_eq_true rfl) (Nat.le_of_ble_eq_true rfl) ?_
    rintro I62 L63 ⟨p0v61, p1v61, hI62, S64⟩
    have p0v61 := p0v61 r0_4 R_r0_4
    have p1v61 := p1v61 r0_5 R_r0_5
    have e65 := CM.j S64 R_r0_1 (by decide) e55
    have e66 := CM.j S64 R_r0_1 (by decide) e56
    have e67 := CM.j S64 R_r0_1 (by decide) e57
    have e68 := (p0v61 40 (by first | decide | exact ncne (by omega) (by omega) (by omega) | exact nckn (by omega) (by omega) | exact (nckn (by omega) (by omega)).symm)).trans e59
    refine k_aload_n C rfl rfl rfl ?_
    refine k_aload_n C rfl rfl rfl ?_
    refine z_bipush C (z := 40) rfl rfl rfl (fun x69 ex69 => ?_)
    have q70 : x69.toNatClampNeg = 40 := nck (by omega)
    refine c_VI C (a_X12_isNought hI62 H_r0 (by omega) (by omega)) rfl rfl rfl rfl rfl ⟨_, rfl, rfl, T_r0, Nat.le_of_ble_eq_true rfl⟩ rfl rfl (Nat.le_of_ble_eq_true rfl) (Nat.le_of_ble_eq_true rfl) (Nat.le_of_ble_eq_true rfl) ?_
    rintro x71 _ _ ⟨o0x71, o1x71, p0x71, rfl, rfl⟩
    have p0x71 := p0x71 r0_4 r0_5 R_r0_4 R_r0_5
    have gx71 := rg x71
    try simp only [q70, e65, e66, e67, e68] at p0x71
    try have q0x71 := congrArg Int32.toInt p0x71
    refine b_if_eq C (t := 78) rfl rfl rfl (fun c72 => ?_) (fun c72 => ?_)
    · skip
      refine z_iconst C (z := 1) rfl rfl rfl (fun x73 ex73 => ?_)
      have J74 : ∀ (nn75 : Nat) (I76 : IT) (L77 : LT) (x81 : Int32), (MN (4 - x81.toInt) nn75) → (IM R r0 I76) → (CM A R r0 [29] [4, 5, 27, 28] I62 L63 I76 L77) → (∀ r : Nat, r ≠ 42 → I76 r0_4 r = I62 r0_4 r) → (I76 r0 29 = x81) → (0 ≤ x81.toInt) → (x81.toInt ≤ 4) → V 82 [(0, .ref r0), (2, .int n2)] [] (T, N, I76, L77, R) 0 0 := by
        intro nn75
        induction nn75 using Nat.strongRecOn with
        | _ nn75 ihJ74 =>
          intro I76 L77 x81 hmnn75 hI79 S78 F80 e82 b83 b84
          have gx81 := rg x81
          have e85 := CM.j S78 R_r0_1 (by decide) e65
          have e86 := CM.j S78 R_r0_1 (by decide) e66
          have e87 := CM.j S78 R_r0_1 (by decide) e67
          have e88 := (F80 40 (by first | decide | exact ncne (by omega) (by omega) (by omega) | exact nckn (by omega) (by omega) | exact (nckn (by omega) (by omega)).symm)).trans e68
          refine k_aload_n C rfl rfl rfl ?_
          refine g_I C rfl rfl rfl T_r0 rfl e82 ?_
          refine b_if_le C (t := 121) rfl rfl rfl (fun c89 => ?_) (fun c89 => ?_)
          · skip
            refine k_aload_n C rfl rfl rfl ?_
            refine g_I C rfl rfl rfl T_r0 rfl e82 ?_
            refine z_iconst C (z := 3) rfl rfl rfl (fun x90 ex90 => ?_)
            refine b_icmp_le C (t := 131) rfl rfl rfl (fun c91 => ?_) (fun c91 => by exfalso; omega)
            refine k_iload_n C rfl rfl rfl ?_
            refine b_if_ge C (t := 140) rfl rfl rfl (fun c92 => ?_) (fun c92 => ?_)
            · skip
              refine k_iload_n C rfl rfl rfl ?_
              refine z_iconst C (z := 0) rfl rfl rfl (fun x93 ex93 => ?_)
              refine k_aload_n C rfl rfl rfl ?_
              refine g_I C rfl rfl rfl T_r0 rfl e82 ?_
              refine z_iconst C (z := 1) rfl rfl rfl (fun x94 ex94 => ?_)
              refine z_isub C rfl rfl ⟨by omega, by omega⟩ (fun x95 ex95 => ?_)
              have q96 : x93.toNatClampNeg = 0 := nck (by omega)
              refine c_SI C a_X12_in rfl rfl rfl rfl rfl rfl rfl (Nat.le_of_ble_eq_true rfl) (Nat.le_of_ble_eq_true rfl) (Nat.le_of_ble_eq_true rfl) ?_
              rintro x97 _ _ ⟨o0x97, o1x97, p0x97, rfl, rfl⟩
              have gx97 := rg x97
              try simp only [q96, e85, e86, e87, e88, e82] at p0x97
              try have q0x97 := congrArg Int32.toInt p0x97
              refine b_if_eq C (t := 163) rfl rfl rfl (fun c98 => ?_) (fun c98 => ?_)
              · skip
                refine k_iload_n C rfl rfl rfl ?_
                refine z_bipush C (z := 10) rfl rfl rfl (fun x99 ex99 => ?_)
                refine z_isub C rfl rfl ⟨by omega, by omega⟩ (fun x100 ex100 => ?_)
                refine z_iconst C (z := 0) rfl rfl rfl (fun x101 ex101 => ?_)
                refine k_aload_n C rfl rfl rfl ?_
                refine g_I C rfl rfl rfl T_r0 rfl e82 ?_
                refine z_iconst C (z := 1) rfl rfl rfl (fun x102 ex102 => ?_)
                refine z_isub C rfl rfl ⟨by omega, by omega⟩ (fun x103 ex103 => ?_)
                have q104 : x101.toNatClampNeg = 0 := nck (by omega)
                refine c_SI C a_X12_in rfl rfl rfl rfl rfl rfl rfl (Nat.le_of_ble_eq_true rfl) (Nat.le_of_ble_eq_true rfl) (Nat.le_of_ble_eq_true rfl) ?_
                rintro x105 _ _ ⟨o0x105, o1x105, p0x105, rfl, rfl⟩
                have gx105 := rg x105
                try simp only [q104, e85, e86, e87, e88, e82] at p0x105
                try have q0x105 := congrArg Int32.toInt p0x105
                refine b_if_eq C (t := 192) rfl rfl rfl (fun c106 => ?_) (fun c106 => ?_)
                · skip
                  refine z_iconst C (z := -1) rfl rfl rfl (fun x107 ex107 => ?_)
                  exact k_iret C rfl (Or.inl rfl) (Nat.le_of_ble_eq_true rfl) (Nat.le_of_ble_eq_true rfl) ⟨_, _, _, rfl, rfl, hI79, (CM.cons S3 (CM.cons S13 (CM.cons S43 (CM.cons S54 (CM.cons S64 (CM.mono S78 (by decide) (by decide)) (by decide) (by decide)) (by decide) (by decide)) (by decide) (by decide)) (by decide) (by decide)) (by decide) (by decide))⟩
                refine k_aload_n C rfl rfl rfl ?_
                refine g_R C rfl rfl rfl T_r0 rfl R_r0_28 ?_
                refine k_iload_n C rfl rfl rfl ?_
                refine z_bipush C (z := 10) rfl rfl rfl (fun x108 ex108 => ?_)
                refine z_isub C rfl rfl ⟨by omega, by omega⟩ (fun x109 ex109 => ?_)
                obtain ⟨T_r0_28, N_r0_28, A_r0_28⟩ := id H_r0_28
                refine z_aI C rfl rfl T_r0_28 N_r0_28 (by omega) (by omega) (fun x110 ex110 => ?_)
                have gx110 := rg x110
                have ox110 := IM.faR hI79 R_r0_28 ex110
                refine k_goto C (pc2 := 193) rfl rfl ?_
                exact k_iret C rfl (Or.inl rfl) (Nat.le_of_ble_eq_true rfl) (Nat.le_of_ble_eq_true rfl) ⟨_, _, _, rfl, rfl, hI79, (CM.cons S3 (CM.cons S13 (CM.cons S43 (CM.cons S54 (CM.cons S64 (CM.mono S78 (by decide) (by decide)) (by decide) (by decide)) (by decide) (by decide)) (by decide) (by decide)) (by decide) (by decide)) (by decide) (by decide))⟩
              refine k_aload_n C rfl rfl rfl ?_
              refine g_R C rfl rfl rfl T_r0 rfl R_r0_27 ?_
              refine k_iload_n C rfl rfl rfl ?_
              obtain ⟨T_r0_27, N_r0_27, A_r0_27⟩ := id H_r0_27
              refine z_aI C rfl rfl T_r0_27 N_r0_27 (by omega) (by omega) (fun x111 ex111 => ?_)
              have gx111 := rg x111
              have ox111 := IM.spR hI79 R_r0_27 ex111
              refine k_goto C (pc2 := 193) rfl rfl ?_
              exact k_iret C rfl (Or.inl rfl) (Nat.le_of_ble_eq_true rfl) (Nat.le_of_ble_eq_true rfl) ⟨_, _, _, rfl, rfl, hI79, (CM.cons S3 (CM.cons S13 (CM.cons S43 (CM.cons S54 (CM.cons S64 (CM.mono S78 (by decide) (by decide)) (by decide) (by decide)) (by decide) (by decide)) (by decide) (by decide)) (by decide) (by decide)) (by decide) (by decide))⟩
            refine k_aload_n C rfl rfl rfl ?_
            refine g_I C rfl rfl rfl T_r0 rfl e82 ?_
            exact k_iret C rfl (Or.inl rfl) (Nat.le_of_ble_eq_true rfl) (Nat.le_of_ble_eq_true rfl) ⟨_, _, _, rfl, rfl, hI79, (CM.cons S3 (CM.cons S13 (CM.cons S43 (CM.cons S54 (CM.cons S64 (CM.mono S78 (by decide) (by decide)) (by decide) (by decide)) (by decide) (by decide)) (by decide) (by decide)) (by decide) (by decide)) (by decide) (by decide))⟩
          refine k_aload_n C rfl rfl rfl ?_
          refine g_I C rfl rfl rfl T_r0 rfl e82 ?_
          refine z_iconst C (z := 4) rfl rfl rfl (fun x112 ex112 => ?_)
          refine b_icmp_ge C (t := 121) rfl rfl rfl (fun c113 => ?_) (fun c113 => ?_)
          · skip
            refine k_aload_n C rfl rfl rfl ?_
            refine g_I C rfl rfl rfl T_r0 rfl e82 ?_
            refine z_iconst C (z := 3) rfl rfl rfl (fun x114 ex114 => ?_)
            refine b_icmp_le C (t := 131) rfl rfl rfl (fun c115 => by exfalso; omega) (fun c115 => ?_)
            refine z_iconst C (z := -1) rfl rfl rfl (fun x116 ex116 => ?_)
            exact k_iret C rfl (Or.inl rfl) (Nat.le_of_ble_eq_true rfl) (Nat.le_of_ble_eq_true rfl) ⟨_, _, _, rfl, rfl, hI79, (CM.cons S3 (CM.cons S13 (CM.cons S43 (CM.cons S54 (CM.cons S64 (CM.mono S78 (by decide) (by decide)) (by decide) (by decide)) (by decide) (by decide)) (by decide) (by decide)) (by decide) (by decide)) (by decide) (by decide))⟩
          refine k_aload_n C rfl rfl rfl ?_
          refine k_aload_n C rfl rfl rfl ?_
          refine g_I C rfl rfl rfl T_r0 rfl e82 ?_
          refine c_VI C (a_X12_isSum hI79 H_r0 (by omega) (by omega) (fun a4 h4 => by cases (R_r0_4.symm.trans h4); first | omega | (simp only [e85, e86, e87, e88, e82] <;> omega))) rfl rfl rfl rfl rfl ⟨_, rfl, rfl, T_r0, Nat.le_of_ble_eq_true rfl⟩ rfl rfl (Nat.le_of_ble_eq_true rfl) (Nat.le_of_ble_eq_true rfl) (Nat.le_of_ble_eq_true rfl) ?_
          rintro x117 I118 L119 ⟨o0x117, o1x117, p0x117, hI118, S120⟩
          have p0x117 := p0x117 r0_4 R_r0_4
          have F121 : ∀ r : Nat, r ≠ 42 → I118 r0_4 r = I76 r0_4 r := fun r z0 => p0x117 r (by first | exact z0)
          have e122 := CM.j S120 R_r0_1 (by decide) e85
          have e123 := CM.j S120 R_r0_1 (by decide) e86
          have e124 := CM.j S120 R_r0_1 (by decide) e87
          have e125 := (p0x117 40 (by first | decide | exact ncne (by omega) (by omega) (by omega) | exact nckn (by omega) (by omega) | exact (nckn (by omega) (by omega)).symm)).trans e88
          have e126 := CM.k S120 (by decide) e82
          have gx117 := rg x117
          refine b_if_ne C (t := 121) rfl rfl rfl (fun c127 => ?_) (fun c127 => ?_)
          · skip
            refine k_aload_n C rfl rfl rfl ?_
            refine g_I C rfl rfl rfl T_r0 rfl e126 ?_
            refine z_iconst C (z := 3) rfl rfl rfl (fun x128 ex128 => ?_)
            refine b_icmp_le C (t := 131) rfl rfl rfl (fun c129 => ?_) (fun c129 => by exfalso; omega)
            refine k_iload_n C rfl rfl rfl ?_
            refine b_if_ge C (t := 140) rfl rfl rfl (fun c130 => ?_) (fun c130 => ?_)
            · skip
              refine k_iload_n C rfl rfl rfl ?_
              refine z_iconst C (z := 0) rfl rfl rfl (fun x131 ex131 => ?_)
              refine k_aload_n C rfl rfl rfl ?_
              refine g_I C rfl rfl rfl T_r0 rfl e126 ?_
              refine z_iconst C (z := 1) rfl rfl rfl (fun x132 ex132 => ?_)
              refine z_isub C rfl rfl ⟨by omega, by omega⟩ (fun x133 ex133 => ?_)
              have q134 : x131.toNatClampNeg = 0 := nck (by omega)
              refine c_SI C a_X12_in rfl rfl rfl rfl rfl rfl rfl (Nat.le_of_ble_eq_true rfl) (Nat.le_of_ble_eq_true rfl) (Nat.le_of_ble_eq_true rfl) ?_
              rintro x135 _ _ ⟨o0x135, o1x135, p0x135, rfl, rfl⟩
              have gx135 := rg x135
              try simp only [q134, e122, e123, e124, e125, e126] at p0x135
              try have q0x135 := congrArg Int32.toInt p0x135
              refine b_if_eq C (t := 163) rfl rfl rfl (fun c136 => ?_) (fun c136 => ?_)
              · skip
                refine k_iload_n C rfl rfl rfl ?_
                refine z_bipush C (z := 10) rfl rfl rfl (fun x137 ex137 => ?_)
                refine z_isub C rfl rfl ⟨by omega, by omega⟩ (fun x138 ex138 => ?_)
                refine z_iconst C (z := 0) rfl rfl rfl (fun x139 ex139 => ?_)
                refine k_aload_n C rfl rfl rfl ?_
                refine g_I C rfl rfl rfl T_r0 rfl e126 ?_
                refine z_iconst C (z := 1) rfl rfl rfl (fun x140 ex140 => ?_)
                refine z_isub C rfl rfl ⟨by omega, by omega⟩ (fun x141 ex141 => ?_)
                have q142 : x139.toNatClampNeg = 0 := nck (by omega)
                refine c_SI C a_X12_in rfl rfl rfl rfl rfl rfl rfl (Nat.le_of_ble_eq_true rfl) (Nat.le_of_ble_eq_true rfl) (Nat.le_of_ble_eq_true rfl) ?_
                rintro x143 _ _ ⟨o0x143, o1x143, p0x143, rfl, rfl⟩
                have gx143 := rg x143
                try simp only [q142, e122, e123, e124, e125, e126] at p0x143
                try have q0x143 := congrArg Int32.toInt p0x143
                refine b_if_eq C (t := 192) rfl rfl rfl (fun c144 => ?_) (fun c144 => ?_)
                · skip
                  refine z_iconst C (z := -1) rfl rfl rfl (fun x145 ex145 => ?_)
                  exact k_iret C rfl (Or.inl rfl) (Nat.le_of_ble_eq_true rfl) (Nat.le_of_ble_eq_true rfl) ⟨_, _, _, rfl, rfl, hI118, (CM.cons S3 (CM.cons S13 (CM.cons S43 (CM.cons S54 (CM.cons S64 (CM.cons S78 (CM.mono S120 (by decide) (by decide)) (by decide) (by decide)) (by decide) (by decide)) (by decide) (by decide)) (by decide) (by decide)) (by decide) (by decide)) (by decide) (by decide))⟩
                refine k_aload_n C rfl rfl rfl ?_
                refine g_R C rfl rfl rfl T_r0 rfl R_r0_28 ?_
                refine k_iload_n C rfl rfl rfl ?_
                refine z_bipush C (z := 10) rfl rfl rfl (fun x146 ex146 => ?_)
                refine z_isub C rfl rfl ⟨by omega, by omega⟩ (fun x147 ex147 => ?_)
                obtain ⟨T_r0_28, N_r0_28, A_r0_28⟩ := id H_r0_28
                refine z_aI C rfl rfl T_r0_28 N_r0_28 (by omega) (by omega) (fun x148 ex148 => ?_)
                have gx148 := rg x148
                have ox148 := IM.faR hI118 R_r0_28 ex148
                refine k_goto C (pc2 := 193) rfl rfl ?_
                exact k_iret C rfl (Or.inl rfl) (Nat.le_of_ble_eq_true rfl) (Nat.le_of_ble_eq_true rfl) ⟨_, _, _, rfl, rfl, hI118, (CM.cons S3 (CM.cons S13 (CM.cons S43 (CM.cons S54 (CM.cons S64 (CM.cons S78 (CM.mono S120 (by decide) (by decide)) (by decide) (by decide)) (by decide) (by decide)) (by decide) (by decide)) (by decide) (by decide)) (by decide) (by decide)) (by decide) (by decide))⟩
              refine k_aload_n C rfl rfl rfl ?_
              refine g_R C rfl rfl rfl T_r0 rfl R_r0_27 ?_
              refine k_iload_n C rfl rfl rfl ?_
              obtain ⟨T_r0_27, N_r0_27, A_r0_27⟩ := id H_r0_27
              refine z_aI C rfl rfl T_r0_27 N_r0_27 (by omega) (by omega) (fun x149 ex149 => ?_)
              have gx149 := rg x149
              have ox149 := IM.spR hI118 R_r0_27 ex149
              refine k_goto C (pc2 := 193) rfl rfl ?_
              exact k_iret C rfl (Or.inl rfl) (Nat.le_of_ble_eq_true rfl) (Nat.le_of_ble_eq_true rfl) ⟨_, _, _, rfl, rfl, hI118, (CM.cons S3 (CM.cons S13 (CM.cons S43 (CM.cons S54 (CM.cons S64 (CM.cons S78 (CM.mono S120 (by decide) (by decide)) (by decide) (by decide)) (by decide) (by decide)) (by decide) (by decide)) (by decide) (by decide)) (by decide) (by decide)) (by decide) (by decide))⟩
            refine k_aload_n C rfl rfl rfl ?_
            refine g_I C rfl rfl rfl T_r0 rfl e126 ?_
            exact k_iret C rfl (Or.inl rfl) (Nat.le_of_ble_eq_true rfl) (Nat.le_of_ble_eq_true rfl) ⟨_, _, _, rfl, rfl, hI118, (CM.cons S3 (CM.cons S13 (CM.cons S43 (CM.cons S54 (CM.cons S64 (CM.cons S78 (CM.mono S120 (by decide) (by decide)) (by decide) (by decide)) (by decide) (by decide)) (by decide) (by decide)) (by decide) (by decide)) (by decide) (by decide)) (by decide) (by decide))⟩
          refine k_aload_n C rfl rfl rfl ?_
          refine k_dup C rfl rfl rfl ?_
          refine g_I C rfl rfl rfl T_r0 rfl e126 ?_
          refine z_iconst C (z := 1) rfl rfl rfl (fun x150 ex150 => ?_)
          refine z_iadd C rfl rfl ⟨by omega, by omega⟩ (fun x151 ex151 => ?_)
          refine z_pI C rfl rfl rfl T_r0 (Or.inr rfl) rfl (fun I152 uI152 => ?_)
          have hI152 : IM R r0 I152 := IM.fld hI118 G_r0 ⟨(fun h => absurd h (by decide)), (fun h => absurd h (by decide)), (fun h => absurd h (by decide)), (fun h => absurd h (by decide)), (fun h => absurd h (by decide))⟩ uI152
          have S153 : CM A R r0 [29] [] I118 L119 I152 L119 := CM.f G_r0 A_r0 uI152
          have e154 := u2_n uI152 (mF.ne G_r0 R_r0_1) e122
          have e155 := u2_n uI152 (mF.ne G_r0 R_r0_1) e123
          have e156 := u2_n uI152 (mF.ne G_r0 R_r0_1) e124
          have e157 := u2_n uI152 (mF.ne G_r0 R_r0_4) e125
          have e159 := u2_e uI152
          refine k_goto C (pc2 := 82) rfl rfl ?_
          refine k_sub S [(0, .ref r0), (2, .int n2)] (List.forall_mem_cons.mpr ⟨List.mem_of_getElem? (i := 0) rfl, List.forall_mem_cons.mpr ⟨List.mem_of_getElem? (i := 1) rfl, fun _ h => nomatch h⟩⟩) ?_
          exact ihJ74 _ (MN.lt hmnn75 (by omega) (by omega)) I152 L119 x151 rfl hI152 (CM.cons S78 (CM.cons S120 (CM.mono S153 (by decide) (by decide)) (by decide) (by decide)) (by decide) (by decide)) (fun r z0 => ((congrFun (CM.j0 S153 R_r0_4 (by decide)) r).trans ((F121 r z0).trans (F80 r z0)))) e159 (by omega) (by omega)
      refine z_pI C rfl rfl rfl T_r0 (Or.inr rfl) rfl (fun I160 uI160 => ?_)
      have hI160 : IM R r0 I160 := IM.fld hI62 G_r0 ⟨(fun h => absurd h (by decide)), (fun h => absurd h (by decide)), (fun h => absurd h (by decide)), (fun h => absurd h (by decide)), (fun h => absurd h (by decide))⟩ uI160
      have S161 : CM A R r0 [29] [] I62 L63 I160 L63 := CM.f G_r0 A_r0 uI160
      have e162 := u2_n uI160 (mF.ne G_r0 R_r0_1) e65
      have e163 := u2_n uI160 (mF.ne G_r0 R_r0_1) e66
      have e164 := u2_n uI160 (mF.ne G_r0 R_r0_1) e67
      have e165 := u2_n uI160 (mF.ne G_r0 R_r0_4) e68
      have e166 := u2_e uI160
      refine k_sub S [(0, .ref r0), (2, .int n2)] (List.forall_mem_cons.mpr ⟨List.mem_of_getElem? (i := 0) rfl, List.forall_mem_cons.mpr ⟨List.mem_of_getElem? (i := 2) rfl, fun _ h => nomatch h⟩⟩) ?_
      exact J74 _ I160 L63 x73 rfl hI160 (CM.mono S161 (by decide) (by decide)) (fun r z0 => (congrFun (CM.j0 S161 R_r0_4 (by decide)) r)) e166 (by omega) (by omega)
    refine z_iconst C (z := 0) rfl rfl rfl (fun x167 ex167 => ?_)
    refine k_goto C (pc2 := 79) rfl rfl ?_
    have J168 : ∀ (nn169 : Nat) (I170 : IT) (L171 : LT) (x175 : Int32), (MN (4 - x175.toInt) nn169) → (IM R r0 I170) → (CM A R r0 [29] [4, 5, 27, 28] I62 L63 I170 L171) → (∀ r : Nat, r ≠ 42 → I170 r0_4 r = I62 r0_4 r) → (I170 r0 29 = x175) → (0 ≤ x175.toInt) → (x175.toInt ≤ 4) → V 82 [(0, .ref r0), (2, .int n2)] [] (T, N, I170, L171, R) 0 0 := by
      intro nn169
      induction nn169 using Nat.strongRecOn with
      | _ nn169 ihJ168 =>
        intro I170 L171 x175 hmnn169 hI173 S172 F174 e176 b177 b178
        have gx175 := rg x175
        have e179 := CM.j S172 R_r0_1 (by decide) e65
        have e180 := CM.j S172 R_r0_1 (by decide) e66
        have e181 := CM.j S172 R_r0_1 (by decide) e67
        have e182 := (F174 40 (by first | decide | exact ncne (by omega) (by omega) (by omega) | exact nckn (by omega) (by omega) | exact (nckn (by omega) (by omega)).symm)).trans e68
        refine k_aload_n C rfl rfl rfl ?_
        refine g_I C rfl rfl rfl T_r0 rfl e176 ?_
        refine b_if_le C (t := 121) rfl rfl rfl (fun c183 => ?_) (fun c183 => ?_)
        · skip
          refine k_aload_n C rfl rfl rfl ?_
          refine g_I C rfl rfl rfl T_r0 rfl e176 ?_
          refine z_iconst C (z := 3) rfl rfl rfl (fun x184 ex184 => ?_)
          refine b_icmp_le C (t := 131) rfl rfl rfl (fun c185 => ?_) (fun c185 => by exfalso; omega)
          refine k_iload_n C rfl rfl rfl ?_
          refine b_if_ge C (t := 140) rfl rfl rfl (fun c186 => ?_) (fun c186 => ?_)
          · skip
            refine k_iload_n C rfl rfl rfl ?_
            refine z_iconst C (z := 0) rfl rfl rfl (fun x187 ex187 => ?_)
            refine k_aload_n C rfl rfl rfl ?_
            refine g_I C rfl rfl rfl T_r0 rfl e176 ?_
            refine z_iconst C (z := 1) rfl rfl rfl (fun x188 ex188 => ?_)
            refine z_isub C rfl rfl ⟨by omega, by omega⟩ (fun x189 ex189 => ?_)
            have q190 : x187.toNatClampNeg = 0 := nck (by omega)
            refine c_SI C a_X12_in rfl rfl rfl rfl rfl rfl rfl (Nat.le_of_ble_eq_true rfl) (Nat.le_of_ble_eq_true rfl) (Nat.le_of_ble_eq_true rfl) ?_
            rintro x191 _ _ ⟨o0x191, o1x191, p0x191, rfl, rfl⟩
            have gx191 := rg x191
            try simp only [q190, e179, e180, e181, e182, e176] at p0x191
            try have q0x191 := congrArg Int32.toInt p0x191
            refine b_if_eq C (t := 163) rfl rfl rfl (fun c192 => ?_) (fun c192 => ?_)
            · skip
              refine k_iload_n C rfl rfl rfl ?_
              refine z_bipush C (z := 10) rfl rfl rfl (fun x193 ex193 => ?_)
              refine z_isub C rfl rfl ⟨by omega, by omega⟩ (fun x194 ex194 => ?_)
              refine z_iconst C (z := 0) rfl rfl rfl (fun x195 ex195 => ?_)
              refine k_aload_n C rfl rfl rfl ?_
              refine g_I C rfl rfl rfl T_r0 rfl e176 ?_
              refine z_iconst C (z := 1) rfl rfl rfl (fun x196 ex196 => ?_)
              refine z_isub C rfl rfl ⟨by omega, by omega⟩ (fun x197 ex197 => ?_)
              have q198 : x195.toNatClampNeg = 0 := nck (by omega)
              refine c_SI C a_X12_in rfl rfl rfl rfl rfl rfl rfl (Nat.le_of_ble_eq_true rfl) (Nat.le_of_ble_eq_true rfl) (Nat.le_of_ble_eq_true rfl) ?_
              rintro x199 _ _ ⟨o0x199, o1x199, p0x199, rfl, rfl⟩
              have gx199 := rg x199
              try simp only [q198, e179, e180, e181, e182, e176] at p0x199
              try have q0x199 := congrArg Int32.toInt p0x199
              refine b_if_eq C (t := 192) rfl rfl rfl (fun c200 => ?_) (fun c200 => ?_)
              · skip
                refine z_iconst C (z := -1) rfl rfl rfl (fun x201 ex201 => ?_)
                exact k_iret C rfl (Or.inl rfl) (Nat.le_of_ble_eq_true rfl) (Nat.le_of_ble_eq_true rfl) ⟨_, _, _, rfl, rfl, hI173, (CM.cons S3 (CM.cons S13 (CM.cons S43 (CM.cons S54 (CM.cons S64 (CM.mono S172 (by decide) (by decide)) (by decide) (by decide)) (by decide) (by decide)) (by decide) (by decide)) (by decide) (by decide)) (by decide) (by decide))⟩
              refine k_aload_n C rfl rfl rfl ?_
              refine g_R C rfl rfl rfl T_r0 rfl R_r0_28 ?_
              refine k_iload_n C rfl rfl rfl ?_
              refine z_bipush C (z := 10) rfl rfl rfl (fun x202 ex202 => ?_)
              refine z_isub C rfl rfl ⟨by omega, by omega⟩ (fun x203 ex203 => ?_)
              obtain ⟨T_r0_28, N_r0_28, A_r0_28⟩ := id H_r0_28
              refine z_aI C rfl rfl T_r0_28 N_r0_28 (by omega) (by omega) (fun x204 ex204 => ?_)
              have gx204 := rg x204
              have ox204 := IM.faR hI173 R_r0_28 ex204
              refine k_goto C (pc2 := 193) rfl rfl ?_
              exact k_iret C rfl (Or.inl rfl) (Nat.le_of_ble_eq_true rfl) (Nat.le_of_ble_eq_true rfl) ⟨_, _, _, rfl, rfl, hI173, (CM.cons S3 (CM.cons S13 (CM.cons S43 (CM.cons S54 (CM.cons S64 (CM.mono S172 (by decide) (by decide)) (by decide) (by decide)) (by decide) (by decide)) (by decide) (by decide)) (by decide) (by decide)) (by decide) (by decide))⟩
            refine k_aload_n C rfl rfl rfl ?_
            refine g_R C rfl rfl rfl T_r0 rfl R_r0_27 ?_
            refine k_iload_n C rfl rfl rfl ?_
            obtain ⟨T_r0_27, N_r0_27, A_r0_27⟩ := id H_r0_27
            refine z_aI C rfl rfl T_r0_27 N_r0_27 (by omega) (by omega) (fun x205 ex205 => ?_)
            have gx205 := rg x205
            have ox205 := IM.spR hI173 R_r0_27 ex205
            refine k_goto C (pc2 := 193) rfl rfl ?_
            exact k_iret C rfl (Or.inl rfl) (Nat.le_of_ble_eq_true rfl) (Nat.le_of_ble_eq_true rfl) ⟨_, _, _, rfl, rfl, hI173, (CM.cons S3 (CM.cons S13 (CM.cons S43 (CM.cons S54 (CM.cons S64 (CM.mono S172 (by decide) (by decide)) (by decide) (by decide)) (by decide) (by decide)) (by decide) (by decide)) (by decide) (by decide)) (by decide) (by decide))⟩
          refine k_aload_n C rfl rfl rfl ?_
          refine g_I C rfl rfl rfl T_r0 rfl e176 ?_
          exact k_iret C rfl (Or.inl rfl) (Nat.le_of_ble_eq_true rfl) (Nat.le_of_ble_eq_true rfl) ⟨_, _, _, rfl, rfl, hI173, (CM.cons S3 (CM.cons S13 (CM.cons S43 (CM.cons S54 (CM.cons S64 (CM.mono S172 (by decide) (by decide)) (by decide) (by decide)) (by decide) (by decide)) (by decide) (by decide)) (by decide) (by decide)) (by decide) (by decide))⟩
        refine k_aload_n C rfl rfl rfl ?_
        refine g_I C rfl rfl rfl T_r0 rfl e176 ?_
        refine z_iconst C (z := 4) rfl rfl rfl (fun x206 ex206 => ?_)
        refine b_icmp_ge C (t := 121) rfl rfl rfl (fun c207 => ?_) (fun c207 => ?_)
        · skip
          refine k_aload_n C rfl rfl rfl ?_
          refine g_I C rfl rfl rfl T_r0 rfl e176 ?_
          refine z_iconst C (z := 3) rfl rfl rfl (fun x208 ex208 => ?_)
          refine b_icmp_le C (t := 131) rfl rfl rfl (fun c209 => by exfalso; omega) (fun c209 => ?_)
          refine z_iconst C (z := -1) rfl rfl rfl (fun x210 ex210 => ?_)
          exact k_iret C rfl (Or.inl rfl) (Nat.le_of_ble_eq_true rfl) (Nat.le_of_ble_eq_true rfl) ⟨_, _, _, rfl, rfl, hI173, (CM.cons S3 (CM.cons S13 (CM.cons S43 (CM.cons S54 (CM.cons S64 (CM.mono S172 (by decide) (by decide)) (by decide) (by decide)) (by decide) (by decide)) (by decide) (by decide)) (by decide) (by decide)) (by decide) (by decide))⟩
        refine k_aload_n C rfl rfl rfl ?_
        refine k_aload_n C rfl rfl rfl ?_
        refine g_I C rfl rfl rfl T_r0 rfl e176 ?_
        refine c_VI C (a_X12_isSum hI173 H_r0 (by omega) (by omega) (fun a4 h4 => by cases (R_r0_4.symm.trans h4); first | omega | (simp only [e179, e180, e181, e182, e176] <;> omega))) rfl rfl rfl rfl rfl ⟨_, rfl, rfl, T_r0, Nat.le_of_ble_eq_true rfl⟩ rfl rfl (Nat.le_of_ble_eq_true rfl) (Nat.le_of_ble_eq_true rfl) (Nat.le_of_ble_eq_true rfl) ?_
        rintro x211 I212 L213 ⟨o0x211, o1x211, p0x211, hI212, S214⟩
        have p0x211 := p0x211 r0_4 R_r0_4
        have F215 : ∀ r : Nat, r ≠ 42 → I212 r0_4 r = I170 r0_4 r := fun r z0 => p0x211 r (by first | exact z0)
        have e216 := CM.j S214 R_r0_1 (by decide) e179
        have e217 := CM.j S214 R_r0_1 (by decide) e180
        have e218 := CM.j S214 R_r0_1 (by decide) e181
        have e219 := (p0x211 40 (by first | decide | exact ncne (by omega) (by omega) (by omega) | exact nckn (by omega) (by omega) | exact (nckn (by omega) (by omega)).symm)).trans e182
        have e220 := CM.k S214 (by decide) e176
        have gx211 := rg x211
        refine b_if_ne C (t := 121) rfl rfl rfl (fun c221 => ?_) (fun c221 => ?_)
        · skip
          refine k_aload_n C rfl rfl rfl ?_
          refine g_I C rfl rfl rfl T_r0 rfl e220 ?_
          refine z_iconst C (z := 3) rfl rfl rfl (fun x222 ex222 => ?_)
          refine b_icmp_le C (t := 131) rfl rfl rfl (fun c223 => ?_) (fun c223 => by exfalso; omega)
          refine k_iload_n C rfl rfl rfl ?_
          refine b_if_ge C (t := 140) rfl rfl rfl (fun c224 => ?_) (fun c224 => ?_)
          · skip
            refine k_iload_n C rfl rfl rfl ?_
            refine z_iconst C (z := 0) rfl rfl rfl (fun x225 ex225 => ?_)
            refine k_aload_n C rfl rfl rfl ?_
            refine g_I C rfl rfl rfl T_r0 rfl e220 ?_
            refine z_iconst C (z := 1) rfl rfl rfl (fun x226 ex226 => ?_)
            refine z_isub C rfl rfl ⟨by omega, by omega⟩ (fun x227 ex227 => ?_)
            have q228 : x225.toNatClampNeg = 0 := nck (by omega)
            refine c_SI C a_X12_in rfl rfl rfl rfl rfl rfl rfl (Nat.le_of_ble_eq_true rfl) (Nat.le_of_ble_eq_true rfl) (Nat.le_of_ble_eq_true rfl) ?_
            rintro x229 _ _ ⟨o0x229, o1x229, p0x229, rfl, rfl⟩
            have gx229 := rg x229
            try simp only [q228, e216, e217, e218, e219, e220] at p0x229
            try have q0x229 := congrArg Int32.toInt p0x229
            refine b_if_eq C (t := 163) rfl rfl rfl (fun c230 => ?_) (fun c230 => ?_)
            · skip
              refine k_iload_n C rfl rfl rfl ?_
              refine z_bipush C (z := 10) rfl rfl rfl (fun x231 ex231 => ?_)
              refine z_isub C rfl rfl ⟨by omega, by omega⟩ (fun x232 ex232 => ?_)
              refine z_iconst C (z := 0) rfl rfl rfl (fun x233 ex233 => ?_)
              refine k_aload_n C rfl rfl rfl ?_
              refine g_I C rfl rfl rfl T_r0 rfl e220 ?_
              refine z_iconst C (z := 1) rfl rfl rfl (fun x234 ex234 => ?_)
              refine z_isub C rfl rfl ⟨by omega, by omega⟩ (fun x235 ex235 => ?_)
              have q236 : x233.toNatClampNeg = 0 := nck (by omega)
              refine c_SI C a_X12_in rfl rfl rfl rfl rfl rfl rfl (Nat.le_of_ble_eq_true rfl) (Nat.le_of_ble_eq_true rfl) (Nat.le_of_ble_eq_true rfl) ?_
              rintro x237 _ _ ⟨o0x237, o1x237, p0x237, rfl, rfl⟩
              have gx237 := rg x237
              try simp only [q236, e216, e217, e218, e219, e220] at p0x237
              try have q0x237 := congrArg Int32.toInt p0x237
              refine b_if_eq C (t := 192) rfl rfl rfl (fun c238 => ?_) (fun c238 => ?_)
              · skip
                refine z_iconst C (z := -1) rfl rfl rfl (fun x239 ex239 => ?_)
                exact k_iret C rfl (Or.inl rfl) (Nat.le_of_ble_eq_true rfl) (Nat.le_of_ble_eq_true rfl) ⟨_, _, _, rfl, rfl, hI212, (CM.cons S3 (CM.cons S13 (CM.cons S43 (CM.cons S54 (CM.cons S64 (CM.cons S172 (CM.mono S214 (by decide) (by decide)) (by decide) (by decide)) (by decide) (by decide)) (by decide) (by decide)) (by decide) (by decide)) (by decide) (by decide)) (by decide) (by decide))⟩
              refine k_aload_n C rfl rfl rfl ?_
              refine g_R C rfl rfl rfl T_r0 rfl R_r0_28 ?_
              refine k_iload_n C rfl rfl rfl ?_
              refine z_bipush C (z := 10) rfl rfl rfl (fun x240 ex240 => ?_)
              refine z_isub C rfl rfl ⟨by omega, by omega⟩ (fun x241 ex241 => ?_)
              obtain ⟨T_r0_28, N_r0_28, A_r0_28⟩ := id H_r0_28
              refine z_aI C rfl rfl T_r0_28 N_r0_28 (by omega) (by omega) (fun x242 ex242 => ?_)
              have gx242 := rg x242
              have ox242 := IM.faR hI212 R_r0_28 ex242
              refine k_goto C (pc2 := 193) rfl rfl ?_
              exact k_iret C rfl (Or.inl rfl) (Nat.le_of_ble_eq_true rfl) (Nat.le_of_ble_eq_true rfl) ⟨_, _, _, rfl, rfl, hI212, (CM.cons S3 (CM.cons S13 (CM.cons S43 (CM.cons S54 (CM.cons S64 (CM.cons S172 (CM.mono S214 (by decide) (by decide)) (by decide) (by decide)) (by decide) (by decide)) (by decide) (by decide)) (by decide) (by decide)) (by decide) (by decide)) (by decide) (by decide))⟩
            refine k_aload_n C rfl rfl rfl ?_
            refine g_R C rfl rfl rfl T_r0 rfl R_r0_27 ?_
            refine k_iload_n C rfl rfl rfl ?_
            obtain ⟨T_r0_27, N_r0_27, A_r0_27⟩ := id H_r0_27
            refine z_aI C rfl rfl T_r0_27 N_r0_27 (by omega) (by omega) (fun x243 ex243 => ?_)
            have gx243 := rg x243
            have ox243 := IM.spR hI212 R_r0_27 ex243
            refine k_goto C (pc2 := 193) rfl rfl ?_
            exact k_iret C rfl (Or.inl rfl) (Nat.le_of_ble_eq_true rfl) (Nat.le_of_ble_eq_true rfl) ⟨_, _, _, rfl, rfl, hI212, (CM.cons S3 (CM.cons S13 (CM.cons S43 (CM.cons S54 (CM.cons S64 (CM.cons S172 (CM.mono S214 (by decide) (by decide)) (by decide) (by decide)) (by decide) (by decide)) (by decide) (by decide)) (by decide) (by decide)) (by decide) (by decide)) (by decide) (by decide))⟩
          refine k_aload_n C rfl rfl rfl ?_
          refine g_I C rfl rfl rfl T_r0 rfl e220 ?_
          exact k_iret C rfl (Or.inl rfl) (Nat.le_of_ble_eq_true rfl) (Nat.le_of_ble_eq_true rfl) ⟨_, _, _, rfl, rfl, hI212, (CM.cons S3 (CM.cons S13 (CM.cons S43 (CM.cons S54 (CM.cons S64 (CM.cons S172 (CM.mono S214 (by decide) (by decide)) (by decide) (by decide)) (by decide) (by decide)) (by decide) (by decide)) (by decide) (by decide)) (by decide) (by decide)) (by decide) (by decide))⟩
        refine k_aload_n C rfl rfl rfl ?_
        refine k_dup C rfl rfl rfl ?_
        refine g_I C rfl rfl rfl T_r0 rfl e220 ?_
        refine z_iconst C (z := 1) rfl rfl rfl (fun x244 ex244 => ?_)
        refine z_iadd C rfl rfl ⟨by omega, by omega⟩ (fun x245 ex245 => ?_)
        refine z_pI C rfl rfl rfl T_r0 (Or.inr rfl) rfl (fun I246 uI246 => ?_)
        have hI246 : IM R r0 I246 := IM.fld hI212 G_r0 ⟨(fun h => absurd h (by decide)), (fun h => absurd h (by decide)), (fun h => absurd h (by decide)), (fun h => absurd h (by decide)), (fun h => absurd h (by decide))⟩ uI246
        have S247 : CM A R r0 [29] [] I212 L213 I246 L213 := CM.f G_r0 A_r0 uI246
        have e248 := u2_n uI246 (mF.ne G_r0 R_r0_1) e216
        have e249 := u2_n uI246 (mF.ne G_r0 R_r0_1) e217
        have e250 := u2_n uI246 (mF.ne G_r0 R_r0_1) e218
        have e251 := u2_n uI246 (mF.ne G_r0 R_r0_4) e219
        have e253 := u2_e uI246
        refine k_goto C (pc2 := 82) rfl rfl ?_
        refine k_sub S [(0, .ref r0), (2, .int n2)] (List.forall_mem_cons.mpr ⟨List.mem_of_getElem? (i := 0) rfl, List.forall_mem_cons.mpr ⟨List.mem_of_getElem? (i := 1) rfl, fun _ h => nomatch h⟩⟩) ?_
        exact ihJ168 _ (MN.lt hmnn169 (by omega) (by omega)) I246 L213 x245 rfl hI246 (CM.cons S172 (CM.cons S214 (CM.mono S247 (by decide) (by decide)) (by decide) (by decide)) (by decide) (by decide)) (fun r z0 => ((congrFun (CM.j0 S247 R_r0_4 (by decide)) r).trans ((F215 r z0).trans (F174 r z0)))) e253 (by omega) (by omega)
    refine z_pI C rfl rfl rfl T_r0 (Or.inr rfl) rfl (fun I254 uI254 => ?_)
    have hI254 : IM R r0 I254 := IM.fld hI62 G_r0 ⟨(fun h => absurd h (by decide)), (fun h => absurd h (by decide)), (fun h => absurd h (by decide)), (fun h => absurd h (by decide)), (fun h => absurd h (by decide))⟩ uI254
    have S255 : CM A R r0 [29] [] I62 L63 I254 L63 := CM.f G_r0 A_r0 uI254
    have e256 := u2_n uI254 (mF.ne G_r0 R_r0_1) e65
    have e257 := u2_n uI254 (mF.ne G_r0 R_r0_1) e66
    have e258 := u2_n uI254 (mF.ne G_r0 R_r0_1) e67
    have e259 := u2_n uI254 (mF.ne G_r0 R_r0_4) e68
    have e260 := u2_e uI254
    refine k_sub S [(0, .ref r0), (2, .int n2)] (List.forall_mem_cons.mpr ⟨List.mem_of_getElem? (i := 0) rfl, List.forall_mem_cons.mpr ⟨List.mem_of_getElem? (i := 2) rfl, fun _ h => nomatch h⟩⟩) ?_
    exact J168 _ I254 L63 x167 rfl hI254 (CM.mono S255 (by decide) (by decide)) (fun r z0 => (congrFun (CM.j0 S255 R_r0_4 (by decide)) r)) e260 (by omega) (by omega)
  refine z_iconst C (z := 1) rfl rfl rfl (fun x261 ex261 => ?_)
  refine k_goto C (pc2 := 37) rfl rfl ?_
  refine z_iconst C (z := 2) rfl rfl rfl (fun x262 ex262 => ?_)
  have q263 : x261.toNatClampNeg = 1 := nck (by omega)
  have q264 : x262.toNatClampNeg = 2 := nck (by omega)
  refine c_VI C (a_X12_throwsIf hI11 H_r0 (by omega) (by omega)) rfl rfl rfl rfl rfl ⟨_, rfl, rfl, T_r0, Nat.le_of_ble_eq_true rfl⟩ rfl rfl (Nat.le_of_ble_eq_true rfl) (Nat.le_of_ble_eq_true rfl) (Nat.le_of_ble_eq_true rfl) ?_
  rintro x265 I266 L267 ⟨o0x265, o1x265, p0x265, hI266, S268⟩
  have e269 := CM.j S268 R_r0_1 (by decide) e15
  have e270 := CM.j S268 R_r0_1 (by decide) e20
  have gx265 := rg x265
  try simp only [q263, q264, e15, e20] at p0x265
  try have q0x265 := congrArg Int32.toInt p0x265
  refine b_if_eq C (t := 46) rfl rfl rfl (fun c271 => by exfalso; omega) (fun c271 => ?_)
  refine z_iconst C (z := 0) rfl rfl rfl (fun x272 ex272 => ?_)
  exact k_iret C rfl (Or.inl rfl) (Nat.le_of_ble_eq_true rfl) (Nat.le_of_ble_eq_true rfl) ⟨_, _, _, rfl, rfl, hI266, (CM.cons S3 (CM.cons S13 (CM.mono S268 (by decide) (by decide)) (by decide) (by decide)) (by decide) (by decide))⟩

theorem a_X12_oftenRoot {d : Nat} {T N : Nat → Nat} {I : IT} {L : LT} {R : RT} {A : Nat → Prop} {r0 : Nat} {n1 n2 : Int32} (hI : IM R r0 I) (H_r0 : (h_MD T N R A) r0) (b0_n1 : 40 ≤ n1.toInt) (b1_n1 : n1.toInt ≤ 41) (b0_n2 : 0 ≤ n2.toInt) (b1_n2 : n2.toInt ≤ 19) (hp0 : ∀ a4 a5, R r0 4 = some a4 → R r0 5 = some a5 → NZ I a5 n1.toNatClampNeg (I a4 n1.toNatClampNeg).toInt) (hp1 : ∀ a1, R r0 1 = some a1 → n2.toInt ≤ (I a1 0).toInt) : Ex (d + 5) 268 [.ref r0, .int n1, .int n2] (T, N, I, L, R) 0 0 (pI T N R (fun x9 I9 L9 => (∀ a4, R r0 4 = some a4 → ∀ r : Nat, r ≠ 43 → I9 a4 r = I a4 r) ∧ (∀ a5, R r0 5 = some a5 → ∀ r : Nat, (r < 41 * 43 ∨ 41 * 43 + 41 ≤ r) → I9 a5 r = I a5 r) ∧ (IM R r0 I9 ∧ CM A R r0 [] [4, 5] I L I9 L9))) := by
  refine ⟨_, rfl, Nat.le_of_ble_eq_true rfl, fun V C S => ?_⟩
  show V 0 [(0, .ref r0), (1, .int n1), (2, .int n2)] [] (T, N, I, L, R) 0 0
  have gn1 := rg n1
  have gn2 := rg n2
  obtain ⟨T_r0, A_r0, ⟨r0_1, R_r0_1, H_r0_1⟩, ⟨r0_2, R_r0_2, H_r0_2⟩, ⟨r0_4, R_r0_4, H_r0_4⟩, ⟨r0_5, R_r0_5, H_r0_5⟩, ⟨r0_10, R_r0_10, H_r0_10⟩, ⟨r0_18, R_r0_18, H_r0_18⟩, ⟨r0_20, R_r0_20, H_r0_20⟩, ⟨r0_21, R_r0_21, H_r0_21⟩, ⟨r0_22, R_r0_22, H_r0_22⟩, ⟨r0_23, R_r0_23, H_r0_23⟩, ⟨r0_25, R_r0_25, H_r0_25⟩, ⟨r0_26, R_r0_26, H_r0_26⟩, ⟨r0_27, R_r0_27, H_r0_27⟩, ⟨r0_28, R_r0_28, H_r0_28⟩, ⟨r0_34, R_r0_34, H_r0_34⟩, J_r0, Y_r0⟩ := id H_r0
  have G_r0 : mF T R r0 := ⟨J_r0, Y_r0, T_r0⟩
  obtain ⟨w_r0_4_n1, k0_r0_4_n1⟩ : ∃ x, I r0_4 n1.toNatClampNeg = x := ⟨_, rfl⟩
  have gw_r0_4_n1 := rg w_r0_4_n1
  have ow_r0_4_n1 := IM.dgR hI R_r0_4 k0_r0_4_n1
  obtain ⟨w_r0_1_0, k0_r0_1_0⟩ : ∃ x, I r0_1 0 = x := ⟨_, rfl⟩
  have gw_r0_1_0 := rg w_r0_1_0
  have ow_r0_1_0 := IM.pi hI R_r0_1 k0_r0_1_0
  have hp0 := hp0 r0_4 r0_5 R_r0_4 R_r0_5
  have hp1 := hp1 r0_1 R_r0_1
  try simp only [k0_r0_4_n1, k0_r0_1_0] at hp0
  try simp only [k0_r0_4_n1, k0_r0_1_0] at hp1
  obtain ⟨K, hK1, hK2⟩ := hp0
  refine z_iconst C (z := 0) rfl rfl rfl (fun x1 ex1 => ?_)
  refine k_istore_n C (lw := [(3, .int x1), (0, .ref r0), (1, .int n1), (2, .int n2)]) rfl rfl (Nat.le_of_ble_eq_true rfl) rfl ?_
  refine k_iload_n C rfl rfl rfl ?_
  refine k_aload_n C rfl rfl rfl ?_
  refine c_VI C (a_X12_p hI H_r0) rfl rfl rfl rfl rfl ⟨_, rfl, rfl, T_r0, Nat.le_of_ble_eq_true rfl⟩ rfl rfl (Nat.le_of_ble_eq_true rfl) (Nat.le_of_ble_eq_true rfl) (Nat.le_of_ble_eq_true rfl) ?_
  rintro x2 _ _ ⟨o0x2, o1x2, p0x2, rfl, rfl⟩
  have p0x2 := p0x2 r0_1 R_r0_1
  have gx2 := rg x2
  try simp only [k0_r0_4_n1, k0_r0_1_0, k0_r0_1_0] at p0x2
  try have q0x2 := congrArg Int32.toInt p0x2
  have J3 : ∀ (nn4 : Nat) (x5 : Int32), (MN (41 - x5.toInt) nn4) → (0 ≤ x5.toInt) → (x5.toInt ≤ 41) → (x5.toInt ≤ (K : Int)) → V 10 [(0, .ref r0), (1, .int n1), (3, .int x5)] [] (T, N, I, L, R) 0 0 := by
    intro nn4
    induction nn4 using Nat.strongRecOn with
    | _ nn4 ihJ3 =>
      intro x5 hmnn4 b6 b7 ff10_0
      have gx5 := rg x5
      refine k_aload_n C rfl rfl rfl ?_
      refine k_iload_n C rfl rfl rfl ?_
      refine k_iload_n C rfl rfl rfl ?_
      refine c_VI C (a_X12_of hI H_r0 (by omega) (by omega) (by omega) (by omega)) rfl rfl rfl rfl rfl ⟨_, rfl, rfl, T_r0, Nat.le_of_ble_eq_true rfl⟩ rfl rfl (Nat.le_of_ble_eq_true rfl) (Nat.le_of_ble_eq_true rfl) (Nat.le_of_ble_eq_true rfl) ?_
      rintro x8 _ _ ⟨o0x8, o1x8, p0x8, rfl, rfl⟩
      have p0x8 := p0x8 r0_5 R_r0_5
      have gx8 := rg x8
      try simp only [k0_r0_4_n1, k0_r0_1_0] at p0x8
      try have q0x8 := congrArg Int32.toInt p0x8
      refine b_if_ne C (t := 25) rfl rfl rfl (fun c9 => ?_) (fun c9 => ?_)
      · skip
        refine k_iload_n C rfl rfl rfl ?_
        exact k_iret C rfl (Or.inl rfl) (Nat.le_of_ble_eq_true rfl) (Nat.le_of_ble_eq_true rfl) ⟨_, _, _, rfl, rfl, fun a4 h4 => by cases (R_r0_4.symm.trans h4); exact (fun r z0 => rfl), fun a5 h5 => by cases (R_r0_5.symm.trans h5); exact (fun r z0 => rfl), hI, CM.rf⟩
      refine z_iinc C (z := 1) (lw := fun x10 => [(3, .int x10), (0, .ref r0), (1, .int n1)]) rfl rfl rfl (Nat.le_of_ble_eq_true rfl) rfl ⟨by omega, by omega⟩ (fun _ => rfl) (fun x10 ex10 => ?_)
      show V 22 [(3, .int x10), (0, .ref r0), (1, .int n1)] _ _ _ _
      refine k_goto C (pc2 := 10) rfl rfl ?_
      refine k_sub S [(0, .ref r0), (1, .int n1), (3, .int x10)] (List.forall_mem_cons.mpr ⟨List.mem_of_getElem? (i := 1) rfl, List.forall_mem_cons.mpr ⟨List.mem_of_getElem? (i := 2) rfl, List.forall_mem_cons.mpr ⟨List.mem_of_getElem? (i := 0) rfl, fun _ h => nomatch h⟩⟩⟩) ?_
      exact ihJ3 _ (MN.lt hmnn4 (by omega) (by omega)) x10 rfl (by omega) (by omega) (by (have h9 : x5.toNatClampNeg ≠ K := by (intro q; have hK3 := hK2; rw [← q] at hK3; omega)); (have h8 := ncz (x := x5) (by omega)); omega)
  refine b_icmp_ne C (t := 27) rfl rfl rfl (fun c11 => ?_) (fun c11 => ?_)
  · skip
    refine k_aload_n C rfl rfl rfl ?_
    refine k_iload_n C rfl rfl rfl ?_
    refine z_bipush C (z := 43) rfl rfl rfl (fun x12 ex12 => ?_)
    have J13 : ∀ (nn14 : Nat) (I15 : IT) (L16 : LT) (x17 : Int32) (x22 : Int32), (MN x22.toInt nn14) → (IM R r0 I15) → (CM A R r0 [] [4, 5] I L I15 L16) → (∀ r : Nat, r ≠ 43 → I15 r0_4 r = I r0_4 r) → (∀ r : Nat, (r < 41 * 43 ∨ 41 * 43 + 41 ≤ r) → I15 r0_5 r = I r0_5 r) → (I15 r0_4 43 = x22) → (0 ≤ x22.toInt) → (x22.toInt ≤ 40) → V 34 [(0, .ref r0), (2, .int n2), (3, .int x17)] [] (T, N, I15, L16, R) 0 0 := by
      intro nn14
      induction nn14 using Nat.strongRecOn with
      | _ nn14 ihJ13 =>
        intro I15 L16 x17 x22 hmnn14 hI19 S18 F20 F21 e23 b24 b25
        have gx17 := rg x17
        have gx22 := rg x22
        have e26 := (F20 n1.toNatClampNeg (by first | decide | exact ncne (by omega) (by omega) (by omega) | exact nckn (by omega) (by omega) | exact (nckn (by omega) (by omega)).symm)).trans k0_r0_4_n1
        have e27 := CM.j S18 R_r0_1 (by decide) k0_r0_1_0
        refine k_aload_n C rfl rfl rfl ?_
        refine g_R C rfl rfl rfl T_r0 rfl R_r0_4 ?_
        refine z_bipush C (z := 43) rfl rfl rfl (fun x28 ex28 => ?_)
        obtain ⟨T_r0_4, N_r0_4, A_r0_4⟩ := id H_r0_4
        refine a_I C rfl rfl T_r0_4 (by rw [N_r0_4]; exact vpi (by omega) (by omega)) ((congrArg (I15 r0_4) (nck (n := 43) (by omega))).trans e23) ?_
        refine b_if_le C (t := 128) rfl rfl rfl (fun c29 => ?_) (fun c29 => ?_)
        · skip
          refine k_iload_n C rfl rfl rfl ?_
          exact k_iret C rfl (Or.inl rfl) (Nat.le_of_ble_eq_true rfl) (Nat.le_of_ble_eq_true rfl) ⟨_, _, _, rfl, rfl, fun a4 h4 => by cases (R_r0_4.symm.trans h4); exact (fun r z0 => (F20 r z0)), fun a5 h5 => by cases (R_r0_5.symm.trans h5); exact (fun r z0 => (F21 r z0)), hI19, (CM.mono S18 (by decide) (by decide))⟩
        refine k_aload_n C rfl rfl rfl ?_
        refine z_bipush C (z := 43) rfl rfl rfl (fun x30 ex30 => ?_)
        refine k_iload_n C rfl rfl rfl ?_
        refine z_iconst C (z := 1) rfl rfl rfl (fun x31 ex31 => ?_)
        refine c_VI C (a_X12_valueAt hI19 H_r0 (by omega) (by omega) (by omega) (by omega) (by omega) (by omega)) rfl rfl rfl rfl rfl ⟨_, rfl, rfl, T_r0, Nat.le_of_ble_eq_true rfl⟩ rfl rfl (Nat.le_of_ble_eq_true rfl) (Nat.le_of_ble_eq_true rfl) (Nat.le_of_ble_eq_true rfl) ?_
        rintro x32 _ _ ⟨o0x32, o1x32, rfl, rfl⟩
        have gx32 := rg x32
        refine b_if_ne C (t := 128) rfl rfl rfl (fun c33 => ?_) (fun c33 => ?_)
        · skip
          refine k_iload_n C rfl rfl rfl ?_
          exact k_iret C rfl (Or.inl rfl) (Nat.le_of_ble_eq_true rfl) (Nat.le_of_ble_eq_true rfl) ⟨_, _, _, rfl, rfl, fun a4 h4 => by cases (R_r0_4.symm.trans h4); exact (fun r z0 => (F20 r z0)), fun a5 h5 => by cases (R_r0_5.symm.trans h5); exact (fun r z0 => (F21 r z0)), hI19, (CM.mono S18 (by decide) (by decide))⟩
        refine z_iconst C (z := 1) rfl rfl rfl (fun x34 ex34 => ?_)
        have J35 : ∀ (nn36 : Nat) (I37 : IT) (L38 : LT) (x39 : Int32), (MN (41 - x39.toInt) nn36) → (IM R r0 I37) → (CM A R r0 [] [5] I15 L16 I37 L38) → (∀ r : Nat, (r < 41 * 43 ∨ 41 * 43 + 41 ≤ r) → I37 r0_5 r = I15 r0_5 r) → (1 ≤ x39.toInt) → (x39.toInt ≤ 41) → V 58 [(0, .ref r0), (2, .int n2), (3, .int x17), (4, .int x39)] [] (T, N, I37, L38, R) 0 0 := by
          intro nn36
          induction nn36 using Nat.strongRecOn with
          | _ nn36 ihJ35 =>
            intro I37 L38 x39 hmnn36 hI43 S42 F44 b40 b41
            have gx39 := rg x39
            have e45 := CM.j S42 R_r0_4 (by decide) e26
            have e46 := CM.j S42 R_r0_1 (by decide) e27
            have e47 := CM.j S42 R_r0_4 (by decide) e23
            refine k_iload C rfl rfl rfl ?_
            refine k_aload_n C rfl rfl rfl ?_
            refine g_R C rfl rfl rfl T_r0 rfl R_r0_4 ?_
            refine z_bipush C (z := 43) rfl rfl rfl (fun x48 ex48 => ?_)
            refine a_I C rfl rfl T_r0_4 (by rw [N_r0_4]; exact vpi (by omega) (by omega)) ((congrArg (I37 r0_4) (nck (n := 43) (by omega))).trans e47) ?_
            refine b_icmp_gt C (t := 111) rfl rfl rfl (fun c49 => ?_) (fun c49 => ?_)
            · skip
              refine k_aload_n C rfl rfl rfl ?_
              refine g_R C rfl rfl rfl T_r0 rfl R_r0_4 ?_
              refine z_bipush C (z := 43) rfl rfl rfl (fun x50 ex50 => ?_)
              refine k_dup2 C rfl rfl rfl rfl ?_
              refine a_I C rfl rfl T_r0_4 (by rw [N_r0_4]; exact vpi (by omega) (by omega)) ((congrArg (I37 r0_4) (nck (n := 43) (by omega))).trans e47) ?_
              refine z_iconst C (z := 1) rfl rfl rfl (fun x51 ex51 => ?_)
              refine z_isub C rfl rfl ⟨by omega, by omega⟩ (fun x52 ex52 => ?_)
              refine z_sI C rfl rfl T_r0_4 N_r0_4 (by omega) (by omega) (fun I53 uI53 => ?_)
              have uI53 : I53 = u2 I37 r0_4 43 (x52) := by rw [uI53, nck (n := 43) (by omega)]
              have hI53 : IM R r0 I53 := IM.arr hI43 G_r0 R_r0_4 ⟨(fun _ => ⟨by omega, by omega⟩), (fun h => absurd h (by decide)), (fun h => absurd h (by decide))⟩ (fun h => absurd h (by decide)) uI53
              have S54 : CM A R r0 [] [4] I37 L38 I53 L38 := CM.a G_r0 R_r0_4 A_r0_4 uI53
              have F55 : ∀ r : Nat, r ≠ 43 → I53 r0_4 r = I37 r0_4 r := fun r z0 => by rw [uI53]; first | exact u2_k z0
              have e56 := u2_j uI53 (by first | decide | exact ncne (by omega) (by omega) (by omega) | exact nckn (by omega) (by omega) | exact (nckn (by omega) (by omega)).symm) e45
              have e57 := u2_n uI53 (mF.nq G_r0 R_r0_1 R_r0_4 (by decide)) e46
              have e59 := u2_e uI53
              refine zt_iinc C (lw := fun x60 => [(3, .int x60), (0, .ref r0), (2, .int n2), (4, .int x39)]) rfl rfl rfl (Nat.le_of_ble_eq_true rfl) (fun _ => rfl) (fun x60 => ?_)
              have gx60 := rg x60
              show V 125 [(3, .int x60), (0, .ref r0), (2, .int n2), (4, .int x39)] _ _ _ _
              refine k_goto C (pc2 := 34) rfl rfl ?_
              refine k_sub S [(0, .ref r0), (2, .int n2), (3, .int x60)] (List.forall_mem_cons.mpr ⟨List.mem_of_getElem? (i := 1) rfl, List.forall_mem_cons.mpr ⟨List.mem_of_getElem? (i := 2) rfl, List.forall_mem_cons.mpr ⟨List.mem_of_getElem? (i := 0) rfl, fun _ h => nomatch h⟩⟩⟩) ?_
              exact ihJ13 _ (MN.lt hmnn14 (by omega) (by omega)) I53 L38 x60 x52 rfl hI53 (CM.cons S18 (CM.cons S42 (CM.mono S54 (by decide) (by decide)) (by decide) (by decide)) (by decide) (by decide)) (fun r z0 => ((F55 r z0).trans ((congrFun (CM.j0 S42 R_r0_4 (by decide)) r).trans (F20 r z0)))) (fun r z0 => ((congrFun (CM.j0 S54 R_r0_5 (by decide)) r).trans ((F44 r z0).trans (F21 r z0)))) e59 (by omega) (by omega)
            refine k_aload_n C rfl rfl rfl ?_
            refine z_bipush C (z := 43) rfl rfl rfl (fun x61 ex61 => ?_)
            refine k_iload C rfl rfl rfl ?_
            refine k_aload_n C rfl rfl rfl ?_
            refine k_aload_n C rfl rfl rfl ?_
            refine z_bipush C (z := 43) rfl rfl rfl (fun x62 ex62 => ?_)
            refine k_iload C rfl rfl rfl ?_
            have q63 : x62.toNatClampNeg = 43 := nck (by omega)
            refine c_VI C (a_X12_of hI43 H_r0 (by omega) (by omega) (by omega) (by omega)) rfl rfl rfl rfl rfl ⟨_, rfl, rfl, T_r0, Nat.le_of_ble_eq_true rfl⟩ rfl rfl (Nat.le_of_ble_eq_true rfl) (Nat.le_of_ble_eq_true rfl) (Nat.le_of_ble_eq_true rfl) ?_
            rintro x64 _ _ ⟨o0x64, o1x64, p0x64, rfl, rfl⟩
            have p0x64 := p0x64 r0_5 R_r0_5
            have gx64 := rg x64
            try simp only [q63, e45, e46, e47] at p0x64
            try have q0x64 := congrArg Int32.toInt p0x64
            refine k_aload_n C rfl rfl rfl ?_
            refine k_iload_n C rfl rfl rfl ?_
            refine k_aload_n C rfl rfl rfl ?_
            refine z_bipush C (z := 43) rfl rfl rfl (fun x65 ex65 => ?_)
            refine k_iload C rfl rfl rfl ?_
            refine z_iconst C (z := 1) rfl rfl rfl (fun x66 ex66 => ?_)
            refine z_isub C rfl rfl ⟨by omega, by omega⟩ (fun x67 ex67 => ?_)
            have q68 : x65.toNatClampNeg = 43 := nck (by omega)
            refine c_VI C (a_X12_of hI43 H_r0 (by omega) (by omega) (by omega) (by omega)) rfl rfl rfl rfl rfl ⟨_, rfl, rfl, T_r0, Nat.le_of_ble_eq_true rfl⟩ rfl rfl (Nat.le_of_ble_eq_true rfl) (Nat.le_of_ble_eq_true rfl) (Nat.le_of_ble_eq_true rfl) ?_
            rintro x69 _ _ ⟨o0x69, o1x69, p0x69, rfl, rfl⟩
            have p0x69 := p0x69 r0_5 R_r0_5
            have gx69 := rg x69
            try simp only [q68, e45, e46, e47] at p0x69
            try have q0x69 := congrArg Int32.toInt p0x69
            refine c_VI C (a_X12_times hI43 H_r0 (by omega) (by omega) (by omega) (by omega)) rfl rfl rfl rfl rfl ⟨_, rfl, rfl, T_r0, Nat.le_of_ble_eq_true rfl⟩ rfl rfl (Nat.le_of_ble_eq_true rfl) (Nat.le_of_ble_eq_true rfl) (Nat.le_of_ble_eq_true rfl) ?_
            rintro x70 _ _ ⟨o0x70, o1x70, p0x70, p1x70, p2x70, p3x70, rfl, rfl⟩
            have p0x70 := p0x70 r0_1 R_r0_1
            have p2x70 := p2x70 r0_1 R_r0_1
            have p3x70 := p3x70 r0_1 R_r0_1
            have gx70 := rg x70
            try simp only [e45, e46, e47] at p0x70
            try have q0x70 := congrArg Int32.toInt p0x70
            try simp only [e45, e46, e47] at p1x70
            try have q1x70 := congrArg Int32.toInt p1x70
            try simp only [e45, e46, e47] at p2x70
            try have q2x70 := congrArg Int32.toInt p2x70
            try simp only [e45, e46, e47] at p3x70
            try have q3x70 := congrArg Int32.toInt p3x70
            refine c_VI C (a_X12_plus hI43 H_r0 (by omega) (by omega) (by omega) (by omega)) rfl rfl rfl rfl rfl ⟨_, rfl, rfl, T_r0, Nat.le_of_ble_eq_true rfl⟩ rfl rfl (Nat.le_of_ble_eq_true rfl) (Nat.le_of_ble_eq_true rfl) (Nat.le_of_ble_eq_true rfl) ?_
            rintro x71 _ _ ⟨o0x71, o1x71, p0x71, p1x71, p2x71, rfl, rfl⟩
            have p0x71 := p0x71 r0_1 R_r0_1
            have p2x71 := p2x71 r0_1 R_r0_1
            have gx71 := rg x71
            try simp only [e45, e46, e47] at p0x71
            try have q0x71 := congrArg Int32.toInt p0x71
            try simp only [e45, e46, e47] at p1x71
            try have q1x71 := congrArg Int32.toInt p1x71
            try simp only [e45, e46, e47] at p2x71
            try have q2x71 := congrArg Int32.toInt p2x71
            have q72 : x61.toNatClampNeg = 43 := nck (by omega)
            refine c_VV C (a_X12_put hI43 H_r0 (by omega) (by omega) (by omega) (by omega) (by omega) (by omega)) rfl rfl rfl rfl rfl ⟨_, rfl, rfl, T_r0, Nat.le_of_ble_eq_true rfl⟩ rfl rfl (Nat.le_of_ble_eq_true rfl) (Nat.le_of_ble_eq_true rfl) (Nat.le_of_ble_eq_true rfl) ?_
            rintro I74 L75 ⟨p0v73, p1v73, hI74, S76⟩
            have p0v73 := p0v73 r0_5 R_r0_5
            have p1v73 := p1v73 r0_5 R_r0_5
            try simp only [q72] at p1v73
            have F77 : ∀ r : Nat, (r < 41 * 43 ∨ 41 * 43 + 41 ≤ r) → I74 r0_5 r = I37 r0_5 r := fun r z0 => p1v73 r (by first | exact z0)
            have e78 := CM.j S76 R_r0_4 (by decide) e45
            have e79 := CM.j S76 R_r0_1 (by decide) e46
            have e80 := CM.j S76 R_r0_4 (by decide) e47
            try simp only [q72, e45, e46, e47] at p0v73
            try have q0v73 := congrArg Int32.toInt p0v73
            refine z_iinc C (z := 1) (lw := fun x81 => [(4, .int x81), (0, .ref r0), (2, .int n2), (3, .int x17)]) rfl rfl rfl (Nat.le_of_ble_eq_true rfl) rfl ⟨by omega, by omega⟩ (fun _ => rfl) (fun x81 ex81 => ?_)
            show V 108 [(4, .int x81), (0, .ref r0), (2, .int n2), (3, .int x17)] _ _ _ _
            refine k_goto C (pc2 := 58) rfl rfl ?_
            refine k_sub S [(0, .ref r0), (2, .int n2), (3, .int x17), (4, .int x81)] (List.forall_mem_cons.mpr ⟨List.mem_of_getElem? (i := 1) rfl, List.forall_mem_cons.mpr ⟨List.mem_of_getElem? (i := 2) rfl, List.forall_mem_cons.mpr ⟨List.mem_of_getElem? (i := 3) rfl, List.forall_mem_cons.mpr ⟨List.mem_of_getElem? (i := 0) rfl, fun _ h => nomatch h⟩⟩⟩⟩) ?_
            exact ihJ35 _ (MN.lt hmnn36 (by omega) (by omega)) I74 L75 x81 rfl hI74 (CM.cons S42 (CM.mono S76 (by decide) (by decide)) (by decide) (by decide)) (fun r z0 => ((F77 r z0).trans (F44 r z0))) (by omega) (by omega)
        refine k_istore C (lw := [(4, .int x34), (0, .ref r0), (2, .int n2), (3, .int x17)]) rfl rfl (Nat.le_of_ble_eq_true rfl) rfl ?_
        refine k_sub S [(0, .ref r0), (2, .int n2), (3, .int x17), (4, .int x34)] (List.forall_mem_cons.mpr ⟨List.mem_of_getElem? (i := 1) rfl, List.forall_mem_cons.mpr ⟨List.mem_of_getElem? (i := 2) rfl, List.forall_mem_cons.mpr ⟨List.mem_of_getElem? (i := 3) rfl, List.forall_mem_cons.mpr ⟨List.mem_of_getElem? (i := 0) rfl, fun _ h => nomatch h⟩⟩⟩⟩) ?_
        exact J35 _ I15 L16 x34 rfl hI19 CM.rf (fun r z0 => rfl) (by omega) (by omega)
    have q82 : x12.toNatClampNeg = 43 := nck (by omega)
    refine c_VV C (a_X12_copies hI H_r0 (by omega) (by omega) (by omega) (by omega) (by first | omega | (simp only [q82, k0_r0_4_n1, k0_r0_1_0] <;> omega))) rfl rfl rfl rfl rfl ⟨_, rfl, rfl, T_r0, Nat.le_of_ble_eq_true rfl⟩ rfl rfl (Nat.le_of_ble_eq_true rfl) (Nat.le_of_ble_eq_true rfl) (Nat.le_of_ble_eq_true rfl) ?_
    rintro I84 L85 ⟨p0v83, p1v83, p2v83, p3v83, hI84, S86⟩
    have p0v83 := p0v83 r0_4 R_r0_4
    have p1v83 := p1v83 r0_4 r0_5 R_r0_4 R_r0_5
    have p2v83 := p2v83 r0_4 R_r0_4
    have p3v83 := p3v83 r0_5 R_r0_5
    try simp only [q82] at p2v83
    have F87 : ∀ r : Nat, r ≠ 43 → I84 r0_4 r = I r0_4 r := fun r z0 => p2v83 r (by first | exact z0)
    try simp only [q82] at p3v83
    have F88 : ∀ r : Nat, (r < 41 * 43 ∨ 41 * 43 + 41 ≤ r) → I84 r0_5 r = I r0_5 r := fun r z0 => p3v83 r (by first | exact z0)
    have e89 := (p2v83 n1.toNatClampNeg (by first | decide | exact ncne (by omega) (by omega) (by omega) | exact nckn (by omega) (by omega) | exact (nckn (by omega) (by omega)).symm)).trans k0_r0_4_n1
    have e90 := CM.j S86 R_r0_1 (by decide) k0_r0_1_0
    obtain ⟨x91, e92⟩ : ∃ x, I84 r0_4 43 = x := ⟨_, rfl⟩
    have gx91 := rg x91
    have ox91 := IM.dgR hI84 R_r0_4 e92
    try simp only [q82, k0_r0_4_n1, k0_r0_1_0, e92] at p0v83
    try have q0v83 := congrArg Int32.toInt p0v83
    try simp only [q82, k0_r0_4_n1, k0_r0_1_0, e92] at p1v83
    try have q1v83 := congrArg Int32.toInt p1v83
    refine k_sub S [(0, .ref r0), (2, .int n2), (3, .int x1)] (List.forall_mem_cons.mpr ⟨List.mem_of_getElem? (i := 1) rfl, List.forall_mem_cons.mpr ⟨List.mem_of_getElem? (i := 3) rfl, List.forall_mem_cons.mpr ⟨List.mem_of_getElem? (i := 0) rfl, fun _ h => nomatch h⟩⟩⟩) ?_
    exact J13 _ I84 L85 x1 x91 rfl hI84 (CM.mono S86 (by decide) (by decide)) (fun r z0 => (F87 r z0)) (fun r z0 => (F88 r z0)) e92 (by omega) (by omega)
  refine k_sub S [(0, .ref r0), (1, .int n1), (3, .int x1)] (List.forall_mem_cons.mpr ⟨List.mem_of_getElem? (i := 1) rfl, List.forall_mem_cons.mpr ⟨List.mem_of_getElem? (i := 2) rfl, List.forall_mem_cons.mpr ⟨List.mem_of_getElem? (i := 0) rfl, fun _ h => nomatch h⟩⟩⟩) ?_
  exact J3 _ x1 rfl (by omega) (by omega) (by omega)

theorem a_X12_root {d : Nat} {T N : Nat → Nat} {I : IT} {L : LT} {R : RT} {A : Nat → Prop} {r0 : Nat} {n1 n2 : Int32} (hI : IM R r0 I) (H_r0 : (h_MD T N R A) r0) : Ex (d + 6) 269 [.ref r0, .int n1, .int n2] (T, N, I, L, R) 0 0 (pI T N R (fun x9 I9 L9 => (IM R r0 I9 ∧ CM A R r0 [0] [4, 5] I L I9 L9))) := by
  refine ⟨_, rfl, Nat.le_of_ble_eq_true rfl, fun V C S => ?_⟩
  show V 0 [(0, .ref r0), (1, .int n1), (2, .int n2)] [] (T, N, I, L, R) 0 0
  have gn1 := rg n1
  have gn2 := rg n2
  obtain ⟨T_r0, A_r0, ⟨r0_1, R_r0_1, H_r0_1⟩, ⟨r0_2, R_r0_2, H_r0_2⟩, ⟨r0_4, R_r0_4, H_r0_4⟩, ⟨r0_5, R_r0_5, H_r0_5⟩, ⟨r0_10, R_r0_10, H_r0_10⟩, ⟨r0_18, R_r0_18, H_r0_18⟩, ⟨r0_20, R_r0_20, H_r0_20⟩, ⟨r0_21, R_r0_21, H_r0_21⟩, ⟨r0_22, R_r0_22, H_r0_22⟩, ⟨r0_23, R_r0_23, H_r0_23⟩, ⟨r0_25, R_r0_25, H_r0_25⟩, ⟨r0_26, R_r0_26, H_r0_26⟩, ⟨r0_27, R_r0_27, H_r0_27⟩, ⟨r0_28, R_r0_28, H_r0_28⟩, ⟨r0_34, R_r0_34, H_r0_34⟩, J_r0, Y_r0⟩ := id H_r0
  have G_r0 : mF T R r0 := ⟨J_r0, Y_r0, T_r0⟩
  refine k_aload_n C rfl rfl rfl ?_
  refine z_iconst C (z := 0) rfl rfl rfl (fun x1 ex1 => ?_)
  refine z_pI C rfl rfl rfl T_r0 (Or.inr rfl) rfl (fun I2 uI2 => ?_)
  have hI2 : IM R r0 I2 := IM.fld hI G_r0 ⟨(fun h => absurd h (by decide)), (fun h => absurd h (by decide)), (fun h => absurd h (by decide)), (fun h => absurd h (by decide)), (fun h => absurd h (by decide))⟩ uI2
  have S3 : CM A R r0 [0] [] I L I2 L := CM.f G_r0 A_r0 uI2
  have e4 := u2_e uI2
  refine k_aload_n C rfl rfl rfl ?_
  refine k_aload_n C rfl rfl rfl ?_
  refine k_iload_n C rfl rfl rfl ?_
  refine c_VI C (a_X12_noForm hI2 H_r0) rfl rfl rfl rfl rfl ⟨_, rfl, rfl, T_r0, Nat.le_of_ble_eq_true rfl⟩ rfl rfl (Nat.le_of_ble_eq_true rfl) (Nat.le_of_ble_eq_true rfl) (Nat.le_of_ble_eq_true rfl) ?_
  rintro x5 _ _ ⟨o0x5, o1x5, p0x5, rfl, rfl⟩
  have p0x5 := p0x5 r0_1 R_r0_1
  have gx5 := rg x5
  obtain ⟨x6, e7⟩ : ∃ x, I2 r0_1 1 = x := ⟨_, rfl⟩
  have gx6 := rg x6
  have ox6 := IM.c1 hI2 R_r0_1 e7
  try simp only [e4, e7] at p0x5
  try have q0x5 := congrArg Int32.toInt p0x5
  refine z_iconst C (z := 1) rfl rfl rfl (fun x8 ex8 => ?_)
  have q9 : x8.toNatClampNeg = 1 := nck (by omega)
  refine c_VI C (a_X12_throwsIf hI2 H_r0 (by omega) (by omega)) rfl rfl rfl rfl rfl ⟨_, rfl, rfl, T_r0, Nat.le_of_ble_eq_true rfl⟩ rfl rfl (Nat.le_of_ble_eq_true rfl) (Nat.le_of_ble_eq_true rfl) (Nat.le_of_ble_eq_true rfl) ?_
  rintro x10 I11 L12 ⟨o0x10, o1x10, p0x10, hI11, S13⟩
  have e15 := CM.j S13 R_r0_1 (by decide) e7
  have gx10 := rg x10
  try simp only [q9, e4, e7] at p0x10
  try have q0x10 := congrArg Int32.toInt p0x10
  refine b_if_ne C (t := 31) rfl rfl rfl (fun c16 => ?_) (fun c16 => ?_)
  · skip
    refine z_iconst C (z := 0) rfl rfl rfl (fun x17 ex17 => ?_)
    exact k_iret C rfl (Or.inl rfl) (Nat.le_of_ble_eq_true rfl) (Nat.le_of_ble_eq_true rfl) ⟨_, _, _, rfl, rfl, hI11, (CM.cons S3 (CM.mono S13 (by decide) (by decide)) (by decide) (by decide))⟩
  refine k_aload_n C rfl rfl rfl ?_
  refine k_aload_n C rfl rfl rfl ?_
  refine k_iload_n C rfl rfl rfl ?_
  obtain ⟨x18, e19⟩ : ∃ x, I11 r0_1 0 = x := ⟨_, rfl⟩
  have gx18 := rg x18
  have ox18 := IM.pi hI11 R_r0_1 e19
  refine c_VI C (a_X12_noPoint hI11 H_r0) rfl rfl rfl rfl rfl ⟨_, rfl, rfl, T_r0, Nat.le_of_ble_eq_true rfl⟩ rfl rfl (Nat.le_of_ble_eq_true rfl) (Nat.le_of_ble_eq_true rfl) (Nat.le_of_ble_eq_true rfl) ?_
  rintro x20 _ _ ⟨o0x20, o1x20, p0x20, rfl, rfl⟩
  have p0x20 := p0x20 r0_1 R_r0_1
  have gx20 := rg x20
  try simp only [e15, e19] at p0x20
  try have q0x20 := congrArg Int32.toInt p0x20
  refine z_iconst C (z := 2) rfl rfl rfl (fun x21 ex21 => ?_)
  have q22 : x21.toNatClampNeg = 2 := nck (by omega)
  refine c_VI C (a_X12_throwsIf hI11 H_r0 (by omega) (by omega)) rfl rfl rfl rfl rfl ⟨_, rfl, rfl, T_r0, Nat.le_of_ble_eq_true rfl⟩ rfl rfl (Nat.le_of_ble_eq_true rfl) (Nat.le_of_ble_eq_true rfl) (Nat.le_of_ble_eq_true rfl) ?_
  rintro x23 I24 L25 ⟨o0x23, o1x23, p0x23, hI24, S26⟩
  have e27 := CM.j S26 R_r0_1 (by decide) e15
  have e28 := CM.j S26 R_r0_1 (by decide) e19
  have gx23 := rg x23
  try simp only [q22, e15, e19] at p0x23
  try have q0x23 := congrArg Int32.toInt p0x23
  refine b_if_eq C (t := 33) rfl rfl rfl (fun c29 => ?_) (fun c29 => ?_)
  · skip
    refine k_aload_n C rfl rfl rfl ?_
    refine z_bipush C (z := 40) rfl rfl rfl (fun x30 ex30 => ?_)
    refine k_iload_n C rfl rfl rfl ?_
    obtain ⟨x31, e32⟩ : ∃ x, I24 r0_1 (6 + 10 * n1.toNatClampNeg) = x := ⟨_, rfl⟩
    have gx31 := rg x31
    have q33 : x30.toNatClampNeg = 40 := nck (by omega)
    refine c_VV C (a_X12_takes hI24 H_r0 (by omega) (by omega) (by omega) (by omega)) rfl rfl rfl rfl rfl ⟨_, rfl, rfl, T_r0, Nat.le_of_ble_eq_true rfl⟩ rfl rfl (Nat.le_of_ble_eq_true rfl) (Nat.le_of_ble_eq_true rfl) (Nat.le_of_ble_eq_true rfl) ?_
    rintro I35 L36 ⟨p0v34, p1v34, p2v34, p3v34, p4v34, hI35, S37⟩
    have p0v34 := p0v34 r0_4 R_r0_4
    have p1v34 := p1v34 r0_1 r0_4 R_r0_1 R_r0_4
    have p2v34 := p2v34 r0_1 r0_4 r0_5 R_r0_1 R_r0_4 R_r0_5
    have p3v34 := p3v34 r0_4 R_r0_4
    have p4v34 := p4v34 r0_5 R_r0_5
    try simp only [q33] at p3v34
    try simp only [q33] at p4v34
    have e38 := CM.j S37 R_r0_1 (by decide) e27
    have e39 := CM.j S37 R_r0_1 (by decide) e28
    have e40 := CM.j S37 R_r0_1 (by decide) e32
    obtain ⟨x41, e42⟩ : ∃ x, I35 r0_4 40 = x := ⟨_, rfl⟩
    have gx41 := rg x41
    have ox41 := IM.dgR hI35 R_r0_4 e42
    try simp only [q33, e27, e28, e32, e42] at p0v34
    try have q0v34 := congrArg Int32.toInt p0v34
    try simp only [q33, e27, e28, e32, e42] at p1v34
    try have q1v34 := congrArg Int32.toInt p1v34
    try simp only [q33, e27, e28, e32, e42] at p2v34
    try have q2v34 := congrArg Int32.toInt p2v34
    refine k_aload_n C rfl rfl rfl ?_
    refine z_bipush C (z := 40) rfl rfl rfl (fun x43 ex43 => ?_)
    have q44 : x43.toNatClampNeg = 40 := nck (by omega)
    refine c_VI C (a_X12_isNought hI35 H_r0 (by omega) (by omega)) rfl rfl rfl rfl rfl ⟨_, rfl, rfl, T_r0, Nat.le_of_ble_eq_true rfl⟩ rfl rfl (Nat.le_of_ble_eq_true rfl) (Nat.le_of_ble_eq_true rfl) (Nat.le_of_ble_eq_true rfl) ?_
    rintro x45 _ _ ⟨o0x45, o1x45, p0x45, rfl, rfl⟩
    have p0x45 := p0x45 r0_4 r0_5 R_r0_4 R_r0_5
    have gx45 := rg x45
    try simp only [q44, e38, e39, e40, e42] at p0x45
    try have q0x45 := congrArg Int32.toInt p0x45
    have hNZ := p0x45
    refine b_if_eq C (t := 54) rfl rfl rfl (fun c46 => ?_) (fun c46 => ?_)
    · skip
      refine k_aload_n C rfl rfl rfl ?_
      refine z_bipush C (z := 40) rfl rfl rfl (fun x47 ex47 => ?_)
      refine k_iload_n C rfl rfl rfl ?_
      have q48 : x47.toNatClampNeg = 40 := nck (by omega)
      refine c_VI C (a_X12_oftenRoot hI35 H_r0 (by omega) (by omega) (by omega) (by omega) (fun a4 a5 h4 h5 => by cases (R_r0_4.symm.trans h4); cases (R_r0_5.symm.trans h5); simp only [q48, e38, e39, e40, e42]; exact hNZ (by omega)) (fun a1 h1 => by cases (R_r0_1.symm.trans h1); first | omega | (simp only [q48, e38, e39, e40, e42] <;> omega))) rfl rfl rfl rfl rfl ⟨_, rfl, rfl, T_r0, Nat.le_of_ble_eq_true rfl⟩ rfl rfl (Nat.le_of_ble_eq_true rfl) (Nat.le_of_ble_eq_true rfl) (Nat.le_of_ble_eq_true rfl) ?_
      rintro x49 I50 L51 ⟨p0x49, p1x49, hI50, S52⟩
      have p0x49 := p0x49 r0_4 R_r0_4
      have p1x49 := p1x49 r0_5 R_r0_5
      try simp only [q48] at p0x49
      try simp only [q48] at p1x49
      have e53 := CM.j S52 R_r0_1 (by decide) e38
      have e54 := CM.j S52 R_r0_1 (by decide) e39
      have e55 := CM.j S52 R_r0_1 (by decide) e40
      have e56 := (p0x49 40 (by first | decide | exact ncne (by omega) (by omega) (by omega) | exact nckn (by omega) (by omega) | exact (nckn (by omega) (by omega)).symm)).trans e42
      have gx49 := rg x49
      exact k_iret C rfl (Or.inl rfl) (Nat.le_of_ble_eq_true rfl) (Nat.le_of_ble_eq_true rfl) ⟨_, _, _, rfl, rfl, hI50, (CM.cons S3 (CM.cons S13 (CM.cons S26 (CM.cons S37 (CM.mono S52 (by decide) (by decide)) (by decide) (by decide)) (by decide) (by decide)) (by decide) (by decide)) (by decide) (by decide))⟩
    refine z_bipush C (z := 99) rfl rfl rfl (fun x57 ex57 => ?_)
    refine k_goto C (pc2 := 61) rfl rfl ?_
    exact k_iret C rfl (Or.inl rfl) (Nat.le_of_ble_eq_true rfl) (Nat.le_of_ble_eq_true rfl) ⟨_, _, _, rfl, rfl, hI35, (CM.cons S3 (CM.cons S13 (CM.cons S26 (CM.mono S37 (by decide) (by decide)) (by decide) (by decide)) (by decide) (by decide)) (by decide) (by decide))⟩
  refine z_iconst C (z := 0) rfl rfl rfl (fun x58 ex58 => ?_)
  exact k_iret C rfl (Or.inl rfl) (Nat.le_of_ble_eq_true rfl) (Nat.le_of_ble_eq_true rfl) ⟨_, _, _, rfl, rfl, hI24, (CM.cons S3 (CM.cons S13 (CM.mono S26 (by decide) (by decide)) (by decide) (by decide)) (by decide) (by decide))⟩

theorem a_X12_roots {d : Nat} {T N : Nat → Nat} {I : IT} {L : LT} {R : RT} {A : Nat → Prop} {r0 : Nat} {n1 : Int32} (hI : IM R r0 I) (H_r0 : (h_MD T N R A) r0) : Ex (d + 6) 270 [.ref r0, .int n1] (T, N, I, L, R) 0 0 (pI T N R (fun x9 I9 L9 => (IM R r0 I9 ∧ CM A R r0 [0] [4, 5] I L I9 L9))) := by
  refine ⟨_, rfl, Nat.le_of_ble_eq_true rfl, fun V C S => ?_⟩
  show V 0 [(0, .ref r0), (1, .int n1)] [] (T, N, I, L, R) 0 0
  have gn1 := rg n1
  obtain ⟨T_r0, A_r0, ⟨r0_1, R_r0_1, H_r0_1⟩, ⟨r0_2, R_r0_2, H_r0_2⟩, ⟨r0_4, R_r0_4, H_r0_4⟩, ⟨r0_5, R_r0_5, H_r0_5⟩, ⟨r0_10, R_r0_10, H_r0_10⟩, ⟨r0_18, R_r0_18, H_r0_18⟩, ⟨r0_20, R_r0_20, H_r0_20⟩, ⟨r0_21, R_r0_21, H_r0_21⟩, ⟨r0_22, R_r0_22, H_r0_22⟩, ⟨r0_23, R_r0_23, H_r0_23⟩, ⟨r0_25, R_r0_25, H_r0_25⟩, ⟨r0_26, R_r0_26, H_r0_26⟩, ⟨r0_27, R_r0_27, H_r0_27⟩, ⟨r0_28, R_r0_28, H_r0_28⟩, ⟨r0_34, R_r0_34, H_r0_34⟩, J_r0, Y_r0⟩ := id H_r0
  have G_r0 : mF T R r0 := ⟨J_r0, Y_r0, T_r0⟩
  refine k_aload_n C rfl rfl rfl ?_
  refine z_iconst C (z := 0) rfl rfl rfl (fun x1 ex1 => ?_)
  refine z_pI C rfl rfl rfl T_r0 (Or.inr rfl) rfl (fun I2 uI2 => ?_)
  have hI2 : IM R r0 I2 := IM.fld hI G_r0 ⟨(fun h => absurd h (by decide)), (fun h => absurd h (by decide)), (fun h => absurd h (by decide)), (fun h => absurd h (by decide)), (fun h => absurd h (by decide))⟩ uI2
  have S3 : CM A R r0 [0] [] I L I2 L := CM.f G_r0 A_r0 uI2
  have e4 := u2_e uI2
  refine k_aload_n C rfl rfl rfl ?_
  refine k_aload_n C rfl rfl rfl ?_
  refine k_iload_n C rfl rfl rfl ?_
  refine c_VI C (a_X12_noForm hI2 H_r0) rfl rfl rfl rfl rfl ⟨_, rfl, rfl, T_r0, Nat.le_of_ble_eq_true rfl⟩ rfl rfl (Nat.le_of_ble_eq_true rfl) (Nat.le_of_ble_eq_true rfl) (Nat.le_of_ble_eq_true rfl) ?_
  rintro x5 _ _ ⟨o0x5, o1x5, p0x5, rfl, rfl⟩
  have p0x5 := p0x5 r0_1 R_r0_1
  have gx5 := rg x5
  obtain ⟨x6, e7⟩ : ∃ x, I2 r0_1 1 = x := ⟨_, rfl⟩
  have gx6 := rg x6
  have ox6 := IM.c1 hI2 R_r0_1 e7
  try simp only [e4, e7] at p0x5
  try have q0x5 := congrArg Int32.toInt p0x5
  refine z_iconst C (z := 1) rfl rfl rfl (fun x8 ex8 => ?_)
  have q9 : x8.toNatClampNeg = 1 := nck (by omega)
  refine c_VI C (a_X12_throwsIf hI2 H_r0 (by omega) (by omega)) rfl rfl rfl rfl rfl ⟨_, rfl, rfl, T_r0, Nat.le_of_ble_eq_true rfl⟩ rfl rfl (Nat.le_of_ble_eq_true rfl) (Nat.le_of_ble_eq_true rfl) (Nat.le_of_ble_eq_true rfl) ?_
  rintro x10 I11 L12 ⟨o0x10, o1x10, p0x10, hI11, S13⟩
  have e15 := CM.j S13 R_r0_1 (by decide) e7
  have gx10 := rg x10
  try simp only [q9, e4, e7] at p0x10
  try have q0x10 := congrArg Int32.toInt p0x10
  refine b_if_eq C (t := 20) rfl rfl rfl (fun c16 => ?_) (fun c16 => ?_)
  · skip
    refine k_aload_n C rfl rfl rfl ?_
    refine z_bipush C (z := 40) rfl rfl rfl (fun x17 ex17 => ?_)
    refine k_iload_n C rfl rfl rfl ?_
    obtain ⟨x18, e19⟩ : ∃ x, I11 r0_1 (6 + 10 * n1.toNatClampNeg) = x := ⟨_, rfl⟩
    have gx18 := rg x18
    obtain ⟨x20, e21⟩ : ∃ x, I11 r0_1 0 = x := ⟨_, rfl⟩
    have gx20 := rg x20
    have ox20 := IM.pi hI11 R_r0_1 e21
    have q22 : x17.toNatClampNeg = 40 := nck (by omega)
    refine c_VV C (a_X12_takes hI11 H_r0 (by omega) (by omega) (by omega) (by omega)) rfl rfl rfl rfl rfl ⟨_, rfl, rfl, T_r0, Nat.le_of_ble_eq_true rfl⟩ rfl rfl (Nat.le_of_ble_eq_true rfl) (Nat.le_of_ble_eq_true rfl) (Nat.le_of_ble_eq_true rfl) ?_
    rintro I24 L25 ⟨p0v23, p1v23, p2v23, p3v23, p4v23, hI24, S26⟩
    have p0v23 := p0v23 r0_4 R_r0_4
    have p1v23 := p1v23 r0_1 r0_4 R_r0_1 R_r0_4
    have p2v23 := p2v23 r0_1 r0_4 r0_5 R_r0_1 R_r0_4 R_r0_5
    have p3v23 := p3v23 r0_4 R_r0_4
    have p4v23 := p4v23 r0_5 R_r0_5
    try simp only [q22] at p3v23
    try simp only [q22] at p4v23
    have e27 := CM.j S26 R_r0_1 (by decide) e15
    have e28 := CM.j S26 R_r0_1 (by decide) e19
    have e29 := CM.j S26 R_r0_1 (by decide) e21
    obtain ⟨x30, e31⟩ : ∃ x, I24 r0_4 40 = x := ⟨_, rfl⟩
    have gx30 := rg x30
    have ox30 := IM.dgR hI24 R_r0_4 e31
    try simp only [q22, e15, e19, e21, e31] at p0v23
    try have q0v23 := congrArg Int32.toInt p0v23
    try simp only [q22, e15, e19, e21, e31] at p1v23
    try have q1v23 := congrArg Int32.toInt p1v23
    try simp only [q22, e15, e19, e21, e31] at p2v23
    try have q2v23 := congrArg Int32.toInt p2v23
    refine z_iconst C (z := 0) rfl rfl rfl (fun x32 ex32 => ?_)
    refine k_istore_n C (lw := [(2, .int x32), (0, .ref r0), (1, .int n1)]) rfl rfl (Nat.le_of_ble_eq_true rfl) rfl ?_
    refine z_iconst C (z := 0) rfl rfl rfl (fun x33 ex33 => ?_)
    have J34 : ∀ (nn35 : Nat) (I36 : IT) (L37 : LT) (x38 : Int32) (x39 : Int32), (MN (20 - x39.toInt) nn35) → (IM R r0 I36) → (CM A R r0 [] [4, 5] I24 L25 I36 L37) → (0 ≤ x39.toInt) → (x39.toInt ≤ 20) → V 31 [(0, .ref r0), (2, .int x38), (3, .int x39)] [] (T, N, I36, L37, R) 0 0 := by
      intro nn35
      induction nn35 using Nat.strongRecOn with
      | _ nn35 ihJ34 =>
        intro I36 L37 x38 x39 hmnn35 hI43 S42 b40 b41
        have gx38 := rg x38
        have gx39 := rg x39
        have e44 := CM.j S42 R_r0_1 (by decide) e27
        have e45 := CM.j S42 R_r0_1 (by decide) e28
        have e46 := CM.j S42 R_r0_1 (by decide) e29
        refine k_iload_n C rfl rfl rfl ?_
        refine k_aload_n C rfl rfl rfl ?_
        refine c_VI C (a_X12_p hI43 H_r0) rfl rfl rfl rfl rfl ⟨_, rfl, rfl, T_r0, Nat.le_of_ble_eq_true rfl⟩ rfl rfl (Nat.le_of_ble_eq_true rfl) (Nat.le_of_ble_eq_true rfl) (Nat.le_of_ble_eq_true rfl) ?_
        rintro x47 _ _ ⟨o0x47, o1x47, p0x47, rfl, rfl⟩
        have p0x47 := p0x47 r0_1 R_r0_1
        have gx47 := rg x47
        try simp only [e44, e45, e46, e46] at p0x47
        try have q0x47 := congrArg Int32.toInt p0x47
        refine b_icmp_gt C (t := 74) rfl rfl rfl (fun c48 => ?_) (fun c48 => ?_)
        · skip
          refine k_iload_n C rfl rfl rfl ?_
          exact k_iret C rfl (Or.inl rfl) (Nat.le_of_ble_eq_true rfl) (Nat.le_of_ble_eq_true rfl) ⟨_, _, _, rfl, rfl, hI43, (CM.cons S3 (CM.cons S13 (CM.cons S26 (CM.mono S42 (by decide) (by decide)) (by decide) (by decide)) (by decide) (by decide)) (by decide) (by decide))⟩
        refine k_iload_n C rfl rfl rfl ?_
        refine k_aload_n C rfl rfl rfl ?_
        refine z_bipush C (z := 40) rfl rfl rfl (fun x49 ex49 => ?_)
        obtain ⟨x50, e51⟩ : ∃ x, I36 r0_4 40 = x := ⟨_, rfl⟩
        have gx50 := rg x50
        have ox50 := IM.dgR hI43 R_r0_4 e51
        have q52 : x49.toNatClampNeg = 40 := nck (by omega)
        refine c_VI C (a_X12_isNought hI43 H_r0 (by omega) (by omega)) rfl rfl rfl rfl rfl ⟨_, rfl, rfl, T_r0, Nat.le_of_ble_eq_true rfl⟩ rfl rfl (Nat.le_of_ble_eq_true rfl) (Nat.le_of_ble_eq_true rfl) (Nat.le_of_ble_eq_true rfl) ?_
        rintro x53 _ _ ⟨o0x53, o1x53, p0x53, rfl, rfl⟩
        have p0x53 := p0x53 r0_4 r0_5 R_r0_4 R_r0_5
        have gx53 := rg x53
        try simp only [q52, e44, e45, e46, e51] at p0x53
        try have q0x53 := congrArg Int32.toInt p0x53
        have hNZ := p0x53
        refine b_if_ne C (t := 59) rfl rfl rfl (fun c54 => ?_) (fun c54 => ?_)
        · skip
          refine z_iconst C (z := 1) rfl rfl rfl (fun x55 ex55 => ?_)
          refine k_iload_n C rfl rfl rfl ?_
          refine zt_ishl C rfl rfl (fun x56 => ?_)
          have gx56 := rg x56
          refine k_goto C (pc2 := 66) rfl rfl ?_
          refine zt_ior C rfl rfl (fun x57 => ?_)
          have gx57 := rg x57
          refine k_istore_n C (lw := [(2, .int x57), (0, .ref r0), (3, .int x39)]) rfl rfl (Nat.le_of_ble_eq_true rfl) rfl ?_
          refine z_iinc C (z := 1) (lw := fun x58 => [(3, .int x58), (2, .int x57), (0, .ref r0)]) rfl rfl rfl (Nat.le_of_ble_eq_true rfl) rfl ⟨by omega, by omega⟩ (fun _ => rfl) (fun x58 ex58 => ?_)
          show V 71 [(3, .int x58), (2, .int x57), (0, .ref r0)] _ _ _ _
          refine k_goto C (pc2 := 31) rfl rfl ?_
          refine k_sub S [(0, .ref r0), (2, .int x57), (3, .int x58)] (List.forall_mem_cons.mpr ⟨List.mem_of_getElem? (i := 2) rfl, List.forall_mem_cons.mpr ⟨List.mem_of_getElem? (i := 1) rfl, List.forall_mem_cons.mpr ⟨List.mem_of_getElem? (i := 0) rfl, fun _ h => nomatch h⟩⟩⟩) ?_
          exact ihJ34 _ (MN.lt hmnn35 (by omega) (by omega)) I36 L37 x57 x58 rfl hI43 (CM.mono S42 (by decide) (by decide)) (by omega) (by omega)
        refine k_aload_n C rfl rfl rfl ?_
        refine z_bipush C (z := 40) rfl rfl rfl (fun x59 ex59 => ?_)
        refine k_iload_n C rfl rfl rfl ?_
        have q60 : x59.toNatClampNeg = 40 := nck (by omega)
        refine c_VI C (a_X12_oftenRoot hI43 H_r0 (by omega) (by omega) (by omega) (by omega) (fun a4 a5 h4 h5 => by cases (R_r0_4.symm.trans h4); cases (R_r0_5.symm.trans h5); simp only [q60, e44, e45, e46, e51]; exact hNZ (by omega)) (fun a1 h1 => by cases (R_r0_1.symm.trans h1); first | omega | (simp only [q60, e44, e45, e46, e51] <;> omega))) rfl rfl rfl rfl rfl ⟨_, rfl, rfl, T_r0, Nat.le_of_ble_eq_true rfl⟩ rfl rfl (Nat.le_of_ble_eq_true rfl) (Nat.le_of_ble_eq_true rfl) (Nat.le_of_ble_eq_true rfl) ?_
        rintro x61 I62 L63 ⟨p0x61, p1x61, hI62, S64⟩
        have p0x61 := p0x61 r0_4 R_r0_4
        have p1x61 := p1x61 r0_5 R_r0_5
        try simp only [q60] at p0x61
        try simp only [q60] at p1x61
        have e65 := CM.j S64 R_r0_1 (by decide) e44
        have e66 := CM.j S64 R_r0_1 (by decide) e45
        have e67 := CM.j S64 R_r0_1 (by decide) e46
        have e68 := (p0x61 40 (by first | decide | exact ncne (by omega) (by omega) (by omega) | exact nckn (by omega) (by omega) | exact (nckn (by omega) (by omega)).symm)).trans e51
        have gx61 := rg x61
        refine b_if_le C (t := 65) rfl rfl rfl (fun c69 => ?_) (fun c69 => ?_)
        · skip
          refine z_iconst C (z := 0) rfl rfl rfl (fun x70 ex70 => ?_)
          refine zt_ior C rfl rfl (fun x71 => ?_)
          have gx71 := rg x71
          refine k_istore_n C (lw := [(2, .int x71), (0, .ref r0), (3, .int x39)]) rfl rfl (Nat.le_of_ble_eq_true rfl) rfl ?_
          refine z_iinc C (z := 1) (lw := fun x72 => [(3, .int x72), (2, .int x71), (0, .ref r0)]) rfl rfl rfl (Nat.le_of_ble_eq_true rfl) rfl ⟨by omega, by omega⟩ (fun _ => rfl) (fun x72 ex72 => ?_)
          show V 71 [(3, .int x72), (2, .int x71), (0, .ref r0)] _ _ _ _
          refine k_goto C (pc2 := 31) rfl rfl ?_
          refine k_sub S [(0, .ref r0), (2, .int x71), (3, .int x72)] (List.forall_mem_cons.mpr ⟨List.mem_of_getElem? (i := 2) rfl, List.forall_mem_cons.mpr ⟨List.mem_of_getElem? (i := 1) rfl, List.forall_mem_cons.mpr ⟨List.mem_of_getElem? (i := 0) rfl, fun _ h => nomatch h⟩⟩⟩) ?_
          exact ihJ34 _ (MN.lt hmnn35 (by omega) (by omega)) I62 L63 x71 x72 rfl hI62 (CM.cons S42 (CM.mono S64 (by decide) (by decide)) (by decide) (by decide)) (by omega) (by omega)
        refine z_iconst C (z := 1) rfl rfl rfl (fun x73 ex73 => ?_)
        refine k_iload_n C rfl rfl rfl ?_
        refine zt_ishl C rfl rfl (fun x74 => ?_)
        have gx74 := rg x74
        refine k_goto C (pc2 := 66) rfl rfl ?_
        refine zt_ior C rfl rfl (fun x75 => ?_)
        have gx75 := rg x75
        refine k_istore_n C (lw := [(2, .int x75), (0, .ref r0), (3, .int x39)]) rfl rfl (Nat.le_of_ble_eq_true rfl) rfl ?_
        refine z_iinc C (z := 1) (lw := fun x76 => [(3, .int x76), (2, .int x75), (0, .ref r0)]) rfl rfl rfl (Nat.le_of_ble_eq_true rfl) rfl ⟨by omega, by omega⟩ (fun _ => rfl) (fun x76 ex76 => ?_)
        show V 71 [(3, .int x76), (2, .int x75), (0, .ref r0)] _ _ _ _
        refine k_goto C (pc2 := 31) rfl rfl ?_
        refine k_sub S [(0, .ref r0), (2, .int x75), (3, .int x76)] (List.forall_mem_cons.mpr ⟨List.mem_of_getElem? (i := 2) rfl, List.forall_mem_cons.mpr ⟨List.mem_of_getElem? (i := 1) rfl, List.forall_mem_cons.mpr ⟨List.mem_of_getElem? (i := 0) rfl, fun _ h => nomatch h⟩⟩⟩) ?_
        exact ihJ34 _ (MN.lt hmnn35 (by omega) (by omega)) I62 L63 x75 x76 rfl hI62 (CM.cons S42 (CM.mono S64 (by decide) (by decide)) (by decide) (by decide)) (by omega) (by omega)
    refine k_istore_n C (lw := [(3, .int x33), (2, .int x32), (0, .ref r0), (1, .int n1)]) rfl rfl (Nat.le_of_ble_eq_true rfl) rfl ?_
    refine k_sub S [(0, .ref r0), (2, .int x32), (3, .int x33)] (List.forall_mem_cons.mpr ⟨List.mem_of_getElem? (i := 2) rfl, List.forall_mem_cons.mpr ⟨List.mem_of_getElem? (i := 1) rfl, List.forall_mem_cons.mpr ⟨List.mem_of_getElem? (i := 0) rfl, fun _ h => nomatch h⟩⟩⟩) ?_
    exact J34 _ I24 L25 x32 x33 rfl hI24 CM.rf (by omega) (by omega)
  refine z_iconst C (z := 0) rfl rfl rfl (fun x77 ex77 => ?_)
  exact k_iret C rfl (Or.inl rfl) (Nat.le_of_ble_eq_true rfl) (Nat.le_of_ble_eq_true rfl) ⟨_, _, _, rfl, rfl, hI11, (CM.cons S3 (CM.mono S13 (by decide) (by decide)) (by decide) (by decide))⟩

theorem a_X12_empty {d : Nat} {T N : Nat → Nat} {I : IT} {L : LT} {R : RT} {A : Nat → Prop} {r0 : Nat} {n1 : Int32} (hI : IM R r0 I) (H_r0 : (h_MD T N R A) r0) : Ex (d + 6) 271 [.ref r0, .int n1] (T, N, I, L, R) 0 0 (pI T N R (fun x9 I9 L9 => (0 ≤ x9.toInt) ∧ (x9.toInt ≤ 1) ∧ (IM R r0 I9 ∧ CM A R r0 [0] [4, 5] I L I9 L9))) := by
  refine ⟨_, rfl, Nat.le_of_ble_eq_true rfl, fun V C S => ?_⟩
  show V 0 [(0, .ref r0), (1, .int n1)] [] (T, N, I, L, R) 0 0
  have gn1 := rg n1
  obtain ⟨T_r0, A_r0, ⟨r0_1, R_r0_1, H_r0_1⟩, ⟨r0_2, R_r0_2, H_r0_2⟩, ⟨r0_4, R_r0_4, H_r0_4⟩, ⟨r0_5, R_r0_5, H_r0_5⟩, ⟨r0_10, R_r0_10, H_r0_10⟩, ⟨r0_18, R_r0_18, H_r0_18⟩, ⟨r0_20, R_r0_20, H_r0_20⟩, ⟨r0_21, R_r0_21, H_r0_21⟩, ⟨r0_22, R_r0_22, H_r0_22⟩, ⟨r0_23, R_r0_23, H_r0_23⟩, ⟨r0_25, R_r0_25, H_r0_25⟩, ⟨r0_26, R_r0_26, H_r0_26⟩, ⟨r0_27, R_r0_27, H_r0_27⟩, ⟨r0_28, R_r0_28, H_r0_28⟩, ⟨r0_34, R_r0_34, H_r0_34⟩, J_r0, Y_r0⟩ := id H_r0
  have G_r0 : mF T R r0 := ⟨J_r0, Y_r0, T_r0⟩
  refine k_aload_n C rfl rfl rfl ?_
  refine z_iconst C (z := 0) rfl rfl rfl (fun x1 ex1 => ?_)
  refine z_pI C rfl rfl rfl T_r0 (Or.inr rfl) rfl (fun I2 uI2 => ?_)
  have hI2 : IM R r0 I2 := IM.fld hI G_r0 ⟨(fun h => absurd h (by decide)), (fun h => absurd h (by decide)), (fun h => absurd h (by decide)), (fun h => absurd h (by decide)), (fun h => absurd h (by decide))⟩ uI2
  have S3 : CM A R r0 [0] [] I L I2 L := CM.f G_r0 A_r0 uI2
  have e4 := u2_e uI2
  refine k_aload_n C rfl rfl rfl ?_
  refine k_aload_n C rfl rfl rfl ?_
  refine k_iload_n C rfl rfl rfl ?_
  refine c_VI C (a_X12_noForm hI2 H_r0) rfl rfl rfl rfl rfl ⟨_, rfl, rfl, T_r0, Nat.le_of_ble_eq_true rfl⟩ rfl rfl (Nat.le_of_ble_eq_true rfl) (Nat.le_of_ble_eq_true rfl) (Nat.le_of_ble_eq_true rfl) ?_
  rintro x5 _ _ ⟨o0x5, o1x5, p0x5, rfl, rfl⟩
  have p0x5 := p0x5 r0_1 R_r0_1
  have gx5 := rg x5
  obtain ⟨x6, e7⟩ : ∃ x, I2 r0_1 1 = x := ⟨_, rfl⟩
  have gx6 := rg x6
  have ox6 := IM.c1 hI2 R_r0_1 e7
  try simp only [e4, e7] at p0x5
  try have q0x5 := congrArg Int32.toInt p0x5
  refine z_iconst C (z := 1) rfl rfl rfl (fun x8 ex8 => ?_)
  have q9 : x8.toNatClampNeg = 1 := nck (by omega)
  refine c_VI C (a_X12_throwsIf hI2 H_r0 (by omega) (by omega)) rfl rfl rfl rfl rfl ⟨_, rfl, rfl, T_r0, Nat.le_of_ble_eq_true rfl⟩ rfl rfl (Nat.le_of_ble_eq_true rfl) (Nat.le_of_ble_eq_true rfl) (Nat.le_of_ble_eq_true rfl) ?_
  rintro x10 I11 L12 ⟨o0x10, o1x10, p0x10, hI11, S13⟩
  have e15 := CM.j S13 R_r0_1 (by decide) e7
  have gx10 := rg x10
  try simp only [q9, e4, e7] at p0x10
  try have q0x10 := congrArg Int32.toInt p0x10
  refine b_if_eq C (t := 20) rfl rfl rfl (fun c16 => ?_) (fun c16 => ?_)
  · skip
    refine k_aload_n C rfl rfl rfl ?_
    refine z_bipush C (z := 40) rfl rfl rfl (fun x17 ex17 => ?_)
    refine k_iload_n C rfl rfl rfl ?_
    obtain ⟨x18, e19⟩ : ∃ x, I11 r0_1 (6 + 10 * n1.toNatClampNeg) = x := ⟨_, rfl⟩
    have gx18 := rg x18
    obtain ⟨x20, e21⟩ : ∃ x, I11 r0_1 0 = x := ⟨_, rfl⟩
    have gx20 := rg x20
    have ox20 := IM.pi hI11 R_r0_1 e21
    have q22 : x17.toNatClampNeg = 40 := nck (by omega)
    refine c_VV C (a_X12_takes hI11 H_r0 (by omega) (by omega) (by omega) (by omega)) rfl rfl rfl rfl rfl ⟨_, rfl, rfl, T_r0, Nat.le_of_ble_eq_true rfl⟩ rfl rfl (Nat.le_of_ble_eq_true rfl) (Nat.le_of_ble_eq_true rfl) (Nat.le_of_ble_eq_true rfl) ?_
    rintro I24 L25 ⟨p0v23, p1v23, p2v23, p3v23, p4v23, hI24, S26⟩
    have p0v23 := p0v23 r0_4 R_r0_4
    have p1v23 := p1v23 r0_1 r0_4 R_r0_1 R_r0_4
    have p2v23 := p2v23 r0_1 r0_4 r0_5 R_r0_1 R_r0_4 R_r0_5
    have p3v23 := p3v23 r0_4 R_r0_4
    have p4v23 := p4v23 r0_5 R_r0_5
    try simp only [q22] at p3v23
    try simp only [q22] at p4v23
    have e27 := CM.j S26 R_r0_1 (by decide) e15
    have e28 := CM.j S26 R_r0_1 (by decide) e19
    have e29 := CM.j S26 R_r0_1 (by decide) e21
    obtain ⟨x30, e31⟩ : ∃ x, I24 r0_4 40 = x := ⟨_, rfl⟩
    have gx30 := rg x30
    have ox30 := IM.dgR hI24 R_r0_4 e31
    try simp only [q22, e15, e19, e21, e31] at p0v23
    try have q0v23 := congrArg Int32.toInt p0v23
    try simp only [q22, e15, e19, e21, e31] at p1v23
    try have q1v23 := congrArg Int32.toInt p1v23
    try simp only [q22, e15, e19, e21, e31] at p2v23
    try have q2v23 := congrArg Int32.toInt p2v23
    refine k_aload_n C rfl rfl rfl ?_
    refine z_bipush C (z := 40) rfl rfl rfl (fun x32 ex32 => ?_)
    have q33 : x32.toNatClampNeg = 40 := nck (by omega)
    refine c_VI C (a_X12_isNought hI24 H_r0 (by omega) (by omega)) rfl rfl rfl rfl rfl ⟨_, rfl, rfl, T_r0, Nat.le_of_ble_eq_true rfl⟩ rfl rfl (Nat.le_of_ble_eq_true rfl) (Nat.le_of_ble_eq_true rfl) (Nat.le_of_ble_eq_true rfl) ?_
    rintro x34 _ _ ⟨o0x34, o1x34, p0x34, rfl, rfl⟩
    have p0x34 := p0x34 r0_4 r0_5 R_r0_4 R_r0_5
    have gx34 := rg x34
    try simp only [q33, e27, e28, e29, e31] at p0x34
    try have q0x34 := congrArg Int32.toInt p0x34
    have hNZ := p0x34
    refine k_istore_n C (lw := [(2, .int x34), (0, .ref r0), (1, .int n1)]) rfl rfl (Nat.le_of_ble_eq_true rfl) rfl ?_
    refine z_iconst C (z := 0) rfl rfl rfl (fun x35 ex35 => ?_)
    have J36 : ∀ (nn37 : Nat) (I38 : IT) (L39 : LT) (x40 : Int32) (x43 : Int32), (MN (20 - x43.toInt) nn37) → (IM R r0 I38) → (CM A R r0 [] [4, 5] I24 L25 I38 L39) → (∀ r : Nat, r ≠ 43 → I38 r0_4 r = I24 r0_4 r) → (∀ r : Nat, (r < 41 * 43 ∨ 41 * 43 + 41 ≤ r) → I38 r0_5 r = I24 r0_5 r) → (0 ≤ x40.toInt) → (x40.toInt ≤ 1) → (0 ≤ x43.toInt) → (x43.toInt ≤ 20) → (x40.toInt = 0 → NZ I38 r0_5 40 x30.toInt) → V 36 [(0, .ref r0), (2, .int x40), (3, .int x43)] [] (T, N, I38, L39, R) 0 0 := by
      intro nn37
      induction nn37 using Nat.strongRecOn with
      | _ nn37 ihJ36 =>
        intro I38 L39 x40 x43 hmnn37 hI47 S46 F48 F49 b41 b42 b44 b45 ff36_0
        have gx40 := rg x40
        have gx43 := rg x43
        have e50 := CM.j S46 R_r0_1 (by decide) e27
        have e51 := CM.j S46 R_r0_1 (by decide) e28
        have e52 := CM.j S46 R_r0_1 (by decide) e29
        have e53 := (F48 40 (by first | decide | exact ncne (by omega) (by omega) (by omega) | exact nckn (by omega) (by omega) | exact (nckn (by omega) (by omega)).symm)).trans e31
        refine k_iload_n C rfl rfl rfl ?_
        refine k_aload_n C rfl rfl rfl ?_
        refine c_VI C (a_X12_p hI47 H_r0) rfl rfl rfl rfl rfl ⟨_, rfl, rfl, T_r0, Nat.le_of_ble_eq_true rfl⟩ rfl rfl (Nat.le_of_ble_eq_true rfl) (Nat.le_of_ble_eq_true rfl) (Nat.le_of_ble_eq_true rfl) ?_
        rintro x54 _ _ ⟨o0x54, o1x54, p0x54, rfl, rfl⟩
        have p0x54 := p0x54 r0_1 R_r0_1
        have gx54 := rg x54
        try simp only [e50, e51, e52, e53, e52] at p0x54
        try have q0x54 := congrArg Int32.toInt p0x54
        refine b_icmp_gt C (t := 79) rfl rfl rfl (fun c55 => ?_) (fun c55 => ?_)
        · skip
          refine k_iload_n C rfl rfl rfl ?_
          exact k_iret C rfl (Or.inr ⟨rfl, z01 (by omega) (by omega)⟩) (Nat.le_of_ble_eq_true rfl) (Nat.le_of_ble_eq_true rfl) ⟨_, _, _, rfl, rfl, by omega, by omega, hI47, (CM.cons S3 (CM.cons S13 (CM.cons S26 (CM.mono S46 (by decide) (by decide)) (by decide) (by decide)) (by decide) (by decide)) (by decide) (by decide))⟩
        refine k_iload_n C rfl rfl rfl ?_
        refine b_if_ne C (t := 79) rfl rfl rfl (fun c56 => ?_) (fun c56 => ?_)
        · skip
          refine k_iload_n C rfl rfl rfl ?_
          exact k_iret C rfl (Or.inr ⟨rfl, z01 (by omega) (by omega)⟩) (Nat.le_of_ble_eq_true rfl) (Nat.le_of_ble_eq_true rfl) ⟨_, _, _, rfl, rfl, by omega, by omega, hI47, (CM.cons S3 (CM.cons S13 (CM.cons S26 (CM.mono S46 (by decide) (by decide)) (by decide) (by decide)) (by decide) (by decide)) (by decide) (by decide))⟩
        refine z_iconst C (z := 2) rfl rfl rfl (fun x57 ex57 => ?_)
        refine k_aload_n C rfl rfl rfl ?_
        refine z_bipush C (z := 40) rfl rfl rfl (fun x58 ex58 => ?_)
        refine k_iload_n C rfl rfl rfl ?_
        have q59 : x58.toNatClampNeg = 40 := nck (by omega)
        refine c_VI C (a_X12_oftenRoot hI47 H_r0 (by omega) (by omega) (by omega) (by omega) (fun a4 a5 h4 h5 => by cases (R_r0_4.symm.trans h4); cases (R_r0_5.symm.trans h5); simp only [q59, e50, e51, e52, e53]; exact ff36_0 (by omega)) (fun a1 h1 => by cases (R_r0_1.symm.trans h1); first | omega | (simp only [q59, e50, e51, e52, e53] <;> omega))) rfl rfl rfl rfl rfl ⟨_, rfl, rfl, T_r0, Nat.le_of_ble_eq_true rfl⟩ rfl rfl (Nat.le_of_ble_eq_true rfl) (Nat.le_of_ble_eq_true rfl) (Nat.le_of_ble_eq_true rfl) ?_
        rintro x60 I61 L62 ⟨p0x60, p1x60, hI61, S63⟩
        have p0x60 := p0x60 r0_4 R_r0_4
        have p1x60 := p1x60 r0_5 R_r0_5
        try simp only [q59] at p0x60
        have F64 : ∀ r : Nat, r ≠ 43 → I61 r0_4 r = I38 r0_4 r := fun r z0 => p0x60 r (by first | exact z0)
        try simp only [q59] at p1x60
        have F65 : ∀ r : Nat, (r < 41 * 43 ∨ 41 * 43 + 41 ≤ r) → I61 r0_5 r = I38 r0_5 r := fun r z0 => p1x60 r (by first | exact z0)
        have e66 := CM.j S63 R_r0_1 (by decide) e50
        have e67 := CM.j S63 R_r0_1 (by decide) e51
        have e68 := CM.j S63 R_r0_1 (by decide) e52
        have e69 := (p0x60 40 (by first | decide | exact ncne (by omega) (by omega) (by omega) | exact nckn (by omega) (by omega) | exact (nckn (by omega) (by omega)).symm)).trans e53
        have gx60 := rg x60
        refine zt_imul C rfl rfl (fun x70 => ?_)
        have gx70 := rg x70
        refine k_aload_n C rfl rfl rfl ?_
        refine g_R C rfl rfl rfl T_r0 rfl R_r0_4 ?_
        refine z_bipush C (z := 40) rfl rfl rfl (fun x71 ex71 => ?_)
        obtain ⟨T_r0_4, N_r0_4, A_r0_4⟩ := id H_r0_4
        refine a_I C rfl rfl T_r0_4 (by rw [N_r0_4]; exact vpi (by omega) (by omega)) ((congrArg (I61 r0_4) (nck (n := 40) (by omega))).trans e69) ?_
        refine b_icmp_le C (t := 71) rfl rfl rfl (fun c72 => ?_) (fun c72 => ?_)
        · skip
          refine z_iconst C (z := 0) rfl rfl rfl (fun x73 ex73 => ?_)
          refine k_istore_n C (lw := [(2, .int x73), (0, .ref r0), (3, .int x43)]) rfl rfl (Nat.le_of_ble_eq_true rfl) rfl ?_
          refine z_iinc C (z := 1) (lw := fun x74 => [(3, .int x74), (2, .int x73), (0, .ref r0)]) rfl rfl rfl (Nat.le_of_ble_eq_true rfl) rfl ⟨by omega, by omega⟩ (fun _ => rfl) (fun x74 ex74 => ?_)
          show V 76 [(3, .int x74), (2, .int x73), (0, .ref r0)] _ _ _ _
          refine k_goto C (pc2 := 36) rfl rfl ?_
          refine k_sub S [(0, .ref r0), (2, .int x73), (3, .int x74)] (List.forall_mem_cons.mpr ⟨List.mem_of_getElem? (i := 2) rfl, List.forall_mem_cons.mpr ⟨List.mem_of_getElem? (i := 1) rfl, List.forall_mem_cons.mpr ⟨List.mem_of_getElem? (i := 0) rfl, fun _ h => nomatch h⟩⟩⟩) ?_
          exact ihJ36 _ (MN.lt hmnn37 (by omega) (by omega)) I61 L62 x73 x74 rfl hI61 (CM.cons S46 (CM.mono S63 (by decide) (by decide)) (by decide) (by decide)) (fun r z0 => ((F64 r z0).trans (F48 r z0))) (fun r z0 => ((F65 r z0).trans (F49 r z0))) (by omega) (by omega) (by omega) (by omega) (by intro _; obtain ⟨K, h1, h2⟩ := ff36_0 (by omega); exact ⟨K, h1, by rw [(fun r z0 => (F65 r z0)) (41 * 40 + K) (by omega)]; exact h2⟩)
        refine z_iconst C (z := 1) rfl rfl rfl (fun x75 ex75 => ?_)
        refine k_goto C (pc2 := 72) rfl rfl ?_
        refine k_istore_n C (lw := [(2, .int x75), (0, .ref r0), (3, .int x43)]) rfl rfl (Nat.le_of_ble_eq_true rfl) rfl ?_
        refine z_iinc C (z := 1) (lw := fun x76 => [(3, .int x76), (2, .int x75), (0, .ref r0)]) rfl rfl rfl (Nat.le_of_ble_eq_true rfl) rfl ⟨by omega, by omega⟩ (fun _ => rfl) (fun x76 ex76 => ?_)
        show V 76 [(3, .int x76), (2, .int x75), (0, .ref r0)] _ _ _ _
        refine k_goto C (pc2 := 36) rfl rfl ?_
        refine k_sub S [(0, .ref r0), (2, .int x75), (3, .int x76)] (List.forall_mem_cons.mpr ⟨List.mem_of_getElem? (i := 2) rfl, List.forall_mem_cons.mpr ⟨List.mem_of_getElem? (i := 1) rfl, List.forall_mem_cons.mpr ⟨List.mem_of_getElem? (i := 0) rfl, fun _ h => nomatch h⟩⟩⟩) ?_
        exact ihJ36 _ (MN.lt hmnn37 (by omega) (by omega)) I61 L62 x75 x76 rfl hI61 (CM.cons S46 (CM.mono S63 (by decide) (by decide)) (by decide) (by decide)) (fun r z0 => ((F64 r z0).trans (F48 r z0))) (fun r z0 => ((F65 r z0).trans (F49 r z0))) (by omega) (by omega) (by omega) (by omega) (by intro _; obtain ⟨K, h1, h2⟩ := ff36_0 (by omega); exact ⟨K, h1, by rw [(fun r z0 => (F65 r z0)) (41 * 40 + K) (by omega)]; exact h2⟩)
    refine k_istore_n C (lw := [(3, .int x35), (2, .int x34), (0, .ref r0), (1, .int n1)]) rfl rfl (Nat.le_of_ble_eq_true rfl) rfl ?_
    refine k_sub S [(0, .ref r0), (2, .int x34), (3, .int x35)] (List.forall_mem_cons.mpr ⟨List.mem_of_getElem? (i := 2) rfl, List.forall_mem_cons.mpr ⟨List.mem_of_getElem? (i := 1) rfl, List.forall_mem_cons.mpr ⟨List.mem_of_getElem? (i := 0) rfl, fun _ h => nomatch h⟩⟩⟩) ?_
    exact J36 _ I24 L25 x34 x35 rfl hI24 CM.rf (fun r z0 => rfl) (fun r z0 => rfl) (by omega) (by omega) (by omega) (by omega) (by exact hNZ)
  refine z_iconst C (z := 0) rfl rfl rfl (fun x77 ex77 => ?_)
  exact k_iret C rfl (Or.inr ⟨rfl, z01 (by omega) (by omega)⟩) (Nat.le_of_ble_eq_true rfl) (Nat.le_of_ble_eq_true rfl) ⟨_, _, _, rfl, rfl, by omega, by omega, hI11, (CM.cons S3 (CM.mono S13 (by decide) (by decide)) (by decide) (by decide))⟩

theorem a_X12_toldOf {d : Nat} {T N : Nat → Nat} {I : IT} {L : LT} {R : RT} {A : Nat → Prop} {r0 : Nat} {n1 n2 : Int32} (hI : IM R r0 I) (H_r0 : (h_MD T N R A) r0) (b0_n1 : 0 ≤ n1.toInt) (b1_n1 : n1.toInt ≤ 47) : Ex (d + 2) 291 [.ref r0, .int n1, .int n2] (T, N, I, L, R) 0 0 (pI T N R (fun x9 I9 L9 => (-18 ≤ x9.toInt) ∧ (x9.toInt ≤ 40) ∧ (I = I9 ∧ L = L9))) := by
  refine ⟨_, rfl, Nat.le_of_ble_eq_true rfl, fun V C S => ?_⟩
  show V 0 [(0, .ref r0), (1, .int n1), (2, .int n2)] [] (T, N, I, L, R) 0 0
  have gn1 := rg n1
  have gn2 := rg n2
  obtain ⟨T_r0, A_r0, ⟨r0_1, R_r0_1, H_r0_1⟩, ⟨r0_2, R_r0_2, H_r0_2⟩, ⟨r0_4, R_r0_4, H_r0_4⟩, ⟨r0_5, R_r0_5, H_r0_5⟩, ⟨r0_10, R_r0_10, H_r0_10⟩, ⟨r0_18, R_r0_18, H_r0_18⟩, ⟨r0_20, R_r0_20, H_r0_20⟩, ⟨r0_21, R_r0_21, H_r0_21⟩, ⟨r0_22, R_r0_22, H_r0_22⟩, ⟨r0_23, R_r0_23, H_r0_23⟩, ⟨r0_25, R_r0_25, H_r0_25⟩, ⟨r0_26, R_r0_26, H_r0_26⟩, ⟨r0_27, R_r0_27, H_r0_27⟩, ⟨r0_28, R_r0_28, H_r0_28⟩, ⟨r0_34, R_r0_34, H_r0_34⟩, J_r0, Y_r0⟩ := id H_r0
  have G_r0 : mF T R r0 := ⟨J_r0, Y_r0, T_r0⟩
  refine k_iload_n C rfl rfl rfl ?_
  refine z_iconst C (z := -1) rfl rfl rfl (fun x1 ex1 => ?_)
  refine b_icmp_ne C (t := 14) rfl rfl rfl (fun c2 => ?_) (fun c2 => ?_)
  · skip
    refine k_iload_n C rfl rfl rfl ?_
    refine z_iconst C (z := 0) rfl rfl rfl (fun x3 ex3 => ?_)
    refine k_aload_n C rfl rfl rfl ?_
    refine g_R C rfl rfl rfl T_r0 rfl R_r0_4 ?_
    refine k_iload_n C rfl rfl rfl ?_
    obtain ⟨T_r0_4, N_r0_4, A_r0_4⟩ := id H_r0_4
    refine z_aI C rfl rfl T_r0_4 N_r0_4 (by omega) (by omega) (fun x4 ex4 => ?_)
    have gx4 := rg x4
    have ox4 := IM.dgR hI R_r0_4 ex4
    have q5 : x3.toNatClampNeg = 0 := nck (by omega)
    refine c_SI C a_X12_in rfl rfl rfl rfl rfl rfl rfl (Nat.le_of_ble_eq_true rfl) (Nat.le_of_ble_eq_true rfl) (Nat.le_of_ble_eq_true rfl) ?_
    rintro x6 _ _ ⟨o0x6, o1x6, p0x6, rfl, rfl⟩
    have gx6 := rg x6
    try simp only [q5, ex4] at p0x6
    try have q0x6 := congrArg Int32.toInt p0x6
    refine b_if_eq C (t := 37) rfl rfl rfl (fun c7 => ?_) (fun c7 => ?_)
    · skip
      refine z_iconst C (z := -1) rfl rfl rfl (fun x8 ex8 => ?_)
      exact k_iret C rfl (Or.inl rfl) (Nat.le_of_ble_eq_true rfl) (Nat.le_of_ble_eq_true rfl) ⟨_, _, _, rfl, rfl, by omega, by omega, rfl, rfl⟩
    refine k_aload_n C rfl rfl rfl ?_
    refine k_iload_n C rfl rfl rfl ?_
    refine k_iload_n C rfl rfl rfl ?_
    refine c_VI C (a_X12_of hI H_r0 (by omega) (by omega) (by omega) (by omega)) rfl rfl rfl rfl rfl ⟨_, rfl, rfl, T_r0, Nat.le_of_ble_eq_true rfl⟩ rfl rfl (Nat.le_of_ble_eq_true rfl) (Nat.le_of_ble_eq_true rfl) (Nat.le_of_ble_eq_true rfl) ?_
    rintro x9 _ _ ⟨o0x9, o1x9, p0x9, rfl, rfl⟩
    have p0x9 := p0x9 r0_5 R_r0_5
    have gx9 := rg x9
    try simp only [ex4] at p0x9
    try have q0x9 := congrArg Int32.toInt p0x9
    refine k_goto C (pc2 := 38) rfl rfl ?_
    exact k_iret C rfl (Or.inl rfl) (Nat.le_of_ble_eq_true rfl) (Nat.le_of_ble_eq_true rfl) ⟨_, _, _, rfl, rfl, by omega, by omega, rfl, rfl⟩
  refine k_aload_n C rfl rfl rfl ?_
  refine g_R C rfl rfl rfl T_r0 rfl R_r0_4 ?_
  refine k_iload_n C rfl rfl rfl ?_
  obtain ⟨T_r0_4, N_r0_4, A_r0_4⟩ := id H_r0_4
  refine z_aI C rfl rfl T_r0_4 N_r0_4 (by omega) (by omega) (fun x10 ex10 => ?_)
  have gx10 := rg x10
  have ox10 := IM.dgR hI R_r0_4 ex10
  refine k_goto C (pc2 := 38) rfl rfl ?_
  exact k_iret C rfl (Or.inl rfl) (Nat.le_of_ble_eq_true rfl) (Nat.le_of_ble_eq_true rfl) ⟨_, _, _, rfl, rfl, by omega, by omega, rfl, rfl⟩

theorem a_J9_min_7cf53_m {d : Nat} {T N : Nat → Nat} {I : IT} {L : LT} {R : RT} {n0 n1 : Int32}   : Ex (d + 1) 315 [.int n0, .int n1] (T, N, I, L, R) 0 0 (pI T N R (fun x9 I9 L9 => (x9.toInt ≤ n0.toInt) ∧ (x9.toInt ≤ n1.toInt) ∧ (x9.toInt = n0.toInt ∨ x9.toInt = n1.toInt) ∧ (I = I9 ∧ L = L9))) := by
  refine ⟨_, rfl, Nat.le_of_ble_eq_true rfl, fun V C S => ?_⟩
  show V 0 [(0, .int n0), (1, .int n1)] [] (T, N, I, L, R) 0 0
  have gn0 := rg n0
  have gn1 := rg n1
  refine k_iload_n C rfl rfl rfl ?_
  refine k_iload_n C rfl rfl rfl ?_
  refine b_icmp_gt C (t := 9) rfl rfl rfl (fun c1 => ?_) (fun c1 => ?_)
  · skip
    refine k_iload_n C rfl rfl rfl ?_
    exact k_iret C rfl (Or.inl rfl) (Nat.le_of_ble_eq_true rfl) (Nat.le_of_ble_eq_true rfl) ⟨_, _, _, rfl, rfl, by omega, by omega, by omega, rfl, rfl⟩
  refine k_iload_n C rfl rfl rfl ?_
  refine k_goto C (pc2 := 10) rfl rfl ?_
  exact k_iret C rfl (Or.inl rfl) (Nat.le_of_ble_eq_true rfl) (Nat.le_of_ble_eq_true rfl) ⟨_, _, _, rfl, rfl, by omega, by omega, by omega, rfl, rfl⟩

theorem a_X12_overlap {d : Nat} {T N : Nat → Nat} {I : IT} {L : LT} {R : RT} {A : Nat → Prop} {r0 : Nat} {n1 n2 n3 n4 : Int32} (hI : IM R r0 I) (H_r0 : (h_MD T N R A) r0) : Ex (d + 7) 296 [.ref r0, .int n1, .int n2, .int n3, .int n4] (T, N, I, L, R) 0 0 (pI T N R (fun x9 I9 L9 => (-18 ≤ x9.toInt) ∧ (x9.toInt ≤ 40) ∧ (IM R r0 I9 ∧ CM A R r0 [0] [4, 5] I L I9 L9))) := by
  refine ⟨_, rfl, Nat.le_of_ble_eq_true rfl, fun V C S => ?_⟩
  show V 0 [(0, .ref r0), (1, .int n1), (2, .int n2), (3, .int n3), (4, .int n4)] [] (T, N, I, L, R) 0 0
  have gn1 := rg n1
  have gn2 := rg n2
  have gn3 := rg n3
  have gn4 := rg n4
  obtain ⟨T_r0, A_r0, ⟨r0_1, R_r0_1, H_r0_1⟩, ⟨r0_2, R_r0_2, H_r0_2⟩, ⟨r0_4, R_r0_4, H_r0_4⟩, ⟨r0_5, R_r0_5, H_r0_5⟩, ⟨r0_10, R_r0_10, H_r0_10⟩, ⟨r0_18, R_r0_18, H_r0_18⟩, ⟨r0_20, R_r0_20, H_r0_20⟩, ⟨r0_21, R_r0_21, H_r0_21⟩, ⟨r0_22, R_r0_22, H_r0_22⟩, ⟨r0_23, R_r0_23, H_r0_23⟩, ⟨r0_25, R_r0_25, H_r0_25⟩, ⟨r0_26, R_r0_26, H_r0_26⟩, ⟨r0_27, R_r0_27, H_r0_27⟩, ⟨r0_28, R_r0_28, H_r0_28⟩, ⟨r0_34, R_r0_34, H_r0_34⟩, J_r0, Y_r0⟩ := id H_r0
  have G_r0 : mF T R r0 := ⟨J_r0, Y_r0, T_r0⟩
  refine k_aload_n C rfl rfl rfl ?_
  refine z_iconst C (z := 0) rfl rfl rfl (fun x1 ex1 => ?_)
  refine z_pI C rfl rfl rfl T_r0 (Or.inr rfl) rfl (fun I2 uI2 => ?_)
  have hI2 : IM R r0 I2 := IM.fld hI G_r0 ⟨(fun h => absurd h (by decide)), (fun h => absurd h (by decide)), (fun h => absurd h (by decide)), (fun h => absurd h (by decide)), (fun h => absurd h (by decide))⟩ uI2
  have S3 : CM A R r0 [0] [] I L I2 L := CM.f G_r0 A_r0 uI2
  have e4 := u2_e uI2
  refine k_aload_n C rfl rfl rfl ?_
  refine k_aload_n C rfl rfl rfl ?_
  refine k_iload_n C rfl rfl rfl ?_
  refine c_VI C (a_X12_noForm hI2 H_r0) rfl rfl rfl rfl rfl ⟨_, rfl, rfl, T_r0, Nat.le_of_ble_eq_true rfl⟩ rfl rfl (Nat.le_of_ble_eq_true rfl) (Nat.le_of_ble_eq_true rfl) (Nat.le_of_ble_eq_true rfl) ?_
  rintro x5 _ _ ⟨o0x5, o1x5, p0x5, rfl, rfl⟩
  have p0x5 := p0x5 r0_1 R_r0_1
  have gx5 := rg x5
  obtain ⟨x6, e7⟩ : ∃ x, I2 r0_1 1 = x := ⟨_, rfl⟩
  have gx6 := rg x6
  have ox6 := IM.c1 hI2 R_r0_1 e7
  try simp only [e4, e7] at p0x5
  try have q0x5 := congrArg Int32.toInt p0x5
  refine b_if_ne C (t := 22) rfl rfl rfl (fun c8 => ?_) (fun c8 => ?_)
  · skip
    refine z_iconst C (z := 1) rfl rfl rfl (fun x9 ex9 => ?_)
    refine k_goto C (pc2 := 27) rfl rfl ?_
    refine z_iconst C (z := 1) rfl rfl rfl (fun x10 ex10 => ?_)
    have q11 : x9.toNatClampNeg = 1 := nck (by omega)
    have q12 : x10.toNatClampNeg = 1 := nck (by omega)
    refine c_VI C (a_X12_throwsIf hI2 H_r0 (by omega) (by omega)) rfl rfl rfl rfl rfl ⟨_, rfl, rfl, T_r0, Nat.le_of_ble_eq_true rfl⟩ rfl rfl (Nat.le_of_ble_eq_true rfl) (Nat.le_of_ble_eq_true rfl) (Nat.le_of_ble_eq_true rfl) ?_
    rintro x13 I14 L15 ⟨o0x13, o1x13, p0x13, hI14, S16⟩
    have e18 := CM.j S16 R_r0_1 (by decide) e7
    have gx13 := rg x13
    try simp only [q11, q12, e4, e7] at p0x13
    try have q0x13 := congrArg Int32.toInt p0x13
    refine b_if_ne C (t := 68) rfl rfl rfl (fun c19 => ?_) (fun c19 => by exfalso; omega)
    refine z_iconst C (z := 0) rfl rfl rfl (fun x20 ex20 => ?_)
    exact k_iret C rfl (Or.inl rfl) (Nat.le_of_ble_eq_true rfl) (Nat.le_of_ble_eq_true rfl) ⟨_, _, _, rfl, rfl, by omega, by omega, hI14, (CM.cons S3 (CM.mono S16 (by decide) (by decide)) (by decide) (by decide))⟩
  refine k_aload_n C rfl rfl rfl ?_
  refine k_iload_n C rfl rfl rfl ?_
  refine c_VI C (a_X12_noForm hI2 H_r0) rfl rfl rfl rfl rfl ⟨_, rfl, rfl, T_r0, Nat.le_of_ble_eq_true rfl⟩ rfl rfl (Nat.le_of_ble_eq_true rfl) (Nat.le_of_ble_eq_true rfl) (Nat.le_of_ble_eq_true rfl) ?_
  rintro x21 _ _ ⟨o0x21, o1x21, p0x21, rfl, rfl⟩
  have p0x21 := p0x21 r0_1 R_r0_1
  have gx21 := rg x21
  try simp only [e4, e7, e7] at p0x21
  try have q0x21 := congrArg Int32.toInt p0x21
  refine b_if_eq C (t := 26) rfl rfl rfl (fun c22 => ?_) (fun c22 => ?_)
  · skip
    refine z_iconst C (z := 0) rfl rfl rfl (fun x23 ex23 => ?_)
    refine z_iconst C (z := 1) rfl rfl rfl (fun x24 ex24 => ?_)
    have q25 : x23.toNatClampNeg = 0 := nck (by omega)
    have q26 : x24.toNatClampNeg = 1 := nck (by omega)
    refine c_VI C (a_X12_throwsIf hI2 H_r0 (by omega) (by omega)) rfl rfl rfl rfl rfl ⟨_, rfl, rfl, T_r0, Nat.le_of_ble_eq_true rfl⟩ rfl rfl (Nat.le_of_ble_eq_true rfl) (Nat.le_of_ble_eq_true rfl) (Nat.le_of_ble_eq_true rfl) ?_
    rintro x27 I28 L29 ⟨o0x27, o1x27, p0x27, hI28, S30⟩
    have e32 := CM.j S30 R_r0_1 (by decide) e7
    have gx27 := rg x27
    try simp only [q25, q26, e4, e7] at p0x27
    try have q0x27 := congrArg Int32.toInt p0x27
    refine b_if_ne C (t := 68) rfl rfl rfl (fun c33 => by exfalso; omega) (fun c33 => ?_)
    refine k_aload_n C rfl rfl rfl ?_
    refine k_iload_n C rfl rfl rfl ?_
    refine z_iconst C (z := 0) rfl rfl rfl (fun x34 ex34 => ?_)
    refine k_aload_n C rfl rfl rfl ?_
    refine k_iload_n C rfl rfl rfl ?_
    refine c_VI C (a_X12_degreeOf hI28 H_r0 (by omega) (by omega)) rfl rfl rfl rfl rfl ⟨_, rfl, rfl, T_r0, Nat.le_of_ble_eq_true rfl⟩ rfl rfl (Nat.le_of_ble_eq_true rfl) (Nat.le_of_ble_eq_true rfl) (Nat.le_of_ble_eq_true rfl) ?_
    rintro x35 _ _ ⟨o0x35, o1x35, p0x35, rfl, rfl⟩
    have p0x35 := p0x35 r0_1 R_r0_1
    have gx35 := rg x35
    obtain ⟨x36, e37⟩ : ∃ x, I28 r0_1 (6 + 10 * n1.toNatClampNeg) = x := ⟨_, rfl⟩
    have gx36 := rg x36
    try simp only [e32, e37] at p0x35
    try have q0x35 := congrArg Int32.toInt p0x35
    refine k_aload_n C rfl rfl rfl ?_
    refine k_iload_n C rfl rfl rfl ?_
    refine c_VI C (a_X12_degreeOf hI28 H_r0 (by omega) (by omega)) rfl rfl rfl rfl rfl ⟨_, rfl, rfl, T_r0, Nat.le_of_ble_eq_true rfl⟩ rfl rfl (Nat.le_of_ble_eq_true rfl) (Nat.le_of_ble_eq_true rfl) (Nat.le_of_ble_eq_true rfl) ?_
    rintro x38 _ _ ⟨o0x38, o1x38, p0x38, rfl, rfl⟩
    have p0x38 := p0x38 r0_1 R_r0_1
    have gx38 := rg x38
    obtain ⟨x39, e40⟩ : ∃ x, I28 r0_1 (6 + 10 * n2.toNatClampNeg) = x := ⟨_, rfl⟩
    have gx39 := rg x39
    try simp only [e32, e37, e40] at p0x38
    try have q0x38 := congrArg Int32.toInt p0x38
    refine c_SI C a_J9_min_7cf53_m rfl rfl rfl rfl rfl rfl rfl (Nat.le_of_ble_eq_true rfl) (Nat.le_of_ble_eq_true rfl) (Nat.le_of_ble_eq_true rfl) ?_
    rintro x41 _ _ ⟨p0x41, p1x41, p2x41, rfl, rfl⟩
    have gx41 := rg x41
    try simp only [e32, e37, e40] at p0x41
    try have q0x41 := congrArg Int32.toInt p0x41
    try simp only [e32, e37, e40] at p1x41
    try have q1x41 := congrArg Int32.toInt p1x41
    try simp only [e32, e37, e40] at p2x41
    try have q2x41 := congrArg Int32.toInt p2x41
    have q42 : x34.toNatClampNeg = 0 := nck (by omega)
    refine c_SI C a_X12_in rfl rfl rfl rfl rfl rfl rfl (Nat.le_of_ble_eq_true rfl) (Nat.le_of_ble_eq_true rfl) (Nat.le_of_ble_eq_true rfl) ?_
    rintro x43 _ _ ⟨o0x43, o1x43, p0x43, rfl, rfl⟩
    have gx43 := rg x43
    try simp only [q42, e32, e37, e40] at p0x43
    try have q0x43 := congrArg Int32.toInt p0x43
    refine b_if_ne C (t := 60) rfl rfl rfl (fun c44 => ?_) (fun c44 => ?_)
    · skip
      refine z_iconst C (z := 0) rfl rfl rfl (fun x45 ex45 => ?_)
      refine z_iconst C (z := 2) rfl rfl rfl (fun x46 ex46 => ?_)
      have q47 : x45.toNatClampNeg = 0 := nck (by omega)
      have q48 : x46.toNatClampNeg = 2 := nck (by omega)
      refine c_VI C (a_X12_throwsIf hI28 H_r0 (by omega) (by omega)) rfl rfl rfl rfl rfl ⟨_, rfl, rfl, T_r0, Nat.le_of_ble_eq_true rfl⟩ rfl rfl (Nat.le_of_ble_eq_true rfl) (Nat.le_of_ble_eq_true rfl) (Nat.le_of_ble_eq_true rfl) ?_
      rintro x49 I50 L51 ⟨o0x49, o1x49, p0x49, hI50, S52⟩
      have e53 := CM.j S52 R_r0_1 (by decide) e32
      have e54 := CM.j S52 R_r0_1 (by decide) e37
      have e55 := CM.j S52 R_r0_1 (by decide) e40
      have gx49 := rg x49
      try simp only [q47, q48, e32, e37, e40] at p0x49
      try have q0x49 := congrArg Int32.toInt p0x49
      refine b_if_eq C (t := 70) rfl rfl rfl (fun c56 => ?_) (fun c56 => by exfalso; omega)
      refine k_aload_n C rfl rfl rfl ?_
      refine z_bipush C (z := 40) rfl rfl rfl (fun x57 ex57 => ?_)
      refine k_iload_n C rfl rfl rfl ?_
      obtain ⟨x58, e59⟩ : ∃ x, I50 r0_1 0 = x := ⟨_, rfl⟩
      have gx58 := rg x58
      have ox58 := IM.pi hI50 R_r0_1 e59
      have q60 : x57.toNatClampNeg = 40 := nck (by omega)
      refine c_VV C (a_X12_takes hI50 H_r0 (by omega) (by omega) (by omega) (by omega)) rfl rfl rfl rfl rfl ⟨_, rfl, rfl, T_r0, Nat.le_of_ble_eq_true rfl⟩ rfl rfl (Nat.le_of_ble_eq_true rfl) (Nat.le_of_ble_eq_true rfl) (Nat.le_of_ble_eq_true rfl) ?_
      rintro I62 L63 ⟨p0v61, p1v61, p2v61, p3v61, p4v61, hI62, S64⟩
      have p0v61 := p0v61 r0_4 R_r0_4
      have p1v61 := p1v61 r0_1 r0_4 R_r0_1 R_r0_4
      have p2v61 := p2v61 r0_1 r0_4 r0_5 R_r0_1 R_r0_4 R_r0_5
      have p3v61 := p3v61 r0_4 R_r0_4
      have p4v61 := p4v61 r0_5 R_r0_5
      try simp only [q60] at p3v61
      try simp only [q60] at p4v61
      have e65 := CM.j S64 R_r0_1 (by decide) e53
      have e66 := CM.j S64 R_r0_1 (by decide) e54
      have e67 := CM.j S64 R_r0_1 (by decide) e55
      have e68 := CM.j S64 R_r0_1 (by decide) e59
      obtain ⟨x69, e70⟩ : ∃ x, I62 r0_4 40 = x := ⟨_, rfl⟩
      have gx69 := rg x69
      have ox69 := IM.dgR hI62 R_r0_4 e70
      try simp only [q60, e53, e54, e55, e59, e70] at p0v61
      try have q0v61 := congrArg Int32.toInt p0v61
      try simp only [q60, e53, e54, e55, e59, e70] at p1v61
      try have q1v61 := congrArg Int32.toInt p1v61
      try simp only [q60, e53, e54, e55, e59, e70] at p2v61
      try have q2v61 := congrArg Int32.toInt p2v61
      refine k_aload_n C rfl rfl rfl ?_
      refine z_bipush C (z := 41) rfl rfl rfl (fun x71 ex71 => ?_)
      refine k_iload_n C rfl rfl rfl ?_
      have q72 : x71.toNatClampNeg = 41 := nck (by omega)
      refine c_VV C (a_X12_takes hI62 H_r0 (by omega) (by omega) (by omega) (by omega)) rfl rfl rfl rfl rfl ⟨_, rfl, rfl, T_r0, Nat.le_of_ble_eq_true rfl⟩ rfl rfl (Nat.le_of_ble_eq_true rfl) (Nat.le_of_ble_eq_true rfl) (Nat.le_of_ble_eq_true rfl) ?_
      rintro I74 L75 ⟨p0v73, p1v73, p2v73, p3v73, p4v73, hI74, S76⟩
      have p0v73 := p0v73 r0_4 R_r0_4
      have p1v73 := p1v73 r0_1 r0_4 R_r0_1 R_r0_4
      have p2v73 := p2v73 r0_1 r0_4 r0_5 R_r0_1 R_r0_4 R_r0_5
      have p3v73 := p3v73 r0_4 R_r0_4
      have p4v73 := p4v73 r0_5 R_r0_5
      try simp only [q72] at p3v73
      try simp only [q72] at p4v73
      have e77 := CM.j S76 R_r0_1 (by decide) e65
      have e78 := CM.j S76 R_r0_1 (by decide) e66
      have e79 := CM.j S76 R_r0_1 (by decide) e67
      have e80 := CM.j S76 R_r0_1 (by decide) e68
      have e81 := (p3v73 40 (by first | decide | exact ncne (by omega) (by omega) (by omega) | exact nckn (by omega) (by omega) | exact (nckn (by omega) (by omega)).symm)).trans e70
      obtain ⟨x82, e83⟩ : ∃ x, I74 r0_4 41 = x := ⟨_, rfl⟩
      have gx82 := rg x82
      have ox82 := IM.dgR hI74 R_r0_4 e83
      try simp only [q72, e65, e66, e67, e68, e70, e83] at p0v73
      try have q0v73 := congrArg Int32.toInt p0v73
      try simp only [q72, e65, e66, e67, e68, e70, e83] at p1v73
      try have q1v73 := congrArg Int32.toInt p1v73
      try simp only [q72, e65, e66, e67, e68, e70, e83] at p2v73
      try have q2v73 := congrArg Int32.toInt p2v73
      refine k_aload_n C rfl rfl rfl ?_
      refine z_bipush C (z := 40) rfl rfl rfl (fun x84 ex84 => ?_)
      refine z_bipush C (z := 41) rfl rfl rfl (fun x85 ex85 => ?_)
      refine k_iload_n C rfl rfl rfl ?_
      refine z_bipush C (z := 42) rfl rfl rfl (fun x86 ex86 => ?_)
      have q87 : x84.toNatClampNeg = 40 := nck (by omega)
      have q88 : x85.toNatClampNeg = 41 := nck (by omega)
      have q89 : x86.toNatClampNeg = 42 := nck (by omega)
      refine c_VV C (a_X12_overlaps hI74 H_r0 (by omega) (by omega) (by omega) (by omega) (by omega) (by omega) (by omega) (by omega) (fun a4 h4 => by cases (R_r0_4.symm.trans h4); first | omega | (simp only [q87, q88, q89, e77, e78, e79, e80, e81, e83] <;> omega)) (fun a4 h4 => by cases (R_r0_4.symm.trans h4); first | omega | (simp only [q87, q88, q89, e77, e78, e79, e80, e81, e83] <;> omega)) (fun a4 h4 => by cases (R_r0_4.symm.trans h4); first | omega | (simp only [q87, q88, q89, e77, e78, e79, e80, e81, e83] <;> omega))) rfl rfl rfl rfl rfl ⟨_, rfl, rfl, T_r0, Nat.le_of_ble_eq_true rfl⟩ rfl rfl (Nat.le_of_ble_eq_true rfl) (Nat.le_of_ble_eq_true rfl) (Nat.le_of_ble_eq_true rfl) ?_
      rintro I91 L92 ⟨p0v90, p1v90, hI91, S93⟩
      have p0v90 := p0v90 r0_4 R_r0_4
      have p1v90 := p1v90 r0_5 R_r0_5
      try simp only [q87, q88, q89] at p0v90
      try simp only [q87, q88, q89] at p1v90
      have e94 := CM.j S93 R_r0_1 (by decide) e77
      have e95 := CM.j S93 R_r0_1 (by decide) e78
      have e96 := CM.j S93 R_r0_1 (by decide) e79
      have e97 := CM.j S93 R_r0_1 (by decide) e80
      have e98 := (p0v90 40 (by first | decide | exact ncne (by omega) (by omega) (by omega) | exact nckn (by omega) (by omega) | exact (nckn (by omega) (by omega)).symm) (by first | decide | exact ncne (by omega) (by omega) (by omega) | exact nckn (by omega) (by omega) | exact (nckn (by omega) (by omega)).symm) (by first | decide | exact ncne (by omega) (by omega) (by omega) | exact nckn (by omega) (by omega) | exact (nckn (by omega) (by omega)).symm) (by first | decide | exact ncne (by omega) (by omega) (by omega) | exact nckn (by omega) (by omega) | exact (nckn (by omega) (by omega)).symm)).trans e81
      have e99 := (p0v90 41 (by first | decide | exact ncne (by omega) (by omega) (by omega) | exact nckn (by omega) (by omega) | exact (nckn (by omega) (by omega)).symm) (by first | decide | exact ncne (by omega) (by omega) (by omega) | exact nckn (by omega) (by omega) | exact (nckn (by omega) (by omega)).symm) (by first | decide | exact ncne (by omega) (by omega) (by omega) | exact nckn (by omega) (by omega) | exact (nckn (by omega) (by omega)).symm) (by first | decide | exact ncne (by omega) (by omega) (by omega) | exact nckn (by omega) (by omega) | exact (nckn (by omega) (by omega)).symm)).trans e83
      refine k_aload_n C rfl rfl rfl ?_
      refine z_bipush C (z := 42) rfl rfl rfl (fun x100 ex100 => ?_)
      refine k_iload C rfl rfl rfl ?_
      refine c_VI C (a_X12_toldOf hI91 H_r0 (by omega) (by omega)) rfl rfl rfl rfl rfl ⟨_, rfl, rfl, T_r0, Nat.le_of_ble_eq_true rfl⟩ rfl rfl (Nat.le_of_ble_eq_true rfl) (Nat.le_of_ble_eq_true rfl) (Nat.le_of_ble_eq_true rfl) ?_
      rintro x101 _ _ ⟨o0x101, o1x101, rfl, rfl⟩
      have gx101 := rg x101
      exact k_iret C rfl (Or.inl rfl) (Nat.le_of_ble_eq_true rfl) (Nat.le_of_ble_eq_true rfl) ⟨_, _, _, rfl, rfl, by omega, by omega, hI91, (CM.cons S3 (CM.cons S30 (CM.cons S52 (CM.cons S64 (CM.cons S76 (CM.mono S93 (by decide) (by decide)) (by decide) (by decide)) (by decide) (by decide)) (by decide) (by decide)) (by decide) (by decide)) (by decide) (by decide))⟩
    refine z_iconst C (z := 1) rfl rfl rfl (fun x102 ex102 => ?_)
    refine k_goto C (pc2 := 61) rfl rfl ?_
    refine z_iconst C (z := 2) rfl rfl rfl (fun x103 ex103 => ?_)
    have q104 : x102.toNatClampNeg = 1 := nck (by omega)
    have q105 : x103.toNatClampNeg = 2 := nck (by omega)
    refine c_VI C (a_X12_throwsIf hI28 H_r0 (by omega) (by omega)) rfl rfl rfl rfl rfl ⟨_, rfl, rfl, T_r0, Nat.le_of_ble_eq_true rfl⟩ rfl rfl (Nat.le_of_ble_eq_true rfl) (Nat.le_of_ble_eq_true rfl) (Nat.le_of_ble_eq_true rfl) ?_
    rintro x106 I107 L108 ⟨o0x106, o1x106, p0x106, hI107, S109⟩
    have e110 := CM.j S109 R_r0_1 (by decide) e32
    have e111 := CM.j S109 R_r0_1 (by decide) e37
    have e112 := CM.j S109 R_r0_1 (by decide) e40
    have gx106 := rg x106
    try simp only [q104, q105, e32, e37, e40] at p0x106
    try have q0x106 := congrArg Int32.toInt p0x106
    refine b_if_eq C (t := 70) rfl rfl rfl (fun c113 => by exfalso; omega) (fun c113 => ?_)
    refine z_iconst C (z := 0) rfl rfl rfl (fun x114 ex114 => ?_)
    exact k_iret C rfl (Or.inl rfl) (Nat.le_of_ble_eq_true rfl) (Nat.le_of_ble_eq_true rfl) ⟨_, _, _, rfl, rfl, by omega, by omega, hI107, (CM.cons S3 (CM.cons S30 (CM.mono S109 (by decide) (by decide)) (by decide) (by decide)) (by decide) (by decide))⟩
  refine z_iconst C (z := 1) rfl rfl rfl (fun x115 ex115 => ?_)
  refine k_goto C (pc2 := 27) rfl rfl ?_
  refine z_iconst C (z := 1) rfl rfl rfl (fun x116 ex116 => ?_)
  have q117 : x115.toNatClampNeg = 1 := nck (by omega)
  have q118 : x116.toNatClampNeg = 1 := nck (by omega)
  refine c_VI C (a_X12_throwsIf hI2 H_r0 (by omega) (by omega)) rfl rfl rfl rfl rfl ⟨_, rfl, rfl, T_r0, Nat.le_of_ble_eq_true rfl⟩ rfl rfl (Nat.le_of_ble_eq_true rfl) (Nat.le_of_ble_eq_true rfl) (Nat.le_of_ble_eq_true rfl) ?_
  rintro x119 I120 L121 ⟨o0x119, o1x119, p0x119, hI120, S122⟩
  have e124 := CM.j S122 R_r0_1 (by decide) e7
  have gx119 := rg x119
  try simp only [q117, q118, e4, e7] at p0x119
  try have q0x119 := congrArg Int32.toInt p0x119
  refine b_if_ne C (t := 68) rfl rfl rfl (fun c125 => ?_) (fun c125 => by exfalso; omega)
  refine z_iconst C (z := 0) rfl rfl rfl (fun x126 ex126 => ?_)
  exact k_iret C rfl (Or.inl rfl) (Nat.le_of_ble_eq_true rfl) (Nat.le_of_ble_eq_true rfl) ⟨_, _, _, rfl, rfl, by omega, by omega, hI120, (CM.cons S3 (CM.mono S122 (by decide) (by decide)) (by decide) (by decide))⟩

theorem a_X12_draws {d : Nat} {T N : Nat → Nat} {I : IT} {L : LT} {R : RT} {A : Nat → Prop} {r0 : Nat} {n1 n2 : Int32} (hI : IM R r0 I) (H_r0 : (h_MD T N R A) r0) (b0_n1 : 1 ≤ n1.toInt) (b1_n1 : n1.toInt ≤ 8) : Ex (d + 2) 260 [.ref r0, .int n1, .int n2] (T, N, I, L, R) 0 0 (pV T N R (fun I9 L9 => (IM R r0 I9 ∧ CM A R r0 [] [23] I L I9 L9))) := by
  refine ⟨_, rfl, Nat.le_of_ble_eq_true rfl, fun V C S => ?_⟩
  show V 0 [(0, .ref r0), (1, .int n1), (2, .int n2)] [] (T, N, I, L, R) 0 0
  have gn1 := rg n1
  have gn2 := rg n2
  obtain ⟨T_r0, A_r0, ⟨r0_1, R_r0_1, H_r0_1⟩, ⟨r0_2, R_r0_2, H_r0_2⟩, ⟨r0_4, R_r0_4, H_r0_4⟩, ⟨r0_5, R_r0_5, H_r0_5⟩, ⟨r0_10, R_r0_10, H_r0_10⟩, ⟨r0_18, R_r0_18, H_r0_18⟩, ⟨r0_20, R_r0_20, H_r0_20⟩, ⟨r0_21, R_r0_21, H_r0_21⟩, ⟨r0_22, R_r0_22, H_r0_22⟩, ⟨r0_23, R_r0_23, H_r0_23⟩, ⟨r0_25, R_r0_25, H_r0_25⟩, ⟨r0_26, R_r0_26, H_r0_26⟩, ⟨r0_27, R_r0_27, H_r0_27⟩, ⟨r0_28, R_r0_28, H_r0_28⟩, ⟨r0_34, R_r0_34, H_r0_34⟩, J_r0, Y_r0⟩ := id H_r0
  have G_r0 : mF T R r0 := ⟨J_r0, Y_r0, T_r0⟩
  refine k_iload_n C rfl rfl rfl ?_
  refine k_istore_n C (lw := [(3, .int n2), (0, .ref r0), (1, .int n1), (2, .int n2)]) rfl rfl (Nat.le_of_ble_eq_true rfl) rfl ?_
  refine z_iconst C (z := 0) rfl rfl rfl (fun x1 ex1 => ?_)
  have J2 : ∀ (nn3 : Nat) (I4 : IT) (L5 : LT) (x6 : Int32) (x7 : Int32), (MN (108 - x7.toInt) nn3) → (IM R r0 I4) → (CM A R r0 [] [23] I L I4 L5) → (0 ≤ x7.toInt) → (x7.toInt ≤ 108) → V 5 [(0, .ref r0), (1, .int n1), (3, .int x6), (4, .int x7)] [] (T, N, I4, L5, R) 0 0 := by
    intro nn3
    induction nn3 using Nat.strongRecOn with
    | _ nn3 ihJ2 =>
      intro I4 L5 x6 x7 hmnn3 hI11 S10 b8 b9
      have gx6 := rg x6
      have gx7 := rg x7
      refine k_iload C rfl rfl rfl ?_
      refine z_bipush C (z := 12) rfl rfl rfl (fun x12 ex12 => ?_)
      refine k_iload_n C rfl rfl rfl ?_
      refine z_iconst C (z := 1) rfl rfl rfl (fun x13 ex13 => ?_)
      refine z_iadd C rfl rfl ⟨by omega, by omega⟩ (fun x14 ex14 => ?_)
      refine z_imulL C (c := 12) rfl rfl (by omega) ⟨by omega, by omega⟩ (fun x15 ex15 => ?_)
      refine b_icmp_ge C (t := 52) rfl rfl rfl (fun c16 => ?_) (fun c16 => ?_)
      · skip
        exact k_vret C rfl rfl (Nat.le_of_ble_eq_true rfl) (Nat.le_of_ble_eq_true rfl) ⟨_, _, rfl, rfl, hI11, (CM.mono S10 (by decide) (by decide))⟩
      refine z_ldc_w C rfl rfl rfl (fun x17 ex17 => ?_)
      have gx17 := rg x17
      clear ex17
      refine k_iload_n C rfl rfl rfl ?_
      refine zt_imul C rfl rfl (fun x18 => ?_)
      have gx18 := rg x18
      refine z_sipush C (z := 12345) rfl rfl rfl (fun x19 ex19 => ?_)
      refine zt_iadd C rfl rfl (fun x20 => ?_)
      have gx20 := rg x20
      refine k_istore_n C (lw := [(3, .int x20), (0, .ref r0), (1, .int n1), (4, .int x7)]) rfl rfl (Nat.le_of_ble_eq_true rfl) rfl ?_
      refine k_aload_n C rfl rfl rfl ?_
      refine g_R C rfl rfl rfl T_r0 rfl R_r0_23 ?_
      refine k_iload C rfl rfl rfl ?_
      refine k_iload_n C rfl rfl rfl ?_
      refine z_bipush C (z := 16) rfl rfl rfl (fun x21 ex21 => ?_)
      refine zt_ishr C rfl rfl (fun x22 => ?_)
      have gx22 := rg x22
      refine z_sipush C (z := 32767) rfl rfl rfl (fun x23 ex23 => ?_)
      refine zt_iand C rfl rfl (fun x24 => ?_)
      have gx24 := rg x24
      refine k_aload_n C rfl rfl rfl ?_
      refine c_VI C (a_X12_p hI11 H_r0) rfl rfl rfl rfl rfl ⟨_, rfl, rfl, T_r0, Nat.le_of_ble_eq_true rfl⟩ rfl rfl (Nat.le_of_ble_eq_true rfl) (Nat.le_of_ble_eq_true rfl) (Nat.le_of_ble_eq_true rfl) ?_
      rintro x25 _ _ ⟨o0x25, o1x25, p0x25, rfl, rfl⟩
      have p0x25 := p0x25 r0_1 R_r0_1
      have gx25 := rg x25
      obtain ⟨x26, e27⟩ : ∃ x, I4 r0_1 0 = x := ⟨_, rfl⟩
      have gx26 := rg x26
      have ox26 := IM.pi hI11 R_r0_1 e27
      try simp only [e27] at p0x25
      try have q0x25 := congrArg Int32.toInt p0x25
      refine z_iremB C rfl rfl (by omega) (fun x28 ex28 => ?_)
      have bx28 : -18 ≤ x28.toInt ∧ x28.toInt ≤ 18 := by omega
      obtain ⟨T_r0_23, N_r0_23, A_r0_23⟩ := id H_r0_23
      refine z_sI C rfl rfl T_r0_23 N_r0_23 (by omega) (by omega) (fun I29 uI29 => ?_)
      have hI29 : IM R r0 I29 := IM.arr hI11 G_r0 R_r0_23 ⟨(fun h => absurd h (by decide)), (fun h => absurd h (by decide)), (fun _ => ⟨by omega, by omega⟩)⟩ (fun h => absurd h (by decide)) uI29
      have S30 : CM A R r0 [] [23] I4 L5 I29 L5 := CM.a G_r0 R_r0_23 A_r0_23 uI29
      have e31 := u2_n uI29 (mF.nq G_r0 R_r0_1 R_r0_23 (by decide)) e27
      have e32 := u2_e uI29
      refine z_iinc C (z := 1) (lw := fun x33 => [(4, .int x33), (3, .int x20), (0, .ref r0), (1, .int n1)]) rfl rfl rfl (Nat.le_of_ble_eq_true rfl) rfl ⟨by omega, by omega⟩ (fun _ => rfl) (fun x33 ex33 => ?_)
      show V 49 [(4, .int x33), (3, .int x20), (0, .ref r0), (1, .int n1)] _ _ _ _
      refine k_goto C (pc2 := 5) rfl rfl ?_
      refine k_sub S [(0, .ref r0), (1, .int n1), (3, .int x20), (4, .int x33)] (List.forall_mem_cons.mpr ⟨List.mem_of_getElem? (i := 2) rfl, List.forall_mem_cons.mpr ⟨List.mem_of_getElem? (i := 3) rfl, List.forall_mem_cons.mpr ⟨List.mem_of_getElem? (i := 1) rfl, List.forall_mem_cons.mpr ⟨List.mem_of_getElem? (i := 0) rfl, fun _ h => nomatch h⟩⟩⟩⟩) ?_
      exact ihJ2 _ (MN.lt hmnn3 (by omega) (by omega)) I29 L5 x20 x33 rfl hI29 (CM.cons S10 (CM.mono S30 (by decide) (by decide)) (by decide) (by decide)) (by omega) (by omega)
  refine k_istore C (lw := [(4, .int x1), (3, .int n2), (0, .ref r0), (1, .int n1), (2, .int n2)]) rfl rfl (Nat.le_of_ble_eq_true rfl) rfl ?_
  refine k_sub S [(0, .ref r0), (1, .int n1), (3, .int n2), (4, .int x1)] (List.forall_mem_cons.mpr ⟨List.mem_of_getElem? (i := 2) rfl, List.forall_mem_cons.mpr ⟨List.mem_of_getElem? (i := 3) rfl, List.forall_mem_cons.mpr ⟨List.mem_of_getElem? (i := 1) rfl, List.forall_mem_cons.mpr ⟨List.mem_of_getElem? (i := 0) rfl, fun _ h => nomatch h⟩⟩⟩⟩) ?_
  exact J2 _ I L n2 x1 rfl hI CM.rf (by omega) (by omega)

theorem a_X12_stock {d : Nat} {T N : Nat → Nat} {I : IT} {L : LT} {R : RT} {A : Nat → Prop} {r0 : Nat} {n1 : Int32} (hI : IM R r0 I) (H_r0 : (h_MD T N R A) r0) : Ex (d + 4) 313 [.ref r0, .int n1] (T, N, I, L, R) 0 0 (pI T N R (fun x9 I9 L9 => (IM R r0 I9 ∧ CM A R r0 [0] [4, 5] I L I9 L9))) := by
  refine ⟨_, rfl, Nat.le_of_ble_eq_true rfl, fun V C S => ?_⟩
  show V 0 [(0, .ref r0), (1, .int n1)] [] (T, N, I, L, R) 0 0
  have gn1 := rg n1
  obtain ⟨T_r0, A_r0, ⟨r0_1, R_r0_1, H_r0_1⟩, ⟨r0_2, R_r0_2, H_r0_2⟩, ⟨r0_4, R_r0_4, H_r0_4⟩, ⟨r0_5, R_r0_5, H_r0_5⟩, ⟨r0_10, R_r0_10, H_r0_10⟩, ⟨r0_18, R_r0_18, H_r0_18⟩, ⟨r0_20, R_r0_20, H_r0_20⟩, ⟨r0_21, R_r0_21, H_r0_21⟩, ⟨r0_22, R_r0_22, H_r0_22⟩, ⟨r0_23, R_r0_23, H_r0_23⟩, ⟨r0_25, R_r0_25, H_r0_25⟩, ⟨r0_26, R_r0_26, H_r0_26⟩, ⟨r0_27, R_r0_27, H_r0_27⟩, ⟨r0_28, R_r0_28, H_r0_28⟩, ⟨r0_34, R_r0_34, H_r0_34⟩, J_r0, Y_r0⟩ := id H_r0
  have G_r0 : mF T R r0 := ⟨J_r0, Y_r0, T_r0⟩
  refine k_aload_n C rfl rfl rfl ?_
  refine z_iconst C (z := 0) rfl rfl rfl (fun x1 ex1 => ?_)
  refine z_pI C rfl rfl rfl T_r0 (Or.inr rfl) rfl (fun I2 uI2 => ?_)
  have hI2 : IM R r0 I2 := IM.fld hI G_r0 ⟨(fun h => absurd h (by decide)), (fun h => absurd h (by decide)), (fun h => absurd h (by decide)), (fun h => absurd h (by decide)), (fun h => absurd h (by decide))⟩ uI2
  have S3 : CM A R r0 [0] [] I L I2 L := CM.f G_r0 A_r0 uI2
  have e4 := u2_e uI2
  refine z_iconst C (z := 0) rfl rfl rfl (fun x5 ex5 => ?_)
  refine k_istore_n C (lw := [(2, .int x5), (0, .ref r0), (1, .int n1)]) rfl rfl (Nat.le_of_ble_eq_true rfl) rfl ?_
  refine k_iload_n C rfl rfl rfl ?_
  refine k_table C rfl (by decide) (fun c6 => ?_) (fun c6 c7 => ?_)
  · skip
    show V 136 _ _ _ _ _
    refine z_iconst C (z := -1) rfl rfl rfl (fun x8 ex8 => ?_)
    exact k_iret C rfl (Or.inl rfl) (Nat.le_of_ble_eq_true rfl) (Nat.le_of_ble_eq_true rfl) ⟨_, _, _, rfl, rfl, hI2, (CM.mono S3 (by decide) (by decide))⟩
  have h9 : n1.toInt = 0 ∨ n1.toInt = 1 ∨ n1.toInt = 2 ∨ n1.toInt = 3 ∨ n1.toInt = 4 ∨ n1.toInt = 5 ∨ n1.toInt = 6 := by omega
  rcases h9 with h9 | h9 | h9 | h9 | h9 | h9 | h9
  · skip
    refine ⟨44, by rw [h9]; rfl, by decide, ?_⟩
    show V 52 _ _ _ _ _
    refine k_aload_n C rfl rfl rfl ?_
    refine c_VI C (a_X12_p hI2 H_r0) rfl rfl rfl rfl rfl ⟨_, rfl, rfl, T_r0, Nat.le_of_ble_eq_true rfl⟩ rfl rfl (Nat.le_of_ble_eq_true rfl) (Nat.le_of_ble_eq_true rfl) (Nat.le_of_ble_eq_true rfl) ?_
    rintro x10 _ _ ⟨o0x10, o1x10, p0x10, rfl, rfl⟩
    have p0x10 := p0x10 r0_1 R_r0_1
    have gx10 := rg x10
    obtain ⟨x11, e12⟩ : ∃ x, I2 r0_1 0 = x := ⟨_, rfl⟩
    have gx11 := rg x11
    have ox11 := IM.pi hI2 R_r0_1 e12
    try simp only [e4, e12] at p0x10
    try have q0x10 := congrArg Int32.toInt p0x10
    exact k_iret C rfl (Or.inl rfl) (Nat.le_of_ble_eq_true rfl) (Nat.le_of_ble_eq_true rfl) ⟨_, _, _, rfl, rfl, hI2, (CM.mono S3 (by decide) (by decide))⟩
  · skip
    refine ⟨49, by rw [h9]; rfl, by decide, ?_⟩
    show V 57 _ _ _ _ _
    refine k_aload_n C rfl rfl rfl ?_
    refine g_R C rfl rfl rfl T_r0 rfl R_r0_1 ?_
    refine z_iconst C (z := 1) rfl rfl rfl (fun x13 ex13 => ?_)
    obtain ⟨T_r0_1, N_r0_1, A_r0_1⟩ := id H_r0_1
    refine z_aI C rfl rfl T_r0_1 N_r0_1 (by omega) (by omega) (fun x14 ex14 => ?_)
    have gx14 := rg x14
    have nx14 : I2 r0_1 1 = x14 := (congrArg (I2 r0_1) (nck (n := 1) (by omega))).symm.trans ex14
    have ox14 := IM.c1 hI2 R_r0_1 nx14
    exact k_iret C rfl (Or.inl rfl) (Nat.le_of_ble_eq_true rfl) (Nat.le_of_ble_eq_true rfl) ⟨_, _, _, rfl, rfl, hI2, (CM.mono S3 (by decide) (by decide))⟩
  · skip
    refine ⟨56, by rw [h9]; rfl, by decide, ?_⟩
    show V 64 _ _ _ _ _
    refine k_aload_n C rfl rfl rfl ?_
    refine g_R C rfl rfl rfl T_r0 rfl R_r0_1 ?_
    refine z_iconst C (z := 2) rfl rfl rfl (fun x15 ex15 => ?_)
    obtain ⟨T_r0_1, N_r0_1, A_r0_1⟩ := id H_r0_1
    refine z_aI C rfl rfl T_r0_1 N_r0_1 (by omega) (by omega) (fun x16 ex16 => ?_)
    have gx16 := rg x16
    have nx16 : I2 r0_1 2 = x16 := (congrArg (I2 r0_1) (nck (n := 2) (by omega))).symm.trans ex16
    have ox16 := IM.c2 hI2 R_r0_1 nx16
    exact k_iret C rfl (Or.inl rfl) (Nat.le_of_ble_eq_true rfl) (Nat.le_of_ble_eq_true rfl) ⟨_, _, _, rfl, rfl, hI2, (CM.mono S3 (by decide) (by decide))⟩
  · skip
    refine ⟨63, by rw [h9]; rfl, by decide, ?_⟩
    show V 71 _ _ _ _ _
    refine k_aload_n C rfl rfl rfl ?_
    refine g_R C rfl rfl rfl T_r0 rfl R_r0_1 ?_
    refine z_iconst C (z := 3) rfl rfl rfl (fun x17 ex17 => ?_)
    obtain ⟨T_r0_1, N_r0_1, A_r0_1⟩ := id H_r0_1
    refine z_aI C rfl rfl T_r0_1 N_r0_1 (by omega) (by omega) (fun x18 ex18 => ?_)
    have gx18 := rg x18
    have nx18 : I2 r0_1 3 = x18 := (congrArg (I2 r0_1) (nck (n := 3) (by omega))).symm.trans ex18
    have ox18 := IM.c3 hI2 R_r0_1 nx18
    exact k_iret C rfl (Or.inl rfl) (Nat.le_of_ble_eq_true rfl) (Nat.le_of_ble_eq_true rfl) ⟨_, _, _, rfl, rfl, hI2, (CM.mono S3 (by decide) (by decide))⟩
  · skip
    refine ⟨70, by rw [h9]; rfl, by decide, ?_⟩
    show V 78 _ _ _ _ _
    refine k_aload_n C rfl rfl rfl ?_
    refine g_R C rfl rfl rfl T_r0 rfl R_r0_1 ?_
    refine z_iconst C (z := 4) rfl rfl rfl (fun x19 ex19 => ?_)
    obtain ⟨T_r0_1, N_r0_1, A_r0_1⟩ := id H_r0_1
    refine z_aI C rfl rfl T_r0_1 N_r0_1 (by omega) (by omega) (fun x20 ex20 => ?_)
    have gx20 := rg x20
    have nx20 : I2 r0_1 4 = x20 := (congrArg (I2 r0_1) (nck (n := 4) (by omega))).symm.trans ex20
    have ox20 := IM.c4 hI2 R_r0_1 nx20
    exact k_iret C rfl (Or.inl rfl) (Nat.le_of_ble_eq_true rfl) (Nat.le_of_ble_eq_true rfl) ⟨_, _, _, rfl, rfl, hI2, (CM.mono S3 (by decide) (by decide))⟩
  · skip
    refine ⟨77, by rw [h9]; rfl, by decide, ?_⟩
    show V 85 _ _ _ _ _
    refine k_aload_n C rfl rfl rfl ?_
    refine g_R C rfl rfl rfl T_r0 rfl R_r0_1 ?_
    refine z_iconst C (z := 5) rfl rfl rfl (fun x21 ex21 => ?_)
    obtain ⟨T_r0_1, N_r0_1, A_r0_1⟩ := id H_r0_1
    refine z_aI C rfl rfl T_r0_1 N_r0_1 (by omega) (by omega) (fun x22 ex22 => ?_)
    have gx22 := rg x22
    have nx22 : I2 r0_1 5 = x22 := (congrArg (I2 r0_1) (nck (n := 5) (by omega))).symm.trans ex22
    have ox22 := IM.c5 hI2 R_r0_1 nx22
    exact k_iret C rfl (Or.inl rfl) (Nat.le_of_ble_eq_true rfl) (Nat.le_of_ble_eq_true rfl) ⟨_, _, _, rfl, rfl, hI2, (CM.mono S3 (by decide) (by decide))⟩
  · skip
    refine ⟨84, by rw [h9]; rfl, by decide, ?_⟩
    show V 92 _ _ _ _ _
    refine z_iconst C (z := 0) rfl rfl rfl (fun x23 ex23 => ?_)
    have J24 : ∀ (nn25 : Nat) (I26 : IT) (L27 : LT) (x28 : Int32) (x29 : Int32), (MN (16 - x29.toInt) nn25) → (IM R r0 I26) → (CM A R r0 [] [4, 5] I2 L I26 L27) → (0 ≤ x29.toInt) → (x29.toInt ≤ 16) → V 94 [(0, .ref r0), (2, .int x28), (3, .int x29)] [] (T, N, I26, L27, R) 0 0 := by
      intro nn25
      induction nn25 using Nat.strongRecOn with
      | _ nn25 ihJ24 =>
        intro I26 L27 x28 x29 hmnn25 hI33 S32 b30 b31
        have gx28 := rg x28
        have gx29 := rg x29
        have e34 := CM.k S32 (by decide) e4
        refine k_iload_n C rfl rfl rfl ?_
        refine k_aload_n C rfl rfl rfl ?_
        refine g_R C rfl rfl rfl T_r0 rfl R_r0_1 ?_
        refine z_iconst C (z := 1) rfl rfl rfl (fun x35 ex35 => ?_)
        obtain ⟨T_r0_1, N_r0_1, A_r0_1⟩ := id H_r0_1
        refine z_aI C rfl rfl T_r0_1 N_r0_1 (by omega) (by omega) (fun x36 ex36 => ?_)
        have gx36 := rg x36
        have nx36 : I26 r0_1 1 = x36 := (congrArg (I26 r0_1) (nck (n := 1) (by omega))).symm.trans ex36
        have ox36 := IM.c1 hI33 R_r0_1 nx36
        refine b_icmp_ge C (t := 134) rfl rfl rfl (fun c37 => ?_) (fun c37 => ?_)
        · skip
          refine k_iload_n C rfl rfl rfl ?_
          exact k_iret C rfl (Or.inl rfl) (Nat.le_of_ble_eq_true rfl) (Nat.le_of_ble_eq_true rfl) ⟨_, _, _, rfl, rfl, hI33, (CM.cons S3 (CM.mono S32 (by decide) (by decide)) (by decide) (by decide))⟩
        refine k_aload_n C rfl rfl rfl ?_
        refine z_bipush C (z := 40) rfl rfl rfl (fun x38 ex38 => ?_)
        refine k_iload_n C rfl rfl rfl ?_
        obtain ⟨x39, e40⟩ : ∃ x, I26 r0_1 (6 + 10 * x29.toNatClampNeg) = x := ⟨_, rfl⟩
        have gx39 := rg x39
        obtain ⟨x41, e42⟩ : ∃ x, I26 r0_1 0 = x := ⟨_, rfl⟩
        have gx41 := rg x41
        have ox41 := IM.pi hI33 R_r0_1 e42
        have q43 : x38.toNatClampNeg = 40 := nck (by omega)
        refine c_VV C (a_X12_takes hI33 H_r0 (by omega) (by omega) (by omega) (by omega)) rfl rfl rfl rfl rfl ⟨_, rfl, rfl, T_r0, Nat.le_of_ble_eq_true rfl⟩ rfl rfl (Nat.le_of_ble_eq_true rfl) (Nat.le_of_ble_eq_true rfl) (Nat.le_of_ble_eq_true rfl) ?_
        rintro I45 L46 ⟨p0v44, p1v44, p2v44, p3v44, p4v44, hI45, S47⟩
        have p0v44 := p0v44 r0_4 R_r0_4
        have p1v44 := p1v44 r0_1 r0_4 R_r0_1 R_r0_4
        have p2v44 := p2v44 r0_1 r0_4 r0_5 R_r0_1 R_r0_4 R_r0_5
        have p3v44 := p3v44 r0_4 R_r0_4
        have p4v44 := p4v44 r0_5 R_r0_5
        try simp only [q43] at p3v44
        try simp only [q43] at p4v44
        have e48 := CM.k S47 (by decide) e34
        have e49 := CM.j S47 R_r0_1 (by decide) nx36
        have e50 := CM.j S47 R_r0_1 (by decide) e40
        have e51 := CM.j S47 R_r0_1 (by decide) e42
        obtain ⟨x52, e53⟩ : ∃ x, I45 r0_4 40 = x := ⟨_, rfl⟩
        have gx52 := rg x52
        have ox52 := IM.dgR hI45 R_r0_4 e53
        try simp only [q43, e34, nx36, e40, e42, e53] at p0v44
        try have q0v44 := congrArg Int32.toInt p0v44
        try simp only [q43, e34, nx36, e40, e42, e53] at p1v44
        try have q1v44 := congrArg Int32.toInt p1v44
        try simp only [q43, e34, nx36, e40, e42, e53] at p2v44
        try have q2v44 := congrArg Int32.toInt p2v44
        refine k_iload_n C rfl rfl rfl ?_
        refine k_aload_n C rfl rfl rfl ?_
        refine z_bipush C (z := 40) rfl rfl rfl (fun x54 ex54 => ?_)
        have q55 : x54.toNatClampNeg = 40 := nck (by omega)
        refine c_VI C (a_X12_isNought hI45 H_r0 (by omega) (by omega)) rfl rfl rfl rfl rfl ⟨_, rfl, rfl, T_r0, Nat.le_of_ble_eq_true rfl⟩ rfl rfl (Nat.le_of_ble_eq_true rfl) (Nat.le_of_ble_eq_true rfl) (Nat.le_of_ble_eq_true rfl) ?_
        rintro x56 _ _ ⟨o0x56, o1x56, p0x56, rfl, rfl⟩
        have p0x56 := p0x56 r0_4 r0_5 R_r0_4 R_r0_5
        have gx56 := rg x56
        try simp only [q55, e48, e49, e50, e51, e53] at p0x56
        try have q0x56 := congrArg Int32.toInt p0x56
        refine b_if_eq C (t := 125) rfl rfl rfl (fun c57 => ?_) (fun c57 => ?_)
        · skip
          refine z_iconst C (z := 0) rfl rfl rfl (fun x58 ex58 => ?_)
          refine z_iadd C rfl rfl ⟨by omega, by omega⟩ (fun x59 ex59 => ?_)
          refine k_istore_n C (lw := [(2, .int x59), (0, .ref r0), (3, .int x29)]) rfl rfl (Nat.le_of_ble_eq_true rfl) rfl ?_
          refine z_iinc C (z := 1) (lw := fun x60 => [(3, .int x60), (2, .int x59), (0, .ref r0)]) rfl rfl rfl (Nat.le_of_ble_eq_true rfl) rfl ⟨by omega, by omega⟩ (fun _ => rfl) (fun x60 ex60 => ?_)
          show V 131 [(3, .int x60), (2, .int x59), (0, .ref r0)] _ _ _ _
          refine k_goto C (pc2 := 94) rfl rfl ?_
          refine k_sub S [(0, .ref r0), (2, .int x59), (3, .int x60)] (List.forall_mem_cons.mpr ⟨List.mem_of_getElem? (i := 2) rfl, List.forall_mem_cons.mpr ⟨List.mem_of_getElem? (i := 1) rfl, List.forall_mem_cons.mpr ⟨List.mem_of_getElem? (i := 0) rfl, fun _ h => nomatch h⟩⟩⟩) ?_
          exact ihJ24 _ (MN.lt hmnn25 (by omega) (by omega)) I45 L46 x59 x60 rfl hI45 (CM.cons S32 (CM.mono S47 (by decide) (by decide)) (by decide) (by decide)) (by omega) (by omega)
        refine z_iconst C (z := 1) rfl rfl rfl (fun x61 ex61 => ?_)
        refine k_goto C (pc2 := 126) rfl rfl ?_
        refine zt_iadd C rfl rfl (fun x62 => ?_)
        have gx62 := rg x62
        refine k_istore_n C (lw := [(2, .int x62), (0, .ref r0), (3, .int x29)]) rfl rfl (Nat.le_of_ble_eq_true rfl) rfl ?_
        refine z_iinc C (z := 1) (lw := fun x63 => [(3, .int x63), (2, .int x62), (0, .ref r0)]) rfl rfl rfl (Nat.le_of_ble_eq_true rfl) rfl ⟨by omega, by omega⟩ (fun _ => rfl) (fun x63 ex63 => ?_)
        show V 131 [(3, .int x63), (2, .int x62), (0, .ref r0)] _ _ _ _
        refine k_goto C (pc2 := 94) rfl rfl ?_
        refine k_sub S [(0, .ref r0), (2, .int x62), (3, .int x63)] (List.forall_mem_cons.mpr ⟨List.mem_of_getElem? (i := 2) rfl, List.forall_mem_cons.mpr ⟨List.mem_of_getElem? (i := 1) rfl, List.forall_mem_cons.mpr ⟨List.mem_of_getElem? (i := 0) rfl, fun _ h => nomatch h⟩⟩⟩) ?_
        exact ihJ24 _ (MN.lt hmnn25 (by omega) (by omega)) I45 L46 x62 x63 rfl hI45 (CM.cons S32 (CM.mono S47 (by decide) (by decide)) (by decide) (by decide)) (by omega) (by omega)
    refine k_istore_n C (lw := [(3, .int x23), (2, .int x5), (0, .ref r0), (1, .int n1)]) rfl rfl (Nat.le_of_ble_eq_true rfl) rfl ?_
    refine k_sub S [(0, .ref r0), (2, .int x5), (3, .int x23)] (List.forall_mem_cons.mpr ⟨List.mem_of_getElem? (i := 2) rfl, List.forall_mem_cons.mpr ⟨List.mem_of_getElem? (i := 1) rfl, List.forall_mem_cons.mpr ⟨List.mem_of_getElem? (i := 0) rfl, fun _ h => nomatch h⟩⟩⟩) ?_
    exact J24 _ I2 L x5 x23 rfl hI2 CM.rf (by omega) (by omega)

