/-! the reference: basis: exactly -/
theorem a_X12_basis_x {d : Nat} {T N : Nat → Nat} {I : IT} {L : LT} {R : RT} {A : Nat → Prop} {r0 : Nat} {n1 n2 n3 : Int32} (hI : IM R r0 I) (H_r0 : (h_MD T N R A) r0) (hp0 : ∀ a1, R r0 1 = some a1 → ∀ j : Nat, j < 8 → (j : Int) < (I a1 3).toInt → HOV (WSL (I a1) j) 0) : Ex (d + 11) 266 [.ref r0, .int n1, .int n2, .int n3] (T, N, I, L, R) 0 0 (pI T N R (fun x9 I9 L9 => (∀ a1, R r0 1 = some a1 → (n2.toInt < 1 ∨ 8 < n2.toInt) ∧ (I9 r0 0).toInt = 1 ∨ ¬ (n2.toInt < 1 ∨ 8 < n2.toInt) ∧ (I9 r0 0).toInt = 0 ∧ SPQ x9 (SPF (I a1 0).toInt n3 n2.toInt n1.toInt (I a1 3).toInt (WSL (I a1)) 8)) ∧ (IM R r0 I9 ∧ CM A R r0 [0, 24] [4, 5, 22, 23] I L I9 L9))) := by
  refine ⟨_, rfl, Nat.le_of_ble_eq_true rfl, fun V C S => ?_⟩
  show V 0 [(0, .ref r0), (1, .int n1), (2, .int n2), (3, .int n3)] [] (T, N, I, L, R) 0 0
  have gn1 := rg n1
  have gn2 := rg n2
  have gn3 := rg n3
  obtain ⟨T_r0, A_r0, ⟨r0_1, R_r0_1, H_r0_1⟩, ⟨r0_2, R_r0_2, H_r0_2⟩, ⟨r0_4, R_r0_4, H_r0_4⟩, ⟨r0_5, R_r0_5, H_r0_5⟩, ⟨r0_10, R_r0_10, H_r0_10⟩, ⟨r0_18, R_r0_18, H_r0_18⟩, ⟨r0_20, R_r0_20, H_r0_20⟩, ⟨r0_21, R_r0_21, H_r0_21⟩, ⟨r0_22, R_r0_22, H_r0_22⟩, ⟨r0_23, R_r0_23, H_r0_23⟩, ⟨r0_25, R_r0_25, H_r0_25⟩, ⟨r0_26, R_r0_26, H_r0_26⟩, ⟨r0_27, R_r0_27, H_r0_27⟩, ⟨r0_28, R_r0_28, H_r0_28⟩, ⟨r0_34, R_r0_34, H_r0_34⟩, J_r0, Y_r0⟩ := id H_r0
  have G_r0 : mF T R r0 := ⟨J_r0, Y_r0, T_r0⟩
  obtain ⟨w_r0_1_0, k0_r0_1_0⟩ : ∃ x, I r0_1 0 = x := ⟨_, rfl⟩
  have gw_r0_1_0 := rg w_r0_1_0
  have ow_r0_1_0 := IM.pi hI R_r0_1 k0_r0_1_0
  obtain ⟨w_r0_1_3, k0_r0_1_3⟩ : ∃ x, I r0_1 3 = x := ⟨_, rfl⟩
  have gw_r0_1_3 := rg w_r0_1_3
  have ow_r0_1_3 := IM.c3 hI R_r0_1 k0_r0_1_3
  have hp0 := hp0 r0_1 R_r0_1
  try simp only [k0_r0_1_0, k0_r0_1_3] at hp0
  refine k_aload_n C rfl rfl rfl ?_
  refine z_iconst C (z := 0) rfl rfl rfl (fun x1 ex1 => ?_)
  refine z_pI C rfl rfl rfl T_r0 (Or.inr rfl) rfl (fun I2 uI2 => ?_)
  have hI2 : IM R r0 I2 := IM.fld hI G_r0 ⟨(fun h => absurd h (by decide)), (fun h => absurd h (by decide)), (fun h => absurd h (by decide)), (fun h => absurd h (by decide)), (fun h => absurd h (by decide))⟩ uI2
  have S3 : CM A R r0 [0] [] I L I2 L := CM.f G_r0 A_r0 uI2
  have e4 := u2_n uI2 (mF.ne G_r0 R_r0_1) k0_r0_1_0
  have e5 := u2_n uI2 (mF.ne G_r0 R_r0_1) k0_r0_1_3
  have e6 := u2_e uI2
  refine k_aload_n C rfl rfl rfl ?_
  refine k_iload_n C rfl rfl rfl ?_
  refine z_iconst C (z := 1) rfl rfl rfl (fun x7 ex7 => ?_)
  refine z_bipush C (z := 8) rfl rfl rfl (fun x8 ex8 => ?_)
  have q9 : x7.toNatClampNeg = 1 := nck (by omega)
  have q10 : x8.toNatClampNeg = 8 := nck (by omega)
  refine c_SI C a_X12_in rfl rfl rfl rfl rfl rfl rfl (Nat.le_of_ble_eq_true rfl) (Nat.le_of_ble_eq_true rfl) (Nat.le_of_ble_eq_true rfl) ?_
  rintro x11 _ _ ⟨o0x11, o1x11, p0x11, rfl, rfl⟩
  have gx11 := rg x11
  try simp only [q9, q10, e4, e5, e6] at p0x11
  try have q0x11 := congrArg Int32.toInt p0x11
  refine b_if_ne C (t := 20) rfl rfl rfl (fun c12 => ?_) (fun c12 => ?_)
  · skip
    refine z_iconst C (z := 0) rfl rfl rfl (fun x13 ex13 => ?_)
    refine z_iconst C (z := 1) rfl rfl rfl (fun x14 ex14 => ?_)
    have q15 : x13.toNatClampNeg = 0 := nck (by omega)
    have q16 : x14.toNatClampNeg = 1 := nck (by omega)
    refine c_VI C (a_X12_throwsIf_e hI2 H_r0 (by omega) (by omega)) rfl rfl rfl rfl rfl ⟨_, rfl, rfl, T_r0, Nat.le_of_ble_eq_true rfl⟩ rfl rfl (Nat.le_of_ble_eq_true rfl) (Nat.le_of_ble_eq_true rfl) (Nat.le_of_ble_eq_true rfl) ?_
    rintro x17 I18 L19 ⟨o0x17, o1x17, p0x17, p1x17, hI18, S20⟩
    have e21 := CM.j S20 R_r0_1 (by decide) e4
    have e22 := CM.j S20 R_r0_1 (by decide) e5
    have gx17 := rg x17
    obtain ⟨x24, e25⟩ : ∃ x, I18 r0 0 = x := ⟨_, rfl⟩
    have gx24 := rg x24
    try simp only [q15, q16, e4, e5, e6, e25] at p0x17
    try have q0x17 := congrArg Int32.toInt p0x17
    try simp only [q15, q16, e4, e5, e6, e25] at p1x17
    try have q1x17 := congrArg Int32.toInt p1x17
    refine b_if_eq C (t := 32) rfl rfl rfl (fun c26 => ?_) (fun c26 => by exfalso; omega)
    refine k_aload_n C rfl rfl rfl ?_
    refine k_iload_n C rfl rfl rfl ?_
    refine k_iload_n C rfl rfl rfl ?_
    refine k_iload_n C rfl rfl rfl ?_
    have hw9 := CM.j0 (W := [0]) (WA := []) (CM.cons S3 (CM.mono S20 (by decide) (by decide)) (by decide) (by decide)) R_r0_1 (by decide)
    refine c_VI C (a_X12_basisOf_x hI18 H_r0 (by omega) (by omega) (fun a1 h1 => by cases (R_r0_1.symm.trans h1); rw [hw9]; (try simp only [k0_r0_1_3]); exact hp0)) rfl rfl rfl rfl rfl ⟨_, rfl, rfl, T_r0, Nat.le_of_ble_eq_true rfl⟩ rfl rfl (Nat.le_of_ble_eq_true rfl) (Nat.le_of_ble_eq_true rfl) (Nat.le_of_ble_eq_true rfl) ?_
    rintro x27 I28 L29 ⟨p0x27, hI28, S30⟩
    have p0x27 := p0x27 r0_1 R_r0_1
    have e31 := CM.j S30 R_r0_1 (by decide) e21
    have e32 := CM.j S30 R_r0_1 (by decide) e22
    have e33 := CM.k S30 (by decide) e25
    have gx27 := rg x27
    try simp only [e21, e22, e25] at p0x27
    try have q0x27 := congrArg Int32.toInt p0x27
    have hq9 := p0x27
    rw [hw9] at hq9
    (try rw [k0_r0_1_0] at hq9)
    (try rw [k0_r0_1_3] at hq9)
    exact k_iret C rfl (Or.inl rfl) (Nat.le_of_ble_eq_true rfl) (Nat.le_of_ble_eq_true rfl) ⟨_, _, _, rfl, rfl, fun a1 h1 => by cases (R_r0_1.symm.trans h1); first | exact Or.inl ⟨by omega, by rw [e33]; omega⟩ | (refine Or.inr ⟨by omega, by rw [e33]; omega, ?_⟩; simp only [k0_r0_1_0, k0_r0_1_3]; exact hq9), hI28, (CM.cons S3 (CM.cons S20 (CM.mono S30 (by decide) (by decide)) (by decide) (by decide)) (by decide) (by decide))⟩
  refine z_iconst C (z := 1) rfl rfl rfl (fun x34 ex34 => ?_)
  refine k_goto C (pc2 := 21) rfl rfl ?_
  refine z_iconst C (z := 1) rfl rfl rfl (fun x35 ex35 => ?_)
  have q36 : x34.toNatClampNeg = 1 := nck (by omega)
  have q37 : x35.toNatClampNeg = 1 := nck (by omega)
  refine c_VI C (a_X12_throwsIf_e hI2 H_r0 (by omega) (by omega)) rfl rfl rfl rfl rfl ⟨_, rfl, rfl, T_r0, Nat.le_of_ble_eq_true rfl⟩ rfl rfl (Nat.le_of_ble_eq_true rfl) (Nat.le_of_ble_eq_true rfl) (Nat.le_of_ble_eq_true rfl) ?_
  rintro x38 I39 L40 ⟨o0x38, o1x38, p0x38, p1x38, hI39, S41⟩
  have e42 := CM.j S41 R_r0_1 (by decide) e4
  have e43 := CM.j S41 R_r0_1 (by decide) e5
  have gx38 := rg x38
  obtain ⟨x45, e46⟩ : ∃ x, I39 r0 0 = x := ⟨_, rfl⟩
  have gx45 := rg x45
  try simp only [q36, q37, e4, e5, e6, e46] at p0x38
  try have q0x38 := congrArg Int32.toInt p0x38
  try simp only [q36, q37, e4, e5, e6, e46] at p1x38
  try have q1x38 := congrArg Int32.toInt p1x38
  refine b_if_eq C (t := 32) rfl rfl rfl (fun c47 => by exfalso; omega) (fun c47 => ?_)
  refine z_iconst C (z := 0) rfl rfl rfl (fun x48 ex48 => ?_)
  refine k_goto C (pc2 := 39) rfl rfl ?_
  exact k_iret C rfl (Or.inl rfl) (Nat.le_of_ble_eq_true rfl) (Nat.le_of_ble_eq_true rfl) ⟨_, _, _, rfl, rfl, fun a1 h1 => by cases (R_r0_1.symm.trans h1); first | exact Or.inl ⟨by omega, by rw [e46]; omega⟩ | (refine Or.inr ⟨by omega, by rw [e46]; omega, ?_⟩; simp only [k0_r0_1_0, k0_r0_1_3]; exact hq9), hI39, (CM.cons S3 (CM.mono S41 (by decide) (by decide)) (by decide) (by decide))⟩

