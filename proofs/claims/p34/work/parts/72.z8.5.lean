/-! on -/
set_option maxHeartbeats 8000000 in
theorem a_X12_powers_x {d : Nat} {T N : Nat → Nat} {I : IT} {L : LT} {R : RT} {A : Nat → Prop} {r0 : Nat} {n1 n2 : Int32} (hI : IM R r0 I) (H_r0 : (h_MD T N R A) r0) (hp0 : ∀ a1, R r0 1 = some a1 → CNW (I a1)) : Ex (d + 7) 287 [.ref r0, .int n1, .int n2] (T, N, I, L, R) 0 0 (pI T N R (fun x9 I9 L9 => (∀ a1, R r0 1 = some a1 → (n1.toInt < 0 ∨ (I a1 1).toInt ≤ n1.toInt) ∧ (I9 r0 0).toInt = 1 ∨ ¬ (n1.toInt < 0 ∨ (I a1 1).toInt ≤ n1.toInt) ∧ ((I a1 (6 + 10 * n1.toNatClampNeg)).toInt = 0 ∨ n2.toInt < -1) ∧ (I9 r0 0).toInt = 2 ∨ ¬ (n1.toInt < 0 ∨ (I a1 1).toInt ≤ n1.toInt) ∧ ¬ ((I a1 (6 + 10 * n1.toNatClampNeg)).toInt = 0 ∨ n2.toInt < -1) ∧ (I9 r0 0).toInt = 0 ∧ PWX x9.toInt (I a1 0).toInt (I a1 (6 + 10 * n1.toNatClampNeg)).toInt (BNI (I a1 (6 + 10 * n1.toNatClampNeg)).toInt) (fun k => (I a1 (7 + 10 * n1.toNatClampNeg + k)).toInt) n2.toInt) ∧ (IM R r0 I9 ∧ CM A R r0 [0, 29] [4, 5, 26, 27, 28] I L I9 L9))) := by
  refine ⟨_, rfl, Nat.le_of_ble_eq_true rfl, fun V C S => ?_⟩
  show V 0 [(0, .ref r0), (1, .int n1), (2, .int n2)] [] (T, N, I, L, R) 0 0
  have gn1 := rg n1
  have gn2 := rg n2
  obtain ⟨T_r0, A_r0, ⟨r0_1, R_r0_1, H_r0_1⟩, ⟨r0_2, R_r0_2, H_r0_2⟩, ⟨r0_4, R_r0_4, H_r0_4⟩, ⟨r0_5, R_r0_5, H_r0_5⟩, ⟨r0_10, R_r0_10, H_r0_10⟩, ⟨r0_18, R_r0_18, H_r0_18⟩, ⟨r0_20, R_r0_20, H_r0_20⟩, ⟨r0_21, R_r0_21, H_r0_21⟩, ⟨r0_22, R_r0_22, H_r0_22⟩, ⟨r0_23, R_r0_23, H_r0_23⟩, ⟨r0_25, R_r0_25, H_r0_25⟩, ⟨r0_26, R_r0_26, H_r0_26⟩, ⟨r0_27, R_r0_27, H_r0_27⟩, ⟨r0_28, R_r0_28, H_r0_28⟩, ⟨r0_34, R_r0_34, H_r0_34⟩, J_r0, Y_r0⟩ := id H_r0
  have G_r0 : mF T R r0 := ⟨J_r0, Y_r0, T_r0⟩
  obtain ⟨w_r0_1_1, k0_r0_1_1⟩ : ∃ x, I r0_1 1 = x := ⟨_, rfl⟩
  have gw_r0_1_1 := rg w_r0_1_1
  have ow_r0_1_1 := IM.c1 hI R_r0_1 k0_r0_1_1
  obtain ⟨w_r0_1_0, k0_r0_1_0⟩ : ∃ x, I r0_1 0 = x := ⟨_, rfl⟩
  have gw_r0_1_0 := rg w_r0_1_0
  have ow_r0_1_0 := IM.pi hI R_r0_1 k0_r0_1_0
  obtain ⟨w_r0_1_E_6_10_n1_toNatClampNeg, k0_r0_1_E_6_10_n1_toNatClampNeg⟩ : ∃ x, I r0_1 (6 + 10 * n1.toNatClampNeg) = x := ⟨_, rfl⟩
  have gw_r0_1_E_6_10_n1_toNatClampNeg := rg w_r0_1_E_6_10_n1_toNatClampNeg
  have hp0 := hp0 r0_1 R_r0_1
  try simp only [k0_r0_1_1, k0_r0_1_0, k0_r0_1_E_6_10_n1_toNatClampNeg] at hp0
  refine k_aload_n C rfl rfl rfl ?_
  refine z_iconst C (z := 0) rfl rfl rfl (fun x1 ex1 => ?_)
  refine z_pI C rfl rfl rfl T_r0 (Or.inr rfl) rfl (fun I2 uI2 => ?_)
  have hI2 : IM R r0 I2 := IM.fld hI G_r0 ⟨(fun h => absurd h (by decide)), (fun h => absurd h (by decide)), (fun h => absurd h (by decide)), (fun h => absurd h (by decide)), (fun h => absurd h (by decide))⟩ uI2
  have S3 : CM A R r0 [0] [] I L I2 L := CM.f G_r0 A_r0 uI2
  have e4 := u2_n uI2 (mF.ne G_r0 R_r0_1) k0_r0_1_1
  have e5 := u2_n uI2 (mF.ne G_r0 R_r0_1) k0_r0_1_0
  have e6 := u2_n uI2 (mF.ne G_r0 R_r0_1) k0_r0_1_E_6_10_n1_toNatClampNeg
  have e7 := u2_e uI2
  refine k_aload_n C rfl rfl rfl ?_
  refine k_aload_n C rfl rfl rfl ?_
  refine k_iload_n C rfl rfl rfl ?_
  refine c_VI C (a_X12_noForm_e hI2 H_r0) rfl rfl rfl rfl rfl ⟨_, rfl, rfl, T_r0, Nat.le_of_ble_eq_true rfl⟩ rfl rfl (Nat.le_of_ble_eq_true rfl) (Nat.le_of_ble_eq_true rfl) (Nat.le_of_ble_eq_true rfl) ?_
  rintro x8 _ _ ⟨o0x8, o1x8, p0x8, rfl, rfl⟩
  have p0x8 := p0x8 r0_1 R_r0_1
  have gx8 := rg x8
  try simp only [e4, e5, e6, e7, e4] at p0x8
  try have q0x8 := congrArg Int32.toInt p0x8
  refine z_iconst C (z := 1) rfl rfl rfl (fun x9 ex9 => ?_)
  have q10 : x9.toNatClampNeg = 1 := nck (by omega)
  refine c_VI C (a_X12_throwsIf_e hI2 H_r0 (by omega) (by omega)) rfl rfl rfl rfl rfl ⟨_, rfl, rfl, T_r0, Nat.le_of_ble_eq_true rfl⟩ rfl rfl (Nat.le_of_ble_eq_true rfl) (Nat.le_of_ble_eq_true rfl) (Nat.le_of_ble_eq_true rfl) ?_
  rintro x11 I12 L13 ⟨o0x11, o1x11, p0x11, p1x11, hI12, S14⟩
  have e15 := CM.j S14 R_r0_1 (by decide) e4
  have e16 := CM.j S14 R_r0_1 (by decide) e5
  have e17 := CM.j S14 R_r0_1 (by decide) e6
  have gx11 := rg x11
  obtain ⟨x19, e20⟩ : ∃ x, I12 r0 0 = x := ⟨_, rfl⟩
  have gx19 := rg x19
  try simp only [q10, e4, e5, e6, e7, e20] at p0x11
  try have q0x11 := congrArg Int32.toInt p0x11
  try simp only [q10, e4, e5, e6, e7, e20] at p1x11
  try have q1x11 := congrArg Int32.toInt p1x11
  refine b_if_ne C (t := 44) rfl rfl rfl (fun c21 => ?_) (fun c21 => ?_)
  · skip
    refine z_iconst C (z := 0) rfl rfl rfl (fun x22 ex22 => ?_)
    exact k_iret C rfl (Or.inl rfl) (Nat.le_of_ble_eq_true rfl) (Nat.le_of_ble_eq_true rfl) ⟨_, _, _, rfl, rfl, fun a1 h1 => by cases (R_r0_1.symm.trans h1); first | exact Or.inl ⟨by simp only [k0_r0_1_1]; omega, by rw [e20]; omega⟩ | exact Or.inr (Or.inl ⟨by simp only [k0_r0_1_1]; omega, by simp only [k0_r0_1_E_6_10_n1_toNatClampNeg]; omega, by rw [e20]; omega⟩), hI12, (CM.cons S3 (CM.mono S14 (by decide) (by decide)) (by decide) (by decide))⟩
  refine k_aload_n C rfl rfl rfl ?_
  refine k_aload_n C rfl rfl rfl ?_
  refine k_iload_n C rfl rfl rfl ?_
  refine c_VI C (a_X12_degreeOf hI12 H_r0 (by omega) (by omega)) rfl rfl rfl rfl rfl ⟨_, rfl, rfl, T_r0, Nat.le_of_ble_eq_true rfl⟩ rfl rfl (Nat.le_of_ble_eq_true rfl) (Nat.le_of_ble_eq_true rfl) (Nat.le_of_ble_eq_true rfl) ?_
  rintro x23 _ _ ⟨o0x23, o1x23, p0x23, rfl, rfl⟩
  have p0x23 := p0x23 r0_1 R_r0_1
  have gx23 := rg x23
  try simp only [e15, e16, e17, e20, e17] at p0x23
  try have q0x23 := congrArg Int32.toInt p0x23
  refine b_if_eq C (t := 32) rfl rfl rfl (fun c24 => ?_) (fun c24 => ?_)
  · skip
    refine z_iconst C (z := 1) rfl rfl rfl (fun x25 ex25 => ?_)
    refine k_goto C (pc2 := 37) rfl rfl ?_
    refine z_iconst C (z := 2) rfl rfl rfl (fun x26 ex26 => ?_)
    have q27 : x25.toNatClampNeg = 1 := nck (by omega)
    have q28 : x26.toNatClampNeg = 2 := nck (by omega)
    refine c_VI C (a_X12_throwsIf_e hI12 H_r0 (by omega) (by omega)) rfl rfl rfl rfl rfl ⟨_, rfl, rfl, T_r0, Nat.le_of_ble_eq_true rfl⟩ rfl rfl (Nat.le_of_ble_eq_true rfl) (Nat.le_of_ble_eq_true rfl) (Nat.le_of_ble_eq_true rfl) ?_
    rintro x29 I30 L31 ⟨o0x29, o1x29, p0x29, p1x29, hI30, S32⟩
    have e33 := CM.j S32 R_r0_1 (by decide) e15
    have e34 := CM.j S32 R_r0_1 (by decide) e16
    have e35 := CM.j S32 R_r0_1 (by decide) e17
    have gx29 := rg x29
    obtain ⟨x37, e38⟩ : ∃ x, I30 r0 0 = x := ⟨_, rfl⟩
    have gx37 := rg x37
    try simp only [q27, q28, e15, e16, e17, e20, e38] at p0x29
    try have q0x29 := congrArg Int32.toInt p0x29
    try simp only [q27, q28, e15, e16, e17, e20, e38] at p1x29
    try have q1x29 := congrArg Int32.toInt p1x29
    refine b_if_eq C (t := 46) rfl rfl rfl (fun c39 => by exfalso; omega) (fun c39 => ?_)
    refine z_iconst C (z := 0) rfl rfl rfl (fun x40 ex40 => ?_)
    exact k_iret C rfl (Or.inl rfl) (Nat.le_of_ble_eq_true rfl) (Nat.le_of_ble_eq_true rfl) ⟨_, _, _, rfl, rfl, fun a1 h1 => by cases (R_r0_1.symm.trans h1); first | exact Or.inl ⟨by simp only [k0_r0_1_1]; omega, by rw [e38]; omega⟩ | exact Or.inr (Or.inl ⟨by simp only [k0_r0_1_1]; omega, by simp only [k0_r0_1_E_6_10_n1_toNatClampNeg]; omega, by rw [e38]; omega⟩), hI30, (CM.cons S3 (CM.cons S14 (CM.mono S32 (by decide) (by decide)) (by decide) (by decide)) (by decide) (by decide))⟩
  refine k_iload_n C rfl rfl rfl ?_
  refine z_iconst C (z := -1) rfl rfl rfl (fun x41 ex41 => ?_)
  refine b_icmp_ge C (t := 36) rfl rfl rfl (fun c42 => ?_) (fun c42 => ?_)
  · skip
    refine z_iconst C (z := 0) rfl rfl rfl (fun x43 ex43 => ?_)
    refine z_iconst C (z := 2) rfl rfl rfl (fun x44 ex44 => ?_)
    have q45 : x43.toNatClampNeg = 0 := nck (by omega)
    have q46 : x44.toNatClampNeg = 2 := nck (by omega)
    refine c_VI C (a_X12_throwsIf_e hI12 H_r0 (by omega) (by omega)) rfl rfl rfl rfl rfl ⟨_, rfl, rfl, T_r0, Nat.le_of_ble_eq_true rfl⟩ rfl rfl (Nat.le_of_ble_eq_true rfl) (Nat.le_of_ble_eq_true rfl) (Nat.le_of_ble_eq_true rfl) ?_
    rintro x47 I48 L49 ⟨o0x47, o1x47, p0x47, p1x47, hI48, S50⟩
    have e51 := CM.j S50 R_r0_1 (by decide) e15
    have e52 := CM.j S50 R_r0_1 (by decide) e16
    have e53 := CM.j S50 R_r0_1 (by decide) e17
    have gx47 := rg x47
    obtain ⟨x55, e56⟩ : ∃ x, I48 r0 0 = x := ⟨_, rfl⟩
    have gx55 := rg x55
    try simp only [q45, q46, e15, e16, e17, e20, e56] at p0x47
    try have q0x47 := congrArg Int32.toInt p0x47
    try simp only [q45, q46, e15, e16, e17, e20, e56] at p1x47
    try have q1x47 := congrArg Int32.toInt p1x47
    refine b_if_eq C (t := 46) rfl rfl rfl (fun c57 => ?_) (fun c57 => by exfalso; omega)
    refine k_aload_n C rfl rfl rfl ?_
    refine z_bipush C (z := 40) rfl rfl rfl (fun x58 ex58 => ?_)
    refine k_iload_n C rfl rfl rfl ?_
    have hw50 := CM.j0 (W := [0]) (WA := []) (CM.cons S3 (CM.cons S14 (CM.mono S50 (by decide) (by decide)) (by decide) (by decide)) (by decide) (by decide)) R_r0_1 (by decide)
    have q59 : x58.toNatClampNeg = 40 := nck (by omega)
    refine c_VV C (a_X12_takes_e hI48 H_r0 (by omega) (by omega) (by omega) (by omega)) rfl rfl rfl rfl rfl ⟨_, rfl, rfl, T_r0, Nat.le_of_ble_eq_true rfl⟩ rfl rfl (Nat.le_of_ble_eq_true rfl) (Nat.le_of_ble_eq_true rfl) (Nat.le_of_ble_eq_true rfl) ?_
    rintro I61 L62 ⟨p0v60, p1v60, p2v60, p3v60, p4v60, p5v60, hI61, S63⟩
    have p0v60 := p0v60 r0_4 R_r0_4
    have p1v60 := p1v60 r0_1 r0_4 R_r0_1 R_r0_4
    have p2v60 := p2v60 r0_1 r0_4 r0_5 R_r0_1 R_r0_4 R_r0_5
    have p3v60 := p3v60 r0_1 r0_4 r0_5 R_r0_1 R_r0_4 R_r0_5
    have p4v60 := p4v60 r0_4 R_r0_4
    have p5v60 := p5v60 r0_5 R_r0_5
    try simp only [q59] at p4v60
    try simp only [q59] at p5v60
    have e64 := CM.j S63 R_r0_1 (by decide) e51
    have e65 := CM.j S63 R_r0_1 (by decide) e52
    have e66 := CM.j S63 R_r0_1 (by decide) e53
    have e67 := CM.k S63 (by decide) e56
    obtain ⟨x68, e69⟩ : ∃ x, I61 r0_4 40 = x := ⟨_, rfl⟩
    have gx68 := rg x68
    have ox68 := IM.dgR hI61 R_r0_4 e69
    try simp only [q59, e51, e52, e53, e56, e69] at p0v60
    try have q0v60 := congrArg Int32.toInt p0v60
    try simp only [q59, e51, e52, e53, e56, e69] at p1v60
    try have q1v60 := congrArg Int32.toInt p1v60
    try simp only [q59, e51, e52, e53, e56, e69] at p2v60
    try have q2v60 := congrArg Int32.toInt p2v60
    try simp only [q59, e51, e52, e53, e56, e69] at p3v60
    try have q3v60 := congrArg Int32.toInt p3v60
    have hd9 := p1v60
    have hT9 := TKE.w p3v60 hw50
    have hcr := CNW.g (f := n1) hp0 (by rw [k0_r0_1_E_6_10_n1_toNatClampNeg]) (by rw [k0_r0_1_0]) (by omega) (by simp only [k0_r0_1_1]; omega)
    have hRW : RWF I61 r0_5 40 w_r0_1_E_6_10_n1_toNatClampNeg.toInt (fun k => (I r0_1 (7 + 10 * n1.toNatClampNeg + k)).toInt) := fun k hk => by (rw [hT9 k (by omega), show 6 + 10 * n1.toNatClampNeg + 1 + k = 7 + 10 * n1.toNatClampNeg + k from by omega])
    refine k_aload_n C rfl rfl rfl ?_
    refine k_aload_n C rfl rfl rfl ?_
    refine g_R C rfl rfl rfl T_r0 rfl R_r0_4 ?_
    refine z_bipush C (z := 40) rfl rfl rfl (fun x70 ex70 => ?_)
    obtain ⟨T_r0_4, N_r0_4, A_r0_4⟩ := id H_r0_4
    refine a_I C rfl rfl T_r0_4 (by rw [N_r0_4]; exact vpi (by omega) (by omega)) ((congrArg (I61 r0_4) (nck (n := 40) (by omega))).trans e69) ?_
    have hq61 := e65
    refine c_VV C (a_X12_raises_x hI61 H_r0 (by omega) (by omega)) rfl rfl rfl rfl rfl ⟨_, rfl, rfl, T_r0, Nat.le_of_ble_eq_true rfl⟩ rfl rfl (Nat.le_of_ble_eq_true rfl) (Nat.le_of_ble_eq_true rfl) (Nat.le_of_ble_eq_true rfl) ?_
    rintro I72 L73 ⟨p0v71, p1v71, p2v71, hI72, S74⟩
    have p0v71 := p0v71 r0_1 r0_26 R_r0_1 R_r0_26
    have p1v71 := p1v71 r0_4 R_r0_4
    have p2v71 := p2v71 r0_5 R_r0_5
    have e75 := CM.j S74 R_r0_1 (by decide) e64
    have e76 := CM.j S74 R_r0_1 (by decide) e65
    have e77 := CM.j S74 R_r0_1 (by decide) e66
    have e78 := CM.k S74 (by decide) e67
    have e79 := (p1v71 40 (by first | decide | exact ncne (by omega) (by omega) (by omega) | exact nckn (by omega) (by omega) | exact (nckn (by omega) (by omega)).symm)).trans e69
    try simp only [e64, e65, e66, e67, e69] at p0v71
    try have q0v71 := congrArg Int32.toInt p0v71
    have hpt := p0v71
    (try rw [hq61] at hpt)
    have h5r := p2v71
    have hRWr : RWF I72 r0_5 40 w_r0_1_E_6_10_n1_toNatClampNeg.toInt (fun k => (I r0_1 (7 + 10 * n1.toNatClampNeg + k)).toInt) := RWF.sm hRW (fun k hk => h5r _ (by omega)) (by omega)
    refine k_aload_n C rfl rfl rfl ?_
    refine k_aload_n C rfl rfl rfl ?_
    refine z_bipush C (z := 40) rfl rfl rfl (fun x80 ex80 => ?_)
    have q81 : x80.toNatClampNeg = 40 := nck (by omega)
    refine c_VI C (a_X12_isNought_e hI72 H_r0 (by omega) (by omega)) rfl rfl rfl rfl rfl ⟨_, rfl, rfl, T_r0, Nat.le_of_ble_eq_true rfl⟩ rfl rfl (Nat.le_of_ble_eq_true rfl) (Nat.le_of_ble_eq_true rfl) (Nat.le_of_ble_eq_true rfl) ?_
    rintro x82 _ _ ⟨o0x82, o1x82, p0x82, p1x82, rfl, rfl⟩
    have p0x82 := p0x82 r0_4 r0_5 R_r0_4 R_r0_5
    have p1x82 := p1x82 r0_4 r0_5 R_r0_4 R_r0_5
    have gx82 := rg x82
    try simp only [q81, e75, e76, e77, e78, e79] at p0x82
    try have q0x82 := congrArg Int32.toInt p0x82
    try simp only [q81, e75, e76, e77, e78, e79] at p1x82
    try have q1x82 := congrArg Int32.toInt p1x82
    have hN := NQI.w (D := w_r0_1_E_6_10_n1_toNatClampNeg.toInt) p1x82 (by rw [e79]; omega) hRWr
    refine b_if_eq C (t := 78) rfl rfl rfl (fun c83 => ?_) (fun c83 => ?_)
    · skip
      refine z_iconst C (z := 1) rfl rfl rfl (fun x84 ex84 => ?_)
      have J85 : ∀ (nn86 : Nat) (I87 : IT) (L88 : LT) (x92 : Int32), (MN (4 - x92.toInt) nn86) → (IM R r0 I87) → (CM A R r0 [29] [4, 5, 27, 28] I72 L73 I87 L88) → (∀ r : Nat, r ≠ 42 → I87 r0_4 r = I72 r0_4 r) → (I87 r0 29 = x92) → (0 ≤ x92.toInt) → (x92.toInt ≤ 4) → ((∀ m : Nat, (m : Int) < x92.toInt → ¬ EXN w_r0_1_0.toInt w_r0_1_E_6_10_n1_toNatClampNeg.toInt (BNI w_r0_1_E_6_10_n1_toNatClampNeg.toInt) (fun k => (I r0_1 (7 + 10 * n1.toNatClampNeg + k)).toInt) m)) → (RWF I87 r0_5 40 w_r0_1_E_6_10_n1_toNatClampNeg.toInt (fun k => (I r0_1 (7 + 10 * n1.toNatClampNeg + k)).toInt)) → (PWT (I87 r0_26) w_r0_1_0.toInt w_r0_1_E_6_10_n1_toNatClampNeg.toInt (w_r0_1_0.toInt + 1)) → (x92.toInt = 0 → ∀ k : Nat, (k : Int) ≤ w_r0_1_E_6_10_n1_toNatClampNeg.toInt → (fun k => (I r0_1 (7 + 10 * n1.toNatClampNeg + k)).toInt) k = 0) → V 82 [(0, .ref r0), (2, .int n2)] [] (T, N, I87, L88, R) 0 0 := by
        intro nn86
        induction nn86 using Nat.strongRecOn with
        | _ nn86 ihJ85 =>
          intro I87 L88 x92 hmnn86 hI90 S89 F91 e93 b94 b95 ff82_0 ff82_1 ff82_2 ff82_3
          have gx92 := rg x92
          have e96 := CM.j S89 R_r0_1 (by decide) e75
          have e97 := CM.j S89 R_r0_1 (by decide) e76
          have e98 := CM.j S89 R_r0_1 (by decide) e77
          have e99 := CM.k S89 (by decide) e78
          have e100 := (F91 40 (by first | decide | exact ncne (by omega) (by omega) (by omega) | exact nckn (by omega) (by omega) | exact (nckn (by omega) (by omega)).symm)).trans e79
          refine k_aload_n C rfl rfl rfl ?_
          refine g_I C rfl rfl rfl T_r0 rfl e93 ?_
          refine b_if_le C (t := 121) rfl rfl rfl (fun c101 => ?_) (fun c101 => ?_)
          · skip
            obtain ⟨T9, eT9⟩ : ∃ f : Nat → Int, NF I87 r0_27 = f := ⟨_, rfl⟩
            obtain ⟨C9, eC9⟩ : ∃ f : Nat → Int, NF I87 r0_28 = f := ⟨_, rfl⟩
            (try rw [eT9, eC9] at hPW9)
            (try have hPWL := hPW9 (by omega))
            have hF0 : x92.toInt = 0 → ∀ k : Nat, (k : Int) ≤ w_r0_1_E_6_10_n1_toNatClampNeg.toInt → (fun k => (I r0_1 (7 + 10 * n1.toNatClampNeg + k)).toInt) k = 0 := (by first | exact ff82_3 | (intro h9; exfalso; omega))
            have hF0 : (∀ k : Nat, (k : Int) ≤ w_r0_1_E_6_10_n1_toNatClampNeg.toInt → (fun k => (I r0_1 (7 + 10 * n1.toNatClampNeg + k)).toInt) k = 0) ∨ x92.toInt ≠ 0 := (by exact (Classical.em (x92.toInt = 0)).elim (fun c9 => by (exact Or.inl (hF0 c9))) (fun c9 => by (exact Or.inr c9)))
            have hP4 : 4 ≤ x92.toInt → ∀ m, m < 4 → ¬ EXN w_r0_1_0.toInt w_r0_1_E_6_10_n1_toNatClampNeg.toInt (BNI w_r0_1_E_6_10_n1_toNatClampNeg.toInt) (fun k => (I r0_1 (7 + 10 * n1.toNatClampNeg + k)).toInt) m := (by first | exact fun h9 m hm => ff82_0 m (by omega) | (intro h9; exfalso; omega))
            refine k_aload_n C rfl rfl rfl ?_
            refine g_I C rfl rfl rfl T_r0 rfl e93 ?_
            refine z_iconst C (z := 3) rfl rfl rfl (fun x102 ex102 => ?_)
            refine b_icmp_le C (t := 131) rfl rfl rfl (fun c103 => ?_) (fun c103 => by exfalso; omega)
            refine k_iload_n C rfl rfl rfl ?_
            refine b_if_ge C (t := 140) rfl rfl rfl (fun c104 => ?_) (fun c104 => ?_)
            · skip
              refine k_iload_n C rfl rfl rfl ?_
              refine z_iconst C (z := 0) rfl rfl rfl (fun x105 ex105 => ?_)
              refine k_aload_n C rfl rfl rfl ?_
              refine g_I C rfl rfl rfl T_r0 rfl e93 ?_
              refine z_iconst C (z := 1) rfl rfl rfl (fun x106 ex106 => ?_)
              refine z_isub C rfl rfl ⟨by omega, by omega⟩ (fun x107 ex107 => ?_)
              have q108 : x105.toNatClampNeg = 0 := nck (by omega)
              refine c_SI C a_X12_in rfl rfl rfl rfl rfl rfl rfl (Nat.le_of_ble_eq_true rfl) (Nat.le_of_ble_eq_true rfl) (Nat.le_of_ble_eq_true rfl) ?_
              rintro x109 _ _ ⟨o0x109, o1x109, p0x109, rfl, rfl⟩
              have gx109 := rg x109
              try simp only [q108, e96, e97, e98, e99, e100, e93] at p0x109
              try have q0x109 := congrArg Int32.toInt p0x109
              have hin148 := p0x109
              refine b_if_eq C (t := 163) rfl rfl rfl (fun c110 => ?_) (fun c110 => ?_)
              · skip
                refine k_iload_n C rfl rfl rfl ?_
                refine z_bipush C (z := 10) rfl rfl rfl (fun x111 ex111 => ?_)
                refine z_isub C rfl rfl ⟨by omega, by omega⟩ (fun x112 ex112 => ?_)
                refine z_iconst C (z := 0) rfl rfl rfl (fun x113 ex113 => ?_)
                refine k_aload_n C rfl rfl rfl ?_
                refine g_I C rfl rfl rfl T_r0 rfl e93 ?_
                refine z_iconst C (z := 1) rfl rfl rfl (fun x114 ex114 => ?_)
                refine z_isub C rfl rfl ⟨by omega, by omega⟩ (fun x115 ex115 => ?_)
                have q116 : x113.toNatClampNeg = 0 := nck (by omega)
                refine c_SI C a_X12_in rfl rfl rfl rfl rfl rfl rfl (Nat.le_of_ble_eq_true rfl) (Nat.le_of_ble_eq_true rfl) (Nat.le_of_ble_eq_true rfl) ?_
                rintro x117 _ _ ⟨o0x117, o1x117, p0x117, rfl, rfl⟩
                have gx117 := rg x117
                try simp only [q116, e96, e97, e98, e99, e100, e93] at p0x117
                try have q0x117 := congrArg Int32.toInt p0x117
                have hin174 := p0x117
                refine b_if_eq C (t := 192) rfl rfl rfl (fun c118 => ?_) (fun c118 => ?_)
                · skip
                  refine z_iconst C (z := -1) rfl rfl rfl (fun x119 ex119 => ?_)
                  exact k_iret C rfl (Or.inl rfl) (Nat.le_of_ble_eq_true rfl) (Nat.le_of_ble_eq_true rfl) ⟨_, _, _, rfl, rfl, fun a1 h1 => by cases (R_r0_1.symm.trans h1); refine Or.inr (Or.inr ⟨by simp only [k0_r0_1_1]; omega, by simp only [k0_r0_1_E_6_10_n1_toNatClampNeg]; omega, by rw [e99]; omega, ?_⟩); simp only [k0_r0_1_0, k0_r0_1_E_6_10_n1_toNatClampNeg]; first | (exfalso; omega) | exact PWX.r (n := m9.toNat) (fun m hm => hPX m (by omega)) (by omega) hPWL (by first | exact PWA.b (by omega) (by omega) hr159 | exact PWA.c (by omega) (by omega) hr188 | exact PWA.d (by omega) (by omega) (by omega) (by omega)) | exact PWX.r (n := 0) (fun m hm => absurd hm (Nat.not_lt_zero m)) (by omega) (PWL.z (ts := T9) (cs := C9) (hF0.resolve_right (by omega))) (by first | exact PWA.b (by omega) (by omega) hr159 | exact PWA.c (by omega) (by omega) hr188 | exact PWA.d (by omega) (by omega) (by omega) (by omega)), hI90, (CM.cons S3 (CM.cons S14 (CM.cons S50 (CM.cons S63 (CM.cons S74 (CM.mono S89 (by decide) (by decide)) (by decide) (by decide)) (by decide) (by decide)) (by decide) (by decide)) (by decide) (by decide)) (by decide) (by decide))⟩
                refine k_aload_n C rfl rfl rfl ?_
                refine g_R C rfl rfl rfl T_r0 rfl R_r0_28 ?_
                refine k_iload_n C rfl rfl rfl ?_
                refine z_bipush C (z := 10) rfl rfl rfl (fun x120 ex120 => ?_)
                refine z_isub C rfl rfl ⟨by omega, by omega⟩ (fun x121 ex121 => ?_)
                obtain ⟨T_r0_28, N_r0_28, A_r0_28⟩ := id H_r0_28
                refine z_aI C rfl rfl T_r0_28 N_r0_28 (by omega) (by omega) (fun x122 ex122 => ?_)
                have gx122 := rg x122
                have ox122 := IM.faR hI90 R_r0_28 ex122
                have hj188 : x121.toNatClampNeg = (n2.toInt - 10).toNat := (by have h9 := ncz (x := x121) (by omega); omega)
                have hr188 : x122.toInt = NF I87 r0_28 (n2.toInt - 10).toNat := (by rw [← hj188]; exact (congrArg Int32.toInt ex122).symm)
                rw [eC9] at hr188
                refine k_goto C (pc2 := 193) rfl rfl ?_
                exact k_iret C rfl (Or.inl rfl) (Nat.le_of_ble_eq_true rfl) (Nat.le_of_ble_eq_true rfl) ⟨_, _, _, rfl, rfl, fun a1 h1 => by cases (R_r0_1.symm.trans h1); refine Or.inr (Or.inr ⟨by simp only [k0_r0_1_1]; omega, by simp only [k0_r0_1_E_6_10_n1_toNatClampNeg]; omega, by rw [e99]; omega, ?_⟩); simp only [k0_r0_1_0, k0_r0_1_E_6_10_n1_toNatClampNeg]; first | (exfalso; omega) | exact PWX.r (n := m9.toNat) (fun m hm => hPX m (by omega)) (by omega) hPWL (by first | exact PWA.b (by omega) (by omega) hr159 | exact PWA.c (by omega) (by omega) hr188 | exact PWA.d (by omega) (by omega) (by omega) (by omega)) | exact PWX.r (n := 0) (fun m hm => absurd hm (Nat.not_lt_zero m)) (by omega) (PWL.z (ts := T9) (cs := C9) (hF0.resolve_right (by omega))) (by first | exact PWA.b (by omega) (by omega) hr159 | exact PWA.c (by omega) (by omega) hr188 | exact PWA.d (by omega) (by omega) (by omega) (by omega)), hI90, (CM.cons S3 (CM.cons S14 (CM.cons S50 (CM.cons S63 (CM.cons S74 (CM.mono S89 (by decide) (by decide)) (by decide) (by decide)) (by decide) (by decide)) (by decide) (by decide)) (by decide) (by decide)) (by decide) (by decide))⟩
              refine k_aload_n C rfl rfl rfl ?_
              refine g_R C rfl rfl rfl T_r0 rfl R_r0_27 ?_
              refine k_iload_n C rfl rfl rfl ?_
              obtain ⟨T_r0_27, N_r0_27, A_r0_27⟩ := id H_r0_27
              refine z_aI C rfl rfl T_r0_27 N_r0_27 (by omega) (by omega) (fun x123 ex123 => ?_)
              have gx123 := rg x123
              have ox123 := IM.spR hI90 R_r0_27 ex123
              have hr159 : x123.toInt = NF I87 r0_27 n2.toInt.toNat := (congrArg Int32.toInt ex123).symm
              rw [eT9] at hr159
              refine k_goto C (pc2 := 193) rfl rfl ?_
              exact k_iret C rfl (Or.inl rfl) (Nat.le_of_ble_eq_true rfl) (Nat.le_of_ble_eq_true rfl) ⟨_, _, _, rfl, rfl, fun a1 h1 => by cases (R_r0_1.symm.trans h1); refine Or.inr (Or.inr ⟨by simp only [k0_r0_1_1]; omega, by simp only [k0_r0_1_E_6_10_n1_toNatClampNeg]; omega, by rw [e99]; omega, ?_⟩); simp only [k0_r0_1_0, k0_r0_1_E_6_10_n1_toNatClampNeg]; first | (exfalso; omega) | exact PWX.r (n := m9.toNat) (fun m hm => hPX m (by omega)) (by omega) hPWL (by first | exact PWA.b (by omega) (by omega) hr159 | exact PWA.c (by omega) (by omega) hr188 | exact PWA.d (by omega) (by omega) (by omega) (by omega)) | exact PWX.r (n := 0) (fun m hm => absurd hm (Nat.not_lt_zero m)) (by omega) (PWL.z (ts := T9) (cs := C9) (hF0.resolve_right (by omega))) (by first | exact PWA.b (by omega) (by omega) hr159 | exact PWA.c (by omega) (by omega) hr188 | exact PWA.d (by omega) (by omega) (by omega) (by omega)), hI90, (CM.cons S3 (CM.cons S14 (CM.cons S50 (CM.cons S63 (CM.cons S74 (CM.mono S89 (by decide) (by decide)) (by decide) (by decide)) (by decide) (by decide)) (by decide) (by decide)) (by decide) (by decide)) (by decide) (by decide))⟩
            refine k_aload_n C rfl rfl rfl ?_
            refine g_I C rfl rfl rfl T_r0 rfl e93 ?_
            exact k_iret C rfl (Or.inl rfl) (Nat.le_of_ble_eq_true rfl) (Nat.le_of_ble_eq_true rfl) ⟨_, _, _, rfl, rfl, fun a1 h1 => by cases (R_r0_1.symm.trans h1); refine Or.inr (Or.inr ⟨by simp only [k0_r0_1_1]; omega, by simp only [k0_r0_1_E_6_10_n1_toNatClampNeg]; omega, by rw [e99]; omega, ?_⟩); simp only [k0_r0_1_0, k0_r0_1_E_6_10_n1_toNatClampNeg]; first | (exfalso; omega) | exact PWX.r (n := m9.toNat) (fun m hm => hPX m (by omega)) (by omega) hPWL (PWA.a (by omega) (by omega)) | exact PWX.r (n := 0) (fun m hm => absurd hm (Nat.not_lt_zero m)) (by omega) (PWL.z (ts := T9) (cs := C9) (hF0.resolve_right (by omega))) (PWA.a (by omega) (by omega)), hI90, (CM.cons S3 (CM.cons S14 (CM.cons S50 (CM.cons S63 (CM.cons S74 (CM.mono S89 (by decide) (by decide)) (by decide) (by decide)) (by decide) (by decide)) (by decide) (by decide)) (by decide) (by decide)) (by decide) (by decide))⟩
          refine k_aload_n C rfl rfl rfl ?_
          refine g_I C rfl rfl rfl T_r0 rfl e93 ?_
          refine z_iconst C (z := 4) rfl rfl rfl (fun x124 ex124 => ?_)
          refine b_icmp_ge C (t := 121) rfl rfl rfl (fun c125 => ?_) (fun c125 => ?_)
          · skip
            obtain ⟨T9, eT9⟩ : ∃ f : Nat → Int, NF I87 r0_27 = f := ⟨_, rfl⟩
            obtain ⟨C9, eC9⟩ : ∃ f : Nat → Int, NF I87 r0_28 = f := ⟨_, rfl⟩
            (try rw [eT9, eC9] at hPW9)
            (try have hPWL := hPW9 (by omega))
            have hF0 : x92.toInt = 0 → ∀ k : Nat, (k : Int) ≤ w_r0_1_E_6_10_n1_toNatClampNeg.toInt → (fun k => (I r0_1 (7 + 10 * n1.toNatClampNeg + k)).toInt) k = 0 := (by first | exact ff82_3 | (intro h9; exfalso; omega))
            have hF0 : (∀ k : Nat, (k : Int) ≤ w_r0_1_E_6_10_n1_toNatClampNeg.toInt → (fun k => (I r0_1 (7 + 10 * n1.toNatClampNeg + k)).toInt) k = 0) ∨ x92.toInt ≠ 0 := (by exact (Classical.em (x92.toInt = 0)).elim (fun c9 => by (exact Or.inl (hF0 c9))) (fun c9 => by (exact Or.inr c9)))
            have hP4 : 4 ≤ x92.toInt → ∀ m, m < 4 → ¬ EXN w_r0_1_0.toInt w_r0_1_E_6_10_n1_toNatClampNeg.toInt (BNI w_r0_1_E_6_10_n1_toNatClampNeg.toInt) (fun k => (I r0_1 (7 + 10 * n1.toNatClampNeg + k)).toInt) m := (by first | exact fun h9 m hm => ff82_0 m (by omega) | (intro h9; exfalso; omega))
            refine k_aload_n C rfl rfl rfl ?_
            refine g_I C rfl rfl rfl T_r0 rfl e93 ?_
            refine z_iconst C (z := 3) rfl rfl rfl (fun x126 ex126 => ?_)
            refine b_icmp_le C (t := 131) rfl rfl rfl (fun c127 => by exfalso; omega) (fun c127 => ?_)
            refine z_iconst C (z := -1) rfl rfl rfl (fun x128 ex128 => ?_)
            exact k_iret C rfl (Or.inl rfl) (Nat.le_of_ble_eq_true rfl) (Nat.le_of_ble_eq_true rfl) ⟨_, _, _, rfl, rfl, fun a1 h1 => by cases (R_r0_1.symm.trans h1); refine Or.inr (Or.inr ⟨by simp only [k0_r0_1_1]; omega, by simp only [k0_r0_1_E_6_10_n1_toNatClampNeg]; omega, by rw [e99]; omega, ?_⟩); simp only [k0_r0_1_0, k0_r0_1_E_6_10_n1_toNatClampNeg]; exact PWX.n4 (hP4 (by omega)) (by omega), hI90, (CM.cons S3 (CM.cons S14 (CM.cons S50 (CM.cons S63 (CM.cons S74 (CM.mono S89 (by decide) (by decide)) (by decide) (by decide)) (by decide) (by decide)) (by decide) (by decide)) (by decide) (by decide)) (by decide) (by decide))⟩
          refine k_aload_n C rfl rfl rfl ?_
          refine k_aload_n C rfl rfl rfl ?_
          refine g_I C rfl rfl rfl T_r0 rfl e93 ?_
          have hk102 := e100
          have hq102 := e97
          obtain ⟨m9, em9⟩ : ∃ m : Int, m = x92.toInt := ⟨_, rfl⟩
          have hm9 := ncz (x := x92) (by omega)
          have hPX : ∀ m : Nat, (m : Int) < m9 → ¬ EXN w_r0_1_0.toInt w_r0_1_E_6_10_n1_toNatClampNeg.toInt (BNI w_r0_1_E_6_10_n1_toNatClampNeg.toInt) (fun k => (I r0_1 (7 + 10 * n1.toNatClampNeg + k)).toInt) m := fun m hm => ff82_0 m (by omega)
          refine c_VI C (a_X12_isSum_x hI90 H_r0 (by omega) (by omega) (fun a4 h4 => by cases (R_r0_4.symm.trans h4); (rw [e100]; omega)) (fun a4 h4 => by cases (R_r0_4.symm.trans h4); (rw [e100]; omega)) (fun a1 a4 a5 h1 h4 h5 => by cases (R_r0_1.symm.trans h1); cases (R_r0_4.symm.trans h4); cases (R_r0_5.symm.trans h5); (rw [e100, e97]; exact fun k hk => RWF.cn ff82_1 hcr k (by omega))) (fun a1 a4 a26 h1 h4 h26 => by cases (R_r0_1.symm.trans h1); cases (R_r0_4.symm.trans h4); cases (R_r0_26.symm.trans h26); (rw [e100, e97]; exact PWT.mv ff82_2 (by omega) rfl))) rfl rfl rfl rfl rfl ⟨_, rfl, rfl, T_r0, Nat.le_of_ble_eq_true rfl⟩ rfl rfl (Nat.le_of_ble_eq_true rfl) (Nat.le_of_ble_eq_true rfl) (Nat.le_of_ble_eq_true rfl) ?_
          rintro x129 I130 L131 ⟨o0x129, o1x129, p0x129, p1x129, p2x129, p3x129, hI130, S132⟩
          have p0x129 := p0x129 r0_1 r0_4 r0_5 r0_27 r0_28 R_r0_1 R_r0_4 R_r0_5 R_r0_27 R_r0_28
          have p1x129 := p1x129 r0_1 r0_4 r0_5 R_r0_1 R_r0_4 R_r0_5
          have p2x129 := p2x129 r0_4 R_r0_4
          have p3x129 := p3x129 r0_5 R_r0_5
          have F133 : ∀ r : Nat, r ≠ 42 → I130 r0_4 r = I87 r0_4 r := fun r z0 => p2x129 r (by first | exact z0)
          have e134 := CM.j S132 R_r0_1 (by decide) e96
          have e135 := CM.j S132 R_r0_1 (by decide) e97
          have e136 := CM.j S132 R_r0_1 (by decide) e98
          have e137 := CM.k S132 (by decide) e99
          have e138 := (p2x129 40 (by first | decide | exact ncne (by omega) (by omega) (by omega) | exact nckn (by omega) (by omega) | exact (nckn (by omega) (by omega)).symm)).trans e100
          have e139 := CM.k S132 (by decide) e93
          have gx129 := rg x129
          try simp only [e96, e97, e98, e99, e100, e93] at p0x129
          try have q0x129 := congrArg Int32.toInt p0x129
          try simp only [e96, e97, e98, e99, e100, e93] at p1x129
          try have q1x129 := congrArg Int32.toInt p1x129
          have hs1 := p0x129
          have hs0 := p1x129
          (try rw [hk102, hq102] at hs1)
          (try rw [hk102, hq102] at hs0)
          have h5s := p3x129
          have h26s := CM.j0 S132 R_r0_26 (by decide)
          have hPW9 : x129.toInt = 1 → PWL w_r0_1_0.toInt w_r0_1_E_6_10_n1_toNatClampNeg.toInt (BNI w_r0_1_E_6_10_n1_toNatClampNeg.toInt) (fun k => (I r0_1 (7 + 10 * n1.toNatClampNeg + k)).toInt) m9.toNat (NF I130 r0_27) (NF I130 r0_28) := fun h9 => PWL.mv (hs1 h9) (by omega) (by omega) (fun k hk => ff82_1 k (by omega))
          have hPX0 : x129.toInt = 0 → ¬ EXN w_r0_1_0.toInt w_r0_1_E_6_10_n1_toNatClampNeg.toInt (BNI w_r0_1_E_6_10_n1_toNatClampNeg.toInt) (fun k => (I r0_1 (7 + 10 * n1.toNatClampNeg + k)).toInt) m9.toNat := fun h9 h8 => hs0 h9 (EXN.mv h8 (by omega) (by omega) (fun k hk => (ff82_1 k (by omega)).symm))
          refine b_if_ne C (t := 121) rfl rfl rfl (fun c140 => ?_) (fun c140 => ?_)
          · skip
            obtain ⟨T9, eT9⟩ : ∃ f : Nat → Int, NF I130 r0_27 = f := ⟨_, rfl⟩
            obtain ⟨C9, eC9⟩ : ∃ f : Nat → Int, NF I130 r0_28 = f := ⟨_, rfl⟩
            (try rw [eT9, eC9] at hPW9)
            (try have hPWL := hPW9 (by omega))
            have hF0 : x92.toInt = 0 → ∀ k : Nat, (k : Int) ≤ w_r0_1_E_6_10_n1_toNatClampNeg.toInt → (fun k => (I r0_1 (7 + 10 * n1.toNatClampNeg + k)).toInt) k = 0 := (by first | exact ff82_3 | (intro h9; exfalso; omega))
            have hF0 : (∀ k : Nat, (k : Int) ≤ w_r0_1_E_6_10_n1_toNatClampNeg.toInt → (fun k => (I r0_1 (7 + 10 * n1.toNatClampNeg + k)).toInt) k = 0) ∨ x92.toInt ≠ 0 := (by exact (Classical.em (x92.toInt = 0)).elim (fun c9 => by (exact Or.inl (hF0 c9))) (fun c9 => by (exact Or.inr c9)))
            have hP4 : 4 ≤ x92.toInt → ∀ m, m < 4 → ¬ EXN w_r0_1_0.toInt w_r0_1_E_6_10_n1_toNatClampNeg.toInt (BNI w_r0_1_E_6_10_n1_toNatClampNeg.toInt) (fun k => (I r0_1 (7 + 10 * n1.toNatClampNeg + k)).toInt) m := (by first | exact fun h9 m hm => ff82_0 m (by omega) | (intro h9; exfalso; omega))
            refine k_aload_n C rfl rfl rfl ?_
            refine g_I C rfl rfl rfl T_r0 rfl e139 ?_
            refine z_iconst C (z := 3) rfl rfl rfl (fun x141 ex141 => ?_)
            refine b_icmp_le C (t := 131) rfl rfl rfl (fun c142 => ?_) (fun c142 => by exfalso; omega)
            refine k_iload_n C rfl rfl rfl ?_
            refine b_if_ge C (t := 140) rfl rfl rfl (fun c143 => ?_) (fun c143 => ?_)
            · skip
              refine k_iload_n C rfl rfl rfl ?_
              refine z_iconst C (z := 0) rfl rfl rfl (fun x144 ex144 => ?_)
              refine k_aload_n C rfl rfl rfl ?_
              refine g_I C rfl rfl rfl T_r0 rfl e139 ?_
              refine z_iconst C (z := 1) rfl rfl rfl (fun x145 ex145 => ?_)
              refine z_isub C rfl rfl ⟨by omega, by omega⟩ (fun x146 ex146 => ?_)
              have q147 : x144.toNatClampNeg = 0 := nck (by omega)
              refine c_SI C a_X12_in rfl rfl rfl rfl rfl rfl rfl (Nat.le_of_ble_eq_true rfl) (Nat.le_of_ble_eq_true rfl) (Nat.le_of_ble_eq_true rfl) ?_
              rintro x148 _ _ ⟨o0x148, o1x148, p0x148, rfl, rfl⟩
              have gx148 := rg x148
              try simp only [q147, e134, e135, e136, e137, e138, e139] at p0x148
              try have q0x148 := congrArg Int32.toInt p0x148
              have hin148 := p0x148
              refine b_if_eq C (t := 163) rfl rfl rfl (fun c149 => ?_) (fun c149 => ?_)
              · skip
                refine k_iload_n C rfl rfl rfl ?_
                refine z_bipush C (z := 10) rfl rfl rfl (fun x150 ex150 => ?_)
                refine z_isub C rfl rfl ⟨by omega, by omega⟩ (fun x151 ex151 => ?_)
                refine z_iconst C (z := 0) rfl rfl rfl (fun x152 ex152 => ?_)
                refine k_aload_n C rfl rfl rfl ?_
                refine g_I C rfl rfl rfl T_r0 rfl e139 ?_
                refine z_iconst C (z := 1) rfl rfl rfl (fun x153 ex153 => ?_)
                refine z_isub C rfl rfl ⟨by omega, by omega⟩ (fun x154 ex154 => ?_)
                have q155 : x152.toNatClampNeg = 0 := nck (by omega)
                refine c_SI C a_X12_in rfl rfl rfl rfl rfl rfl rfl (Nat.le_of_ble_eq_true rfl) (Nat.le_of_ble_eq_true rfl) (Nat.le_of_ble_eq_true rfl) ?_
                rintro x156 _ _ ⟨o0x156, o1x156, p0x156, rfl, rfl⟩
                have gx156 := rg x156
                try simp only [q155, e134, e135, e136, e137, e138, e139] at p0x156
                try have q0x156 := congrArg Int32.toInt p0x156
                have hin174 := p0x156
                refine b_if_eq C (t := 192) rfl rfl rfl (fun c157 => ?_) (fun c157 => ?_)
                · skip
                  refine z_iconst C (z := -1) rfl rfl rfl (fun x158 ex158 => ?_)
                  exact k_iret C rfl (Or.inl rfl) (Nat.le_of_ble_eq_true rfl) (Nat.le_of_ble_eq_true rfl) ⟨_, _, _, rfl, rfl, fun a1 h1 => by cases (R_r0_1.symm.trans h1); refine Or.inr (Or.inr ⟨by simp only [k0_r0_1_1]; omega, by simp only [k0_r0_1_E_6_10_n1_toNatClampNeg]; omega, by rw [e137]; omega, ?_⟩); simp only [k0_r0_1_0, k0_r0_1_E_6_10_n1_toNatClampNeg]; first | (exfalso; omega) | exact PWX.r (n := m9.toNat) (fun m hm => hPX m (by omega)) (by omega) hPWL (by first | exact PWA.b (by omega) (by omega) hr159 | exact PWA.c (by omega) (by omega) hr188 | exact PWA.d (by omega) (by omega) (by omega) (by omega)) | exact PWX.r (n := 0) (fun m hm => absurd hm (Nat.not_lt_zero m)) (by omega) (PWL.z (ts := T9) (cs := C9) (hF0.resolve_right (by omega))) (by first | exact PWA.b (by omega) (by omega) hr159 | exact PWA.c (by omega) (by omega) hr188 | exact PWA.d (by omega) (by omega) (by omega) (by omega)), hI130, (CM.cons S3 (CM.cons S14 (CM.cons S50 (CM.cons S63 (CM.cons S74 (CM.cons S89 (CM.mono S132 (by decide) (by decide)) (by decide) (by decide)) (by decide) (by decide)) (by decide) (by decide)) (by decide) (by decide)) (by decide) (by decide)) (by decide) (by decide))⟩
                refine k_aload_n C rfl rfl rfl ?_
                refine g_R C rfl rfl rfl T_r0 rfl R_r0_28 ?_
                refine k_iload_n C rfl rfl rfl ?_
                refine z_bipush C (z := 10) rfl rfl rfl (fun x159 ex159 => ?_)
                refine z_isub C rfl rfl ⟨by omega, by omega⟩ (fun x160 ex160 => ?_)
                obtain ⟨T_r0_28, N_r0_28, A_r0_28⟩ := id H_r0_28
                refine z_aI C rfl rfl T_r0_28 N_r0_28 (by omega) (by omega) (fun x161 ex161 => ?_)
                have gx161 := rg x161
                have ox161 := IM.faR hI130 R_r0_28 ex161
                have hj188 : x160.toNatClampNeg = (n2.toInt - 10).toNat := (by have h9 := ncz (x := x160) (by omega); omega)
                have hr188 : x161.toInt = NF I130 r0_28 (n2.toInt - 10).toNat := (by rw [← hj188]; exact (congrArg Int32.toInt ex161).symm)
                rw [eC9] at hr188
                refine k_goto C (pc2 := 193) rfl rfl ?_
                exact k_iret C rfl (Or.inl rfl) (Nat.le_of_ble_eq_true rfl) (Nat.le_of_ble_eq_true rfl) ⟨_, _, _, rfl, rfl, fun a1 h1 => by cases (R_r0_1.symm.trans h1); refine Or.inr (Or.inr ⟨by simp only [k0_r0_1_1]; omega, by simp only [k0_r0_1_E_6_10_n1_toNatClampNeg]; omega, by rw [e137]; omega, ?_⟩); simp only [k0_r0_1_0, k0_r0_1_E_6_10_n1_toNatClampNeg]; first | (exfalso; omega) | exact PWX.r (n := m9.toNat) (fun m hm => hPX m (by omega)) (by omega) hPWL (by first | exact PWA.b (by omega) (by omega) hr159 | exact PWA.c (by omega) (by omega) hr188 | exact PWA.d (by omega) (by omega) (by omega) (by omega)) | exact PWX.r (n := 0) (fun m hm => absurd hm (Nat.not_lt_zero m)) (by omega) (PWL.z (ts := T9) (cs := C9) (hF0.resolve_right (by omega))) (by first | exact PWA.b (by omega) (by omega) hr159 | exact PWA.c (by omega) (by omega) hr188 | exact PWA.d (by omega) (by omega) (by omega) (by omega)), hI130, (CM.cons S3 (CM.cons S14 (CM.cons S50 (CM.cons S63 (CM.cons S74 (CM.cons S89 (CM.mono S132 (by decide) (by decide)) (by decide) (by decide)) (by decide) (by decide)) (by decide) (by decide)) (by decide) (by decide)) (by decide) (by decide)) (by decide) (by decide))⟩
              refine k_aload_n C rfl rfl rfl ?_
              refine g_R C rfl rfl rfl T_r0 rfl R_r0_27 ?_
              refine k_iload_n C rfl rfl rfl ?_
              obtain ⟨T_r0_27, N_r0_27, A_r0_27⟩ := id H_r0_27
              refine z_aI C rfl rfl T_r0_27 N_r0_27 (by omega) (by omega) (fun x162 ex162 => ?_)
              have gx162 := rg x162
              have ox162 := IM.spR hI130 R_r0_27 ex162
              have hr159 : x162.toInt = NF I130 r0_27 n2.toInt.toNat := (congrArg Int32.toInt ex162).symm
              rw [eT9] at hr159
              refine k_goto C (pc2 := 193) rfl rfl ?_
              exact k_iret C rfl (Or.inl rfl) (Nat.le_of_ble_eq_true rfl) (Nat.le_of_ble_eq_true rfl) ⟨_, _, _, rfl, rfl, fun a1 h1 => by cases (R_r0_1.symm.trans h1); refine Or.inr (Or.inr ⟨by simp only [k0_r0_1_1]; omega, by simp only [k0_r0_1_E_6_10_n1_toNatClampNeg]; omega, by rw [e137]; omega, ?_⟩); simp only [k0_r0_1_0, k0_r0_1_E_6_10_n1_toNatClampNeg]; first | (exfalso; omega) | exact PWX.r (n := m9.toNat) (fun m hm => hPX m (by omega)) (by omega) hPWL (by first | exact PWA.b (by omega) (by omega) hr159 | exact PWA.c (by omega) (by omega) hr188 | exact PWA.d (by omega) (by omega) (by omega) (by omega)) | exact PWX.r (n := 0) (fun m hm => absurd hm (Nat.not_lt_zero m)) (by omega) (PWL.z (ts := T9) (cs := C9) (hF0.resolve_right (by omega))) (by first | exact PWA.b (by omega) (by omega) hr159 | exact PWA.c (by omega) (by omega) hr188 | exact PWA.d (by omega) (by omega) (by omega) (by omega)), hI130, (CM.cons S3 (CM.cons S14 (CM.cons S50 (CM.cons S63 (CM.cons S74 (CM.cons S89 (CM.mono S132 (by decide) (by decide)) (by decide) (by decide)) (by decide) (by decide)) (by decide) (by decide)) (by decide) (by decide)) (by decide) (by decide)) (by decide) (by decide))⟩
            refine k_aload_n C rfl rfl rfl ?_
            refine g_I C rfl rfl rfl T_r0 rfl e139 ?_
            exact k_iret C rfl (Or.inl rfl) (Nat.le_of_ble_eq_true rfl) (Nat.le_of_ble_eq_true rfl) ⟨_, _, _, rfl, rfl, fun a1 h1 => by cases (R_r0_1.symm.trans h1); refine Or.inr (Or.inr ⟨by simp only [k0_r0_1_1]; omega, by simp only [k0_r0_1_E_6_10_n1_toNatClampNeg]; omega, by rw [e137]; omega, ?_⟩); simp only [k0_r0_1_0, k0_r0_1_E_6_10_n1_toNatClampNeg]; first | (exfalso; omega) | exact PWX.r (n := m9.toNat) (fun m hm => hPX m (by omega)) (by omega) hPWL (PWA.a (by omega) (by omega)) | exact PWX.r (n := 0) (fun m hm => absurd hm (Nat.not_lt_zero m)) (by omega) (PWL.z (ts := T9) (cs := C9) (hF0.resolve_right (by omega))) (PWA.a (by omega) (by omega)), hI130, (CM.cons S3 (CM.cons S14 (CM.cons S50 (CM.cons S63 (CM.cons S74 (CM.cons S89 (CM.mono S132 (by decide) (by decide)) (by decide) (by decide)) (by decide) (by decide)) (by decide) (by decide)) (by decide) (by decide)) (by decide) (by decide)) (by decide) (by decide))⟩
          refine k_aload_n C rfl rfl rfl ?_
          refine k_dup C rfl rfl rfl ?_
          refine g_I C rfl rfl rfl T_r0 rfl e139 ?_
          refine z_iconst C (z := 1) rfl rfl rfl (fun x163 ex163 => ?_)
          refine z_iadd C rfl rfl ⟨by omega, by omega⟩ (fun x164 ex164 => ?_)
          refine z_pI C rfl rfl rfl T_r0 (Or.inr rfl) rfl (fun I165 uI165 => ?_)
          have hI165 : IM R r0 I165 := IM.fld hI130 G_r0 ⟨(fun h => absurd h (by decide)), (fun h => absurd h (by decide)), (fun h => absurd h (by decide)), (fun h => absurd h (by decide)), (fun h => absurd h (by decide))⟩ uI165
          have S166 : CM A R r0 [29] [] I130 L131 I165 L131 := CM.f G_r0 A_r0 uI165
          have e167 := u2_n uI165 (mF.ne G_r0 R_r0_1) e134
          have e168 := u2_n uI165 (mF.ne G_r0 R_r0_1) e135
          have e169 := u2_n uI165 (mF.ne G_r0 R_r0_1) e136
          have e170 := u2_j uI165 (by first | decide | exact ncne (by omega) (by omega) (by omega) | exact nckn (by omega) (by omega) | exact (nckn (by omega) (by omega)).symm) e137
          have e171 := u2_n uI165 (mF.ne G_r0 R_r0_4) e138
          have e173 := u2_e uI165
          refine k_goto C (pc2 := 82) rfl rfl ?_
          refine k_sub S [(0, .ref r0), (2, .int n2)] (List.forall_mem_cons.mpr ⟨List.mem_of_getElem? (i := 0) rfl, List.forall_mem_cons.mpr ⟨List.mem_of_getElem? (i := 1) rfl, fun _ h => nomatch h⟩⟩) ?_
          exact ihJ85 _ (MN.lt hmnn86 (by omega) (by omega)) I165 L131 x164 rfl hI165 (CM.cons S89 (CM.cons S132 (CM.mono S166 (by decide) (by decide)) (by decide) (by decide)) (by decide) (by decide)) (fun r z0 => ((congrFun (CM.j0 S166 R_r0_4 (by decide)) r).trans ((F133 r z0).trans (F91 r z0)))) e173 (by omega) (by omega) (by intro m hm; exact (Classical.em ((m : Int) < m9)).elim (fun c9 => by (exact hPX m c9)) (fun c9 => by ((have e9 : m = m9.toNat := (by omega); rw [e9]; exact hPX0 (by omega))))) (by exact RWF.sm ff82_1 (fun k hk => h5s _ (by omega)) (by omega)) (by exact PWT.mv ff82_2 rfl h26s.symm) (by intro h9; exfalso; omega)
      refine z_pI C rfl rfl rfl T_r0 (Or.inr rfl) rfl (fun I174 uI174 => ?_)
      have hI174 : IM R r0 I174 := IM.fld hI72 G_r0 ⟨(fun h => absurd h (by decide)), (fun h => absurd h (by decide)), (fun h => absurd h (by decide)), (fun h => absurd h (by decide)), (fun h => absurd h (by decide))⟩ uI174
      have S175 : CM A R r0 [29] [] I72 L73 I174 L73 := CM.f G_r0 A_r0 uI174
      have e176 := u2_n uI174 (mF.ne G_r0 R_r0_1) e75
      have e177 := u2_n uI174 (mF.ne G_r0 R_r0_1) e76
      have e178 := u2_n uI174 (mF.ne G_r0 R_r0_1) e77
      have e179 := u2_j uI174 (by first | decide | exact ncne (by omega) (by omega) (by omega) | exact nckn (by omega) (by omega) | exact (nckn (by omega) (by omega)).symm) e78
      have e180 := u2_n uI174 (mF.ne G_r0 R_r0_4) e79
      have e181 := u2_e uI174
      refine k_sub S [(0, .ref r0), (2, .int n2)] (List.forall_mem_cons.mpr ⟨List.mem_of_getElem? (i := 0) rfl, List.forall_mem_cons.mpr ⟨List.mem_of_getElem? (i := 2) rfl, fun _ h => nomatch h⟩⟩) ?_
      exact J85 _ I174 L73 x84 rfl hI174 (CM.mono S175 (by decide) (by decide)) (fun r z0 => (congrFun (CM.j0 S175 R_r0_4 (by decide)) r)) e181 (by omega) (by omega) (by intro m hm hx; exact (hN.2 (by omega)) (fun k hk => ((EXN.z0.mp ((show m = 0 from by omega) ▸ hx)) k (by omega)).zr (hcr k (by omega)).1 (hcr k (by omega)).2)) (by exact hRWr) (by exact PWT.mv hpt (by omega) rfl) (by intro h9 k hk; exact (hN.1 (by omega)) k (by omega))
    refine z_iconst C (z := 0) rfl rfl rfl (fun x182 ex182 => ?_)
    refine k_goto C (pc2 := 79) rfl rfl ?_
    have J183 : ∀ (nn184 : Nat) (I185 : IT) (L186 : LT) (x190 : Int32), (MN (4 - x190.toInt) nn184) → (IM R r0 I185) → (CM A R r0 [29] [4, 5, 27, 28] I72 L73 I185 L186) → (∀ r : Nat, r ≠ 42 → I185 r0_4 r = I72 r0_4 r) → (I185 r0 29 = x190) → (0 ≤ x190.toInt) → (x190.toInt ≤ 4) → ((∀ m : Nat, (m : Int) < x190.toInt → ¬ EXN w_r0_1_0.toInt w_r0_1_E_6_10_n1_toNatClampNeg.toInt (BNI w_r0_1_E_6_10_n1_toNatClampNeg.toInt) (fun k => (I r0_1 (7 + 10 * n1.toNatClampNeg + k)).toInt) m)) → (RWF I185 r0_5 40 w_r0_1_E_6_10_n1_toNatClampNeg.toInt (fun k => (I r0_1 (7 + 10 * n1.toNatClampNeg + k)).toInt)) → (PWT (I185 r0_26) w_r0_1_0.toInt w_r0_1_E_6_10_n1_toNatClampNeg.toInt (w_r0_1_0.toInt + 1)) → (x190.toInt = 0 → ∀ k : Nat, (k : Int) ≤ w_r0_1_E_6_10_n1_toNatClampNeg.toInt → (fun k => (I r0_1 (7 + 10 * n1.toNatClampNeg + k)).toInt) k = 0) → V 82 [(0, .ref r0), (2, .int n2)] [] (T, N, I185, L186, R) 0 0 := by
      intro nn184
      induction nn184 using Nat.strongRecOn with
      | _ nn184 ihJ183 =>
        intro I185 L186 x190 hmnn184 hI188 S187 F189 e191 b192 b193 ff82_0 ff82_1 ff82_2 ff82_3
        have gx190 := rg x190
        have e194 := CM.j S187 R_r0_1 (by decide) e75
        have e195 := CM.j S187 R_r0_1 (by decide) e76
        have e196 := CM.j S187 R_r0_1 (by decide) e77
        have e197 := CM.k S187 (by decide) e78
        have e198 := (F189 40 (by first | decide | exact ncne (by omega) (by omega) (by omega) | exact nckn (by omega) (by omega) | exact (nckn (by omega) (by omega)).symm)).trans e79
        refine k_aload_n C rfl rfl rfl ?_
        refine g_I C rfl rfl rfl T_r0 rfl e191 ?_
        refine b_if_le C (t := 121) rfl rfl rfl (fun c199 => ?_) (fun c199 => ?_)
        · skip
          obtain ⟨T9, eT9⟩ : ∃ f : Nat → Int, NF I185 r0_27 = f := ⟨_, rfl⟩
          obtain ⟨C9, eC9⟩ : ∃ f : Nat → Int, NF I185 r0_28 = f := ⟨_, rfl⟩
          (try rw [eT9, eC9] at hPW9)
          (try have hPWL := hPW9 (by omega))
          have hF0 : x190.toInt = 0 → ∀ k : Nat, (k : Int) ≤ w_r0_1_E_6_10_n1_toNatClampNeg.toInt → (fun k => (I r0_1 (7 + 10 * n1.toNatClampNeg + k)).toInt) k = 0 := (by first | exact ff82_3 | (intro h9; exfalso; omega))
          have hF0 : (∀ k : Nat, (k : Int) ≤ w_r0_1_E_6_10_n1_toNatClampNeg.toInt → (fun k => (I r0_1 (7 + 10 * n1.toNatClampNeg + k)).toInt) k = 0) ∨ x190.toInt ≠ 0 := (by exact (Classical.em (x190.toInt = 0)).elim (fun c9 => by (exact Or.inl (hF0 c9))) (fun c9 => by (exact Or.inr c9)))
          have hP4 : 4 ≤ x190.toInt → ∀ m, m < 4 → ¬ EXN w_r0_1_0.toInt w_r0_1_E_6_10_n1_toNatClampNeg.toInt (BNI w_r0_1_E_6_10_n1_toNatClampNeg.toInt) (fun k => (I r0_1 (7 + 10 * n1.toNatClampNeg + k)).toInt) m := (by first | exact fun h9 m hm => ff82_0 m (by omega) | (intro h9; exfalso; omega))
          refine k_aload_n C rfl rfl rfl ?_
          refine g_I C rfl rfl rfl T_r0 rfl e191 ?_
          refine z_iconst C (z := 3) rfl rfl rfl (fun x200 ex200 => ?_)
          refine b_icmp_le C (t := 131) rfl rfl rfl (fun c201 => ?_) (fun c201 => by exfalso; omega)
          refine k_iload_n C rfl rfl rfl ?_
          refine b_if_ge C (t := 140) rfl rfl rfl (fun c202 => ?_) (fun c202 => ?_)
          · skip
            refine k_iload_n C rfl rfl rfl ?_
            refine z_iconst C (z := 0) rfl rfl rfl (fun x203 ex203 => ?_)
            refine k_aload_n C rfl rfl rfl ?_
            refine g_I C rfl rfl rfl T_r0 rfl e191 ?_
            refine z_iconst C (z := 1) rfl rfl rfl (fun x204 ex204 => ?_)
            refine z_isub C rfl rfl ⟨by omega, by omega⟩ (fun x205 ex205 => ?_)
            have q206 : x203.toNatClampNeg = 0 := nck (by omega)
            refine c_SI C a_X12_in rfl rfl rfl rfl rfl rfl rfl (Nat.le_of_ble_eq_true rfl) (Nat.le_of_ble_eq_true rfl) (Nat.le_of_ble_eq_true rfl) ?_
            rintro x207 _ _ ⟨o0x207, o1x207, p0x207, rfl, rfl⟩
            have gx207 := rg x207
            try simp only [q206, e194, e195, e196, e197, e198, e191] at p0x207
            try have q0x207 := congrArg Int32.toInt p0x207
            have hin148 := p0x207
            refine b_if_eq C (t := 163) rfl rfl rfl (fun c208 => ?_) (fun c208 => ?_)
            · skip
              refine k_iload_n C rfl rfl rfl ?_
              refine z_bipush C (z := 10) rfl rfl rfl (fun x209 ex209 => ?_)
              refine z_isub C rfl rfl ⟨by omega, by omega⟩ (fun x210 ex210 => ?_)
              refine z_iconst C (z := 0) rfl rfl rfl (fun x211 ex211 => ?_)
              refine k_aload_n C rfl rfl rfl ?_
              refine g_I C rfl rfl rfl T_r0 rfl e191 ?_
              refine z_iconst C (z := 1) rfl rfl rfl (fun x212 ex212 => ?_)
              refine z_isub C rfl rfl ⟨by omega, by omega⟩ (fun x213 ex213 => ?_)
              have q214 : x211.toNatClampNeg = 0 := nck (by omega)
              refine c_SI C a_X12_in rfl rfl rfl rfl rfl rfl rfl (Nat.le_of_ble_eq_true rfl) (Nat.le_of_ble_eq_true rfl) (Nat.le_of_ble_eq_true rfl) ?_
              rintro x215 _ _ ⟨o0x215, o1x215, p0x215, rfl, rfl⟩
              have gx215 := rg x215
              try simp only [q214, e194, e195, e196, e197, e198, e191] at p0x215
              try have q0x215 := congrArg Int32.toInt p0x215
              have hin174 := p0x215
              refine b_if_eq C (t := 192) rfl rfl rfl (fun c216 => ?_) (fun c216 => ?_)
              · skip
                refine z_iconst C (z := -1) rfl rfl rfl (fun x217 ex217 => ?_)
                exact k_iret C rfl (Or.inl rfl) (Nat.le_of_ble_eq_true rfl) (Nat.le_of_ble_eq_true rfl) ⟨_, _, _, rfl, rfl, fun a1 h1 => by cases (R_r0_1.symm.trans h1); refine Or.inr (Or.inr ⟨by simp only [k0_r0_1_1]; omega, by simp only [k0_r0_1_E_6_10_n1_toNatClampNeg]; omega, by rw [e197]; omega, ?_⟩); simp only [k0_r0_1_0, k0_r0_1_E_6_10_n1_toNatClampNeg]; first | (exfalso; omega) | exact PWX.r (n := m9.toNat) (fun m hm => hPX m (by omega)) (by omega) hPWL (by first | exact PWA.b (by omega) (by omega) hr159 | exact PWA.c (by omega) (by omega) hr188 | exact PWA.d (by omega) (by omega) (by omega) (by omega)) | exact PWX.r (n := 0) (fun m hm => absurd hm (Nat.not_lt_zero m)) (by omega) (PWL.z (ts := T9) (cs := C9) (hF0.resolve_right (by omega))) (by first | exact PWA.b (by omega) (by omega) hr159 | exact PWA.c (by omega) (by omega) hr188 | exact PWA.d (by omega) (by omega) (by omega) (by omega)), hI188, (CM.cons S3 (CM.cons S14 (CM.cons S50 (CM.cons S63 (CM.cons S74 (CM.mono S187 (by decide) (by decide)) (by decide) (by decide)) (by decide) (by decide)) (by decide) (by decide)) (by decide) (by decide)) (by decide) (by decide))⟩
              refine k_aload_n C rfl rfl rfl ?_
              refine g_R C rfl rfl rfl T_r0 rfl R_r0_28 ?_
              refine k_iload_n C rfl rfl rfl ?_
              refine z_bipush C (z := 10) rfl rfl rfl (fun x218 ex218 => ?_)
              refine z_isub C rfl rfl ⟨by omega, by omega⟩ (fun x219 ex219 => ?_)
              obtain ⟨T_r0_28, N_r0_28, A_r0_28⟩ := id H_r0_28
              refine z_aI C rfl rfl T_r0_28 N_r0_28 (by omega) (by omega) (fun x220 ex220 => ?_)
              have gx220 := rg x220
              have ox220 := IM.faR hI188 R_r0_28 ex220
              have hj188 : x219.toNatClampNeg = (n2.toInt - 10).toNat := (by have h9 := ncz (x := x219) (by omega); omega)
              have hr188 : x220.toInt = NF I185 r0_28 (n2.toInt - 10).toNat := (by rw [← hj188]; exact (congrArg Int32.toInt ex220).symm)
              rw [eC9] at hr188
              refine k_goto C (pc2 := 193) rfl rfl ?_
              exact k_iret C rfl (Or.inl rfl) (Nat.le_of_ble_eq_true rfl) (Nat.le_of_ble_eq_true rfl) ⟨_, _, _, rfl, rfl, fun a1 h1 => by cases (R_r0_1.symm.trans h1); refine Or.inr (Or.inr ⟨by simp only [k0_r0_1_1]; omega, by simp only [k0_r0_1_E_6_10_n1_toNatClampNeg]; omega, by rw [e197]; omega, ?_⟩); simp only [k0_r0_1_0, k0_r0_1_E_6_10_n1_toNatClampNeg]; first | (exfalso; omega) | exact PWX.r (n := m9.toNat) (fun m hm => hPX m (by omega)) (by omega) hPWL (by first | exact PWA.b (by omega) (by omega) hr159 | exact PWA.c (by omega) (by omega) hr188 | exact PWA.d (by omega) (by omega) (by omega) (by omega)) | exact PWX.r (n := 0) (fun m hm => absurd hm (Nat.not_lt_zero m)) (by omega) (PWL.z (ts := T9) (cs := C9) (hF0.resolve_right (by omega))) (by first | exact PWA.b (by omega) (by omega) hr159 | exact PWA.c (by omega) (by omega) hr188 | exact PWA.d (by omega) (by omega) (by omega) (by omega)), hI188, (CM.cons S3 (CM.cons S14 (CM.cons S50 (CM.cons S63 (CM.cons S74 (CM.mono S187 (by decide) (by decide)) (by decide) (by decide)) (by decide) (by decide)) (by decide) (by decide)) (by decide) (by decide)) (by decide) (by decide))⟩
            refine k_aload_n C rfl rfl rfl ?_
            refine g_R C rfl rfl rfl T_r0 rfl R_r0_27 ?_
            refine k_iload_n C rfl rfl rfl ?_
            obtain ⟨T_r0_27, N_r0_27, A_r0_27⟩ := id H_r0_27
            refine z_aI C rfl rfl T_r0_27 N_r0_27 (by omega) (by omega) (fun x221 ex221 => ?_)
            have gx221 := rg x221
            have ox221 := IM.spR hI188 R_r0_27 ex221
            have hr159 : x221.toInt = NF I185 r0_27 n2.toInt.toNat := (congrArg Int32.toInt ex221).symm
            rw [eT9] at hr159
            refine k_goto C (pc2 := 193) rfl rfl ?_
            exact k_iret C rfl (Or.inl rfl) (Nat.le_of_ble_eq_true rfl) (Nat.le_of_ble_eq_true rfl) ⟨_, _, _, rfl, rfl, fun a1 h1 => by cases (R_r0_1.symm.trans h1); refine Or.inr (Or.inr ⟨by simp only [k0_r0_1_1]; omega, by simp only [k0_r0_1_E_6_10_n1_toNatClampNeg]; omega, by rw [e197]; omega, ?_⟩); simp only [k0_r0_1_0, k0_r0_1_E_6_10_n1_toNatClampNeg]; first | (exfalso; omega) | exact PWX.r (n := m9.toNat) (fun m hm => hPX m (by omega)) (by omega) hPWL (by first | exact PWA.b (by omega) (by omega) hr159 | exact PWA.c (by omega) (by omega) hr188 | exact PWA.d (by omega) (by omega) (by omega) (by omega)) | exact PWX.r (n := 0) (fun m hm => absurd hm (Nat.not_lt_zero m)) (by omega) (PWL.z (ts := T9) (cs := C9) (hF0.resolve_right (by omega))) (by first | exact PWA.b (by omega) (by omega) hr159 | exact PWA.c (by omega) (by omega) hr188 | exact PWA.d (by omega) (by omega) (by omega) (by omega)), hI188, (CM.cons S3 (CM.cons S14 (CM.cons S50 (CM.cons S63 (CM.cons S74 (CM.mono S187 (by decide) (by decide)) (by decide) (by decide)) (by decide) (by decide)) (by decide) (by decide)) (by decide) (by decide)) (by decide) (by decide))⟩
          refine k_aload_n C rfl rfl rfl ?_
          refine g_I C rfl rfl rfl T_r0 rfl e191 ?_
          exact k_iret C rfl (Or.inl rfl) (Nat.le_of_ble_eq_true rfl) (Nat.le_of_ble_eq_true rfl) ⟨_, _, _, rfl, rfl, fun a1 h1 => by cases (R_r0_1.symm.trans h1); refine Or.inr (Or.inr ⟨by simp only [k0_r0_1_1]; omega, by simp only [k0_r0_1_E_6_10_n1_toNatClampNeg]; omega, by rw [e197]; omega, ?_⟩); simp only [k0_r0_1_0, k0_r0_1_E_6_10_n1_toNatClampNeg]; first | (exfalso; omega) | exact PWX.r (n := m9.toNat) (fun m hm => hPX m (by omega)) (by omega) hPWL (PWA.a (by omega) (by omega)) | exact PWX.r (n := 0) (fun m hm => absurd hm (Nat.not_lt_zero m)) (by omega) (PWL.z (ts := T9) (cs := C9) (hF0.resolve_right (by omega))) (PWA.a (by omega) (by omega)), hI188, (CM.cons S3 (CM.cons S14 (CM.cons S50 (CM.cons S63 (CM.cons S74 (CM.mono S187 (by decide) (by decide)) (by decide) (by decide)) (by decide) (by decide)) (by decide) (by decide)) (by decide) (by decide)) (by decide) (by decide))⟩
        refine k_aload_n C rfl rfl rfl ?_
        refine g_I C rfl rfl rfl T_r0 rfl e191 ?_
        refine z_iconst C (z := 4) rfl rfl rfl (fun x222 ex222 => ?_)
        refine b_icmp_ge C (t := 121) rfl rfl rfl (fun c223 => ?_) (fun c223 => ?_)
        · skip
          obtain ⟨T9, eT9⟩ : ∃ f : Nat → Int, NF I185 r0_27 = f := ⟨_, rfl⟩
          obtain ⟨C9, eC9⟩ : ∃ f : Nat → Int, NF I185 r0_28 = f := ⟨_, rfl⟩
          (try rw [eT9, eC9] at hPW9)
          (try have hPWL := hPW9 (by omega))
          have hF0 : x190.toInt = 0 → ∀ k : Nat, (k : Int) ≤ w_r0_1_E_6_10_n1_toNatClampNeg.toInt → (fun k => (I r0_1 (7 + 10 * n1.toNatClampNeg + k)).toInt) k = 0 := (by first | exact ff82_3 | (intro h9; exfalso; omega))
          have hF0 : (∀ k : Nat, (k : Int) ≤ w_r0_1_E_6_10_n1_toNatClampNeg.toInt → (fun k => (I r0_1 (7 + 10 * n1.toNatClampNeg + k)).toInt) k = 0) ∨ x190.toInt ≠ 0 := (by exact (Classical.em (x190.toInt = 0)).elim (fun c9 => by (exact Or.inl (hF0 c9))) (fun c9 => by (exact Or.inr c9)))
          have hP4 : 4 ≤ x190.toInt → ∀ m, m < 4 → ¬ EXN w_r0_1_0.toInt w_r0_1_E_6_10_n1_toNatClampNeg.toInt (BNI w_r0_1_E_6_10_n1_toNatClampNeg.toInt) (fun k => (I r0_1 (7 + 10 * n1.toNatClampNeg + k)).toInt) m := (by first | exact fun h9 m hm => ff82_0 m (by omega) | (intro h9; exfalso; omega))
          refine k_aload_n C rfl rfl rfl ?_
          refine g_I C rfl rfl rfl T_r0 rfl e191 ?_
          refine z_iconst C (z := 3) rfl rfl rfl (fun x224 ex224 => ?_)
          refine b_icmp_le C (t := 131) rfl rfl rfl (fun c225 => by exfalso; omega) (fun c225 => ?_)
          refine z_iconst C (z := -1) rfl rfl rfl (fun x226 ex226 => ?_)
          exact k_iret C rfl (Or.inl rfl) (Nat.le_of_ble_eq_true rfl) (Nat.le_of_ble_eq_true rfl) ⟨_, _, _, rfl, rfl, fun a1 h1 => by cases (R_r0_1.symm.trans h1); refine Or.inr (Or.inr ⟨by simp only [k0_r0_1_1]; omega, by simp only [k0_r0_1_E_6_10_n1_toNatClampNeg]; omega, by rw [e197]; omega, ?_⟩); simp only [k0_r0_1_0, k0_r0_1_E_6_10_n1_toNatClampNeg]; exact PWX.n4 (hP4 (by omega)) (by omega), hI188, (CM.cons S3 (CM.cons S14 (CM.cons S50 (CM.cons S63 (CM.cons S74 (CM.mono S187 (by decide) (by decide)) (by decide) (by decide)) (by decide) (by decide)) (by decide) (by decide)) (by decide) (by decide)) (by decide) (by decide))⟩
        refine k_aload_n C rfl rfl rfl ?_
        refine k_aload_n C rfl rfl rfl ?_
        refine g_I C rfl rfl rfl T_r0 rfl e191 ?_
        have hk102 := e198
        have hq102 := e195
        obtain ⟨m9, em9⟩ : ∃ m : Int, m = x190.toInt := ⟨_, rfl⟩
        have hm9 := ncz (x := x190) (by omega)
        have hPX : ∀ m : Nat, (m : Int) < m9 → ¬ EXN w_r0_1_0.toInt w_r0_1_E_6_10_n1_toNatClampNeg.toInt (BNI w_r0_1_E_6_10_n1_toNatClampNeg.toInt) (fun k => (I r0_1 (7 + 10 * n1.toNatClampNeg + k)).toInt) m := fun m hm => ff82_0 m (by omega)
        refine c_VI C (a_X12_isSum_x hI188 H_r0 (by omega) (by omega) (fun a4 h4 => by cases (R_r0_4.symm.trans h4); (rw [e198]; omega)) (fun a4 h4 => by cases (R_r0_4.symm.trans h4); (rw [e198]; omega)) (fun a1 a4 a5 h1 h4 h5 => by cases (R_r0_1.symm.trans h1); cases (R_r0_4.symm.trans h4); cases (R_r0_5.symm.trans h5); (rw [e198, e195]; exact fun k hk => RWF.cn ff82_1 hcr k (by omega))) (fun a1 a4 a26 h1 h4 h26 => by cases (R_r0_1.symm.trans h1); cases (R_r0_4.symm.trans h4); cases (R_r0_26.symm.trans h26); (rw [e198, e195]; exact PWT.mv ff82_2 (by omega) rfl))) rfl rfl rfl rfl rfl ⟨_, rfl, rfl, T_r0, Nat.le_of_ble_eq_true rfl⟩ rfl rfl (Nat.le_of_ble_eq_true rfl) (Nat.le_of_ble_eq_true rfl) (Nat.le_of_ble_eq_true rfl) ?_
        rintro x227 I228 L229 ⟨o0x227, o1x227, p0x227, p1x227, p2x227, p3x227, hI228, S230⟩
        have p0x227 := p0x227 r0_1 r0_4 r0_5 r0_27 r0_28 R_r0_1 R_r0_4 R_r0_5 R_r0_27 R_r0_28
        have p1x227 := p1x227 r0_1 r0_4 r0_5 R_r0_1 R_r0_4 R_r0_5
        have p2x227 := p2x227 r0_4 R_r0_4
        have p3x227 := p3x227 r0_5 R_r0_5
        have F231 : ∀ r : Nat, r ≠ 42 → I228 r0_4 r = I185 r0_4 r := fun r z0 => p2x227 r (by first | exact z0)
        have e232 := CM.j S230 R_r0_1 (by decide) e194
        have e233 := CM.j S230 R_r0_1 (by decide) e195
        have e234 := CM.j S230 R_r0_1 (by decide) e196
        have e235 := CM.k S230 (by decide) e197
        have e236 := (p2x227 40 (by first | decide | exact ncne (by omega) (by omega) (by omega) | exact nckn (by omega) (by omega) | exact (nckn (by omega) (by omega)).symm)).trans e198
        have e237 := CM.k S230 (by decide) e191
        have gx227 := rg x227
        try simp only [e194, e195, e196, e197, e198, e191] at p0x227
        try have q0x227 := congrArg Int32.toInt p0x227
        try simp only [e194, e195, e196, e197, e198, e191] at p1x227
        try have q1x227 := congrArg Int32.toInt p1x227
        have hs1 := p0x227
        have hs0 := p1x227
        (try rw [hk102, hq102] at hs1)
        (try rw [hk102, hq102] at hs0)
        have h5s := p3x227
        have h26s := CM.j0 S230 R_r0_26 (by decide)
        have hPW9 : x227.toInt = 1 → PWL w_r0_1_0.toInt w_r0_1_E_6_10_n1_toNatClampNeg.toInt (BNI w_r0_1_E_6_10_n1_toNatClampNeg.toInt) (fun k => (I r0_1 (7 + 10 * n1.toNatClampNeg + k)).toInt) m9.toNat (NF I228 r0_27) (NF I228 r0_28) := fun h9 => PWL.mv (hs1 h9) (by omega) (by omega) (fun k hk => ff82_1 k (by omega))
        have hPX0 : x227.toInt = 0 → ¬ EXN w_r0_1_0.toInt w_r0_1_E_6_10_n1_toNatClampNeg.toInt (BNI w_r0_1_E_6_10_n1_toNatClampNeg.toInt) (fun k => (I r0_1 (7 + 10 * n1.toNatClampNeg + k)).toInt) m9.toNat := fun h9 h8 => hs0 h9 (EXN.mv h8 (by omega) (by omega) (fun k hk => (ff82_1 k (by omega)).symm))
        refine b_if_ne C (t := 121) rfl rfl rfl (fun c238 => ?_) (fun c238 => ?_)
        · skip
          obtain ⟨T9, eT9⟩ : ∃ f : Nat → Int, NF I228 r0_27 = f := ⟨_, rfl⟩
          obtain ⟨C9, eC9⟩ : ∃ f : Nat → Int, NF I228 r0_28 = f := ⟨_, rfl⟩
          (try rw [eT9, eC9] at hPW9)
          (try have hPWL := hPW9 (by omega))
          have hF0 : x190.toInt = 0 → ∀ k : Nat, (k : Int) ≤ w_r0_1_E_6_10_n1_toNatClampNeg.toInt → (fun k => (I r0_1 (7 + 10 * n1.toNatClampNeg + k)).toInt) k = 0 := (by first | exact ff82_3 | (intro h9; exfalso; omega))
          have hF0 : (∀ k : Nat, (k : Int) ≤ w_r0_1_E_6_10_n1_toNatClampNeg.toInt → (fun k => (I r0_1 (7 + 10 * n1.toNatClampNeg + k)).toInt) k = 0) ∨ x190.toInt ≠ 0 := (by exact (Classical.em (x190.toInt = 0)).elim (fun c9 => by (exact Or.inl (hF0 c9))) (fun c9 => by (exact Or.inr c9)))
          have hP4 : 4 ≤ x190.toInt → ∀ m, m < 4 → ¬ EXN w_r0_1_0.toInt w_r0_1_E_6_10_n1_toNatClampNeg.toInt (BNI w_r0_1_E_6_10_n1_toNatClampNeg.toInt) (fun k => (I r0_1 (7 + 10 * n1.toNatClampNeg + k)).toInt) m := (by first | exact fun h9 m hm => ff82_0 m (by omega) | (intro h9; exfalso; omega))
          refine k_aload_n C rfl rfl rfl ?_
          refine g_I C rfl rfl rfl T_r0 rfl e237 ?_
          refine z_iconst C (z := 3) rfl rfl rfl (fun x239 ex239 => ?_)
          refine b_icmp_le C (t := 131) rfl rfl rfl (fun c240 => ?_) (fun c240 => by exfalso; omega)
          refine k_iload_n C rfl rfl rfl ?_
          refine b_if_ge C (t := 140) rfl rfl rfl (fun c241 => ?_) (fun c241 => ?_)
          · skip
            refine k_iload_n C rfl rfl rfl ?_
            refine z_iconst C (z := 0) rfl rfl rfl (fun x242 ex242 => ?_)
            refine k_aload_n C rfl rfl rfl ?_
            refine g_I C rfl rfl rfl T_r0 rfl e237 ?_
            refine z_iconst C (z := 1) rfl rfl rfl (fun x243 ex243 => ?_)
            refine z_isub C rfl rfl ⟨by omega, by omega⟩ (fun x244 ex244 => ?_)
            have q245 : x242.toNatClampNeg = 0 := nck (by omega)
            refine c_SI C a_X12_in rfl rfl rfl rfl rfl rfl rfl (Nat.le_of_ble_eq_true rfl) (Nat.le_of_ble_eq_true rfl) (Nat.le_of_ble_eq_true rfl) ?_
            rintro x246 _ _ ⟨o0x246, o1x246, p0x246, rfl, rfl⟩
            have gx246 := rg x246
            try simp only [q245, e232, e233, e234, e235, e236, e237] at p0x246
            try have q0x246 := congrArg Int32.toInt p0x246
            have hin148 := p0x246
            refine b_if_eq C (t := 163) rfl rfl rfl (fun c247 => ?_) (fun c247 => ?_)
            · skip
              refine k_iload_n C rfl rfl rfl ?_
              refine z_bipush C (z := 10) rfl rfl rfl (fun x248 ex248 => ?_)
              refine z_isub C rfl rfl ⟨by omega, by omega⟩ (fun x249 ex249 => ?_)
              refine z_iconst C (z := 0) rfl rfl rfl (fun x250 ex250 => ?_)
              refine k_aload_n C rfl rfl rfl ?_
              refine g_I C rfl rfl rfl T_r0 rfl e237 ?_
              refine z_iconst C (z := 1) rfl rfl rfl (fun x251 ex251 => ?_)
              refine z_isub C rfl rfl ⟨by omega, by omega⟩ (fun x252 ex252 => ?_)
              have q253 : x250.toNatClampNeg = 0 := nck (by omega)
              refine c_SI C a_X12_in rfl rfl rfl rfl rfl rfl rfl (Nat.le_of_ble_eq_true rfl) (Nat.le_of_ble_eq_true rfl) (Nat.le_of_ble_eq_true rfl) ?_
              rintro x254 _ _ ⟨o0x254, o1x254, p0x254, rfl, rfl⟩
              have gx254 := rg x254
              try simp only [q253, e232, e233, e234, e235, e236, e237] at p0x254
              try have q0x254 := congrArg Int32.toInt p0x254
              have hin174 := p0x254
              refine b_if_eq C (t := 192) rfl rfl rfl (fun c255 => ?_) (fun c255 => ?_)
              · skip
                refine z_iconst C (z := -1) rfl rfl rfl (fun x256 ex256 => ?_)
                exact k_iret C rfl (Or.inl rfl) (Nat.le_of_ble_eq_true rfl) (Nat.le_of_ble_eq_true rfl) ⟨_, _, _, rfl, rfl, fun a1 h1 => by cases (R_r0_1.symm.trans h1); refine Or.inr (Or.inr ⟨by simp only [k0_r0_1_1]; omega, by simp only [k0_r0_1_E_6_10_n1_toNatClampNeg]; omega, by rw [e235]; omega, ?_⟩); simp only [k0_r0_1_0, k0_r0_1_E_6_10_n1_toNatClampNeg]; first | (exfalso; omega) | exact PWX.r (n := m9.toNat) (fun m hm => hPX m (by omega)) (by omega) hPWL (by first | exact PWA.b (by omega) (by omega) hr159 | exact PWA.c (by omega) (by omega) hr188 | exact PWA.d (by omega) (by omega) (by omega) (by omega)) | exact PWX.r (n := 0) (fun m hm => absurd hm (Nat.not_lt_zero m)) (by omega) (PWL.z (ts := T9) (cs := C9) (hF0.resolve_right (by omega))) (by first | exact PWA.b (by omega) (by omega) hr159 | exact PWA.c (by omega) (by omega) hr188 | exact PWA.d (by omega) (by omega) (by omega) (by omega)), hI228, (CM.cons S3 (CM.cons S14 (CM.cons S50 (CM.cons S63 (CM.cons S74 (CM.cons S187 (CM.mono S230 (by decide) (by decide)) (by decide) (by decide)) (by decide) (by decide)) (by decide) (by decide)) (by decide) (by decide)) (by decide) (by decide)) (by decide) (by decide))⟩
              refine k_aload_n C rfl rfl rfl ?_
              refine g_R C rfl rfl rfl T_r0 rfl R_r0_28 ?_
              refine k_iload_n C rfl rfl rfl ?_
              refine z_bipush C (z := 10) rfl rfl rfl (fun x257 ex257 => ?_)
              refine z_isub C rfl rfl ⟨by omega, by omega⟩ (fun x258 ex258 => ?_)
              obtain ⟨T_r0_28, N_r0_28, A_r0_28⟩ := id H_r0_28
              refine z_aI C rfl rfl T_r0_28 N_r0_28 (by omega) (by omega) (fun x259 ex259 => ?_)
              have gx259 := rg x259
              have ox259 := IM.faR hI228 R_r0_28 ex259
              have hj188 : x258.toNatClampNeg = (n2.toInt - 10).toNat := (by have h9 := ncz (x := x258) (by omega); omega)
              have hr188 : x259.toInt = NF I228 r0_28 (n2.toInt - 10).toNat := (by rw [← hj188]; exact (congrArg Int32.toInt ex259).symm)
              rw [eC9] at hr188
              refine k_goto C (pc2 := 193) rfl rfl ?_
              exact k_iret C rfl (Or.inl rfl) (Nat.le_of_ble_eq_true rfl) (Nat.le_of_ble_eq_true rfl) ⟨_, _, _, rfl, rfl, fun a1 h1 => by cases (R_r0_1.symm.trans h1); refine Or.inr (Or.inr ⟨by simp only [k0_r0_1_1]; omega, by simp only [k0_r0_1_E_6_10_n1_toNatClampNeg]; omega, by rw [e235]; omega, ?_⟩); simp only [k0_r0_1_0, k0_r0_1_E_6_10_n1_toNatClampNeg]; first | (exfalso; omega) | exact PWX.r (n := m9.toNat) (fun m hm => hPX m (by omega)) (by omega) hPWL (by first | exact PWA.b (by omega) (by omega) hr159 | exact PWA.c (by omega) (by omega) hr188 | exact PWA.d (by omega) (by omega) (by omega) (by omega)) | exact PWX.r (n := 0) (fun m hm => absurd hm (Nat.not_lt_zero m)) (by omega) (PWL.z (ts := T9) (cs := C9) (hF0.resolve_right (by omega))) (by first | exact PWA.b (by omega) (by omega) hr159 | exact PWA.c (by omega) (by omega) hr188 | exact PWA.d (by omega) (by omega) (by omega) (by omega)), hI228, (CM.cons S3 (CM.cons S14 (CM.cons S50 (CM.cons S63 (CM.cons S74 (CM.cons S187 (CM.mono S230 (by decide) (by decide)) (by decide) (by decide)) (by decide) (by decide)) (by decide) (by decide)) (by decide) (by decide)) (by decide) (by decide)) (by decide) (by decide))⟩
            refine k_aload_n C rfl rfl rfl ?_
            refine g_R C rfl rfl rfl T_r0 rfl R_r0_27 ?_
            refine k_iload_n C rfl rfl rfl ?_
            obtain ⟨T_r0_27, N_r0_27, A_r0_27⟩ := id H_r0_27
            refine z_aI C rfl rfl T_r0_27 N_r0_27 (by omega) (by omega) (fun x260 ex260 => ?_)
            have gx260 := rg x260
            have ox260 := IM.spR hI228 R_r0_27 ex260
            have hr159 : x260.toInt = NF I228 r0_27 n2.toInt.toNat := (congrArg Int32.toInt ex260).symm
            rw [eT9] at hr159
            refine k_goto C (pc2 := 193) rfl rfl ?_
            exact k_iret C rfl (Or.inl rfl) (Nat.le_of_ble_eq_true rfl) (Nat.le_of_ble_eq_true rfl) ⟨_, _, _, rfl, rfl, fun a1 h1 => by cases (R_r0_1.symm.trans h1); refine Or.inr (Or.inr ⟨by simp only [k0_r0_1_1]; omega, by simp only [k0_r0_1_E_6_10_n1_toNatClampNeg]; omega, by rw [e235]; omega, ?_⟩); simp only [k0_r0_1_0, k0_r0_1_E_6_10_n1_toNatClampNeg]; first | (exfalso; omega) | exact PWX.r (n := m9.toNat) (fun m hm => hPX m (by omega)) (by omega) hPWL (by first | exact PWA.b (by omega) (by omega) hr159 | exact PWA.c (by omega) (by omega) hr188 | exact PWA.d (by omega) (by omega) (by omega) (by omega)) | exact PWX.r (n := 0) (fun m hm => absurd hm (Nat.not_lt_zero m)) (by omega) (PWL.z (ts := T9) (cs := C9) (hF0.resolve_right (by omega))) (by first | exact PWA.b (by omega) (by omega) hr159 | exact PWA.c (by omega) (by omega) hr188 | exact PWA.d (by omega) (by omega) (by omega) (by omega)), hI228, (CM.cons S3 (CM.cons S14 (CM.cons S50 (CM.cons S63 (CM.cons S74 (CM.cons S187 (CM.mono S230 (by decide) (by decide)) (by decide) (by decide)) (by decide) (by decide)) (by decide) (by decide)) (by decide) (by decide)) (by decide) (by decide)) (by decide) (by decide))⟩
          refine k_aload_n C rfl rfl rfl ?_
          refine g_I C rfl rfl rfl T_r0 rfl e237 ?_
          exact k_iret C rfl (Or.inl rfl) (Nat.le_of_ble_eq_true rfl) (Nat.le_of_ble_eq_true rfl) ⟨_, _, _, rfl, rfl, fun a1 h1 => by cases (R_r0_1.symm.trans h1); refine Or.inr (Or.inr ⟨by simp only [k0_r0_1_1]; omega, by simp only [k0_r0_1_E_6_10_n1_toNatClampNeg]; omega, by rw [e235]; omega, ?_⟩); simp only [k0_r0_1_0, k0_r0_1_E_6_10_n1_toNatClampNeg]; first | (exfalso; omega) | exact PWX.r (n := m9.toNat) (fun m hm => hPX m (by omega)) (by omega) hPWL (PWA.a (by omega) (by omega)) | exact PWX.r (n := 0) (fun m hm => absurd hm (Nat.not_lt_zero m)) (by omega) (PWL.z (ts := T9) (cs := C9) (hF0.resolve_right (by omega))) (PWA.a (by omega) (by omega)), hI228, (CM.cons S3 (CM.cons S14 (CM.cons S50 (CM.cons S63 (CM.cons S74 (CM.cons S187 (CM.mono S230 (by decide) (by decide)) (by decide) (by decide)) (by decide) (by decide)) (by decide) (by decide)) (by decide) (by decide)) (by decide) (by decide)) (by decide) (by decide))⟩
        refine k_aload_n C rfl rfl rfl ?_
        refine k_dup C rfl rfl rfl ?_
        refine g_I C rfl rfl rfl T_r0 rfl e237 ?_
        refine z_iconst C (z := 1) rfl rfl rfl (fun x261 ex261 => ?_)
        refine z_iadd C rfl rfl ⟨by omega, by omega⟩ (fun x262 ex262 => ?_)
        refine z_pI C rfl rfl rfl T_r0 (Or.inr rfl) rfl (fun I263 uI263 => ?_)
        have hI263 : IM R r0 I263 := IM.fld hI228 G_r0 ⟨(fun h => absurd h (by decide)), (fun h => absurd h (by decide)), (fun h => absurd h (by decide)), (fun h => absurd h (by decide)), (fun h => absurd h (by decide))⟩ uI263
        have S264 : CM A R r0 [29] [] I228 L229 I263 L229 := CM.f G_r0 A_r0 uI263
        have e265 := u2_n uI263 (mF.ne G_r0 R_r0_1) e232
        have e266 := u2_n uI263 (mF.ne G_r0 R_r0_1) e233
        have e267 := u2_n uI263 (mF.ne G_r0 R_r0_1) e234
        have e268 := u2_j uI263 (by first | decide | exact ncne (by omega) (by omega) (by omega) | exact nckn (by omega) (by omega) | exact (nckn (by omega) (by omega)).symm) e235
        have e269 := u2_n uI263 (mF.ne G_r0 R_r0_4) e236
        have e271 := u2_e uI263
        refine k_goto C (pc2 := 82) rfl rfl ?_
        refine k_sub S [(0, .ref r0), (2, .int n2)] (List.forall_mem_cons.mpr ⟨List.mem_of_getElem? (i := 0) rfl, List.forall_mem_cons.mpr ⟨List.mem_of_getElem? (i := 1) rfl, fun _ h => nomatch h⟩⟩) ?_
        exact ihJ183 _ (MN.lt hmnn184 (by omega) (by omega)) I263 L229 x262 rfl hI263 (CM.cons S187 (CM.cons S230 (CM.mono S264 (by decide) (by decide)) (by decide) (by decide)) (by decide) (by decide)) (fun r z0 => ((congrFun (CM.j0 S264 R_r0_4 (by decide)) r).trans ((F231 r z0).trans (F189 r z0)))) e271 (by omega) (by omega) (by intro m hm; exact (Classical.em ((m : Int) < m9)).elim (fun c9 => by (exact hPX m c9)) (fun c9 => by ((have e9 : m = m9.toNat := (by omega); rw [e9]; exact hPX0 (by omega))))) (by exact RWF.sm ff82_1 (fun k hk => h5s _ (by omega)) (by omega)) (by exact PWT.mv ff82_2 rfl h26s.symm) (by intro h9; exfalso; omega)
    refine z_pI C rfl rfl rfl T_r0 (Or.inr rfl) rfl (fun I272 uI272 => ?_)
    have hI272 : IM R r0 I272 := IM.fld hI72 G_r0 ⟨(fun h => absurd h (by decide)), (fun h => absurd h (by decide)), (fun h => absurd h (by decide)), (fun h => absurd h (by decide)), (fun h => absurd h (by decide))⟩ uI272
    have S273 : CM A R r0 [29] [] I72 L73 I272 L73 := CM.f G_r0 A_r0 uI272
    have e274 := u2_n uI272 (mF.ne G_r0 R_r0_1) e75
    have e275 := u2_n uI272 (mF.ne G_r0 R_r0_1) e76
    have e276 := u2_n uI272 (mF.ne G_r0 R_r0_1) e77
    have e277 := u2_j uI272 (by first | decide | exact ncne (by omega) (by omega) (by omega) | exact nckn (by omega) (by omega) | exact (nckn (by omega) (by omega)).symm) e78
    have e278 := u2_n uI272 (mF.ne G_r0 R_r0_4) e79
    have e279 := u2_e uI272
    refine k_sub S [(0, .ref r0), (2, .int n2)] (List.forall_mem_cons.mpr ⟨List.mem_of_getElem? (i := 0) rfl, List.forall_mem_cons.mpr ⟨List.mem_of_getElem? (i := 2) rfl, fun _ h => nomatch h⟩⟩) ?_
    exact J183 _ I272 L73 x182 rfl hI272 (CM.mono S273 (by decide) (by decide)) (fun r z0 => (congrFun (CM.j0 S273 R_r0_4 (by decide)) r)) e279 (by omega) (by omega) (by intro m hm hx; exact (hN.2 (by omega)) (fun k hk => ((EXN.z0.mp ((show m = 0 from by omega) ▸ hx)) k (by omega)).zr (hcr k (by omega)).1 (hcr k (by omega)).2)) (by exact hRWr) (by exact PWT.mv hpt (by omega) rfl) (by intro h9 k hk; exact (hN.1 (by omega)) k (by omega))
  refine z_iconst C (z := 1) rfl rfl rfl (fun x280 ex280 => ?_)
  refine k_goto C (pc2 := 37) rfl rfl ?_
  refine z_iconst C (z := 2) rfl rfl rfl (fun x281 ex281 => ?_)
  have q282 : x280.toNatClampNeg = 1 := nck (by omega)
  have q283 : x281.toNatClampNeg = 2 := nck (by omega)
  refine c_VI C (a_X12_throwsIf_e hI12 H_r0 (by omega) (by omega)) rfl rfl rfl rfl rfl ⟨_, rfl, rfl, T_r0, Nat.le_of_ble_eq_true rfl⟩ rfl rfl (Nat.le_of_ble_eq_true rfl) (Nat.le_of_ble_eq_true rfl) (Nat.le_of_ble_eq_true rfl) ?_
  rintro x284 I285 L286 ⟨o0x284, o1x284, p0x284, p1x284, hI285, S287⟩
  have e288 := CM.j S287 R_r0_1 (by decide) e15
  have e289 := CM.j S287 R_r0_1 (by decide) e16
  have e290 := CM.j S287 R_r0_1 (by decide) e17
  have gx284 := rg x284
  obtain ⟨x292, e293⟩ : ∃ x, I285 r0 0 = x := ⟨_, rfl⟩
  have gx292 := rg x292
  try simp only [q282, q283, e15, e16, e17, e20, e293] at p0x284
  try have q0x284 := congrArg Int32.toInt p0x284
  try simp only [q282, q283, e15, e16, e17, e20, e293] at p1x284
  try have q1x284 := congrArg Int32.toInt p1x284
  refine b_if_eq C (t := 46) rfl rfl rfl (fun c294 => by exfalso; omega) (fun c294 => ?_)
  refine z_iconst C (z := 0) rfl rfl rfl (fun x295 ex295 => ?_)
  exact k_iret C rfl (Or.inl rfl) (Nat.le_of_ble_eq_true rfl) (Nat.le_of_ble_eq_true rfl) ⟨_, _, _, rfl, rfl, fun a1 h1 => by cases (R_r0_1.symm.trans h1); first | exact Or.inl ⟨by simp only [k0_r0_1_1]; omega, by rw [e293]; omega⟩ | exact Or.inr (Or.inl ⟨by simp only [k0_r0_1_1]; omega, by simp only [k0_r0_1_E_6_10_n1_toNatClampNeg]; omega, by rw [e293]; omega⟩), hI285, (CM.cons S3 (CM.cons S14 (CM.mono S287 (by decide) (by decide)) (by decide) (by decide)) (by decide) (by decide))⟩

