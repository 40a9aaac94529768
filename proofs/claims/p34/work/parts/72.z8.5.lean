/-! on -/
set_option maxHeartbeats 8000000 in
theorem a_X12_powers_x {d : Nat} {T N : Nat → Nat} {I : IT} {L : LT} {R : RT} {A : Nat → Prop} {r0 : Nat} {n1 n2 : Int32} (hI : IM R r0 I) (H_r0 : (h_MD T N R A) r0) (hp0 : ∀ a1, R r0 1 = some a1 → CNW (I a1)) : Ex (d + 7) 287 [.ref r0, .int n1, .int n2] (T, N, I, L, R) 0 0 (pI T N R (fun x9 I9 L9 => (∀ a1, R r0 1 = some a1 → (n1.toInt < 0 ∨ (I a1 1).toInt ≤ n1.toInt) ∧ (I9 r0 0).toInt = 1 ∨ ¬ (n1.toInt < 0 ∨ (I a1 1).toInt ≤ n1.toInt) ∧ ((I a1 (6 + 10 * n1.toNatClampNeg)).toInt = 0 ∨ n2.toInt < -1) ∧ (I9 r0 0).toInt = 2 ∨ ¬ (n1.toInt < 0 ∨ (I a1 1).toInt ≤ n1.toInt) ∧ ¬ ((I a1 (6 + 10 * n1.toNatClampNeg)).toInt = 0 ∨ n2.toInt < -1) ∧ (I9 r0 0).toInt = 0 ∧ PWX x9.toInt (I a1 0).toInt (I a1 (6 + 10 * n1.toNatClampNeg)).toInt (BNI (I a1 (6 + 10 * n1.toNatClampNeg)).toInt) (fun k => (I a1 (7 + 10 * n1.toNatClampNeg + k)).toInt) n2.toInt) ∧ (IM R r0 I9 ∧ CM A R r0 [0, 29] [4, 5, 26, 27, 28] I L I9 L9))) := by
  refine ⟨_, rfl, Nat.le_of_ble_eq_true rfl, fun V C S => ?_⟩
  show V 0 [(0, .ref r0), (1, .int n1), (2, .int n2)] [] (T, N, I, L, R) 0 0
  have gn1 := rg n1
  have gn2 := rg n2
  obtain ⟨T_r0, A_r0, ⟨r0_1, R_r0_1, H_r0_1⟩, ⟨r0_2, R_r0_2, H_r0_2⟩, ⟨r0_4, R_r0_4, H_r0_4⟩, ⟨r0_5, R_r0_5, H_r0_5⟩, ⟨r0_10, R_r0_10, H_r0_10⟩, ⟨r0_18, R_r0_18, H_r0_18⟩, ⟨r0_20, R_r0_20, H_r0_20⟩, ⟨r0_21, R_r0_21, H_r0_21⟩, ⟨r0_22, R_r0_22, H_r0_22⟩, ⟨r0_23, R_r0_23, H_r0_23⟩, ⟨r0_25, R_r0_25, H_r0_25⟩, ⟨r0_26, R_r0_26, H_r0_26⟩, ⟨r0_27, R_r0_27, H_r0_27⟩, ⟨r0_28, R_r0_28, H_r0_28⟩, ⟨r0_34, R_r0_34, H_r0_34⟩, J_r0, Y_r0⟩ := id H_r0
  have G_r0 : mF T R r0 := ⟨J_r0, Y_r0, T_r0⟩
  obtain ⟨w_r0_1_1, k0_r0_1_1⟩ : ∃ x, I r0_1 1 = x := ⟨_, rfl⟩
  have gw_r0_1_1 := rg w_r0_1_1
  have ow_r0_1_1 := IM.c1 hI R_r0_1 k0_r0_1_1
  obtain ⟨w_r0_1_0, k0_r0_1_0⟩ : ∃ x, I r0_1 0 = x := ⟨_, rfl⟩
  have gw_r0_1_0 := rg w_r0_1_0
  have ow_r0_1_0 := IM.pi hI R_r0_1 k0_r0_1_0
  obtain ⟨w_r0_1_E_6_10_n1_toNatClampNeg, k0_r0_1_E_6_10_n1_toNatClampNeg⟩ : ∃ x, I r0_1 (6 + 10 * n1.toNatClampNeg) = x := ⟨_, rfl⟩
  have gw_r0_1_E_6_10_n1_toNatClampNeg := rg w_r0_1_E_6_10_n1_toNatClampNeg
  have hp0 := hp0 r0_1 R_r0_1
  try simp only [k0_r0_1_1, k0_r0_1_0, k0_r0_1_E_6_10_n1_toNatClampNeg] at hp0
  refine k_aload_n C rfl rfl rfl ?_
  refine z_iconst C (z := 0) rfl rfl rfl (fun x1 ex1 => ?_)
  refine z_pI C rfl rfl rfl T_r0 (Or.inr rfl) rfl (fun I2 uI2 => ?_)
  have hI2 : IM R r0 I2 := IM.fld hI G_r0 ⟨(fun h => absurd h (by decide)), (fun h => absurd h (by decide)), (fun h => absurd h (by decide)), (fun h => absurd h (by decide)), (fun h => absurd h (by decide))⟩ uI2
  have S3 : CM A R r0 [0] [] I L I2 L := CM.f G_r0 A_r0 uI2
  have e4 := u2_n uI2 (mF.ne G_r0 R_r0_1) k0_r0_1_1
  have e5 := u2_n uI2 (mF.ne G_r0 R_r0_1) k0_r0_1_0
  have e6 := u2_n uI2 (mF.ne G_r0 R_r0_1) k0_r0_1_E_6_10_n1_toNatClampNeg
  have e7 := u2_e uI2
  refine k_aload_n C rfl rfl rfl ?_
  refine k_aload_n C rfl rfl rfl ?_
  refine k_iload_n C rfl rfl rfl ?_
  refine c_VI C (a_X12_noForm_e hI2 H_r0) rfl rfl rfl rfl rfl ⟨_, rfl, rfl, T_r0, Nat.le_of_ble_eq_true rfl⟩ rfl rfl (Nat.le_of_ble_eq_true rfl) (Nat.le_of_ble_eq_true rfl) (Nat.le_of_ble_eq_true rfl) ?_
  rintro x8 _ _ ⟨o0x8, o1x8, p0x8, rfl, rfl⟩
  have p0x8 := p0x8 r0_1 R_r0_1
  have gx8 := rg x8
  try simp only [e4, e5, e6, e7, e4] at p0x8
  try have q0x8 := congrArg Int32.toInt p0x8
  refine z_iconst C (z := 1) rfl rfl rfl (fun x9 ex9 => ?_)
  have q10 : x9.toNatClampNeg = 1 := nck (by omega)
  refine c_VI C (a_X12_throwsIf_e hI2 H_r0 (by omega) (by omega)) rfl rfl rfl rfl rfl ⟨_, rfl, rfl, T_r0, Nat.le_of_ble_eq_true rfl⟩ rfl rfl (Nat.le_of_ble_eq_true rfl) (Nat.le_of_ble_eq_true rfl) (Nat.le_of_ble_eq_true rfl) ?_
  rintro x11 I12 L13 ⟨o0x11, o1x11, p0x11, p1x11, hI12, S14⟩
  have e15 := CM.j S14 R_r0_1 (by decide) e4
  have e16 := CM.j S14 R_r0_1 (by decide) e5
  have e17 := CM.j S14 R_r0_1 (by decide) e6
  have gx11 := rg x11
  obtain ⟨x19, e20⟩ : ∃ x, I12 r0 0 = x := ⟨_, rfl⟩
  have gx19 := rg x19
  try simp only [q10, e4, e5, e6, e7, e20] at p0x11
  try have q0x11 := congrArg Int32.toInt p0x11
  try simp only [q10, e4, e5, e6, e7, e20] at p1x11
  try have q1x11 := congrArg Int32.toInt p1x11
  refine b_if_ne C (t := 44) rfl rfl rfl (fun c21 => ?_) (fun c21 => ?_)
  · skip
    first | (replace p0x8 := p0x8.resolve_left (by omega)) | (replace p0x8 := p0x8.resolve_right (by omega)) | (replace p0x8 := p0x8 (by omega)) | (have hno := imp_no p0x8 (by omega); clear hno; clear p0x8) | skip
    first | (replace p0x11 := p0x11.resolve_left (by omega)) | (replace p0x11 := p0x11.resolve_right (by omega)) | (replace p0x11 := p0x11 (by omega)) | (have hno := imp_no p0x11 (by omega); clear hno; clear p0x11) | skip
    first | (replace p1x11 := p1x11.resolve_left (by omega)) | (replace p1x11 := p1x11.resolve_right (by omega)) | (replace p1x11 := p1x11 (by omega)) | (have hno := imp_no p1x11 (by omega); clear hno; clear p1x11) | skip
    refine z_iconst C (z := 0) rfl rfl rfl (fun x22 ex22 => ?_)
    exact k_iret C rfl (Or.inl rfl) (Nat.le_of_ble_eq_true rfl) (Nat.le_of_ble_eq_true rfl) ⟨_, _, _, rfl, rfl, fun a1 h1 => by cases (R_r0_1.symm.trans h1); first | exact Or.inl ⟨by simp only [k0_r0_1_1]; omega, by rw [e20]; omega⟩ | exact Or.inr (Or.inl ⟨by simp only [k0_r0_1_1]; omega, by simp only [k0_r0_1_E_6_10_n1_toNatClampNeg]; omega, by rw [e20]; omega⟩), hI12, (CM.cons S3 (CM.mono S14 (by decide) (by decide)) (by decide) (by decide))⟩
  first | (replace p0x8 := p0x8.resolve_left (by omega)) | (replace p0x8 := p0x8.resolve_right (by omega)) | (replace p0x8 := p0x8 (by omega)) | (have hno := imp_no p0x8 (by omega); clear hno; clear p0x8) | skip
  first | (replace p0x11 := p0x11.resolve_left (by omega)) | (replace p0x11 := p0x11.resolve_right (by omega)) | (replace p0x11 := p0x11 (by omega)) | (have hno := imp_no p0x11 (by omega); clear hno; clear p0x11) | skip
  first | (replace p1x11 := p1x11.resolve_left (by omega)) | (replace p1x11 := p1x11.resolve_right (by omega)) | (replace p1x11 := p1x11 (by omega)) | (have hno := imp_no p1x11 (by omega); clear hno; clear p1x11) | skip
  refine k_aload_n C rfl rfl rfl ?_
  refine k_aload_n C rfl rfl rfl ?_
  refine k_iload_n C rfl rfl rfl ?_
  refine c_VI C (a_X12_degreeOf hI12 H_r0 (by omega) (by omega)) rfl rfl rfl rfl rfl ⟨_, rfl, rfl, T_r0, Nat.le_of_ble_eq_true rfl⟩ rfl rfl (Nat.le_of_ble_eq_true rfl) (Nat.le_of_ble_eq_true rfl) (Nat.le_of_ble_eq_true rfl) ?_
  rintro x23 _ _ ⟨o0x23, o1x23, p0x23, rfl, rfl⟩
  have p0x23 := p0x23 r0_1 R_r0_1
  have gx23 := rg x23
  try simp only [e15, e16, e17, e20, e17] at p0x23
  try have q0x23 := congrArg Int32.toInt p0x23
  refine b_if_eq C (t := 32) rfl rfl rfl (fun c24 => ?_) (fun c24 => ?_)
  · skip
    first | (replace p0x11 := p0x11.resolve_left (by omega)) | (replace p0x11 := p0x11.resolve_right (by omega)) | (replace p0x11 := p0x11 (by omega)) | (have hno := imp_no p0x11 (by omega); clear hno; clear p0x11) | skip
    first | (replace p1x11 := p1x11.resolve_left (by omega)) | (replace p1x11 := p1x11.resolve_right (by omega)) | (replace p1x11 := p1x11 (by omega)) | (have hno := imp_no p1x11 (by omega); clear hno; clear p1x11) | skip
    first | (replace p0x23 := p0x23.resolve_left (by omega)) | (replace p0x23 := p0x23.resolve_right (by omega)) | (replace p0x23 := p0x23 (by omega)) | (have hno := imp_no p0x23 (by omega); clear hno; clear p0x23) | skip
    refine z_iconst C (z := 1) rfl rfl rfl (fun x25 ex25 => ?_)
    refine k_goto C (pc2 := 37) rfl rfl ?_
    refine z_iconst C (z := 2) rfl rfl rfl (fun x26 ex26 => ?_)
    have q27 : x25.toNatClampNeg = 1 := nck (by omega)
    have q28 : x26.toNatClampNeg = 2 := nck (by omega)
    refine c_VI C (a_X12_throwsIf_e hI12 H_r0 (by omega) (by omega)) rfl rfl rfl rfl rfl ⟨_, rfl, rfl, T_r0, Nat.le_of_ble_eq_true rfl⟩ rfl rfl (Nat.le_of_ble_eq_true rfl) (Nat.le_of_ble_eq_true rfl) (Nat.le_of_ble_eq_true rfl) ?_
    rintro x29 I30 L31 ⟨o0x29, o1x29, p0x29, p1x29, hI30, S32⟩
    have e33 := CM.j S32 R_r0_1 (by decide) e15
    have e34 := CM.j S32 R_r0_1 (by decide) e16
    have e35 := CM.j S32 R_r0_1 (by decide) e17
    have gx29 := rg x29
    obtain ⟨x37, e38⟩ : ∃ x, I30 r0 0 = x := ⟨_, rfl⟩
    have gx37 := rg x37
    try simp only [q27, q28, e15, e16, e17, e20, e38] at p0x29
    try have q0x29 := congrArg Int32.toInt p0x29
    try simp only [q27, q28, e15, e16, e17, e20, e38] at p1x29
    try have q1x29 := congrArg Int32.toInt p1x29
    refine b_if_eq C (t := 46) rfl rfl rfl (fun c39 => by exfalso; omega) (fun c39 => ?_)
    first | (replace p0x23 := p0x23.resolve_left (by omega)) | (replace p0x23 := p0x23.resolve_right (by omega)) | (replace p0x23 := p0x23 (by omega)) | (have hno := imp_no p0x23 (by omega); clear hno; clear p0x23) | skip
    first | (replace p0x29 := p0x29.resolve_left (by omega)) | (replace p0x29 := p0x29.resolve_right (by omega)) | (replace p0x29 := p0x29 (by omega)) | (have hno := imp_no p0x29 (by omega); clear hno; clear p0x29) | skip
    first | (replace p1x29 := p1x29.resolve_left (by omega)) | (replace p1x29 := p1x29.resolve_right (by omega)) | (replace p1x29 := p1x29 (by omega)) | (have hno := imp_no p1x29 (by omega); clear hno; clear p1x29) | skip
    refine z_iconst C (z := 0) rfl rfl rfl (fun x40 ex40 => ?_)
    exact k_iret C rfl (Or.inl rfl) (Nat.le_of_ble_eq_true rfl) (Nat.le_of_ble_eq_true rfl) ⟨_, _, _, rfl, rfl, fun a1 h1 => by cases (R_r0_1.symm.trans h1); first | exact Or.inl ⟨by simp only [k0_r0_1_1]; omega, by rw [e38]; omega⟩ | exact Or.inr (Or.inl ⟨by simp only [k0_r0_1_1]; omega, by simp only [k0_r0_1_E_6_10_n1_toNatClampNeg]; omega, by rw [e38]; omega⟩), hI30, (CM.cons S3 (CM.cons S14 (CM.mono S32 (by decide) (by decide)) (by decide) (by decide)) (by decide) (by decide))⟩
  first | (replace p0x11 := p0x11.resolve_left (by omega)) | (replace p0x11 := p0x11.resolve_right (by omega)) | (replace p0x11 := p0x11 (by omega)) | (have hno := imp_no p0x11 (by omega); clear hno; clear p0x11) | skip
  first | (replace p1x11 := p1x11.resolve_left (by omega)) | (replace p1x11 := p1x11.resolve_right (by omega)) | (replace p1x11 := p1x11 (by omega)) | (have hno := imp_no p1x11 (by omega); clear hno; clear p1x11) | skip
  first | (replace p0x23 := p0x23.resolve_left (by omega)) | (replace p0x23 := p0x23.resolve_right (by omega)) | (replace p0x23 := p0x23 (by omega)) | (have hno := imp_no p0x23 (by omega); clear hno; clear p0x23) | skip
  refine k_iload_n C rfl rfl rfl ?_
  refine z_iconst C (z := -1) rfl rfl rfl (fun x41 ex41 => ?_)
  refine b_icmp_ge C (t := 36) rfl rfl rfl (fun c42 => ?_) (fun c42 => ?_)
  · skip
    refine z_iconst C (z := 0) rfl rfl rfl (fun x43 ex43 => ?_)
    refine z_iconst C (z := 2) rfl rfl rfl (fun x44 ex44 => ?_)
    have q45 : x43.toNatClampNeg = 0 := nck (by omega)
    have q46 : x44.toNatClampNeg = 2 := nck (by omega)
    refine c_VI C (a_X12_throwsIf_e hI12 H_r0 (by omega) (by omega)) rfl rfl rfl rfl rfl ⟨_, rfl, rfl, T_r0, Nat.le_of_ble_eq_true rfl⟩ rfl rfl (Nat.le_of_ble_eq_true rfl) (Nat.le_of_ble_eq_true rfl) (Nat.le_of_ble_eq_true rfl) ?_
    rintro x47 I48 L49 ⟨o0x47, o1x47, p0x47, p1x47, hI48, S50⟩
    have e51 := CM.j S50 R_r0_1 (by decide) e15
    have e52 := CM.j S50 R_r0_1 (by decide) e16
    have e53 := CM.j S50 R_r0_1 (by decide) e17
    have gx47 := rg x47
    obtain ⟨x55, e56⟩ : ∃ x, I48 r0 0 = x := ⟨_, rfl⟩
    have gx55 := rg x55
    try simp only [q45, q46, e15, e16, e17, e20, e56] at p0x47
    try have q0x47 := congrArg Int32.toInt p0x47
    try simp only [q45, q46, e15, e16, e17, e20, e56] at p1x47
    try have q1x47 := congrArg Int32.toInt p1x47
    refine b_if_eq C (t := 46) rfl rfl rfl (fun c57 => ?_) (fun c57 => by exfalso; omega)
    first | (replace p0x47 := p0x47.resolve_left (by omega)) | (replace p0x47 := p0x47.resolve_right (by omega)) | (replace p0x47 := p0x47 (by omega)) | (have hno := imp_no p0x47 (by omega); clear hno; clear p0x47) | skip
    first | (replace p1x47 := p1x47.resolve_left (by omega)) | (replace p1x47 := p1x47.resolve_right (by omega)) | (replace p1x47 := p1x47 (by omega)) | (have hno := imp_no p1x47 (by omega); clear hno; clear p1x47) | skip
    refine k_aload_n C rfl rfl rfl ?_
    refine z_bipush C (z := 40) rfl rfl rfl (fun x58 ex58 => ?_)
    refine k_iload_n C rfl rfl rfl ?_
    have hw50 := CM.j0 (W := [0]) (WA := []) (CM.cons S3 (CM.cons S14 (CM.mono S50 (by decide) (by decide)) (by decide) (by decide)) (by decide) (by decide)) R_r0_1 (by decide)
    have q59 : x58.toNatClampNeg = 40 := nck (by omega)
    refine c_VV C (a_X12_takes_e hI48 H_r0 (by omega) (by omega) (by omega) (by omega)) rfl rfl rfl rfl rfl ⟨_, rfl, rfl, T_r0, Nat.le_of_ble_eq_true rfl⟩ rfl rfl (Nat.le_of_ble_eq_true rfl) (Nat.le_of_ble_eq_true rfl) (Nat.le_of_ble_eq_true rfl) ?_
    rintro I61 L62 ⟨p0v60, p1v60, p2v60, p3v60, p4v60, p5v60, hI61, S63⟩
    have p0v60 := p0v60 r0_4 R_r0_4
    have p1v60 := p1v60 r0_1 r0_4 R_r0_1 R_r0_4
    have p2v60 := p2v60 r0_1 r0_4 r0_5 R_r0_1 R_r0_4 R_r0_5
    have p3v60 := p3v60 r0_1 r0_4 r0_5 R_r0_1 R_r0_4 R_r0_5
    have p4v60 := p4v60 r0_4 R_r0_4
    have p5v60 := p5v60 r0_5 R_r0_5
    try simp only [q59] at p4v60
    try simp only [q59] at p5v60
    have e64 := CM.j S63 R_r0_1 (by decide) e51
    have e65 := CM.j S63 R_r0_1 (by decide) e52
    have e66 := CM.j S63 R_r0_1 (by decide) e53
    have e67 := CM.k S63 (by decide) e56
    obtain ⟨x68, e69⟩ : ∃ x, I61 r0_4 40 = x := ⟨_, rfl⟩
    have gx68 := rg x68
    have ox68 := IM.dgR hI61 R_r0_4 e69
    try simp only [q59, e51, e52, e53, e56, e69] at p0v60
    try have q0v60 := congrArg Int32.toInt p0v60
    try simp only [q59, e51, e52, e53, e56, e69] at p1v60
    try have q1v60 := congrArg Int32.toInt p1v60
    try simp only [q59, e51, e52, e53, e56, e69] at p2v60
    try have q2v60 := congrArg Int32.toInt p2v60
    try simp only [q59, e51, e52, e53, e56, e69] at p3v60
    try have q3v60 := congrArg Int32.toInt p3v60
    have hd9 := p1v60
    have hT9 := TKE.w p3v60 hw50
    have hcr := CNW.g (f := n1) hp0 (by rw [k0_r0_1_E_6_10_n1_toNatClampNeg]) (by rw [k0_r0_1_0]) (by omega) (by simp only [k0_r0_1_1]; omega)
    have hRW : RWF I61 r0_5 40 w_r0_1_E_6_10_n1_toNatClampNeg.toInt (fun k => (I r0_1 (7 + 10 * n1.toNatClampNeg + k)).toInt) := fun k hk => by (rw [hT9 k (by omega), show 6 + 10 * n1.toNatClampNeg + 1 + k = 7 + 10 * n1.toNatClampNeg + k from by omega])
    refine k_aload_n C rfl rfl rfl ?_
    refine k_aload_n C rfl rfl rfl ?_
    refine g_R C rfl rfl rfl T_r0 rfl R_r0_4 ?_
    refine z_bipush C (z := 40) rfl rfl rfl (fun x70 ex70 => ?_)
    obtain ⟨T_r0_4, N_r0_4, A_r0_4⟩ := id H_r0_4
    refine a_I C rfl rfl T_r0_4 (by rw [N_r0_4]; exact vpi (by omega) (by omega)) ((congrArg (I61 r0_4) (nck (n := 40) (by omega))).trans e69) ?_
    have hq61 := e65
    refine c_VV C (a_X12_raises_x hI61 H_r0 (by omega) (by omega)) rfl rfl rfl rfl rfl ⟨_, rfl, rfl, T_r0, Nat.le_of_ble_eq_true rfl⟩ rfl rfl (Nat.le_of_ble_eq_true rfl) (Nat.le_of_ble_eq_true rfl) (Nat.le_of_ble_eq_true rfl) ?_
    rintro I72 L73 ⟨p0v71, p1v71, p2v71, hI72, S74⟩
    have p0v71 := p0v71 r0_1 r0_26 R_r0_1 R_r0_26
    have p1v71 := p1v71 r0_4 R_r0_4
    have p2v71 := p2v71 r0_5 R_r0_5
    have e75 := CM.j S74 R_r0_1 (by decide) e64
    have e76 := CM.j S74 R_r0_1 (by decide) e65
    have e77 := CM.j S74 R_r0_1 (by decide) e66
    have e78 := CM.k S74 (by decide) e67
    have e79 := (p1v71 40 (by first | decide | exact ncne (by omega) (by omega) (by omega) | exact nckn (by omega) (by omega) | exact (nckn (by omega) (by omega)).symm)).trans e69
    try simp only [e64, e65, e66, e67, e69] at p0v71
    try have q0v71 := congrArg Int32.toInt p0v71
    have hpt := p0v71
    (try rw [hq61] at hpt)
    have h5r := p2v71
    have hRWr : RWF I72 r0_5 40 w_r0_1_E_6_10_n1_toNatClampNeg.toInt (fun k => (I r0_1 (7 + 10 * n1.toNatClampNeg + k)).toInt) := RWF.sm hRW (fun k hk => h5r _ (by omega)) (by omega)
    refine k_aload_n C rfl rfl rfl ?_
    refine k_aload_n C rfl rfl rfl ?_
    refine z_bipush C (z := 40) rfl rfl rfl (fun x80 ex80 => ?_)
    have q81 : x80.toNatClampNeg = 40 := nck (by omega)
    refine c_VI C (a_X12_isNought_e hI72 H_r0 (by omega) (by omega)) rfl rfl rfl rfl rfl ⟨_, rfl, rfl, T_r0, Nat.le_of_ble_eq_true rfl⟩ rfl rfl (Nat.le_of_ble_eq_true rfl) (Nat.le_of_ble_eq_true rfl) (Nat.le_of_ble_eq_true rfl) ?_
    rintro x82 _ _ ⟨o0x82, o1x82, p0x82, p1x82, rfl, rfl⟩
    have p0x82 := p0x82 r0_4 r0_5 R_r0_4 R_r0_5
    have p1x82 := p1x82 r0_4 r0_5 R_r0_4 R_r0_5
    have gx82 := rg x82
    try simp only [q81, e75, e76, e77, e78, e79] at p0x82
    try have q0x82 := congrArg Int32.toInt p0x82
    try simp only [q81, e75, e76, e77, e78, e79] at p1x82
    try have q1x82 := congrArg Int32.toInt p1x82
    have hN := NQI.w (D := w_r0_1_E_6_10_n1_toNatClampNeg.toInt) p1x82 (by rw [e79]; omega) hRWr
    have J83 : ∀ (nn84 : Nat) (I85 : IT) (L86 : LT) (x90 : Int32), (MN (4 - x90.toInt) nn84) → (IM R r0 I85) → (CM A R r0 [29] [4, 5, 27, 28] I72 L73 I85 L86) → (∀ r : Nat, r ≠ 42 → I85 r0_4 r = I72 r0_4 r) → (I85 r0 29 = x90) → (0 ≤ x90.toInt) → (x90.toInt ≤ 4) → ((∀ m : Nat, (m : Int) < x90.toInt → ¬ EXN w_r0_1_0.toInt w_r0_1_E_6_10_n1_toNatClampNeg.toInt (BNI w_r0_1_E_6_10_n1_toNatClampNeg.toInt) (fun k => (I r0_1 (7 + 10 * n1.toNatClampNeg + k)).toInt) m)) → (RWF I85 r0_5 40 w_r0_1_E_6_10_n1_toNatClampNeg.toInt (fun k => (I r0_1 (7 + 10 * n1.toNatClampNeg + k)).toInt)) → (PWT (I85 r0_26) w_r0_1_0.toInt w_r0_1_E_6_10_n1_toNatClampNeg.toInt (w_r0_1_0.toInt + 1)) → (x90.toInt = 0 → ∀ k : Nat, (k : Int) ≤ w_r0_1_E_6_10_n1_toNatClampNeg.toInt → (fun k => (I r0_1 (7 + 10 * n1.toNatClampNeg + k)).toInt) k = 0) → V 82 [(0, .ref r0), (2, .int n2)] [] (T, N, I85, L86, R) 0 0 := by
      intro nn84
      induction nn84 using Nat.strongRecOn with
      | _ nn84 ihJ83 =>
        intro I85 L86 x90 hmnn84 hI88 S87 F89 e91 b92 b93 ff82_0 ff82_1 ff82_2 ff82_3
        have gx90 := rg x90
        have e94 := CM.j S87 R_r0_1 (by decide) e75
        have e95 := CM.j S87 R_r0_1 (by decide) e76
        have e96 := CM.j S87 R_r0_1 (by decide) e77
        have e97 := CM.k S87 (by decide) e78
        have e98 := (F89 40 (by first | decide | exact ncne (by omega) (by omega) (by omega) | exact nckn (by omega) (by omega) | exact (nckn (by omega) (by omega)).symm)).trans e79
        refine k_aload_n C rfl rfl rfl ?_
        refine g_I C rfl rfl rfl T_r0 rfl e91 ?_
        have J99 : ∀ (I101 : IT) (L102 : LT), (IM R r0 I101) → (CM A R r0 [] [4, 5, 27, 28] I85 L86 I101 L102) → (∀ r : Nat, r ≠ 42 → I101 r0_4 r = I85 r0_4 r) → (x90.toInt ≤ 3 → PWL w_r0_1_0.toInt w_r0_1_E_6_10_n1_toNatClampNeg.toInt (BNI w_r0_1_E_6_10_n1_toNatClampNeg.toInt) (fun k => (I r0_1 (7 + 10 * n1.toNatClampNeg + k)).toInt) x90.toInt.toNat (NF I101 r0_27) (NF I101 r0_28)) → V 121 [(0, .ref r0), (2, .int n2)] [] (T, N, I101, L102, R) 0 0 := by
          intro I101 L102 hI104 S103 F105 ff121_0
          have e106 := CM.j S103 R_r0_1 (by decide) e94
          have e107 := CM.j S103 R_r0_1 (by decide) e95
          have e108 := CM.j S103 R_r0_1 (by decide) e96
          have e109 := CM.k S103 (by decide) e97
          have e110 := (F105 40 (by first | decide | exact ncne (by omega) (by omega) (by omega) | exact nckn (by omega) (by omega) | exact (nckn (by omega) (by omega)).symm)).trans e98
          have e111 := CM.k S103 (by decide) e91
          refine k_aload_n C rfl rfl rfl ?_
          refine g_I C rfl rfl rfl T_r0 rfl e111 ?_
          refine z_iconst C (z := 3) rfl rfl rfl (fun x112 ex112 => ?_)
          refine b_icmp_le C (t := 131) rfl rfl rfl (fun c113 => ?_) (fun c113 => ?_)
          · skip
            refine k_iload_n C rfl rfl rfl ?_
            refine b_if_ge C (t := 140) rfl rfl rfl (fun c114 => ?_) (fun c114 => ?_)
            · skip
              refine k_iload_n C rfl rfl rfl ?_
              refine z_iconst C (z := 0) rfl rfl rfl (fun x115 ex115 => ?_)
              refine k_aload_n C rfl rfl rfl ?_
              refine g_I C rfl rfl rfl T_r0 rfl e111 ?_
              refine z_iconst C (z := 1) rfl rfl rfl (fun x116 ex116 => ?_)
              refine z_isub C rfl rfl ⟨by omega, by omega⟩ (fun x117 ex117 => ?_)
              have q118 : x115.toNatClampNeg = 0 := nck (by omega)
              refine c_SI C a_X12_in rfl rfl rfl rfl rfl rfl rfl (Nat.le_of_ble_eq_true rfl) (Nat.le_of_ble_eq_true rfl) (Nat.le_of_ble_eq_true rfl) ?_
              rintro x119 _ _ ⟨o0x119, o1x119, p0x119, rfl, rfl⟩
              have gx119 := rg x119
              try simp only [q118, e106, e107, e108, e109, e110, e111] at p0x119
              try have q0x119 := congrArg Int32.toInt p0x119
              refine b_if_eq C (t := 163) rfl rfl rfl (fun c120 => ?_) (fun c120 => ?_)
              · skip
                first | (replace p0x119 := p0x119.resolve_left (by omega)) | (replace p0x119 := p0x119.resolve_right (by omega)) | (replace p0x119 := p0x119 (by omega)) | (have hno := imp_no p0x119 (by omega); clear hno; clear p0x119) | skip
                refine k_iload_n C rfl rfl rfl ?_
                refine z_bipush C (z := 10) rfl rfl rfl (fun x121 ex121 => ?_)
                refine z_isub C rfl rfl ⟨by omega, by omega⟩ (fun x122 ex122 => ?_)
                refine z_iconst C (z := 0) rfl rfl rfl (fun x123 ex123 => ?_)
                refine k_aload_n C rfl rfl rfl ?_
                refine g_I C rfl rfl rfl T_r0 rfl e111 ?_
                refine z_iconst C (z := 1) rfl rfl rfl (fun x124 ex124 => ?_)
                refine z_isub C rfl rfl ⟨by omega, by omega⟩ (fun x125 ex125 => ?_)
                have q126 : x123.toNatClampNeg = 0 := nck (by omega)
                refine c_SI C a_X12_in rfl rfl rfl rfl rfl rfl rfl (Nat.le_of_ble_eq_true rfl) (Nat.le_of_ble_eq_true rfl) (Nat.le_of_ble_eq_true rfl) ?_
                rintro x127 _ _ ⟨o0x127, o1x127, p0x127, rfl, rfl⟩
                have gx127 := rg x127
                try simp only [q126, e106, e107, e108, e109, e110, e111] at p0x127
                try have q0x127 := congrArg Int32.toInt p0x127
                refine b_if_eq C (t := 192) rfl rfl rfl (fun c128 => ?_) (fun c128 => ?_)
                · skip
                  first | (replace p0x119 := p0x119.resolve_left (by omega)) | (replace p0x119 := p0x119.resolve_right (by omega)) | (replace p0x119 := p0x119 (by omega)) | (have hno := imp_no p0x119 (by omega); clear hno; clear p0x119) | skip
                  first | (replace p0x127 := p0x127.resolve_left (by omega)) | (replace p0x127 := p0x127.resolve_right (by omega)) | (replace p0x127 := p0x127 (by omega)) | (have hno := imp_no p0x127 (by omega); clear hno; clear p0x127) | skip
                  refine z_iconst C (z := -1) rfl rfl rfl (fun x129 ex129 => ?_)
                  exact k_iret C rfl (Or.inl rfl) (Nat.le_of_ble_eq_true rfl) (Nat.le_of_ble_eq_true rfl) ⟨_, _, _, rfl, rfl, fun a1 h1 => by cases (R_r0_1.symm.trans h1); refine Or.inr (Or.inr ⟨by simp only [k0_r0_1_1]; omega, by simp only [k0_r0_1_E_6_10_n1_toNatClampNeg]; omega, by rw [e109]; omega, ?_⟩); simp only [k0_r0_1_0, k0_r0_1_E_6_10_n1_toNatClampNeg]; exact PWX.r (n := x90.toInt.toNat) (fun m hm => ff82_0 m (by omega)) (by omega) (ff121_0 (by omega)) (by first | exact PWA.b (by omega) (by omega) hr159 | exact PWA.c (by omega) (by omega) hr188 | exact PWA.d (by omega) (by omega) (by omega) (by omega)), hI104, (CM.cons S3 (CM.cons S14 (CM.cons S50 (CM.cons S63 (CM.cons S74 (CM.cons S87 (CM.mono S103 (by decide) (by decide)) (by decide) (by decide)) (by decide) (by decide)) (by decide) (by decide)) (by decide) (by decide)) (by decide) (by decide)) (by decide) (by decide))⟩
                first | (replace p0x119 := p0x119.resolve_left (by omega)) | (replace p0x119 := p0x119.resolve_right (by omega)) | (replace p0x119 := p0x119 (by omega)) | (have hno := imp_no p0x119 (by omega); clear hno; clear p0x119) | skip
                first | (replace p0x127 := p0x127.resolve_left (by omega)) | (replace p0x127 := p0x127.resolve_right (by omega)) | (replace p0x127 := p0x127 (by omega)) | (have hno := imp_no p0x127 (by omega); clear hno; clear p0x127) | skip
                refine k_aload_n C rfl rfl rfl ?_
                refine g_R C rfl rfl rfl T_r0 rfl R_r0_28 ?_
                refine k_iload_n C rfl rfl rfl ?_
                refine z_bipush C (z := 10) rfl rfl rfl (fun x130 ex130 => ?_)
                refine z_isub C rfl rfl ⟨by omega, by omega⟩ (fun x131 ex131 => ?_)
                obtain ⟨T_r0_28, N_r0_28, A_r0_28⟩ := id H_r0_28
                refine z_aI C rfl rfl T_r0_28 N_r0_28 (by omega) (by omega) (fun x132 ex132 => ?_)
                have gx132 := rg x132
                have ox132 := IM.faR hI104 R_r0_28 ex132
                have hj188 : x131.toNatClampNeg = (n2.toInt - 10).toNat := (by have h9 := ncz (x := x131) (by omega); omega)
                have hr188 : x132.toInt = NF I101 r0_28 (n2.toInt - 10).toNat := (by rw [← hj188]; exact (congrArg Int32.toInt ex132).symm)
                refine k_goto C (pc2 := 193) rfl rfl ?_
                exact k_iret C rfl (Or.inl rfl) (Nat.le_of_ble_eq_true rfl) (Nat.le_of_ble_eq_true rfl) ⟨_, _, _, rfl, rfl, fun a1 h1 => by cases (R_r0_1.symm.trans h1); refine Or.inr (Or.inr ⟨by simp only [k0_r0_1_1]; omega, by simp only [k0_r0_1_E_6_10_n1_toNatClampNeg]; omega, by rw [e109]; omega, ?_⟩); simp only [k0_r0_1_0, k0_r0_1_E_6_10_n1_toNatClampNeg]; exact PWX.r (n := x90.toInt.toNat) (fun m hm => ff82_0 m (by omega)) (by omega) (ff121_0 (by omega)) (by first | exact PWA.b (by omega) (by omega) hr159 | exact PWA.c (by omega) (by omega) hr188 | exact PWA.d (by omega) (by omega) (by omega) (by omega)), hI104, (CM.cons S3 (CM.cons S14 (CM.cons S50 (CM.cons S63 (CM.cons S74 (CM.cons S87 (CM.mono S103 (by decide) (by decide)) (by decide) (by decide)) (by decide) (by decide)) (by decide) (by decide)) (by decide) (by decide)) (by decide) (by decide)) (by decide) (by decide))⟩
              first | (replace p0x119 := p0x119.resolve_left (by omega)) | (replace p0x119 := p0x119.resolve_right (by omega)) | (replace p0x119 := p0x119 (by omega)) | (have hno := imp_no p0x119 (by omega); clear hno; clear p0x119) | skip
              refine k_aload_n C rfl rfl rfl ?_
              refine g_R C rfl rfl rfl T_r0 rfl R_r0_27 ?_
              refine k_iload_n C rfl rfl rfl ?_
              obtain ⟨T_r0_27, N_r0_27, A_r0_27⟩ := id H_r0_27
              refine z_aI C rfl rfl T_r0_27 N_r0_27 (by omega) (by omega) (fun x133 ex133 => ?_)
              have gx133 := rg x133
              have ox133 := IM.spR hI104 R_r0_27 ex133
              have hr159 : x133.toInt = NF I101 r0_27 n2.toInt.toNat := (congrArg Int32.toInt ex133).symm
              refine k_goto C (pc2 := 193) rfl rfl ?_
              exact k_iret C rfl (Or.inl rfl) (Nat.le_of_ble_eq_true rfl) (Nat.le_of_ble_eq_true rfl) ⟨_, _, _, rfl, rfl, fun a1 h1 => by cases (R_r0_1.symm.trans h1); refine Or.inr (Or.inr ⟨by simp only [k0_r0_1_1]; omega, by simp only [k0_r0_1_E_6_10_n1_toNatClampNeg]; omega, by rw [e109]; omega, ?_⟩); simp only [k0_r0_1_0, k0_r0_1_E_6_10_n1_toNatClampNeg]; exact PWX.r (n := x90.toInt.toNat) (fun m hm => ff82_0 m (by omega)) (by omega) (ff121_0 (by omega)) (by first | exact PWA.b (by omega) (by omega) hr159 | exact PWA.c (by omega) (by omega) hr188 | exact PWA.d (by omega) (by omega) (by omega) (by omega)), hI104, (CM.cons S3 (CM.cons S14 (CM.cons S50 (CM.cons S63 (CM.cons S74 (CM.cons S87 (CM.mono S103 (by decide) (by decide)) (by decide) (by decide)) (by decide) (by decide)) (by decide) (by decide)) (by decide) (by decide)) (by decide) (by decide)) (by decide) (by decide))⟩
            refine k_aload_n C rfl rfl rfl ?_
            refine g_I C rfl rfl rfl T_r0 rfl e111 ?_
            exact k_iret C rfl (Or.inl rfl) (Nat.le_of_ble_eq_true rfl) (Nat.le_of_ble_eq_true rfl) ⟨_, _, _, rfl, rfl, fun a1 h1 => by cases (R_r0_1.symm.trans h1); refine Or.inr (Or.inr ⟨by simp only [k0_r0_1_1]; omega, by simp only [k0_r0_1_E_6_10_n1_toNatClampNeg]; omega, by rw [e109]; omega, ?_⟩); simp only [k0_r0_1_0, k0_r0_1_E_6_10_n1_toNatClampNeg]; exact PWX.r (n := x90.toInt.toNat) (fun m hm => ff82_0 m (by omega)) (by omega) (ff121_0 (by omega)) (PWA.a (by omega) (by omega)), hI104, (CM.cons S3 (CM.cons S14 (CM.cons S50 (CM.cons S63 (CM.cons S74 (CM.cons S87 (CM.mono S103 (by decide) (by decide)) (by decide) (by decide)) (by decide) (by decide)) (by decide) (by decide)) (by decide) (by decide)) (by decide) (by decide)) (by decide) (by decide))⟩
          refine z_iconst C (z := -1) rfl rfl rfl (fun x134 ex134 => ?_)
          exact k_iret C rfl (Or.inl rfl) (Nat.le_of_ble_eq_true rfl) (Nat.le_of_ble_eq_true rfl) ⟨_, _, _, rfl, rfl, fun a1 h1 => by cases (R_r0_1.symm.trans h1); refine Or.inr (Or.inr ⟨by simp only [k0_r0_1_1]; omega, by simp only [k0_r0_1_E_6_10_n1_toNatClampNeg]; omega, by rw [e109]; omega, ?_⟩); simp only [k0_r0_1_0, k0_r0_1_E_6_10_n1_toNatClampNeg]; exact PWX.n4 (fun m hm => ff82_0 m (by omega)) (by omega), hI104, (CM.cons S3 (CM.cons S14 (CM.cons S50 (CM.cons S63 (CM.cons S74 (CM.cons S87 (CM.mono S103 (by decide) (by decide)) (by decide) (by decide)) (by decide) (by decide)) (by decide) (by decide)) (by decide) (by decide)) (by decide) (by decide)) (by decide) (by decide))⟩
        refine b_if_le C (t := 121) rfl rfl rfl (fun c135 => ?_) (fun c135 => ?_)
        · skip
          refine k_sub S [(0, .ref r0), (2, .int n2)] (List.forall_mem_cons.mpr ⟨List.mem_of_getElem? (i := 0) rfl, List.forall_mem_cons.mpr ⟨List.mem_of_getElem? (i := 1) rfl, fun _ h => nomatch h⟩⟩) ?_
          exact J99 I85 L86 hI88 CM.rf (fun r z0 => rfl) (by intro h9; first | (exfalso; omega) | (have h8 := hPW9 (by omega); rw [em9] at h8; exact h8) | (rw [show x90.toInt.toNat = 0 from by omega]; exact PWL.z (ff82_3 (by omega))))
        refine k_aload_n C rfl rfl rfl ?_
        refine g_I C rfl rfl rfl T_r0 rfl e91 ?_
        refine z_iconst C (z := 4) rfl rfl rfl (fun x136 ex136 => ?_)
        refine b_icmp_ge C (t := 121) rfl rfl rfl (fun c137 => ?_) (fun c137 => ?_)
        · skip
          refine k_sub S [(0, .ref r0), (2, .int n2)] (List.forall_mem_cons.mpr ⟨List.mem_of_getElem? (i := 0) rfl, List.forall_mem_cons.mpr ⟨List.mem_of_getElem? (i := 1) rfl, fun _ h => nomatch h⟩⟩) ?_
          exact J99 I85 L86 hI88 CM.rf (fun r z0 => rfl) (by intro h9; first | (exfalso; omega) | (have h8 := hPW9 (by omega); rw [em9] at h8; exact h8) | (rw [show x90.toInt.toNat = 0 from by omega]; exact PWL.z (ff82_3 (by omega))))
        refine k_aload_n C rfl rfl rfl ?_
        refine k_aload_n C rfl rfl rfl ?_
        refine g_I C rfl rfl rfl T_r0 rfl e91 ?_
        have hk102 := e98
        have hq102 := e95
        obtain ⟨m9, em9⟩ : ∃ m : Int, m = x90.toInt := ⟨_, rfl⟩
        have hm9 := ncz (x := x90) (by omega)
        have hPX : ∀ m : Nat, (m : Int) < m9 → ¬ EXN w_r0_1_0.toInt w_r0_1_E_6_10_n1_toNatClampNeg.toInt (BNI w_r0_1_E_6_10_n1_toNatClampNeg.toInt) (fun k => (I r0_1 (7 + 10 * n1.toNatClampNeg + k)).toInt) m := fun m hm => ff82_0 m (by omega)
        refine c_VI C (a_X12_isSum_x hI88 H_r0 (by omega) (by omega) (fun a4 h4 => by cases (R_r0_4.symm.trans h4); (rw [e98]; omega)) (fun a4 h4 => by cases (R_r0_4.symm.trans h4); (rw [e98]; omega)) (fun a1 a4 a5 h1 h4 h5 => by cases (R_r0_1.symm.trans h1); cases (R_r0_4.symm.trans h4); cases (R_r0_5.symm.trans h5); (rw [e98, e95]; exact fun k hk => RWF.cn ff82_1 hcr k (by omega))) (fun a1 a4 a26 h1 h4 h26 => by cases (R_r0_1.symm.trans h1); cases (R_r0_4.symm.trans h4); cases (R_r0_26.symm.trans h26); (rw [e98, e95]; exact PWT.mv ff82_2 (by omega) rfl))) rfl rfl rfl rfl rfl ⟨_, rfl, rfl, T_r0, Nat.le_of_ble_eq_true rfl⟩ rfl rfl (Nat.le_of_ble_eq_true rfl) (Nat.le_of_ble_eq_true rfl) (Nat.le_of_ble_eq_true rfl) ?_
        rintro x138 I139 L140 ⟨o0x138, o1x138, p0x138, p1x138, p2x138, p3x138, hI139, S141⟩
        have p0x138 := p0x138 r0_1 r0_4 r0_5 r0_27 r0_28 R_r0_1 R_r0_4 R_r0_5 R_r0_27 R_r0_28
        have p1x138 := p1x138 r0_1 r0_4 r0_5 R_r0_1 R_r0_4 R_r0_5
        have p2x138 := p2x138 r0_4 R_r0_4
        have p3x138 := p3x138 r0_5 R_r0_5
        have F142 : ∀ r : Nat, r ≠ 42 → I139 r0_4 r = I85 r0_4 r := fun r z0 => p2x138 r (by first | exact z0)
        have e143 := CM.j S141 R_r0_1 (by decide) e94
        have e144 := CM.j S141 R_r0_1 (by decide) e95
        have e145 := CM.j S141 R_r0_1 (by decide) e96
        have e146 := CM.k S141 (by decide) e97
        have e147 := (p2x138 40 (by first | decide | exact ncne (by omega) (by omega) (by omega) | exact nckn (by omega) (by omega) | exact (nckn (by omega) (by omega)).symm)).trans e98
        have e148 := CM.k S141 (by decide) e91
        have gx138 := rg x138
        try simp only [e94, e95, e96, e97, e98, e91] at p0x138
        try have q0x138 := congrArg Int32.toInt p0x138
        try simp only [e94, e95, e96, e97, e98, e91] at p1x138
        try have q1x138 := congrArg Int32.toInt p1x138
        have hs1 := p0x138
        have hs0 := p1x138
        (try rw [hk102, hq102] at hs1)
        (try rw [hk102, hq102] at hs0)
        have h5s := p3x138
        have h26s := CM.j0 S141 R_r0_26 (by decide)
        have hPW9 : x138.toInt = 1 → PWL w_r0_1_0.toInt w_r0_1_E_6_10_n1_toNatClampNeg.toInt (BNI w_r0_1_E_6_10_n1_toNatClampNeg.toInt) (fun k => (I r0_1 (7 + 10 * n1.toNatClampNeg + k)).toInt) m9.toNat (NF I139 r0_27) (NF I139 r0_28) := fun h9 => PWL.mv (hs1 h9) (by omega) (by omega) (fun k hk => ff82_1 k (by omega))
        have hPX0 : x138.toInt = 0 → ¬ EXN w_r0_1_0.toInt w_r0_1_E_6_10_n1_toNatClampNeg.toInt (BNI w_r0_1_E_6_10_n1_toNatClampNeg.toInt) (fun k => (I r0_1 (7 + 10 * n1.toNatClampNeg + k)).toInt) m9.toNat := fun h9 h8 => hs0 h9 (EXN.mv h8 (by omega) (by omega) (fun k hk => (ff82_1 k (by omega)).symm))
        refine b_if_ne C (t := 121) rfl rfl rfl (fun c149 => ?_) (fun c149 => ?_)
        · skip
          first | (replace p0x138 := p0x138.resolve_left (by omega)) | (replace p0x138 := p0x138.resolve_right (by omega)) | (replace p0x138 := p0x138 (by omega)) | (have hno := imp_no p0x138 (by omega); clear hno; clear p0x138) | skip
          first | (replace p1x138 := p1x138.resolve_left (by omega)) | (replace p1x138 := p1x138.resolve_right (by omega)) | (replace p1x138 := p1x138 (by omega)) | (have hno := imp_no p1x138 (by omega); clear hno; clear p1x138) | skip
          first | (replace p2x138 := p2x138.resolve_left (by omega)) | (replace p2x138 := p2x138.resolve_right (by omega)) | (replace p2x138 := p2x138 (by omega)) | (have hno := imp_no p2x138 (by omega); clear hno; clear p2x138) | skip
          first | (replace p3x138 := p3x138.resolve_left (by omega)) | (replace p3x138 := p3x138.resolve_right (by omega)) | (replace p3x138 := p3x138 (by omega)) | (have hno := imp_no p3x138 (by omega); clear hno; clear p3x138) | skip
          refine k_sub S [(0, .ref r0), (2, .int n2)] (List.forall_mem_cons.mpr ⟨List.mem_of_getElem? (i := 0) rfl, List.forall_mem_cons.mpr ⟨List.mem_of_getElem? (i := 1) rfl, fun _ h => nomatch h⟩⟩) ?_
          exact J99 I139 L140 hI139 (CM.mono S141 (by decide) (by decide)) (fun r z0 => (F142 r z0)) (by intro h9; first | (exfalso; omega) | (have h8 := hPW9 (by omega); rw [em9] at h8; exact h8) | (rw [show x90.toInt.toNat = 0 from by omega]; exact PWL.z (ff82_3 (by omega))))
        first | (replace p0x138 := p0x138.resolve_left (by omega)) | (replace p0x138 := p0x138.resolve_right (by omega)) | (replace p0x138 := p0x138 (by omega)) | (have hno := imp_no p0x138 (by omega); clear hno; clear p0x138) | skip
        first | (replace p1x138 := p1x138.resolve_left (by omega)) | (replace p1x138 := p1x138.resolve_right (by omega)) | (replace p1x138 := p1x138 (by omega)) | (have hno := imp_no p1x138 (by omega); clear hno; clear p1x138) | skip
        first | (replace p2x138 := p2x138.resolve_left (by omega)) | (replace p2x138 := p2x138.resolve_right (by omega)) | (replace p2x138 := p2x138 (by omega)) | (have hno := imp_no p2x138 (by omega); clear hno; clear p2x138) | skip
        first | (replace p3x138 := p3x138.resolve_left (by omega)) | (replace p3x138 := p3x138.resolve_right (by omega)) | (replace p3x138 := p3x138 (by omega)) | (have hno := imp_no p3x138 (by omega); clear hno; clear p3x138) | skip
        refine k_aload_n C rfl rfl rfl ?_
        refine k_dup C rfl rfl rfl ?_
        refine g_I C rfl rfl rfl T_r0 rfl e148 ?_
        refine z_iconst C (z := 1) rfl rfl rfl (fun x150 ex150 => ?_)
        refine z_iadd C rfl rfl ⟨by omega, by omega⟩ (fun x151 ex151 => ?_)
        refine z_pI C rfl rfl rfl T_r0 (Or.inr rfl) rfl (fun I152 uI152 => ?_)
        have hI152 : IM R r0 I152 := IM.fld hI139 G_r0 ⟨(fun h => absurd h (by decide)), (fun h => absurd h (by decide)), (fun h => absurd h (by decide)), (fun h => absurd h (by decide)), (fun h => absurd h (by decide))⟩ uI152
        have S153 : CM A R r0 [29] [] I139 L140 I152 L140 := CM.f G_r0 A_r0 uI152
        have e154 := u2_n uI152 (mF.ne G_r0 R_r0_1) e143
        have e155 := u2_n uI152 (mF.ne G_r0 R_r0_1) e144
        have e156 := u2_n uI152 (mF.ne G_r0 R_r0_1) e145
        have e157 := u2_j uI152 (by first | decide | exact ncne (by omega) (by omega) (by omega) | exact nckn (by omega) (by omega) | exact (nckn (by omega) (by omega)).symm) e146
        have e158 := u2_n uI152 (mF.ne G_r0 R_r0_4) e147
        have e160 := u2_e uI152
        refine k_goto C (pc2 := 82) rfl rfl ?_
        refine k_sub S [(0, .ref r0), (2, .int n2)] (List.forall_mem_cons.mpr ⟨List.mem_of_getElem? (i := 0) rfl, List.forall_mem_cons.mpr ⟨List.mem_of_getElem? (i := 1) rfl, fun _ h => nomatch h⟩⟩) ?_
        exact ihJ83 _ (MN.lt hmnn84 (by omega) (by omega)) I152 L140 x151 rfl hI152 (CM.cons S87 (CM.cons S141 (CM.mono S153 (by decide) (by decide)) (by decide) (by decide)) (by decide) (by decide)) (fun r z0 => ((congrFun (CM.j0 S153 R_r0_4 (by decide)) r).trans ((F142 r z0).trans (F89 r z0)))) e160 (by omega) (by omega) (by intro m hm; exact (Classical.em ((m : Int) < m9)).elim (fun c9 => by (exact hPX m c9)) (fun c9 => by ((have e9 : m = m9.toNat := (by omega); rw [e9]; exact hPX0 (by omega))))) (by exact RWF.sm ff82_1 (fun k hk => (congrFun (CM.j0 S153 R_r0_5 (by decide)) _).trans (h5s _ (by omega))) (by omega)) (by exact PWT.mv ff82_2 rfl ((CM.j0 S153 R_r0_26 (by decide)).trans h26s).symm) (by intro h9; exfalso; omega)
    refine b_if_eq C (t := 78) rfl rfl rfl (fun c161 => ?_) (fun c161 => ?_)
    · skip
      refine z_iconst C (z := 1) rfl rfl rfl (fun x162 ex162 => ?_)
      refine z_pI C rfl rfl rfl T_r0 (Or.inr rfl) rfl (fun I163 uI163 => ?_)
      have hI163 : IM R r0 I163 := IM.fld hI72 G_r0 ⟨(fun h => absurd h (by decide)), (fun h => absurd h (by decide)), (fun h => absurd h (by decide)), (fun h => absurd h (by decide)), (fun h => absurd h (by decide))⟩ uI163
      have S164 : CM A R r0 [29] [] I72 L73 I163 L73 := CM.f G_r0 A_r0 uI163
      have e165 := u2_n uI163 (mF.ne G_r0 R_r0_1) e75
      have e166 := u2_n uI163 (mF.ne G_r0 R_r0_1) e76
      have e167 := u2_n uI163 (mF.ne G_r0 R_r0_1) e77
      have e168 := u2_j uI163 (by first | decide | exact ncne (by omega) (by omega) (by omega) | exact nckn (by omega) (by omega) | exact (nckn (by omega) (by omega)).symm) e78
      have e169 := u2_n uI163 (mF.ne G_r0 R_r0_4) e79
      have e170 := u2_e uI163
      refine k_sub S [(0, .ref r0), (2, .int n2)] (List.forall_mem_cons.mpr ⟨List.mem_of_getElem? (i := 0) rfl, List.forall_mem_cons.mpr ⟨List.mem_of_getElem? (i := 2) rfl, fun _ h => nomatch h⟩⟩) ?_
      exact J83 _ I163 L73 x162 rfl hI163 (CM.mono S164 (by decide) (by decide)) (fun r z0 => (congrFun (CM.j0 S164 R_r0_4 (by decide)) r)) e170 (by omega) (by omega) (by intro m hm hx; exact (hN.2 (by omega)) (fun k hk => ((EXN.z0.mp ((show m = 0 from by omega) ▸ hx)) k (by omega)).zr (hcr k (by omega)).1 (hcr k (by omega)).2)) (by exact hRWr.eqm (CM.j0 S164 R_r0_5 (by decide))) (by exact PWT.mv hpt (by omega) (CM.j0 S164 R_r0_26 (by decide)).symm) (by intro h9 k hk; exact (hN.1 (by omega)) k (by omega))
    refine z_iconst C (z := 0) rfl rfl rfl (fun x171 ex171 => ?_)
    refine k_goto C (pc2 := 79) rfl rfl ?_
    refine z_pI C rfl rfl rfl T_r0 (Or.inr rfl) rfl (fun I172 uI172 => ?_)
    have hI172 : IM R r0 I172 := IM.fld hI72 G_r0 ⟨(fun h => absurd h (by decide)), (fun h => absurd h (by decide)), (fun h => absurd h (by decide)), (fun h => absurd h (by decide)), (fun h => absurd h (by decide))⟩ uI172
    have S173 : CM A R r0 [29] [] I72 L73 I172 L73 := CM.f G_r0 A_r0 uI172
    have e174 := u2_n uI172 (mF.ne G_r0 R_r0_1) e75
    have e175 := u2_n uI172 (mF.ne G_r0 R_r0_1) e76
    have e176 := u2_n uI172 (mF.ne G_r0 R_r0_1) e77
    have e177 := u2_j uI172 (by first | decide | exact ncne (by omega) (by omega) (by omega) | exact nckn (by omega) (by omega) | exact (nckn (by omega) (by omega)).symm) e78
    have e178 := u2_n uI172 (mF.ne G_r0 R_r0_4) e79
    have e179 := u2_e uI172
    refine k_sub S [(0, .ref r0), (2, .int n2)] (List.forall_mem_cons.mpr ⟨List.mem_of_getElem? (i := 0) rfl, List.forall_mem_cons.mpr ⟨List.mem_of_getElem? (i := 2) rfl, fun _ h => nomatch h⟩⟩) ?_
    exact J83 _ I172 L73 x171 rfl hI172 (CM.mono S173 (by decide) (by decide)) (fun r z0 => (congrFun (CM.j0 S173 R_r0_4 (by decide)) r)) e179 (by omega) (by omega) (by intro m hm hx; exact (hN.2 (by omega)) (fun k hk => ((EXN.z0.mp ((show m = 0 from by omega) ▸ hx)) k (by omega)).zr (hcr k (by omega)).1 (hcr k (by omega)).2)) (by exact hRWr.eqm (CM.j0 S173 R_r0_5 (by decide))) (by exact PWT.mv hpt (by omega) (CM.j0 S173 R_r0_26 (by decide)).symm) (by intro h9 k hk; exact (hN.1 (by omega)) k (by omega))
  refine z_iconst C (z := 1) rfl rfl rfl (fun x180 ex180 => ?_)
  refine k_goto C (pc2 := 37) rfl rfl ?_
  refine z_iconst C (z := 2) rfl rfl rfl (fun x181 ex181 => ?_)
  have q182 : x180.toNatClampNeg = 1 := nck (by omega)
  have q183 : x181.toNatClampNeg = 2 := nck (by omega)
  refine c_VI C (a_X12_throwsIf_e hI12 H_r0 (by omega) (by omega)) rfl rfl rfl rfl rfl ⟨_, rfl, rfl, T_r0, Nat.le_of_ble_eq_true rfl⟩ rfl rfl (Nat.le_of_ble_eq_true rfl) (Nat.le_of_ble_eq_true rfl) (Nat.le_of_ble_eq_true rfl) ?_
  rintro x184 I185 L186 ⟨o0x184, o1x184, p0x184, p1x184, hI185, S187⟩
  have e188 := CM.j S187 R_r0_1 (by decide) e15
  have e189 := CM.j S187 R_r0_1 (by decide) e16
  have e190 := CM.j S187 R_r0_1 (by decide) e17
  have gx184 := rg x184
  obtain ⟨x192, e193⟩ : ∃ x, I185 r0 0 = x := ⟨_, rfl⟩
  have gx192 := rg x192
  try simp only [q182, q183, e15, e16, e17, e20, e193] at p0x184
  try have q0x184 := congrArg Int32.toInt p0x184
  try simp only [q182, q183, e15, e16, e17, e20, e193] at p1x184
  try have q1x184 := congrArg Int32.toInt p1x184
  refine b_if_eq C (t := 46) rfl rfl rfl (fun c194 => by exfalso; omega) (fun c194 => ?_)
  first | (replace p0x184 := p0x184.resolve_left (by omega)) | (replace p0x184 := p0x184.resolve_right (by omega)) | (replace p0x184 := p0x184 (by omega)) | (have hno := imp_no p0x184 (by omega); clear hno; clear p0x184) | skip
  first | (replace p1x184 := p1x184.resolve_left (by omega)) | (replace p1x184 := p1x184.resolve_right (by omega)) | (replace p1x184 := p1x184 (by omega)) | (have hno := imp_no p1x184 (by omega); clear hno; clear p1x184) | skip
  refine z_iconst C (z := 0) rfl rfl rfl (fun x195 ex195 => ?_)
  exact k_iret C rfl (Or.inl rfl) (Nat.le_of_ble_eq_true rfl) (Nat.le_of_ble_eq_true rfl) ⟨_, _, _, rfl, rfl, fun a1 h1 => by cases (R_r0_1.symm.trans h1); first | exact Or.inl ⟨by simp only [k0_r0_1_1]; omega, by rw [e193]; omega⟩ | exact Or.inr (Or.inl ⟨by simp only [k0_r0_1_1]; omega, by simp only [k0_r0_1_E_6_10_n1_toNatClampNeg]; omega, by rw [e193]; omega⟩), hI185, (CM.cons S3 (CM.cons S14 (CM.mono S187 (by decide) (by decide)) (by decide) (by decide)) (by decide) (by decide))⟩

