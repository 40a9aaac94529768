/-! the reference in any state: what lies in common, quotients -/
theorem a_X12_commons {d : Nat} {T N : Nat → Nat} {I : IT} {L : LT} {R : RT} {A : Nat → Prop} {r0 : Nat} (hI : IM R r0 I) (H_r0 : (h_MD T N R A) r0) (hp0 : ∀ a4, R r0 4 = some a4 → (I a4 40).toInt ≤ 8) (hp1 : ∀ a4, R r0 4 = some a4 → (I a4 41).toInt ≤ 8) (hp2 : ∀ a4 a5, R r0 4 = some a4 → R r0 5 = some a5 → NZ I a5 40 (I a4 40).toInt) (hp3 : ∀ a4 a5, R r0 4 = some a4 → R r0 5 = some a5 → NZ I a5 41 (I a4 41).toInt) (hp4 : ∀ a1 a4 a5, R r0 1 = some a1 → R r0 4 = some a4 → R r0 5 = some a5 → QN I a5 40 ((I a4 40).toInt + 1) (I a1 0).toInt) (hp5 : ∀ a1 a4 a5, R r0 1 = some a1 → R r0 4 = some a4 → R r0 5 = some a5 → QN I a5 41 ((I a4 41).toInt + 1) (I a1 0).toInt) : Ex (d + 6) 290 [.ref r0] (T, N, I, L, R) 0 0 (pV T N R (fun I9 L9 => (IM R r0 I9 ∧ CM A R r0 [] [4, 5] I L I9 L9))) := by
  refine ⟨_, rfl, Nat.le_of_ble_eq_true rfl, fun V C S => ?_⟩
  show V 0 [(0, .ref r0)] [] (T, N, I, L, R) 0 0
  obtain ⟨T_r0, A_r0, ⟨r0_1, R_r0_1, H_r0_1⟩, ⟨r0_2, R_r0_2, H_r0_2⟩, ⟨r0_4, R_r0_4, H_r0_4⟩, ⟨r0_5, R_r0_5, H_r0_5⟩, ⟨r0_10, R_r0_10, H_r0_10⟩, ⟨r0_18, R_r0_18, H_r0_18⟩, ⟨r0_20, R_r0_20, H_r0_20⟩, ⟨r0_21, R_r0_21, H_r0_21⟩, ⟨r0_22, R_r0_22, H_r0_22⟩, ⟨r0_23, R_r0_23, H_r0_23⟩, ⟨r0_25, R_r0_25, H_r0_25⟩, ⟨r0_26, R_r0_26, H_r0_26⟩, ⟨r0_27, R_r0_27, H_r0_27⟩, ⟨r0_28, R_r0_28, H_r0_28⟩, ⟨r0_34, R_r0_34, H_r0_34⟩, J_r0, Y_r0⟩ := id H_r0
  have G_r0 : mF T R r0 := ⟨J_r0, Y_r0, T_r0⟩
  obtain ⟨w_r0_4_40, k0_r0_4_40⟩ : ∃ x, I r0_4 40 = x := ⟨_, rfl⟩
  have gw_r0_4_40 := rg w_r0_4_40
  have ow_r0_4_40 := IM.dgR hI R_r0_4 k0_r0_4_40
  obtain ⟨w_r0_4_41, k0_r0_4_41⟩ : ∃ x, I r0_4 41 = x := ⟨_, rfl⟩
  have gw_r0_4_41 := rg w_r0_4_41
  have ow_r0_4_41 := IM.dgR hI R_r0_4 k0_r0_4_41
  obtain ⟨w_r0_1_0, k0_r0_1_0⟩ : ∃ x, I r0_1 0 = x := ⟨_, rfl⟩
  have gw_r0_1_0 := rg w_r0_1_0
  have ow_r0_1_0 := IM.pi hI R_r0_1 k0_r0_1_0
  have hp0 := hp0 r0_4 R_r0_4
  have hp1 := hp1 r0_4 R_r0_4
  have hp2 := hp2 r0_4 r0_5 R_r0_4 R_r0_5
  have hp3 := hp3 r0_4 r0_5 R_r0_4 R_r0_5
  have hp4 := hp4 r0_1 r0_4 r0_5 R_r0_1 R_r0_4 R_r0_5
  have hp5 := hp5 r0_1 r0_4 r0_5 R_r0_1 R_r0_4 R_r0_5
  try simp only [k0_r0_4_40, k0_r0_4_41, k0_r0_1_0] at hp0
  try simp only [k0_r0_4_40, k0_r0_4_41, k0_r0_1_0] at hp1
  try simp only [k0_r0_4_40, k0_r0_4_41, k0_r0_1_0] at hp2
  try simp only [k0_r0_4_40, k0_r0_4_41, k0_r0_1_0] at hp3
  try simp only [k0_r0_4_40, k0_r0_4_41, k0_r0_1_0] at hp4
  try simp only [k0_r0_4_40, k0_r0_4_41, k0_r0_1_0] at hp5
  refine k_aload_n C rfl rfl rfl ?_
  refine z_bipush C (z := 40) rfl rfl rfl (fun x1 ex1 => ?_)
  have q2 : x1.toNatClampNeg = 40 := nck (by omega)
  refine c_VI C (a_X12_strips hI H_r0 (by omega) (by omega) (fun a4 a5 h4 h5 => by cases (R_r0_4.symm.trans h4); cases (R_r0_5.symm.trans h5); simp only [q2, k0_r0_4_40, k0_r0_4_41, k0_r0_1_0]; exact hp2)) rfl rfl rfl rfl rfl ⟨_, rfl, rfl, T_r0, Nat.le_of_ble_eq_true rfl⟩ rfl rfl (Nat.le_of_ble_eq_true rfl) (Nat.le_of_ble_eq_true rfl) (Nat.le_of_ble_eq_true rfl) ?_
  rintro x3 I4 L5 ⟨p0x3, p1x3, p2x3, p3x3, p4x3, p5x3, hI4, S6⟩
  have p0x3 := p0x3 r0_4 R_r0_4
  have p1x3 := p1x3 r0_4 R_r0_4
  have p2x3 := p2x3 r0_5 R_r0_5
  have p3x3 := p3x3 r0_4 r0_5 R_r0_4 R_r0_5
  have p4x3 := p4x3 r0_4 R_r0_4
  have p5x3 := p5x3 r0_5 R_r0_5
  try simp only [q2] at p4x3
  try simp only [q2] at p5x3
  have e8 := (p4x3 41 (by first | decide | exact ncne (by omega) (by omega) (by omega) | exact nckn (by omega) (by omega) | exact (nckn (by omega) (by omega)).symm)).trans k0_r0_4_41
  have e9 := CM.j S6 R_r0_1 (by decide) k0_r0_1_0
  have gx3 := rg x3
  obtain ⟨x10, e11⟩ : ∃ x, I4 r0_4 40 = x := ⟨_, rfl⟩
  have gx10 := rg x10
  have ox10 := IM.dgR hI4 R_r0_4 e11
  try simp only [q2, k0_r0_4_40, k0_r0_4_41, k0_r0_1_0, e11] at p0x3
  try have q0x3 := congrArg Int32.toInt p0x3
  try simp only [q2, k0_r0_4_40, k0_r0_4_41, k0_r0_1_0, e11] at p1x3
  try have q1x3 := congrArg Int32.toInt p1x3
  try simp only [q2, k0_r0_4_40, k0_r0_4_41, k0_r0_1_0, e11] at p2x3
  try have q2x3 := congrArg Int32.toInt p2x3
  try simp only [q2, k0_r0_4_40, k0_r0_4_41, k0_r0_1_0, e11] at p3x3
  try have q3x3 := congrArg Int32.toInt p3x3
  have hA := QN.st hp4 p3x3 (by omega)
  have nA := STP.ne p3x3 p2x3 (by omega) (by omega)
  have hB := QN.sm hp5 (fun k hk => p5x3 _ (by omega)) (by omega)
  have zB := NZ.sm hp3 (fun k hk => p5x3 _ (by omega)) (by omega)
  refine z_bipush C (z := 99) rfl rfl rfl (fun x12 ex12 => ?_)
  have q13 : x12.toNatClampNeg = 99 := nck (by omega)
  refine c_SI C a_J9_min_7cf53_m rfl rfl rfl rfl rfl rfl rfl (Nat.le_of_ble_eq_true rfl) (Nat.le_of_ble_eq_true rfl) (Nat.le_of_ble_eq_true rfl) ?_
  rintro x14 _ _ ⟨p0x14, p1x14, p2x14, rfl, rfl⟩
  have gx14 := rg x14
  try simp only [q13, e8, e9, e11] at p0x14
  try have q0x14 := congrArg Int32.toInt p0x14
  try simp only [q13, e8, e9, e11] at p1x14
  try have q1x14 := congrArg Int32.toInt p1x14
  try simp only [q13, e8, e9, e11] at p2x14
  try have q2x14 := congrArg Int32.toInt p2x14
  refine k_istore_n C (lw := [(1, .int x14), (0, .ref r0)]) rfl rfl (Nat.le_of_ble_eq_true rfl) rfl ?_
  refine k_iload_n C rfl rfl rfl ?_
  refine k_aload_n C rfl rfl rfl ?_
  refine z_bipush C (z := 41) rfl rfl rfl (fun x15 ex15 => ?_)
  have q16 : x15.toNatClampNeg = 41 := nck (by omega)
  refine c_VI C (a_X12_strips hI4 H_r0 (by omega) (by omega) (fun a4 a5 h4 h5 => by cases (R_r0_4.symm.trans h4); cases (R_r0_5.symm.trans h5); simp only [q16, e8, e9, e11]; exact zB)) rfl rfl rfl rfl rfl ⟨_, rfl, rfl, T_r0, Nat.le_of_ble_eq_true rfl⟩ rfl rfl (Nat.le_of_ble_eq_true rfl) (Nat.le_of_ble_eq_true rfl) (Nat.le_of_ble_eq_true rfl) ?_
  rintro x17 I18 L19 ⟨p0x17, p1x17, p2x17, p3x17, p4x17, p5x17, hI18, S20⟩
  have p0x17 := p0x17 r0_4 R_r0_4
  have p1x17 := p1x17 r0_4 R_r0_4
  have p2x17 := p2x17 r0_5 R_r0_5
  have p3x17 := p3x17 r0_4 r0_5 R_r0_4 R_r0_5
  have p4x17 := p4x17 r0_4 R_r0_4
  have p5x17 := p5x17 r0_5 R_r0_5
  try simp only [q16] at p4x17
  try simp only [q16] at p5x17
  have e22 := CM.j S20 R_r0_1 (by decide) e9
  have e23 := (p4x17 40 (by first | decide | exact ncne (by omega) (by omega) (by omega) | exact nckn (by omega) (by omega) | exact (nckn (by omega) (by omega)).symm)).trans e11
  have gx17 := rg x17
  obtain ⟨x24, e25⟩ : ∃ x, I18 r0_4 41 = x := ⟨_, rfl⟩
  have gx24 := rg x24
  have ox24 := IM.dgR hI18 R_r0_4 e25
  try simp only [q16, e8, e9, e11, e25] at p0x17
  try have q0x17 := congrArg Int32.toInt p0x17
  try simp only [q16, e8, e9, e11, e25] at p1x17
  try have q1x17 := congrArg Int32.toInt p1x17
  try simp only [q16, e8, e9, e11, e25] at p2x17
  try have q2x17 := congrArg Int32.toInt p2x17
  try simp only [q16, e8, e9, e11, e25] at p3x17
  try have q3x17 := congrArg Int32.toInt p3x17
  have hB := QN.st hB p3x17 (by omega)
  have nB := STP.ne p3x17 p2x17 (by omega) (by omega)
  have hA := QN.sm hA (fun k hk => p5x17 _ (by omega)) (by omega)
  have nA := NE1.smr nA (fun k hk => p5x17 _ (by omega))
  refine c_SI C a_J9_min_7cf53_m rfl rfl rfl rfl rfl rfl rfl (Nat.le_of_ble_eq_true rfl) (Nat.le_of_ble_eq_true rfl) (Nat.le_of_ble_eq_true rfl) ?_
  rintro x26 _ _ ⟨p0x26, p1x26, p2x26, rfl, rfl⟩
  have gx26 := rg x26
  try simp only [e22, e23, e25] at p0x26
  try have q0x26 := congrArg Int32.toInt p0x26
  try simp only [e22, e23, e25] at p1x26
  try have q1x26 := congrArg Int32.toInt p1x26
  try simp only [e22, e23, e25] at p2x26
  try have q2x26 := congrArg Int32.toInt p2x26
  refine k_istore_n C (lw := [(1, .int x26), (0, .ref r0)]) rfl rfl (Nat.le_of_ble_eq_true rfl) rfl ?_
  refine z_iconst C (z := 1) rfl rfl rfl (fun x27 ex27 => ?_)
  have J28 : ∀ (nn29 : Nat) (I30 : IT) (L31 : LT) (x32 : Int32) (x37 : Int32) (x41 : Int32), ((2 * min x37.toInt x41.toInt + x32.toInt).toNat = nn29) → (IM R r0 I30) → (CM A R r0 [] [4, 5] I18 L19 I30 L31) → (0 ≤ x32.toInt) → (x32.toInt ≤ 1) → (I30 r0_4 40 = x37) → (0 ≤ x37.toInt) → (x37.toInt ≤ 8) → (I30 r0_4 41 = x41) → (0 ≤ x41.toInt) → (x41.toInt ≤ 8) → (QN I30 r0_5 40 (x37.toInt + 1) w_r0_1_0.toInt) → (QN I30 r0_5 41 (x41.toInt + 1) w_r0_1_0.toInt) → (GN I30 r0_5 (41 * 40) x32.toInt) → (GN I30 r0_5 (41 * 41) x32.toInt) → V 25 [(0, .ref r0), (1, .int x26), (2, .int x32)] [] (T, N, I30, L31, R) 0 0 := by
    intro nn29
    induction nn29 using Nat.strongRecOn with
    | _ nn29 ihJ28 =>
      intro I30 L31 x32 x37 x41 hmnn29 hI36 S35 b33 b34 e38 b39 b40 e42 b43 b44 ff25_0 ff25_1 ff25_2 ff25_3
      have gx32 := rg x32
      have gx37 := rg x37
      have gx41 := rg x41
      have e45 := CM.j S35 R_r0_1 (by decide) e22
      refine k_iload_n C rfl rfl rfl ?_
      refine b_if_eq C (t := 128) rfl rfl rfl (fun c46 => ?_) (fun c46 => ?_)
      · skip
        refine k_aload_n C rfl rfl rfl ?_
        refine k_aload_n C rfl rfl rfl ?_
        refine z_bipush C (z := 41) rfl rfl rfl (fun x47 ex47 => ?_)
        refine z_iconst C (z := 0) rfl rfl rfl (fun x48 ex48 => ?_)
        have q49 : x47.toNatClampNeg = 41 := nck (by omega)
        have q50 : x48.toNatClampNeg = 0 := nck (by omega)
        refine c_VI C (a_X12_of hI36 H_r0 (by omega) (by omega) (by omega) (by omega)) rfl rfl rfl rfl rfl ⟨_, rfl, rfl, T_r0, Nat.le_of_ble_eq_true rfl⟩ rfl rfl (Nat.le_of_ble_eq_true rfl) (Nat.le_of_ble_eq_true rfl) (Nat.le_of_ble_eq_true rfl) ?_
        rintro x51 _ _ ⟨o0x51, o1x51, p0x51, rfl, rfl⟩
        have p0x51 := p0x51 r0_5 R_r0_5
        have gx51 := rg x51
        try simp only [q49, q50, e45, e38, e42] at p0x51
        try have q0x51 := congrArg Int32.toInt p0x51
        refine c_VI C (a_X12_inverse hI36 H_r0 (by omega) (by omega)) rfl rfl rfl rfl rfl ⟨_, rfl, rfl, T_r0, Nat.le_of_ble_eq_true rfl⟩ rfl rfl (Nat.le_of_ble_eq_true rfl) (Nat.le_of_ble_eq_true rfl) (Nat.le_of_ble_eq_true rfl) ?_
        rintro x52 _ _ ⟨o0x52, o1x52, p0x52, rfl, rfl⟩
        have p0x52 := p0x52 r0_1 R_r0_1
        have gx52 := rg x52
        try simp only [e45, e38, e42] at p0x52
        try have q0x52 := congrArg Int32.toInt p0x52
        refine k_istore_n C (lw := [(3, .int x52), (0, .ref r0), (1, .int x26), (2, .int x32)]) rfl rfl (Nat.le_of_ble_eq_true rfl) rfl ?_
        refine k_aload_n C rfl rfl rfl ?_
        refine z_bipush C (z := 40) rfl rfl rfl (fun x53 ex53 => ?_)
        refine k_aload_n C rfl rfl rfl ?_
        refine g_R C rfl rfl rfl T_r0 rfl R_r0_4 ?_
        refine z_bipush C (z := 41) rfl rfl rfl (fun x54 ex54 => ?_)
        obtain ⟨T_r0_4, N_r0_4, A_r0_4⟩ := id H_r0_4
        refine a_I C rfl rfl T_r0_4 (by rw [N_r0_4]; exact vpi (by omega) (by omega)) ((congrArg (I30 r0_4) (nck (n := 41) (by omega))).trans e42) ?_
        refine k_iload_n C rfl rfl rfl ?_
        refine z_iadd C rfl rfl ⟨by omega, by omega⟩ (fun x55 ex55 => ?_)
        have q56 : x53.toNatClampNeg = 40 := nck (by omega)
        refine c_VV C (a_X12_clears hI36 H_r0 (by omega) (by omega) (by omega) (by omega)) rfl rfl rfl rfl rfl ⟨_, rfl, rfl, T_r0, Nat.le_of_ble_eq_true rfl⟩ rfl rfl (Nat.le_of_ble_eq_true rfl) (Nat.le_of_ble_eq_true rfl) (Nat.le_of_ble_eq_true rfl) ?_
        rintro I58 L59 ⟨p0v57, p1v57, p2v57, p3v57, hI58, S60⟩
        have p0v57 := p0v57 r0_4 R_r0_4
        have p1v57 := p1v57 r0_5 R_r0_5
        have p2v57 := p2v57 r0_4 R_r0_4
        have p3v57 := p3v57 r0_5 R_r0_5
        try simp only [q56] at p2v57
        try simp only [q56] at p3v57
        have e61 := CM.j S60 R_r0_1 (by decide) e45
        have e63 := (p2v57 41 (by first | decide | exact ncne (by omega) (by omega) (by omega) | exact nckn (by omega) (by omega) | exact (nckn (by omega) (by omega)).symm)).trans e42
        obtain ⟨x64, e65⟩ : ∃ x, I58 r0_4 40 = x := ⟨_, rfl⟩
        have gx64 := rg x64
        have ox64 := IM.dgR hI58 R_r0_4 e65
        try simp only [q56, e45, e38, e42, e65] at p0v57
        try have q0v57 := congrArg Int32.toInt p0v57
        try simp only [q56, e45, e38, e42, e65] at p1v57
        try have q1v57 := congrArg Int32.toInt p1v57
        refine z_iconst C (z := 0) rfl rfl rfl (fun x66 ex66 => ?_)
        have J67 : ∀ (nn68 : Nat) (I69 : IT) (L70 : LT) (x71 : Int32), ((41 - x71.toInt).toNat = nn68) → (IM R r0 I69) → (CM A R r0 [] [5] I58 L59 I69 L70) → (0 ≤ x71.toInt) → (x71.toInt ≤ 41) → V 158 [(0, .ref r0), (1, .int x26), (3, .int x52), (4, .int x71)] [] (T, N, I69, L70, R) 0 0 := by
          intro nn68
          induction nn68 using Nat.strongRecOn with
          | _ nn68 ihJ67 =>
            intro I69 L70 x71 hmnn68 hI75 S74 b72 b73
            have gx71 := rg x71
            have e76 := CM.j S74 R_r0_1 (by decide) e61
            have e77 := CM.j S74 R_r0_4 (by decide) e63
            have e78 := CM.j S74 R_r0_4 (by decide) e65
            refine k_iload C rfl rfl rfl ?_
            refine k_aload_n C rfl rfl rfl ?_
            refine g_R C rfl rfl rfl T_r0 rfl R_r0_4 ?_
            refine z_bipush C (z := 41) rfl rfl rfl (fun x79 ex79 => ?_)
            refine a_I C rfl rfl T_r0_4 (by rw [N_r0_4]; exact vpi (by omega) (by omega)) ((congrArg (I69 r0_4) (nck (n := 41) (by omega))).trans e77) ?_
            refine b_icmp_gt C (t := 199) rfl rfl rfl (fun c80 => ?_) (fun c80 => ?_)
            · skip
              exact k_vret C rfl rfl (Nat.le_of_ble_eq_true rfl) (Nat.le_of_ble_eq_true rfl) ⟨_, _, rfl, rfl, hI75, (CM.cons S6 (CM.cons S20 (CM.cons S35 (CM.cons S60 (CM.mono S74 (by decide) (by decide)) (by decide) (by decide)) (by decide) (by decide)) (by decide) (by decide)) (by decide) (by decide))⟩
            refine k_aload_n C rfl rfl rfl ?_
            refine z_bipush C (z := 40) rfl rfl rfl (fun x81 ex81 => ?_)
            refine k_iload C rfl rfl rfl ?_
            refine k_iload_n C rfl rfl rfl ?_
            refine z_iadd C rfl rfl ⟨by omega, by omega⟩ (fun x82 ex82 => ?_)
            refine k_aload_n C rfl rfl rfl ?_
            refine k_iload_n C rfl rfl rfl ?_
            refine k_aload_n C rfl rfl rfl ?_
            refine z_bipush C (z := 41) rfl rfl rfl (fun x83 ex83 => ?_)
            refine k_iload C rfl rfl rfl ?_
            have q84 : x83.toNatClampNeg = 41 := nck (by omega)
            refine c_VI C (a_X12_of hI75 H_r0 (by omega) (by omega) (by omega) (by omega)) rfl rfl rfl rfl rfl ⟨_, rfl, rfl, T_r0, Nat.le_of_ble_eq_true rfl⟩ rfl rfl (Nat.le_of_ble_eq_true rfl) (Nat.le_of_ble_eq_true rfl) (Nat.le_of_ble_eq_true rfl) ?_
            rintro x85 _ _ ⟨o0x85, o1x85, p0x85, rfl, rfl⟩
            have p0x85 := p0x85 r0_5 R_r0_5
            have gx85 := rg x85
            try simp only [q84, e76, e77, e78] at p0x85
            try have q0x85 := congrArg Int32.toInt p0x85
            refine c_VI C (a_X12_times hI75 H_r0 (by omega) (by omega) (by omega) (by omega)) rfl rfl rfl rfl rfl ⟨_, rfl, rfl, T_r0, Nat.le_of_ble_eq_true rfl⟩ rfl rfl (Nat.le_of_ble_eq_true rfl) (Nat.le_of_ble_eq_true rfl) (Nat.le_of_ble_eq_true rfl) ?_
            rintro x86 _ _ ⟨o0x86, o1x86, p0x86, p1x86, p2x86, p3x86, rfl, rfl⟩
            have p0x86 := p0x86 r0_1 R_r0_1
            have p2x86 := p2x86 r0_1 R_r0_1
            have p3x86 := p3x86 r0_1 R_r0_1
            have gx86 := rg x86
            try simp only [e76, e77, e78] at p0x86
            try have q0x86 := congrArg Int32.toInt p0x86
            try simp only [e76, e77, e78] at p1x86
            try have q1x86 := congrArg Int32.toInt p1x86
            try simp only [e76, e77, e78] at p2x86
            try have q2x86 := congrArg Int32.toInt p2x86
            try simp only [e76, e77, e78] at p3x86
            try have q3x86 := congrArg Int32.toInt p3x86
            have q87 : x81.toNatClampNeg = 40 := nck (by omega)
            refine c_VV C (a_X12_put hI75 H_r0 (by omega) (by omega) (by omega) (by omega) (by omega) (by omega)) rfl rfl rfl rfl rfl ⟨_, rfl, rfl, T_r0, Nat.le_of_ble_eq_true rfl⟩ rfl rfl (Nat.le_of_ble_eq_true rfl) (Nat.le_of_ble_eq_true rfl) (Nat.le_of_ble_eq_true rfl) ?_
            rintro I89 L90 ⟨p0v88, p1v88, hI89, S91⟩
            have p0v88 := p0v88 r0_5 R_r0_5
            have p1v88 := p1v88 r0_5 R_r0_5
            try simp only [q87] at p1v88
            have e92 := CM.j S91 R_r0_1 (by decide) e76
            have e93 := CM.j S91 R_r0_4 (by decide) e77
            have e94 := CM.j S91 R_r0_4 (by decide) e78
            try simp only [q87, e76, e77, e78] at p0v88
            try have q0v88 := congrArg Int32.toInt p0v88
            refine z_iinc C (z := 1) (lw := fun x95 => [(4, .int x95), (0, .ref r0), (1, .int x26), (3, .int x52)]) rfl rfl rfl (Nat.le_of_ble_eq_true rfl) rfl ⟨by omega, by omega⟩ (fun _ => rfl) (fun x95 ex95 => ?_)
            show V 196 [(4, .int x95), (0, .ref r0), (1, .int x26), (3, .int x52)] _ _ _ _
            refine k_goto C (pc2 := 158) rfl rfl ?_
            refine k_sub S [(0, .ref r0), (1, .int x26), (3, .int x52), (4, .int x95)] (List.forall_mem_cons.mpr ⟨List.mem_of_getElem? (i := 1) rfl, List.forall_mem_cons.mpr ⟨List.mem_of_getElem? (i := 2) rfl, List.forall_mem_cons.mpr ⟨List.mem_of_getElem? (i := 3) rfl, List.forall_mem_cons.mpr ⟨List.mem_of_getElem? (i := 0) rfl, fun _ h => nomatch h⟩⟩⟩⟩) ?_
            exact ihJ67 _ (by omega) I89 L90 x95 rfl hI89 (CM.cons S74 (CM.mono S91 (by decide) (by decide)) (by decide) (by decide)) (by omega) (by omega)
        refine k_istore C (lw := [(4, .int x66), (3, .int x52), (0, .ref r0), (1, .int x26), (2, .int x32)]) rfl rfl (Nat.le_of_ble_eq_true rfl) rfl ?_
        refine k_sub S [(0, .ref r0), (1, .int x26), (3, .int x52), (4, .int x66)] (List.forall_mem_cons.mpr ⟨List.mem_of_getElem? (i := 2) rfl, List.forall_mem_cons.mpr ⟨List.mem_of_getElem? (i := 3) rfl, List.forall_mem_cons.mpr ⟨List.mem_of_getElem? (i := 1) rfl, List.forall_mem_cons.mpr ⟨List.mem_of_getElem? (i := 0) rfl, fun _ h => nomatch h⟩⟩⟩⟩) ?_
        exact J67 _ I58 L59 x66 rfl hI58 CM.rf (by omega) (by omega)
      have nA := ff25_2 (by omega)
      have nB := ff25_3 (by omega)
      have hA := ff25_0
      have hB := ff25_1
      refine k_aload_n C rfl rfl rfl ?_
      refine g_R C rfl rfl rfl T_r0 rfl R_r0_4 ?_
      refine z_bipush C (z := 40) rfl rfl rfl (fun x96 ex96 => ?_)
      obtain ⟨T_r0_4, N_r0_4, A_r0_4⟩ := id H_r0_4
      refine a_I C rfl rfl T_r0_4 (by rw [N_r0_4]; exact vpi (by omega) (by omega)) ((congrArg (I30 r0_4) (nck (n := 40) (by omega))).trans e38) ?_
      refine k_aload_n C rfl rfl rfl ?_
      refine g_R C rfl rfl rfl T_r0 rfl R_r0_4 ?_
      refine z_bipush C (z := 41) rfl rfl rfl (fun x97 ex97 => ?_)
      refine a_I C rfl rfl T_r0_4 (by rw [N_r0_4]; exact vpi (by omega) (by omega)) ((congrArg (I30 r0_4) (nck (n := 41) (by omega))).trans e42) ?_
      refine b_icmp_ge C (t := 70) rfl rfl rfl (fun c98 => ?_) (fun c98 => ?_)
      · skip
        refine k_aload_n C rfl rfl rfl ?_
        refine z_bipush C (z := 40) rfl rfl rfl (fun x99 ex99 => ?_)
        refine z_bipush C (z := 41) rfl rfl rfl (fun x100 ex100 => ?_)
        refine z_bipush C (z := 43) rfl rfl rfl (fun x101 ex101 => ?_)
        have q102 : x99.toNatClampNeg = 40 := nck (by omega)
        have q103 : x100.toNatClampNeg = 41 := nck (by omega)
        have q104 : x101.toNatClampNeg = 43 := nck (by omega)
        refine c_VV C (a_X12_divides hI36 H_r0 (by omega) (by omega) (by omega) (by omega) (by omega) (by omega) (fun a4 h4 => by cases (R_r0_4.symm.trans h4); first | omega | (simp only [q102, q103, q104, e45, e38, e42] <;> omega)) (fun a5 h5 => by cases (R_r0_5.symm.trans h5); exact nB) (fun a1 a5 h1 h5 => by cases (R_r0_1.symm.trans h1); cases (R_r0_5.symm.trans h5); simp only [q102, q103, q104, e45, e38, e42]; exact QN.le hB (by omega)) (fun a1 a4 a5 h1 h4 h5 => by cases (R_r0_1.symm.trans h1); cases (R_r0_4.symm.trans h4); cases (R_r0_5.symm.trans h5); simp only [q102, q103, q104, e45, e38, e42]; exact QN.le hA (by omega))) rfl rfl rfl rfl rfl ⟨_, rfl, rfl, T_r0, Nat.le_of_ble_eq_true rfl⟩ rfl rfl (Nat.le_of_ble_eq_true rfl) (Nat.le_of_ble_eq_true rfl) (Nat.le_of_ble_eq_true rfl) ?_
        rintro I106 L107 ⟨p0v105, p1v105, p2v105, p3v105, p4v105, hI106, S108⟩
        have p0v105 := p0v105 r0_4 r0_5 R_r0_4 R_r0_5
        have p1v105 := p1v105 r0_1 r0_4 r0_5 R_r0_1 R_r0_4 R_r0_5
        have p2v105 := p2v105 r0_4 R_r0_4
        have p3v105 := p3v105 r0_4 R_r0_4
        have p4v105 := p4v105 r0_5 R_r0_5
        try simp only [q102, q103, q104] at p3v105
        try simp only [q102, q103, q104] at p4v105
        have e109 := CM.j S108 R_r0_1 (by decide) e45
        have e110 := (p3v105 40 (by first | decide | exact ncne (by omega) (by omega) (by omega) | exact nckn (by omega) (by omega) | exact (nckn (by omega) (by omega)).symm)).trans e38
        have e111 := (p3v105 41 (by first | decide | exact ncne (by omega) (by omega) (by omega) | exact nckn (by omega) (by omega) | exact (nckn (by omega) (by omega)).symm)).trans e42
        obtain ⟨x112, e113⟩ : ∃ x, I106 r0_4 43 = x := ⟨_, rfl⟩
        have gx112 := rg x112
        have ox112 := IM.dgR hI106 R_r0_4 e113
        try simp only [q102, q103, q104, e45, e38, e42, e113] at p0v105
        try have q0v105 := congrArg Int32.toInt p0v105
        try simp only [q102, q103, q104, e45, e38, e42, e113] at p1v105
        try have q1v105 := congrArg Int32.toInt p1v105
        try simp only [q102, q103, q104, e45, e38, e42, e113] at p2v105
        try have q2v105 := congrArg Int32.toInt p2v105
        have hZ := p0v105
        have hA := p1v105
        have hB := QN.sm hB (fun k hk => p4v105 _ (by omega) (by omega)) (by omega)
        have nB := NE1.smr nB (fun k hk => p4v105 _ (by omega) (by omega))
        refine k_aload_n C rfl rfl rfl ?_
        refine z_bipush C (z := 40) rfl rfl rfl (fun x114 ex114 => ?_)
        have q115 : x114.toNatClampNeg = 40 := nck (by omega)
        refine c_VI C (a_X12_isNought hI106 H_r0 (by omega) (by omega)) rfl rfl rfl rfl rfl ⟨_, rfl, rfl, T_r0, Nat.le_of_ble_eq_true rfl⟩ rfl rfl (Nat.le_of_ble_eq_true rfl) (Nat.le_of_ble_eq_true rfl) (Nat.le_of_ble_eq_true rfl) ?_
        rintro x116 _ _ ⟨o0x116, o1x116, p0x116, rfl, rfl⟩
        have p0x116 := p0x116 r0_4 r0_5 R_r0_4 R_r0_5
        have gx116 := rg x116
        try simp only [q115, e109, e110, e111, e113] at p0x116
        try have q0x116 := congrArg Int32.toInt p0x116
        have hNZ := p0x116
        refine b_if_eq C (t := 94) rfl rfl rfl (fun c117 => ?_) (fun c117 => ?_)
        · skip
          refine k_aload_n C rfl rfl rfl ?_
          refine z_bipush C (z := 40) rfl rfl rfl (fun x118 ex118 => ?_)
          have q119 : x118.toNatClampNeg = 40 := nck (by omega)
          refine c_VI C (a_X12_strips hI106 H_r0 (by omega) (by omega) (fun a4 a5 h4 h5 => by cases (R_r0_4.symm.trans h4); cases (R_r0_5.symm.trans h5); simp only [q119, e109, e110, e111, e113]; exact hNZ (by omega))) rfl rfl rfl rfl rfl ⟨_, rfl, rfl, T_r0, Nat.le_of_ble_eq_true rfl⟩ rfl rfl (Nat.le_of_ble_eq_true rfl) (Nat.le_of_ble_eq_true rfl) (Nat.le_of_ble_eq_true rfl) ?_
          rintro x120 I121 L122 ⟨p0x120, p1x120, p2x120, p3x120, p4x120, p5x120, hI121, S123⟩
          have p0x120 := p0x120 r0_4 R_r0_4
          have p1x120 := p1x120 r0_4 R_r0_4
          have p2x120 := p2x120 r0_5 R_r0_5
          have p3x120 := p3x120 r0_4 r0_5 R_r0_4 R_r0_5
          have p4x120 := p4x120 r0_4 R_r0_4
          have p5x120 := p5x120 r0_5 R_r0_5
          try simp only [q119] at p4x120
          try simp only [q119] at p5x120
          have e124 := CM.j S123 R_r0_1 (by decide) e109
          have e126 := (p4x120 41 (by first | decide | exact ncne (by omega) (by omega) (by omega) | exact nckn (by omega) (by omega) | exact (nckn (by omega) (by omega)).symm)).trans e111
          have e127 := (p4x120 43 (by first | decide | exact ncne (by omega) (by omega) (by omega) | exact nckn (by omega) (by omega) | exact (nckn (by omega) (by omega)).symm)).trans e113
          have gx120 := rg x120
          obtain ⟨x128, e129⟩ : ∃ x, I121 r0_4 40 = x := ⟨_, rfl⟩
          have gx128 := rg x128
          have ox128 := IM.dgR hI121 R_r0_4 e129
          try simp only [q119, e109, e110, e111, e113, e129] at p0x120
          try have q0x120 := congrArg Int32.toInt p0x120
          try simp only [q119, e109, e110, e111, e113, e129] at p1x120
          try have q1x120 := congrArg Int32.toInt p1x120
          try simp only [q119, e109, e110, e111, e113, e129] at p2x120
          try have q2x120 := congrArg Int32.toInt p2x120
          try simp only [q119, e109, e110, e111, e113, e129] at p3x120
          try have q3x120 := congrArg Int32.toInt p3x120
          have hge := AZ.ge hZ p2x120 (by omega)
          have hA := QN.st hA p3x120 (by omega)
          have nA := STP.ne p3x120 p2x120 (by omega) (by omega)
          have hB := QN.sm hB (fun k hk => p5x120 _ (by omega)) (by omega)
          have nB := NE1.smr nB (fun k hk => p5x120 _ (by omega))
          refine k_pop C rfl rfl rfl ?_
          refine k_aload_n C rfl rfl rfl ?_
          refine z_bipush C (z := 40) rfl rfl rfl (fun x130 ex130 => ?_)
          refine z_bipush C (z := 42) rfl rfl rfl (fun x131 ex131 => ?_)
          have q132 : x130.toNatClampNeg = 40 := nck (by omega)
          have q133 : x131.toNatClampNeg = 42 := nck (by omega)
          refine c_VV C (a_X12_copies hI121 H_r0 (by omega) (by omega) (by omega) (by omega) (by first | omega | (simp only [q132, q133, e124, e126, e127, e129] <;> omega))) rfl rfl rfl rfl rfl ⟨_, rfl, rfl, T_r0, Nat.le_of_ble_eq_true rfl⟩ rfl rfl (Nat.le_of_ble_eq_true rfl) (Nat.le_of_ble_eq_true rfl) (Nat.le_of_ble_eq_true rfl) ?_
          rintro I135 L136 ⟨p0v134, p1v134, p2v134, p3v134, hI135, S137⟩
          have p0v134 := p0v134 r0_4 R_r0_4
          have p1v134 := p1v134 r0_4 r0_5 R_r0_4 R_r0_5
          have p2v134 := p2v134 r0_4 R_r0_4
          have p3v134 := p3v134 r0_5 R_r0_5
          try simp only [q132, q133] at p2v134
          try simp only [q132, q133] at p3v134
          have e138 := CM.j S137 R_r0_1 (by decide) e124
          have e139 := (p2v134 41 (by first | decide | exact ncne (by omega) (by omega) (by omega) | exact nckn (by omega) (by omega) | exact (nckn (by omega) (by omega)).symm)).trans e126
          have e140 := (p2v134 43 (by first | decide | exact ncne (by omega) (by omega) (by omega) | exact nckn (by omega) (by omega) | exact (nckn (by omega) (by omega)).symm)).trans e127
          have e141 := (p2v134 40 (by first | decide | exact ncne (by omega) (by omega) (by omega) | exact nckn (by omega) (by omega) | exact (nckn (by omega) (by omega)).symm)).trans e129
          obtain ⟨x142, e143⟩ : ∃ x, I135 r0_4 42 = x := ⟨_, rfl⟩
          have gx142 := rg x142
          have ox142 := IM.dgR hI135 R_r0_4 e143
          try simp only [q132, q133, e124, e126, e127, e129, e143] at p0v134
          try have q0v134 := congrArg Int32.toInt p0v134
          try simp only [q132, q133, e124, e126, e127, e129, e143] at p1v134
          try have q1v134 := congrArg Int32.toInt p1v134
          have hC := QN.cp hA (CPN.le p1v134 (by omega))
          have nC := NE1.cp nA p1v134 (by omega)
          have hB := QN.sm hB (fun k hk => p3v134 _ (by omega)) (by omega)
          have nB := NE1.smr nB (fun k hk => p3v134 _ (by omega))
          refine k_aload_n C rfl rfl rfl ?_
          refine z_bipush C (z := 41) rfl rfl rfl (fun x144 ex144 => ?_)
          refine z_bipush C (z := 40) rfl rfl rfl (fun x145 ex145 => ?_)
          have q146 : x144.toNatClampNeg = 41 := nck (by omega)
          have q147 : x145.toNatClampNeg = 40 := nck (by omega)
          refine c_VV C (a_X12_copies hI135 H_r0 (by omega) (by omega) (by omega) (by omega) (by first | omega | (simp only [q146, q147, e138, e139, e140, e141, e143] <;> omega))) rfl rfl rfl rfl rfl ⟨_, rfl, rfl, T_r0, Nat.le_of_ble_eq_true rfl⟩ rfl rfl (Nat.le_of_ble_eq_true rfl) (Nat.le_of_ble_eq_true rfl) (Nat.le_of_ble_eq_true rfl) ?_
          rintro I149 L150 ⟨p0v148, p1v148, p2v148, p3v148, hI149, S151⟩
          have p0v148 := p0v148 r0_4 R_r0_4
          have p1v148 := p1v148 r0_4 r0_5 R_r0_4 R_r0_5
          have p2v148 := p2v148 r0_4 R_r0_4
          have p3v148 := p3v148 r0_5 R_r0_5
          try simp only [q146, q147] at p2v148
          try simp only [q146, q147] at p3v148
          have e152 := CM.j S151 R_r0_1 (by decide) e138
          have e153 := (p2v148 41 (by first | decide | exact ncne (by omega) (by omega) (by omega) | exact nckn (by omega) (by omega) | exact (nckn (by omega) (by omega)).symm)).trans e139
          have e154 := (p2v148 43 (by first | decide | exact ncne (by omega) (by omega) (by omega) | exact nckn (by omega) (by omega) | exact (nckn (by omega) (by omega)).symm)).trans e140
          have e156 := (p2v148 42 (by first | decide | exact ncne (by omega) (by omega) (by omega) | exact nckn (by omega) (by omega) | exact (nckn (by omega) (by omega)).symm)).trans e143
          obtain ⟨x157, e158⟩ : ∃ x, I149 r0_4 40 = x := ⟨_, rfl⟩
          have gx157 := rg x157
          have ox157 := IM.dgR hI149 R_r0_4 e158
          try simp only [q146, q147, e138, e139, e140, e141, e143, e158] at p0v148
          try have q0v148 := congrArg Int32.toInt p0v148
          try simp only [q146, q147, e138, e139, e140, e141, e143, e158] at p1v148
          try have q1v148 := congrArg Int32.toInt p1v148
          have hA := QN.cp hB (CPN.le p1v148 (by omega))
          have nA := NE1.cp nB p1v148 (by omega)
          have hC := QN.sm hC (fun k hk => p3v148 _ (by omega)) (by omega)
          have nC := NE1.smr nC (fun k hk => p3v148 _ (by omega))
          have hB := QN.sm hB (fun k hk => p3v148 _ (by omega)) (by omega)
          have nB := NE1.smr nB (fun k hk => p3v148 _ (by omega))
          refine k_aload_n C rfl rfl rfl ?_
          refine z_bipush C (z := 42) rfl rfl rfl (fun x159 ex159 => ?_)
          refine z_bipush C (z := 41) rfl rfl rfl (fun x160 ex160 => ?_)
          have q161 : x159.toNatClampNeg = 42 := nck (by omega)
          have q162 : x160.toNatClampNeg = 41 := nck (by omega)
          refine c_VV C (a_X12_copies hI149 H_r0 (by omega) (by omega) (by omega) (by omega) (by first | omega | (simp only [q161, q162, e152, e153, e154, e156, e158] <;> omega))) rfl rfl rfl rfl rfl ⟨_, rfl, rfl, T_r0, Nat.le_of_ble_eq_true rfl⟩ rfl rfl (Nat.le_of_ble_eq_true rfl) (Nat.le_of_ble_eq_true rfl) (Nat.le_of_ble_eq_true rfl) ?_
          rintro I164 L165 ⟨p0v163, p1v163, p2v163, p3v163, hI164, S166⟩
          have p0v163 := p0v163 r0_4 R_r0_4
          have p1v163 := p1v163 r0_4 r0_5 R_r0_4 R_r0_5
          have p2v163 := p2v163 r0_4 R_r0_4
          have p3v163 := p3v163 r0_5 R_r0_5
          try simp only [q161, q162] at p2v163
          try simp only [q161, q162] at p3v163
          have e167 := CM.j S166 R_r0_1 (by decide) e152
          have e169 := (p2v163 43 (by first | decide | exact ncne (by omega) (by omega) (by omega) | exact nckn (by omega) (by omega) | exact (nckn (by omega) (by omega)).symm)).trans e154
          have e170 := (p2v163 42 (by first | decide | exact ncne (by omega) (by omega) (by omega) | exact nckn (by omega) (by omega) | exact (nckn (by omega) (by omega)).symm)).trans e156
          have e171 := (p2v163 40 (by first | decide | exact ncne (by omega) (by omega) (by omega) | exact nckn (by omega) (by omega) | exact (nckn (by omega) (by omega)).symm)).trans e158
          obtain ⟨x172, e173⟩ : ∃ x, I164 r0_4 41 = x := ⟨_, rfl⟩
          have gx172 := rg x172
          have ox172 := IM.dgR hI164 R_r0_4 e173
          try simp only [q161, q162, e152, e153, e154, e156, e158, e173] at p0v163
          try have q0v163 := congrArg Int32.toInt p0v163
          try simp only [q161, q162, e152, e153, e154, e156, e158, e173] at p1v163
          try have q1v163 := congrArg Int32.toInt p1v163
          have hB := QN.cp hC (CPN.le p1v163 (by omega))
          have nB := NE1.cp nC p1v163 (by omega)
          have hA := QN.sm hA (fun k hk => p3v163 _ (by omega)) (by omega)
          have nA := NE1.smr nA (fun k hk => p3v163 _ (by omega))
          refine k_goto C (pc2 := 25) rfl rfl ?_
          refine k_sub S [(0, .ref r0), (1, .int x26), (2, .int x32)] (List.forall_mem_cons.mpr ⟨List.mem_of_getElem? (i := 0) rfl, List.forall_mem_cons.mpr ⟨List.mem_of_getElem? (i := 1) rfl, List.forall_mem_cons.mpr ⟨List.mem_of_getElem? (i := 2) rfl, fun _ h => nomatch h⟩⟩⟩) ?_
          exact ihJ28 _ (by omega) I164 L165 x32 x157 x172 rfl hI164 (CM.cons S35 (CM.cons S108 (CM.cons S123 (CM.cons S137 (CM.cons S151 (CM.mono S166 (by decide) (by decide)) (by decide) (by decide)) (by decide) (by decide)) (by decide) (by decide)) (by decide) (by decide)) (by decide) (by decide)) (by omega) (by omega) e171 (by omega) (by omega) e173 (by omega) (by omega) (by exact QN.le hA (by omega)) (by exact QN.le hB (by omega)) (by first | exact fun h => absurd (by omega) h | exact fun _ => nA) (by first | exact fun h => absurd (by omega) h | exact fun _ => nB)
        refine z_iconst C (z := 0) rfl rfl rfl (fun x174 ex174 => ?_)
        refine k_istore_n C (lw := [(2, .int x174), (0, .ref r0), (1, .int x26)]) rfl rfl (Nat.le_of_ble_eq_true rfl) rfl ?_
        refine k_goto C (pc2 := 25) rfl rfl ?_
        refine k_sub S [(0, .ref r0), (1, .int x26), (2, .int x174)] (List.forall_mem_cons.mpr ⟨List.mem_of_getElem? (i := 1) rfl, List.forall_mem_cons.mpr ⟨List.mem_of_getElem? (i := 2) rfl, List.forall_mem_cons.mpr ⟨List.mem_of_getElem? (i := 0) rfl, fun _ h => nomatch h⟩⟩⟩) ?_
        exact ihJ28 _ (by omega) I106 L107 x174 x37 x41 rfl hI106 (CM.cons S35 (CM.mono S108 (by decide) (by decide)) (by decide) (by decide)) (by omega) (by omega) e110 (by omega) (by omega) e111 (by omega) (by omega) (by exact QN.le hA (by omega)) (by exact QN.le hB (by omega)) (by first | exact fun h => absurd (by omega) h | exact fun _ => nA) (by first | exact fun h => absurd (by omega) h | exact fun _ => nB)
      refine k_aload_n C rfl rfl rfl ?_
      refine z_bipush C (z := 40) rfl rfl rfl (fun x175 ex175 => ?_)
      refine z_bipush C (z := 42) rfl rfl rfl (fun x176 ex176 => ?_)
      have q177 : x175.toNatClampNeg = 40 := nck (by omega)
      have q178 : x176.toNatClampNeg = 42 := nck (by omega)
      refine c_VV C (a_X12_copies hI36 H_r0 (by omega) (by omega) (by omega) (by omega) (by first | omega | (simp only [q177, q178, e45, e38, e42] <;> omega))) rfl rfl rfl rfl rfl ⟨_, rfl, rfl, T_r0, Nat.le_of_ble_eq_true rfl⟩ rfl rfl (Nat.le_of_ble_eq_true rfl) (Nat.le_of_ble_eq_true rfl) (Nat.le_of_ble_eq_true rfl) ?_
      rintro I180 L181 ⟨p0v179, p1v179, p2v179, p3v179, hI180, S182⟩
      have p0v179 := p0v179 r0_4 R_r0_4
      have p1v179 := p1v179 r0_4 r0_5 R_r0_4 R_r0_5
      have p2v179 := p2v179 r0_4 R_r0_4
      have p3v179 := p3v179 r0_5 R_r0_5
      try simp only [q177, q178] at p2v179
      try simp only [q177, q178] at p3v179
      have e183 := CM.j S182 R_r0_1 (by decide) e45
      have e184 := (p2v179 40 (by first | decide | exact ncne (by omega) (by omega) (by omega) | exact nckn (by omega) (by omega) | exact (nckn (by omega) (by omega)).symm)).trans e38
      have e185 := (p2v179 41 (by first | decide | exact ncne (by omega) (by omega) (by omega) | exact nckn (by omega) (by omega) | exact (nckn (by omega) (by omega)).symm)).trans e42
      obtain ⟨x186, e187⟩ : ∃ x, I180 r0_4 42 = x := ⟨_, rfl⟩
      have gx186 := rg x186
      have ox186 := IM.dgR hI180 R_r0_4 e187
      try simp only [q177, q178, e45, e38, e42, e187] at p0v179
      try have q0v179 := congrArg Int32.toInt p0v179
      try simp only [q177, q178, e45, e38, e42, e187] at p1v179
      try have q1v179 := congrArg Int32.toInt p1v179
      have hC := QN.cp hA (CPN.le p1v179 (by omega))
      have nC := NE1.cp nA p1v179 (by omega)
      have hB := QN.sm hB (fun k hk => p3v179 _ (by omega)) (by omega)
      have nB := NE1.smr nB (fun k hk => p3v179 _ (by omega))
      refine k_aload_n C rfl rfl rfl ?_
      refine z_bipush C (z := 41) rfl rfl rfl (fun x188 ex188 => ?_)
      refine z_bipush C (z := 40) rfl rfl rfl (fun x189 ex189 => ?_)
      have q190 : x188.toNatClampNeg = 41 := nck (by omega)
      have q191 : x189.toNatClampNeg = 40 := nck (by omega)
      refine c_VV C (a_X12_copies hI180 H_r0 (by omega) (by omega) (by omega) (by omega) (by first | omega | (simp only [q190, q191, e183, e184, e185, e187] <;> omega))) rfl rfl rfl rfl rfl ⟨_, rfl, rfl, T_r0, Nat.le_of_ble_eq_true rfl⟩ rfl rfl (Nat.le_of_ble_eq_true rfl) (Nat.le_of_ble_eq_true rfl) (Nat.le_of_ble_eq_true rfl) ?_
      rintro I193 L194 ⟨p0v192, p1v192, p2v192, p3v192, hI193, S195⟩
      have p0v192 := p0v192 r0_4 R_r0_4
      have p1v192 := p1v192 r0_4 r0_5 R_r0_4 R_r0_5
      have p2v192 := p2v192 r0_4 R_r0_4
      have p3v192 := p3v192 r0_5 R_r0_5
      try simp only [q190, q191] at p2v192
      try simp only [q190, q191] at p3v192
      have e196 := CM.j S195 R_r0_1 (by decide) e183
      have e198 := (p2v192 41 (by first | decide | exact ncne (by omega) (by omega) (by omega) | exact nckn (by omega) (by omega) | exact (nckn (by omega) (by omega)).symm)).trans e185
      have e199 := (p2v192 42 (by first | decide | exact ncne (by omega) (by omega) (by omega) | exact nckn (by omega) (by omega) | exact (nckn (by omega) (by omega)).symm)).trans e187
      obtain ⟨x200, e201⟩ : ∃ x, I193 r0_4 40 = x := ⟨_, rfl⟩
      have gx200 := rg x200
      have ox200 := IM.dgR hI193 R_r0_4 e201
      try simp only [q190, q191, e183, e184, e185, e187, e201] at p0v192
      try have q0v192 := congrArg Int32.toInt p0v192
      try simp only [q190, q191, e183, e184, e185, e187, e201] at p1v192
      try have q1v192 := congrArg Int32.toInt p1v192
      have hA := QN.cp hB (CPN.le p1v192 (by omega))
      have nA := NE1.cp nB p1v192 (by omega)
      have hC := QN.sm hC (fun k hk => p3v192 _ (by omega)) (by omega)
      have nC := NE1.smr nC (fun k hk => p3v192 _ (by omega))
      have hB := QN.sm hB (fun k hk => p3v192 _ (by omega)) (by omega)
      have nB := NE1.smr nB (fun k hk => p3v192 _ (by omega))
      refine k_aload_n C rfl rfl rfl ?_
      refine z_bipush C (z := 42) rfl rfl rfl (fun x202 ex202 => ?_)
      refine z_bipush C (z := 41) rfl rfl rfl (fun x203 ex203 => ?_)
      have q204 : x202.toNatClampNeg = 42 := nck (by omega)
      have q205 : x203.toNatClampNeg = 41 := nck (by omega)
      refine c_VV C (a_X12_copies hI193 H_r0 (by omega) (by omega) (by omega) (by omega) (by first | omega | (simp only [q204, q205, e196, e198, e199, e201] <;> omega))) rfl rfl rfl rfl rfl ⟨_, rfl, rfl, T_r0, Nat.le_of_ble_eq_true rfl⟩ rfl rfl (Nat.le_of_ble_eq_true rfl) (Nat.le_of_ble_eq_true rfl) (Nat.le_of_ble_eq_true rfl) ?_
      rintro I207 L208 ⟨p0v206, p1v206, p2v206, p3v206, hI207, S209⟩
      have p0v206 := p0v206 r0_4 R_r0_4
      have p1v206 := p1v206 r0_4 r0_5 R_r0_4 R_r0_5
      have p2v206 := p2v206 r0_4 R_r0_4
      have p3v206 := p3v206 r0_5 R_r0_5
      try simp only [q204, q205] at p2v206
      try simp only [q204, q205] at p3v206
      have e210 := CM.j S209 R_r0_1 (by decide) e196
      have e212 := (p2v206 42 (by first | decide | exact ncne (by omega) (by omega) (by omega) | exact nckn (by omega) (by omega) | exact (nckn (by omega) (by omega)).symm)).trans e199
      have e213 := (p2v206 40 (by first | decide | exact ncne (by omega) (by omega) (by omega) | exact nckn (by omega) (by omega) | exact (nckn (by omega) (by omega)).symm)).trans e201
      obtain ⟨x214, e215⟩ : ∃ x, I207 r0_4 41 = x := ⟨_, rfl⟩
      have gx214 := rg x214
      have ox214 := IM.dgR hI207 R_r0_4 e215
      try simp only [q204, q205, e196, e198, e199, e201, e215] at p0v206
      try have q0v206 := congrArg Int32.toInt p0v206
      try simp only [q204, q205, e196, e198, e199, e201, e215] at p1v206
      try have q1v206 := congrArg Int32.toInt p1v206
      have hB := QN.cp hC (CPN.le p1v206 (by omega))
      have nB := NE1.cp nC p1v206 (by omega)
      have hA := QN.sm hA (fun k hk => p3v206 _ (by omega)) (by omega)
      have nA := NE1.smr nA (fun k hk => p3v206 _ (by omega))
      refine k_aload_n C rfl rfl rfl ?_
      refine z_bipush C (z := 40) rfl rfl rfl (fun x216 ex216 => ?_)
      refine z_bipush C (z := 41) rfl rfl rfl (fun x217 ex217 => ?_)
      refine z_bipush C (z := 43) rfl rfl rfl (fun x218 ex218 => ?_)
      have q219 : x216.toNatClampNeg = 40 := nck (by omega)
      have q220 : x217.toNatClampNeg = 41 := nck (by omega)
      have q221 : x218.toNatClampNeg = 43 := nck (by omega)
      refine c_VV C (a_X12_divides hI207 H_r0 (by omega) (by omega) (by omega) (by omega) (by omega) (by omega) (fun a4 h4 => by cases (R_r0_4.symm.trans h4); first | omega | (simp only [q219, q220, q221, e210, e212, e213, e215] <;> omega)) (fun a5 h5 => by cases (R_r0_5.symm.trans h5); exact nB) (fun a1 a5 h1 h5 => by cases (R_r0_1.symm.trans h1); cases (R_r0_5.symm.trans h5); simp only [q219, q220, q221, e210, e212, e213, e215]; exact QN.le hB (by omega)) (fun a1 a4 a5 h1 h4 h5 => by cases (R_r0_1.symm.trans h1); cases (R_r0_4.symm.trans h4); cases (R_r0_5.symm.trans h5); simp only [q219, q220, q221, e210, e212, e213, e215]; exact QN.le hA (by omega))) rfl rfl rfl rfl rfl ⟨_, rfl, rfl, T_r0, Nat.le_of_ble_eq_true rfl⟩ rfl rfl (Nat.le_of_ble_eq_true rfl) (Nat.le_of_ble_eq_true rfl) (Nat.le_of_ble_eq_true rfl) ?_
      rintro I223 L224 ⟨p0v222, p1v222, p2v222, p3v222, p4v222, hI223, S225⟩
      have p0v222 := p0v222 r0_4 r0_5 R_r0_4 R_r0_5
      have p1v222 := p1v222 r0_1 r0_4 r0_5 R_r0_1 R_r0_4 R_r0_5
      have p2v222 := p2v222 r0_4 R_r0_4
      have p3v222 := p3v222 r0_4 R_r0_4
      have p4v222 := p4v222 r0_5 R_r0_5
      try simp only [q219, q220, q221] at p3v222
      try simp only [q219, q220, q221] at p4v222
      have e226 := CM.j S225 R_r0_1 (by decide) e210
      have e227 := (p3v222 42 (by first | decide | exact ncne (by omega) (by omega) (by omega) | exact nckn (by omega) (by omega) | exact (nckn (by omega) (by omega)).symm)).trans e212
      have e228 := (p3v222 40 (by first | decide | exact ncne (by omega) (by omega) (by omega) | exact nckn (by omega) (by omega) | exact (nckn (by omega) (by omega)).symm)).trans e213
      have e229 := (p3v222 41 (by first | decide | exact ncne (by omega) (by omega) (by omega) | exact nckn (by omega) (by omega) | exact (nckn (by omega) (by omega)).symm)).trans e215
      obtain ⟨x230, e231⟩ : ∃ x, I223 r0_4 43 = x := ⟨_, rfl⟩
      have gx230 := rg x230
      have ox230 := IM.dgR hI223 R_r0_4 e231
      try simp only [q219, q220, q221, e210, e212, e213, e215, e231] at p0v222
      try have q0v222 := congrArg Int32.toInt p0v222
      try simp only [q219, q220, q221, e210, e212, e213, e215, e231] at p1v222
      try have q1v222 := congrArg Int32.toInt p1v222
      try simp only [q219, q220, q221, e210, e212, e213, e215, e231] at p2v222
      try have q2v222 := congrArg Int32.toInt p2v222
      have hZ := p0v222
      have hA := p1v222
      have hB := QN.sm hB (fun k hk => p4v222 _ (by omega) (by omega)) (by omega)
      have nB := NE1.smr nB (fun k hk => p4v222 _ (by omega) (by omega))
      refine k_aload_n C rfl rfl rfl ?_
      refine z_bipush C (z := 40) rfl rfl rfl (fun x232 ex232 => ?_)
      have q233 : x232.toNatClampNeg = 40 := nck (by omega)
      refine c_VI C (a_X12_isNought hI223 H_r0 (by omega) (by omega)) rfl rfl rfl rfl rfl ⟨_, rfl, rfl, T_r0, Nat.le_of_ble_eq_true rfl⟩ rfl rfl (Nat.le_of_ble_eq_true rfl) (Nat.le_of_ble_eq_true rfl) (Nat.le_of_ble_eq_true rfl) ?_
      rintro x234 _ _ ⟨o0x234, o1x234, p0x234, rfl, rfl⟩
      have p0x234 := p0x234 r0_4 r0_5 R_r0_4 R_r0_5
      have gx234 := rg x234
      try simp only [q233, e226, e227, e228, e229, e231] at p0x234
      try have q0x234 := congrArg Int32.toInt p0x234
      have hNZ := p0x234
      refine b_if_eq C (t := 94) rfl rfl rfl (fun c235 => ?_) (fun c235 => ?_)
      · skip
        refine k_aload_n C rfl rfl rfl ?_
        refine z_bipush C (z := 40) rfl rfl rfl (fun x236 ex236 => ?_)
        have q237 : x236.toNatClampNeg = 40 := nck (by omega)
        refine c_VI C (a_X12_strips hI223 H_r0 (by omega) (by omega) (fun a4 a5 h4 h5 => by cases (R_r0_4.symm.trans h4); cases (R_r0_5.symm.trans h5); simp only [q237, e226, e227, e228, e229, e231]; exact hNZ (by omega))) rfl rfl rfl rfl rfl ⟨_, rfl, rfl, T_r0, Nat.le_of_ble_eq_true rfl⟩ rfl rfl (Nat.le_of_ble_eq_true rfl) (Nat.le_of_ble_eq_true rfl) (Nat.le_of_ble_eq_true rfl) ?_
        rintro x238 I239 L240 ⟨p0x238, p1x238, p2x238, p3x238, p4x238, p5x238, hI239, S241⟩
        have p0x238 := p0x238 r0_4 R_r0_4
        have p1x238 := p1x238 r0_4 R_r0_4
        have p2x238 := p2x238 r0_5 R_r0_5
        have p3x238 := p3x238 r0_4 r0_5 R_r0_4 R_r0_5
        have p4x238 := p4x238 r0_4 R_r0_4
        have p5x238 := p5x238 r0_5 R_r0_5
        try simp only [q237] at p4x238
        try simp only [q237] at p5x238
        have e242 := CM.j S241 R_r0_1 (by decide) e226
        have e243 := (p4x238 42 (by first | decide | exact ncne (by omega) (by omega) (by omega) | exact nckn (by omega) (by omega) | exact (nckn (by omega) (by omega)).symm)).trans e227
        have e245 := (p4x238 41 (by first | decide | exact ncne (by omega) (by omega) (by omega) | exact nckn (by omega) (by omega) | exact (nckn (by omega) (by omega)).symm)).trans e229
        have e246 := (p4x238 43 (by first | decide | exact ncne (by omega) (by omega) (by omega) | exact nckn (by omega) (by omega) | exact (nckn (by omega) (by omega)).symm)).trans e231
        have gx238 := rg x238
        obtain ⟨x247, e248⟩ : ∃ x, I239 r0_4 40 = x := ⟨_, rfl⟩
        have gx247 := rg x247
        have ox247 := IM.dgR hI239 R_r0_4 e248
        try simp only [q237, e226, e227, e228, e229, e231, e248] at p0x238
        try have q0x238 := congrArg Int32.toInt p0x238
        try simp only [q237, e226, e227, e228, e229, e231, e248] at p1x238
        try have q1x238 := congrArg Int32.toInt p1x238
        try simp only [q237, e226, e227, e228, e229, e231, e248] at p2x238
        try have q2x238 := congrArg Int32.toInt p2x238
        try simp only [q237, e226, e227, e228, e229, e231, e248] at p3x238
        try have q3x238 := congrArg Int32.toInt p3x238
        have hge := AZ.ge hZ p2x238 (by omega)
        have hA := QN.st hA p3x238 (by omega)
        have nA := STP.ne p3x238 p2x238 (by omega) (by omega)
        have hB := QN.sm hB (fun k hk => p5x238 _ (by omega)) (by omega)
        have nB := NE1.smr nB (fun k hk => p5x238 _ (by omega))
        refine k_pop C rfl rfl rfl ?_
        refine k_aload_n C rfl rfl rfl ?_
        refine z_bipush C (z := 40) rfl rfl rfl (fun x249 ex249 => ?_)
        refine z_bipush C (z := 42) rfl rfl rfl (fun x250 ex250 => ?_)
        have q251 : x249.toNatClampNeg = 40 := nck (by omega)
        have q252 : x250.toNatClampNeg = 42 := nck (by omega)
        refine c_VV C (a_X12_copies hI239 H_r0 (by omega) (by omega) (by omega) (by omega) (by first | omega | (simp only [q251, q252, e242, e243, e245, e246, e248] <;> omega))) rfl rfl rfl rfl rfl ⟨_, rfl, rfl, T_r0, Nat.le_of_ble_eq_true rfl⟩ rfl rfl (Nat.le_of_ble_eq_true rfl) (Nat.le_of_ble_eq_true rfl) (Nat.le_of_ble_eq_true rfl) ?_
        rintro I254 L255 ⟨p0v253, p1v253, p2v253, p3v253, hI254, S256⟩
        have p0v253 := p0v253 r0_4 R_r0_4
        have p1v253 := p1v253 r0_4 r0_5 R_r0_4 R_r0_5
        have p2v253 := p2v253 r0_4 R_r0_4
        have p3v253 := p3v253 r0_5 R_r0_5
        try simp only [q251, q252] at p2v253
        try simp only [q251, q252] at p3v253
        have e257 := CM.j S256 R_r0_1 (by decide) e242
        have e259 := (p2v253 41 (by first | decide | exact ncne (by omega) (by omega) (by omega) | exact nckn (by omega) (by omega) | exact (nckn (by omega) (by omega)).symm)).trans e245
        have e260 := (p2v253 43 (by first | decide | exact ncne (by omega) (by omega) (by omega) | exact nckn (by omega) (by omega) | exact (nckn (by omega) (by omega)).symm)).trans e246
        have e261 := (p2v253 40 (by first | decide | exact ncne (by omega) (by omega) (by omega) | exact nckn (by omega) (by omega) | exact (nckn (by omega) (by omega)).symm)).trans e248
        obtain ⟨x262, e263⟩ : ∃ x, I254 r0_4 42 = x := ⟨_, rfl⟩
        have gx262 := rg x262
        have ox262 := IM.dgR hI254 R_r0_4 e263
        try simp only [q251, q252, e242, e243, e245, e246, e248, e263] at p0v253
        try have q0v253 := congrArg Int32.toInt p0v253
        try simp only [q251, q252, e242, e243, e245, e246, e248, e263] at p1v253
        try have q1v253 := congrArg Int32.toInt p1v253
        have hC := QN.cp hA (CPN.le p1v253 (by omega))
        have nC := NE1.cp nA p1v253 (by omega)
        have hB := QN.sm hB (fun k hk => p3v253 _ (by omega)) (by omega)
        have nB := NE1.smr nB (fun k hk => p3v253 _ (by omega))
        refine k_aload_n C rfl rfl rfl ?_
        refine z_bipush C (z := 41) rfl rfl rfl (fun x264 ex264 => ?_)
        refine z_bipush C (z := 40) rfl rfl rfl (fun x265 ex265 => ?_)
        have q266 : x264.toNatClampNeg = 41 := nck (by omega)
        have q267 : x265.toNatClampNeg = 40 := nck (by omega)
        refine c_VV C (a_X12_copies hI254 H_r0 (by omega) (by omega) (by omega) (by omega) (by first | omega | (simp only [q266, q267, e257, e259, e260, e261, e263] <;> omega))) rfl rfl rfl rfl rfl ⟨_, rfl, rfl, T_r0, Nat.le_of_ble_eq_true rfl⟩ rfl rfl (Nat.le_of_ble_eq_true rfl) (Nat.le_of_ble_eq_true rfl) (Nat.le_of_ble_eq_true rfl) ?_
        rintro I269 L270 ⟨p0v268, p1v268, p2v268, p3v268, hI269, S271⟩
        have p0v268 := p0v268 r0_4 R_r0_4
        have p1v268 := p1v268 r0_4 r0_5 R_r0_4 R_r0_5
        have p2v268 := p2v268 r0_4 R_r0_4
        have p3v268 := p3v268 r0_5 R_r0_5
        try simp only [q266, q267] at p2v268
        try simp only [q266, q267] at p3v268
        have e272 := CM.j S271 R_r0_1 (by decide) e257
        have e273 := (p2v268 41 (by first | decide | exact ncne (by omega) (by omega) (by omega) | exact nckn (by omega) (by omega) | exact (nckn (by omega) (by omega)).symm)).trans e259
        have e274 := (p2v268 43 (by first | decide | exact ncne (by omega) (by omega) (by omega) | exact nckn (by omega) (by omega) | exact (nckn (by omega) (by omega)).symm)).trans e260
        have e276 := (p2v268 42 (by first | decide | exact ncne (by omega) (by omega) (by omega) | exact nckn (by omega) (by omega) | exact (nckn (by omega) (by omega)).symm)).trans e263
        obtain ⟨x277, e278⟩ : ∃ x, I269 r0_4 40 = x := ⟨_, rfl⟩
        have gx277 := rg x277
        have ox277 := IM.dgR hI269 R_r0_4 e278
        try simp only [q266, q267, e257, e259, e260, e261, e263, e278] at p0v268
        try have q0v268 := congrArg Int32.toInt p0v268
        try simp only [q266, q267, e257, e259, e260, e261, e263, e278] at p1v268
        try have q1v268 := congrArg Int32.toInt p1v268
        have hA := QN.cp hB (CPN.le p1v268 (by omega))
        have nA := NE1.cp nB p1v268 (by omega)
        have hC := QN.sm hC (fun k hk => p3v268 _ (by omega)) (by omega)
        have nC := NE1.smr nC (fun k hk => p3v268 _ (by omega))
        have hB := QN.sm hB (fun k hk => p3v268 _ (by omega)) (by omega)
        have nB := NE1.smr nB (fun k hk => p3v268 _ (by omega))
        refine k_aload_n C rfl rfl rfl ?_
        refine z_bipush C (z := 42) rfl rfl rfl (fun x279 ex279 => ?_)
        refine z_bipush C (z := 41) rfl rfl rfl (fun x280 ex280 => ?_)
        have q281 : x279.toNatClampNeg = 42 := nck (by omega)
        have q282 : x280.toNatClampNeg = 41 := nck (by omega)
        refine c_VV C (a_X12_copies hI269 H_r0 (by omega) (by omega) (by omega) (by omega) (by first | omega | (simp only [q281, q282, e272, e273, e274, e276, e278] <;> omega))) rfl rfl rfl rfl rfl ⟨_, rfl, rfl, T_r0, Nat.le_of_ble_eq_true rfl⟩ rfl rfl (Nat.le_of_ble_eq_true rfl) (Nat.le_of_ble_eq_true rfl) (Nat.le_of_ble_eq_true rfl) ?_
        rintro I284 L285 ⟨p0v283, p1v283, p2v283, p3v283, hI284, S286⟩
        have p0v283 := p0v283 r0_4 R_r0_4
        have p1v283 := p1v283 r0_4 r0_5 R_r0_4 R_r0_5
        have p2v283 := p2v283 r0_4 R_r0_4
        have p3v283 := p3v283 r0_5 R_r0_5
        try simp only [q281, q282] at p2v283
        try simp only [q281, q282] at p3v283
        have e287 := CM.j S286 R_r0_1 (by decide) e272
        have e289 := (p2v283 43 (by first | decide | exact ncne (by omega) (by omega) (by omega) | exact nckn (by omega) (by omega) | exact (nckn (by omega) (by omega)).symm)).trans e274
        have e290 := (p2v283 42 (by first | decide | exact ncne (by omega) (by omega) (by omega) | exact nckn (by omega) (by omega) | exact (nckn (by omega) (by omega)).symm)).trans e276
        have e291 := (p2v283 40 (by first | decide | exact ncne (by omega) (by omega) (by omega) | exact nckn (by omega) (by omega) | exact (nckn (by omega) (by omega)).symm)).trans e278
        obtain ⟨x292, e293⟩ : ∃ x, I284 r0_4 41 = x := ⟨_, rfl⟩
        have gx292 := rg x292
        have ox292 := IM.dgR hI284 R_r0_4 e293
        try simp only [q281, q282, e272, e273, e274, e276, e278, e293] at p0v283
        try have q0v283 := congrArg Int32.toInt p0v283
        try simp only [q281, q282, e272, e273, e274, e276, e278, e293] at p1v283
        try have q1v283 := congrArg Int32.toInt p1v283
        have hB := QN.cp hC (CPN.le p1v283 (by omega))
        have nB := NE1.cp nC p1v283 (by omega)
        have hA := QN.sm hA (fun k hk => p3v283 _ (by omega)) (by omega)
        have nA := NE1.smr nA (fun k hk => p3v283 _ (by omega))
        refine k_goto C (pc2 := 25) rfl rfl ?_
        refine k_sub S [(0, .ref r0), (1, .int x26), (2, .int x32)] (List.forall_mem_cons.mpr ⟨List.mem_of_getElem? (i := 0) rfl, List.forall_mem_cons.mpr ⟨List.mem_of_getElem? (i := 1) rfl, List.forall_mem_cons.mpr ⟨List.mem_of_getElem? (i := 2) rfl, fun _ h => nomatch h⟩⟩⟩) ?_
        exact ihJ28 _ (by omega) I284 L285 x32 x277 x292 rfl hI284 (CM.cons S35 (CM.cons S182 (CM.cons S195 (CM.cons S209 (CM.cons S225 (CM.cons S241 (CM.cons S256 (CM.cons S271 (CM.mono S286 (by decide) (by decide)) (by decide) (by decide)) (by decide) (by decide)) (by decide) (by decide)) (by decide) (by decide)) (by decide) (by decide)) (by decide) (by decide)) (by decide) (by decide)) (by decide) (by decide)) (by omega) (by omega) e291 (by omega) (by omega) e293 (by omega) (by omega) (by exact QN.le hA (by omega)) (by exact QN.le hB (by omega)) (by first | exact fun h => absurd (by omega) h | exact fun _ => nA) (by first | exact fun h => absurd (by omega) h | exact fun _ => nB)
      refine z_iconst C (z := 0) rfl rfl rfl (fun x294 ex294 => ?_)
      refine k_istore_n C (lw := [(2, .int x294), (0, .ref r0), (1, .int x26)]) rfl rfl (Nat.le_of_ble_eq_true rfl) rfl ?_
      refine k_goto C (pc2 := 25) rfl rfl ?_
      refine k_sub S [(0, .ref r0), (1, .int x26), (2, .int x294)] (List.forall_mem_cons.mpr ⟨List.mem_of_getElem? (i := 1) rfl, List.forall_mem_cons.mpr ⟨List.mem_of_getElem? (i := 2) rfl, List.forall_mem_cons.mpr ⟨List.mem_of_getElem? (i := 0) rfl, fun _ h => nomatch h⟩⟩⟩) ?_
      exact ihJ28 _ (by omega) I223 L224 x294 x200 x214 rfl hI223 (CM.cons S35 (CM.cons S182 (CM.cons S195 (CM.cons S209 (CM.mono S225 (by decide) (by decide)) (by decide) (by decide)) (by decide) (by decide)) (by decide) (by decide)) (by decide) (by decide)) (by omega) (by omega) e228 (by omega) (by omega) e229 (by omega) (by omega) (by exact QN.le hA (by omega)) (by exact QN.le hB (by omega)) (by first | exact fun h => absurd (by omega) h | exact fun _ => nA) (by first | exact fun h => absurd (by omega) h | exact fun _ => nB)
  refine k_istore_n C (lw := [(2, .int x27), (1, .int x26), (0, .ref r0)]) rfl rfl (Nat.le_of_ble_eq_true rfl) rfl ?_
  refine k_sub S [(0, .ref r0), (1, .int x26), (2, .int x27)] (List.forall_mem_cons.mpr ⟨List.mem_of_getElem? (i := 2) rfl, List.forall_mem_cons.mpr ⟨List.mem_of_getElem? (i := 1) rfl, List.forall_mem_cons.mpr ⟨List.mem_of_getElem? (i := 0) rfl, fun _ h => nomatch h⟩⟩⟩) ?_
  exact J28 _ I18 L19 x27 x10 x24 rfl hI18 CM.rf (by omega) (by omega) e23 (by omega) (by omega) e25 (by omega) (by omega) (by exact QN.le hA (by omega)) (by exact QN.le hB (by omega)) (by exact fun _ => nA) (by exact fun _ => nB)

theorem a_X12_common {d : Nat} {T N : Nat → Nat} {I : IT} {L : LT} {R : RT} {A : Nat → Prop} {r0 : Nat} {n1 n2 n3 : Int32} (hI : IM R r0 I) (H_r0 : (h_MD T N R A) r0) : Ex (d + 7) 292 [.ref r0, .int n1, .int n2, .int n3] (T, N, I, L, R) 0 0 (pI T N R (fun x9 I9 L9 => (-18 ≤ x9.toInt) ∧ (x9.toInt ≤ 40) ∧ (IM R r0 I9 ∧ CM A R r0 [0] [4, 5] I L I9 L9))) := by
  refine ⟨_, rfl, Nat.le_of_ble_eq_true rfl, fun V C S => ?_⟩
  show V 0 [(0, .ref r0), (1, .int n1), (2, .int n2), (3, .int n3)] [] (T, N, I, L, R) 0 0
  have gn1 := rg n1
  have gn2 := rg n2
  have gn3 := rg n3
  obtain ⟨T_r0, A_r0, ⟨r0_1, R_r0_1, H_r0_1⟩, ⟨r0_2, R_r0_2, H_r0_2⟩, ⟨r0_4, R_r0_4, H_r0_4⟩, ⟨r0_5, R_r0_5, H_r0_5⟩, ⟨r0_10, R_r0_10, H_r0_10⟩, ⟨r0_18, R_r0_18, H_r0_18⟩, ⟨r0_20, R_r0_20, H_r0_20⟩, ⟨r0_21, R_r0_21, H_r0_21⟩, ⟨r0_22, R_r0_22, H_r0_22⟩, ⟨r0_23, R_r0_23, H_r0_23⟩, ⟨r0_25, R_r0_25, H_r0_25⟩, ⟨r0_26, R_r0_26, H_r0_26⟩, ⟨r0_27, R_r0_27, H_r0_27⟩, ⟨r0_28, R_r0_28, H_r0_28⟩, ⟨r0_34, R_r0_34, H_r0_34⟩, J_r0, Y_r0⟩ := id H_r0
  have G_r0 : mF T R r0 := ⟨J_r0, Y_r0, T_r0⟩
  refine k_aload_n C rfl rfl rfl ?_
  refine z_iconst C (z := 0) rfl rfl rfl (fun x1 ex1 => ?_)
  refine z_pI C rfl rfl rfl T_r0 (Or.inr rfl) rfl (fun I2 uI2 => ?_)
  have hI2 : IM R r0 I2 := IM.fld hI G_r0 ⟨(fun h => absurd h (by decide)), (fun h => absurd h (by decide)), (fun h => absurd h (by decide)), (fun h => absurd h (by decide)), (fun h => absurd h (by decide))⟩ uI2
  have S3 : CM A R r0 [0] [] I L I2 L := CM.f G_r0 A_r0 uI2
  have e4 := u2_e uI2
  refine k_aload_n C rfl rfl rfl ?_
  refine k_aload_n C rfl rfl rfl ?_
  refine k_iload_n C rfl rfl rfl ?_
  refine c_VI C (a_X12_noForm hI2 H_r0) rfl rfl rfl rfl rfl ⟨_, rfl, rfl, T_r0, Nat.le_of_ble_eq_true rfl⟩ rfl rfl (Nat.le_of_ble_eq_true rfl) (Nat.le_of_ble_eq_true rfl) (Nat.le_of_ble_eq_true rfl) ?_
  rintro x5 _ _ ⟨o0x5, o1x5, p0x5, rfl, rfl⟩
  have p0x5 := p0x5 r0_1 R_r0_1
  have gx5 := rg x5
  obtain ⟨x6, e7⟩ : ∃ x, I2 r0_1 1 = x := ⟨_, rfl⟩
  have gx6 := rg x6
  have ox6 := IM.c1 hI2 R_r0_1 e7
  try simp only [e4, e7] at p0x5
  try have q0x5 := congrArg Int32.toInt p0x5
  refine b_if_ne C (t := 22) rfl rfl rfl (fun c8 => ?_) (fun c8 => ?_)
  · skip
    refine z_iconst C (z := 1) rfl rfl rfl (fun x9 ex9 => ?_)
    refine k_goto C (pc2 := 27) rfl rfl ?_
    refine z_iconst C (z := 1) rfl rfl rfl (fun x10 ex10 => ?_)
    have q11 : x9.toNatClampNeg = 1 := nck (by omega)
    have q12 : x10.toNatClampNeg = 1 := nck (by omega)
    refine c_VI C (a_X12_throwsIf hI2 H_r0 (by omega) (by omega)) rfl rfl rfl rfl rfl ⟨_, rfl, rfl, T_r0, Nat.le_of_ble_eq_true rfl⟩ rfl rfl (Nat.le_of_ble_eq_true rfl) (Nat.le_of_ble_eq_true rfl) (Nat.le_of_ble_eq_true rfl) ?_
    rintro x13 I14 L15 ⟨o0x13, o1x13, p0x13, hI14, S16⟩
    have e18 := CM.j S16 R_r0_1 (by decide) e7
    have gx13 := rg x13
    try simp only [q11, q12, e4, e7] at p0x13
    try have q0x13 := congrArg Int32.toInt p0x13
    refine b_if_eq C (t := 36) rfl rfl rfl (fun c19 => by exfalso; omega) (fun c19 => ?_)
    refine z_iconst C (z := 0) rfl rfl rfl (fun x20 ex20 => ?_)
    exact k_iret C rfl (Or.inl rfl) (Nat.le_of_ble_eq_true rfl) (Nat.le_of_ble_eq_true rfl) ⟨_, _, _, rfl, rfl, by omega, by omega, hI14, (CM.cons S3 (CM.mono S16 (by decide) (by decide)) (by decide) (by decide))⟩
  refine k_aload_n C rfl rfl rfl ?_
  refine k_iload_n C rfl rfl rfl ?_
  refine c_VI C (a_X12_noForm hI2 H_r0) rfl rfl rfl rfl rfl ⟨_, rfl, rfl, T_r0, Nat.le_of_ble_eq_true rfl⟩ rfl rfl (Nat.le_of_ble_eq_true rfl) (Nat.le_of_ble_eq_true rfl) (Nat.le_of_ble_eq_true rfl) ?_
  rintro x21 _ _ ⟨o0x21, o1x21, p0x21, rfl, rfl⟩
  have p0x21 := p0x21 r0_1 R_r0_1
  have gx21 := rg x21
  try simp only [e4, e7, e7] at p0x21
  try have q0x21 := congrArg Int32.toInt p0x21
  refine b_if_eq C (t := 26) rfl rfl rfl (fun c22 => ?_) (fun c22 => ?_)
  · skip
    refine z_iconst C (z := 0) rfl rfl rfl (fun x23 ex23 => ?_)
    refine z_iconst C (z := 1) rfl rfl rfl (fun x24 ex24 => ?_)
    have q25 : x23.toNatClampNeg = 0 := nck (by omega)
    have q26 : x24.toNatClampNeg = 1 := nck (by omega)
    refine c_VI C (a_X12_throwsIf hI2 H_r0 (by omega) (by omega)) rfl rfl rfl rfl rfl ⟨_, rfl, rfl, T_r0, Nat.le_of_ble_eq_true rfl⟩ rfl rfl (Nat.le_of_ble_eq_true rfl) (Nat.le_of_ble_eq_true rfl) (Nat.le_of_ble_eq_true rfl) ?_
    rintro x27 I28 L29 ⟨o0x27, o1x27, p0x27, hI28, S30⟩
    have e32 := CM.j S30 R_r0_1 (by decide) e7
    have gx27 := rg x27
    try simp only [q25, q26, e4, e7] at p0x27
    try have q0x27 := congrArg Int32.toInt p0x27
    refine b_if_eq C (t := 36) rfl rfl rfl (fun c33 => ?_) (fun c33 => by exfalso; omega)
    refine k_aload_n C rfl rfl rfl ?_
    refine z_bipush C (z := 40) rfl rfl rfl (fun x34 ex34 => ?_)
    refine k_iload_n C rfl rfl rfl ?_
    obtain ⟨x35, e36⟩ : ∃ x, I28 r0_1 (6 + 10 * n1.toNatClampNeg) = x := ⟨_, rfl⟩
    have gx35 := rg x35
    obtain ⟨x37, e38⟩ : ∃ x, I28 r0_1 0 = x := ⟨_, rfl⟩
    have gx37 := rg x37
    have ox37 := IM.pi hI28 R_r0_1 e38
    have q39 : x34.toNatClampNeg = 40 := nck (by omega)
    refine c_VV C (a_X12_takes hI28 H_r0 (by omega) (by omega) (by omega) (by omega)) rfl rfl rfl rfl rfl ⟨_, rfl, rfl, T_r0, Nat.le_of_ble_eq_true rfl⟩ rfl rfl (Nat.le_of_ble_eq_true rfl) (Nat.le_of_ble_eq_true rfl) (Nat.le_of_ble_eq_true rfl) ?_
    rintro I41 L42 ⟨p0v40, p1v40, p2v40, p3v40, p4v40, hI41, S43⟩
    have p0v40 := p0v40 r0_4 R_r0_4
    have p1v40 := p1v40 r0_1 r0_4 R_r0_1 R_r0_4
    have p2v40 := p2v40 r0_1 r0_4 r0_5 R_r0_1 R_r0_4 R_r0_5
    have p3v40 := p3v40 r0_4 R_r0_4
    have p4v40 := p4v40 r0_5 R_r0_5
    try simp only [q39] at p3v40
    try simp only [q39] at p4v40
    have e44 := CM.j S43 R_r0_1 (by decide) e32
    have e45 := CM.j S43 R_r0_1 (by decide) e36
    have e46 := CM.j S43 R_r0_1 (by decide) e38
    obtain ⟨x47, e48⟩ : ∃ x, I41 r0_4 40 = x := ⟨_, rfl⟩
    have gx47 := rg x47
    have ox47 := IM.dgR hI41 R_r0_4 e48
    try simp only [q39, e32, e36, e38, e48] at p0v40
    try have q0v40 := congrArg Int32.toInt p0v40
    try simp only [q39, e32, e36, e38, e48] at p1v40
    try have q1v40 := congrArg Int32.toInt p1v40
    try simp only [q39, e32, e36, e38, e48] at p2v40
    try have q2v40 := congrArg Int32.toInt p2v40
    have hA := p2v40 (by omega)
    refine k_aload_n C rfl rfl rfl ?_
    refine z_bipush C (z := 41) rfl rfl rfl (fun x49 ex49 => ?_)
    refine k_iload_n C rfl rfl rfl ?_
    obtain ⟨x50, e51⟩ : ∃ x, I41 r0_1 (6 + 10 * n2.toNatClampNeg) = x := ⟨_, rfl⟩
    have gx50 := rg x50
    have q52 : x49.toNatClampNeg = 41 := nck (by omega)
    refine c_VV C (a_X12_takes hI41 H_r0 (by omega) (by omega) (by omega) (by omega)) rfl rfl rfl rfl rfl ⟨_, rfl, rfl, T_r0, Nat.le_of_ble_eq_true rfl⟩ rfl rfl (Nat.le_of_ble_eq_true rfl) (Nat.le_of_ble_eq_true rfl) (Nat.le_of_ble_eq_true rfl) ?_
    rintro I54 L55 ⟨p0v53, p1v53, p2v53, p3v53, p4v53, hI54, S56⟩
    have p0v53 := p0v53 r0_4 R_r0_4
    have p1v53 := p1v53 r0_1 r0_4 R_r0_1 R_r0_4
    have p2v53 := p2v53 r0_1 r0_4 r0_5 R_r0_1 R_r0_4 R_r0_5
    have p3v53 := p3v53 r0_4 R_r0_4
    have p4v53 := p4v53 r0_5 R_r0_5
    try simp only [q52] at p3v53
    try simp only [q52] at p4v53
    have e57 := CM.j S56 R_r0_1 (by decide) e44
    have e58 := CM.j S56 R_r0_1 (by decide) e45
    have e59 := CM.j S56 R_r0_1 (by decide) e46
    have e60 := (p3v53 40 (by first | decide | exact ncne (by omega) (by omega) (by omega) | exact nckn (by omega) (by omega) | exact (nckn (by omega) (by omega)).symm)).trans e48
    have e61 := CM.j S56 R_r0_1 (by decide) e51
    obtain ⟨x62, e63⟩ : ∃ x, I54 r0_4 41 = x := ⟨_, rfl⟩
    have gx62 := rg x62
    have ox62 := IM.dgR hI54 R_r0_4 e63
    try simp only [q52, e44, e45, e46, e48, e51, e63] at p0v53
    try have q0v53 := congrArg Int32.toInt p0v53
    try simp only [q52, e44, e45, e46, e48, e51, e63] at p1v53
    try have q1v53 := congrArg Int32.toInt p1v53
    try simp only [q52, e44, e45, e46, e48, e51, e63] at p2v53
    try have q2v53 := congrArg Int32.toInt p2v53
    have hB := p2v53 (by omega)
    have hA := QN.sm hA (fun k hk => p4v53 _ (by omega)) (by omega)
    refine k_aload_n C rfl rfl rfl ?_
    refine z_bipush C (z := 40) rfl rfl rfl (fun x64 ex64 => ?_)
    have q65 : x64.toNatClampNeg = 40 := nck (by omega)
    refine c_VI C (a_X12_isNought hI54 H_r0 (by omega) (by omega)) rfl rfl rfl rfl rfl ⟨_, rfl, rfl, T_r0, Nat.le_of_ble_eq_true rfl⟩ rfl rfl (Nat.le_of_ble_eq_true rfl) (Nat.le_of_ble_eq_true rfl) (Nat.le_of_ble_eq_true rfl) ?_
    rintro x66 _ _ ⟨o0x66, o1x66, p0x66, rfl, rfl⟩
    have p0x66 := p0x66 r0_4 r0_5 R_r0_4 R_r0_5
    have gx66 := rg x66
    try simp only [q65, e57, e58, e59, e60, e61, e63] at p0x66
    try have q0x66 := congrArg Int32.toInt p0x66
    have zA := p0x66
    refine b_if_ne C (t := 68) rfl rfl rfl (fun c67 => ?_) (fun c67 => ?_)
    · skip
      refine z_bipush C (z := -2) rfl rfl rfl (fun x68 ex68 => ?_)
      exact k_iret C rfl (Or.inl rfl) (Nat.le_of_ble_eq_true rfl) (Nat.le_of_ble_eq_true rfl) ⟨_, _, _, rfl, rfl, by omega, by omega, hI54, (CM.cons S3 (CM.cons S30 (CM.cons S43 (CM.mono S56 (by decide) (by decide)) (by decide) (by decide)) (by decide) (by decide)) (by decide) (by decide))⟩
    refine k_aload_n C rfl rfl rfl ?_
    refine z_bipush C (z := 41) rfl rfl rfl (fun x69 ex69 => ?_)
    have q70 : x69.toNatClampNeg = 41 := nck (by omega)
    refine c_VI C (a_X12_isNought hI54 H_r0 (by omega) (by omega)) rfl rfl rfl rfl rfl ⟨_, rfl, rfl, T_r0, Nat.le_of_ble_eq_true rfl⟩ rfl rfl (Nat.le_of_ble_eq_true rfl) (Nat.le_of_ble_eq_true rfl) (Nat.le_of_ble_eq_true rfl) ?_
    rintro x71 _ _ ⟨o0x71, o1x71, p0x71, rfl, rfl⟩
    have p0x71 := p0x71 r0_4 r0_5 R_r0_4 R_r0_5
    have gx71 := rg x71
    try simp only [q70, e57, e58, e59, e60, e61, e63] at p0x71
    try have q0x71 := congrArg Int32.toInt p0x71
    have zB := p0x71
    refine b_if_eq C (t := 71) rfl rfl rfl (fun c72 => ?_) (fun c72 => ?_)
    · skip
      refine k_aload_n C rfl rfl rfl ?_
      refine c_VV C (a_X12_commons hI54 H_r0 (fun a4 h4 => by cases (R_r0_4.symm.trans h4); first | omega | (simp only [e57, e58, e59, e60, e61, e63] <;> omega)) (fun a4 h4 => by cases (R_r0_4.symm.trans h4); first | omega | (simp only [e57, e58, e59, e60, e61, e63] <;> omega)) (fun a4 a5 h4 h5 => by cases (R_r0_4.symm.trans h4); cases (R_r0_5.symm.trans h5); simp only [e57, e58, e59, e60, e61, e63]; exact zA (by omega)) (fun a4 a5 h4 h5 => by cases (R_r0_4.symm.trans h4); cases (R_r0_5.symm.trans h5); simp only [e57, e58, e59, e60, e61, e63]; exact zB (by omega)) (fun a1 a4 a5 h1 h4 h5 => by cases (R_r0_1.symm.trans h1); cases (R_r0_4.symm.trans h4); cases (R_r0_5.symm.trans h5); simp only [e57, e58, e59, e60, e61, e63]; exact hA) (fun a1 a4 a5 h1 h4 h5 => by cases (R_r0_1.symm.trans h1); cases (R_r0_4.symm.trans h4); cases (R_r0_5.symm.trans h5); simp only [e57, e58, e59, e60, e61, e63]; exact hB)) rfl rfl rfl rfl rfl ⟨_, rfl, rfl, T_r0, Nat.le_of_ble_eq_true rfl⟩ rfl rfl (Nat.le_of_ble_eq_true rfl) (Nat.le_of_ble_eq_true rfl) (Nat.le_of_ble_eq_true rfl) ?_
      rintro I74 L75 ⟨hI74, S76⟩
      have e77 := CM.j S76 R_r0_1 (by decide) e57
      have e78 := CM.j S76 R_r0_1 (by decide) e58
      have e79 := CM.j S76 R_r0_1 (by decide) e59
      have e81 := CM.j S76 R_r0_1 (by decide) e61
      refine k_aload_n C rfl rfl rfl ?_
      refine z_bipush C (z := 40) rfl rfl rfl (fun x83 ex83 => ?_)
      refine k_iload_n C rfl rfl rfl ?_
      refine c_VI C (a_X12_toldOf hI74 H_r0 (by omega) (by omega)) rfl rfl rfl rfl rfl ⟨_, rfl, rfl, T_r0, Nat.le_of_ble_eq_true rfl⟩ rfl rfl (Nat.le_of_ble_eq_true rfl) (Nat.le_of_ble_eq_true rfl) (Nat.le_of_ble_eq_true rfl) ?_
      rintro x84 _ _ ⟨o0x84, o1x84, rfl, rfl⟩
      have gx84 := rg x84
      exact k_iret C rfl (Or.inl rfl) (Nat.le_of_ble_eq_true rfl) (Nat.le_of_ble_eq_true rfl) ⟨_, _, _, rfl, rfl, by omega, by omega, hI74, (CM.cons S3 (CM.cons S30 (CM.cons S43 (CM.cons S56 (CM.mono S76 (by decide) (by decide)) (by decide) (by decide)) (by decide) (by decide)) (by decide) (by decide)) (by decide) (by decide))⟩
    refine z_bipush C (z := -2) rfl rfl rfl (fun x85 ex85 => ?_)
    exact k_iret C rfl (Or.inl rfl) (Nat.le_of_ble_eq_true rfl) (Nat.le_of_ble_eq_true rfl) ⟨_, _, _, rfl, rfl, by omega, by omega, hI54, (CM.cons S3 (CM.cons S30 (CM.cons S43 (CM.mono S56 (by decide) (by decide)) (by decide) (by decide)) (by decide) (by decide)) (by decide) (by decide))⟩
  refine z_iconst C (z := 1) rfl rfl rfl (fun x86 ex86 => ?_)
  refine k_goto C (pc2 := 27) rfl rfl ?_
  refine z_iconst C (z := 1) rfl rfl rfl (fun x87 ex87 => ?_)
  have q88 : x86.toNatClampNeg = 1 := nck (by omega)
  have q89 : x87.toNatClampNeg = 1 := nck (by omega)
  refine c_VI C (a_X12_throwsIf hI2 H_r0 (by omega) (by omega)) rfl rfl rfl rfl rfl ⟨_, rfl, rfl, T_r0, Nat.le_of_ble_eq_true rfl⟩ rfl rfl (Nat.le_of_ble_eq_true rfl) (Nat.le_of_ble_eq_true rfl) (Nat.le_of_ble_eq_true rfl) ?_
  rintro x90 I91 L92 ⟨o0x90, o1x90, p0x90, hI91, S93⟩
  have e95 := CM.j S93 R_r0_1 (by decide) e7
  have gx90 := rg x90
  try simp only [q88, q89, e4, e7] at p0x90
  try have q0x90 := congrArg Int32.toInt p0x90
  refine b_if_eq C (t := 36) rfl rfl rfl (fun c96 => by exfalso; omega) (fun c96 => ?_)
  refine z_iconst C (z := 0) rfl rfl rfl (fun x97 ex97 => ?_)
  exact k_iret C rfl (Or.inl rfl) (Nat.le_of_ble_eq_true rfl) (Nat.le_of_ble_eq_true rfl) ⟨_, _, _, rfl, rfl, by omega, by omega, hI91, (CM.cons S3 (CM.mono S93 (by decide) (by decide)) (by decide) (by decide))⟩

theorem a_X12_plain {d : Nat} {T N : Nat → Nat} {I : IT} {L : LT} {R : RT} {A : Nat → Prop} {r0 : Nat} {n1 : Int32} (hI : IM R r0 I) (H_r0 : (h_MD T N R A) r0) : Ex (d + 7) 295 [.ref r0, .int n1] (T, N, I, L, R) 0 0 (pI T N R (fun x9 I9 L9 => (0 ≤ x9.toInt) ∧ (x9.toInt ≤ 1) ∧ (IM R r0 I9 ∧ CM A R r0 [0] [4, 5] I L I9 L9))) := by
  refine ⟨_, rfl, Nat.le_of_ble_eq_true rfl, fun V C S => ?_⟩
  show V 0 [(0, .ref r0), (1, .int n1)] [] (T, N, I, L, R) 0 0
  have gn1 := rg n1
  obtain ⟨T_r0, A_r0, ⟨r0_1, R_r0_1, H_r0_1⟩, ⟨r0_2, R_r0_2, H_r0_2⟩, ⟨r0_4, R_r0_4, H_r0_4⟩, ⟨r0_5, R_r0_5, H_r0_5⟩, ⟨r0_10, R_r0_10, H_r0_10⟩, ⟨r0_18, R_r0_18, H_r0_18⟩, ⟨r0_20, R_r0_20, H_r0_20⟩, ⟨r0_21, R_r0_21, H_r0_21⟩, ⟨r0_22, R_r0_22, H_r0_22⟩, ⟨r0_23, R_r0_23, H_r0_23⟩, ⟨r0_25, R_r0_25, H_r0_25⟩, ⟨r0_26, R_r0_26, H_r0_26⟩, ⟨r0_27, R_r0_27, H_r0_27⟩, ⟨r0_28, R_r0_28, H_r0_28⟩, ⟨r0_34, R_r0_34, H_r0_34⟩, J_r0, Y_r0⟩ := id H_r0
  have G_r0 : mF T R r0 := ⟨J_r0, Y_r0, T_r0⟩
  refine k_aload_n C rfl rfl rfl ?_
  refine z_iconst C (z := 0) rfl rfl rfl (fun x1 ex1 => ?_)
  refine z_pI C rfl rfl rfl T_r0 (Or.inr rfl) rfl (fun I2 uI2 => ?_)
  have hI2 : IM R r0 I2 := IM.fld hI G_r0 ⟨(fun h => absurd h (by decide)), (fun h => absurd h (by decide)), (fun h => absurd h (by decide)), (fun h => absurd h (by decide)), (fun h => absurd h (by decide))⟩ uI2
  have S3 : CM A R r0 [0] [] I L I2 L := CM.f G_r0 A_r0 uI2
  have e4 := u2_e uI2
  refine k_aload_n C rfl rfl rfl ?_
  refine k_aload_n C rfl rfl rfl ?_
  refine k_iload_n C rfl rfl rfl ?_
  refine c_VI C (a_X12_noForm hI2 H_r0) rfl rfl rfl rfl rfl ⟨_, rfl, rfl, T_r0, Nat.le_of_ble_eq_true rfl⟩ rfl rfl (Nat.le_of_ble_eq_true rfl) (Nat.le_of_ble_eq_true rfl) (Nat.le_of_ble_eq_true rfl) ?_
  rintro x5 _ _ ⟨o0x5, o1x5, p0x5, rfl, rfl⟩
  have p0x5 := p0x5 r0_1 R_r0_1
  have gx5 := rg x5
  obtain ⟨x6, e7⟩ : ∃ x, I2 r0_1 1 = x := ⟨_, rfl⟩
  have gx6 := rg x6
  have ox6 := IM.c1 hI2 R_r0_1 e7
  try simp only [e4, e7] at p0x5
  try have q0x5 := congrArg Int32.toInt p0x5
  refine z_iconst C (z := 1) rfl rfl rfl (fun x8 ex8 => ?_)
  have q9 : x8.toNatClampNeg = 1 := nck (by omega)
  refine c_VI C (a_X12_throwsIf hI2 H_r0 (by omega) (by omega)) rfl rfl rfl rfl rfl ⟨_, rfl, rfl, T_r0, Nat.le_of_ble_eq_true rfl⟩ rfl rfl (Nat.le_of_ble_eq_true rfl) (Nat.le_of_ble_eq_true rfl) (Nat.le_of_ble_eq_true rfl) ?_
  rintro x10 I11 L12 ⟨o0x10, o1x10, p0x10, hI11, S13⟩
  have e15 := CM.j S13 R_r0_1 (by decide) e7
  have gx10 := rg x10
  try simp only [q9, e4, e7] at p0x10
  try have q0x10 := congrArg Int32.toInt p0x10
  refine b_if_eq C (t := 20) rfl rfl rfl (fun c16 => ?_) (fun c16 => ?_)
  · skip
    refine k_aload_n C rfl rfl rfl ?_
    refine z_bipush C (z := 44) rfl rfl rfl (fun x17 ex17 => ?_)
    refine k_iload_n C rfl rfl rfl ?_
    obtain ⟨x18, e19⟩ : ∃ x, I11 r0_1 (6 + 10 * n1.toNatClampNeg) = x := ⟨_, rfl⟩
    have gx18 := rg x18
    obtain ⟨x20, e21⟩ : ∃ x, I11 r0_1 0 = x := ⟨_, rfl⟩
    have gx20 := rg x20
    have ox20 := IM.pi hI11 R_r0_1 e21
    have q22 : x17.toNatClampNeg = 44 := nck (by omega)
    refine c_VV C (a_X12_takes hI11 H_r0 (by omega) (by omega) (by omega) (by omega)) rfl rfl rfl rfl rfl ⟨_, rfl, rfl, T_r0, Nat.le_of_ble_eq_true rfl⟩ rfl rfl (Nat.le_of_ble_eq_true rfl) (Nat.le_of_ble_eq_true rfl) (Nat.le_of_ble_eq_true rfl) ?_
    rintro I24 L25 ⟨p0v23, p1v23, p2v23, p3v23, p4v23, hI24, S26⟩
    have p0v23 := p0v23 r0_4 R_r0_4
    have p1v23 := p1v23 r0_1 r0_4 R_r0_1 R_r0_4
    have p2v23 := p2v23 r0_1 r0_4 r0_5 R_r0_1 R_r0_4 R_r0_5
    have p3v23 := p3v23 r0_4 R_r0_4
    have p4v23 := p4v23 r0_5 R_r0_5
    try simp only [q22] at p3v23
    try simp only [q22] at p4v23
    have e27 := CM.j S26 R_r0_1 (by decide) e15
    have e28 := CM.j S26 R_r0_1 (by decide) e19
    have e29 := CM.j S26 R_r0_1 (by decide) e21
    obtain ⟨x30, e31⟩ : ∃ x, I24 r0_4 44 = x := ⟨_, rfl⟩
    have gx30 := rg x30
    have ox30 := IM.dgR hI24 R_r0_4 e31
    try simp only [q22, e15, e19, e21, e31] at p0v23
    try have q0v23 := congrArg Int32.toInt p0v23
    try simp only [q22, e15, e19, e21, e31] at p1v23
    try have q1v23 := congrArg Int32.toInt p1v23
    try simp only [q22, e15, e19, e21, e31] at p2v23
    try have q2v23 := congrArg Int32.toInt p2v23
    refine k_aload_n C rfl rfl rfl ?_
    refine g_R C rfl rfl rfl T_r0 rfl R_r0_4 ?_
    refine z_bipush C (z := 44) rfl rfl rfl (fun x32 ex32 => ?_)
    obtain ⟨T_r0_4, N_r0_4, A_r0_4⟩ := id H_r0_4
    refine a_I C rfl rfl T_r0_4 (by rw [N_r0_4]; exact vpi (by omega) (by omega)) ((congrArg (I24 r0_4) (nck (n := 44) (by omega))).trans e31) ?_
    refine z_iconst C (z := 2) rfl rfl rfl (fun x33 ex33 => ?_)
    refine b_icmp_lt C (t := 47) rfl rfl rfl (fun c34 => ?_) (fun c34 => ?_)
    · skip
      refine z_iconst C (z := 0) rfl rfl rfl (fun x35 ex35 => ?_)
      exact k_iret C rfl (Or.inr ⟨rfl, z01 (by omega) (by omega)⟩) (Nat.le_of_ble_eq_true rfl) (Nat.le_of_ble_eq_true rfl) ⟨_, _, _, rfl, rfl, by omega, by omega, hI24, (CM.cons S3 (CM.cons S13 (CM.mono S26 (by decide) (by decide)) (by decide) (by decide)) (by decide) (by decide))⟩
    refine k_aload_n C rfl rfl rfl ?_
    refine z_bipush C (z := 44) rfl rfl rfl (fun x36 ex36 => ?_)
    have q37 : x36.toNatClampNeg = 44 := nck (by omega)
    refine c_VI C (a_X12_isNought hI24 H_r0 (by omega) (by omega)) rfl rfl rfl rfl rfl ⟨_, rfl, rfl, T_r0, Nat.le_of_ble_eq_true rfl⟩ rfl rfl (Nat.le_of_ble_eq_true rfl) (Nat.le_of_ble_eq_true rfl) (Nat.le_of_ble_eq_true rfl) ?_
    rintro x38 _ _ ⟨o0x38, o1x38, p0x38, rfl, rfl⟩
    have p0x38 := p0x38 r0_4 r0_5 R_r0_4 R_r0_5
    have gx38 := rg x38
    try simp only [q37, e27, e28, e29, e31] at p0x38
    try have q0x38 := congrArg Int32.toInt p0x38
    refine b_if_eq C (t := 49) rfl rfl rfl (fun c39 => ?_) (fun c39 => ?_)
    · skip
      refine k_aload_n C rfl rfl rfl ?_
      refine z_bipush C (z := 44) rfl rfl rfl (fun x40 ex40 => ?_)
      refine z_iconst C (z := 1) rfl rfl rfl (fun x41 ex41 => ?_)
      refine z_iconst C (z := 0) rfl rfl rfl (fun x42 ex42 => ?_)
      refine z_bipush C (z := 40) rfl rfl rfl (fun x43 ex43 => ?_)
      have q44 : x40.toNatClampNeg = 44 := nck (by omega)
      have q45 : x41.toNatClampNeg = 1 := nck (by omega)
      have q46 : x42.toNatClampNeg = 0 := nck (by omega)
      have q47 : x43.toNatClampNeg = 40 := nck (by omega)
      refine c_VV C (a_X12_differentiates hI24 H_r0 (by omega) (by omega) (by omega) (by omega) (by omega) (by omega) (by omega) (by omega) (by first | omega | (simp only [q44, q45, q46, q47, e27, e28, e29, e31] <;> omega)) (fun a4 h4 => by cases (R_r0_4.symm.trans h4); first | omega | (simp only [q44, q45, q46, q47, e27, e28, e29, e31] <;> omega))) rfl rfl rfl rfl rfl ⟨_, rfl, rfl, T_r0, Nat.le_of_ble_eq_true rfl⟩ rfl rfl (Nat.le_of_ble_eq_true rfl) (Nat.le_of_ble_eq_true rfl) (Nat.le_of_ble_eq_true rfl) ?_
      rintro I49 L50 ⟨p0v48, p1v48, p2v48, p3v48, hI49, S51⟩
      have p0v48 := p0v48 r0_4 R_r0_4
      have p1v48 := p1v48 r0_1 r0_4 r0_5 R_r0_1 R_r0_4 R_r0_5
      have p2v48 := p2v48 r0_4 R_r0_4
      have p3v48 := p3v48 r0_5 R_r0_5
      try simp only [q44, q45, q46, q47] at p2v48
      try simp only [q44, q45, q46, q47] at p3v48
      have e52 := CM.j S51 R_r0_1 (by decide) e27
      have e53 := CM.j S51 R_r0_1 (by decide) e28
      have e54 := CM.j S51 R_r0_1 (by decide) e29
      have e55 := (p2v48 44 (by first | decide | exact ncne (by omega) (by omega) (by omega) | exact nckn (by omega) (by omega) | exact (nckn (by omega) (by omega)).symm)).trans e31
      obtain ⟨x56, e57⟩ : ∃ x, I49 r0_4 40 = x := ⟨_, rfl⟩
      have gx56 := rg x56
      have ox56 := IM.dgR hI49 R_r0_4 e57
      try simp only [q44, q45, q46, q47, e27, e28, e29, e31, e57] at p0v48
      try have q0v48 := congrArg Int32.toInt p0v48
      try simp only [q44, q45, q46, q47, e27, e28, e29, e31, e57] at p1v48
      try have q1v48 := congrArg Int32.toInt p1v48
      have hA := p1v48
      refine k_aload_n C rfl rfl rfl ?_
      refine z_bipush C (z := 44) rfl rfl rfl (fun x58 ex58 => ?_)
      refine z_iconst C (z := 0) rfl rfl rfl (fun x59 ex59 => ?_)
      refine z_iconst C (z := 1) rfl rfl rfl (fun x60 ex60 => ?_)
      refine z_bipush C (z := 41) rfl rfl rfl (fun x61 ex61 => ?_)
      have q62 : x58.toNatClampNeg = 44 := nck (by omega)
      have q63 : x59.toNatClampNeg = 0 := nck (by omega)
      have q64 : x60.toNatClampNeg = 1 := nck (by omega)
      have q65 : x61.toNatClampNeg = 41 := nck (by omega)
      refine c_VV C (a_X12_differentiates hI49 H_r0 (by omega) (by omega) (by omega) (by omega) (by omega) (by omega) (by omega) (by omega) (by first | omega | (simp only [q62, q63, q64, q65, e52, e53, e54, e55, e57] <;> omega)) (fun a4 h4 => by cases (R_r0_4.symm.trans h4); first | omega | (simp only [q62, q63, q64, q65, e52, e53, e54, e55, e57] <;> omega))) rfl rfl rfl rfl rfl ⟨_, rfl, rfl, T_r0, Nat.le_of_ble_eq_true rfl⟩ rfl rfl (Nat.le_of_ble_eq_true rfl) (Nat.le_of_ble_eq_true rfl) (Nat.le_of_ble_eq_true rfl) ?_
      rintro I67 L68 ⟨p0v66, p1v66, p2v66, p3v66, hI67, S69⟩
      have p0v66 := p0v66 r0_4 R_r0_4
      have p1v66 := p1v66 r0_1 r0_4 r0_5 R_r0_1 R_r0_4 R_r0_5
      have p2v66 := p2v66 r0_4 R_r0_4
      have p3v66 := p3v66 r0_5 R_r0_5
      try simp only [q62, q63, q64, q65] at p2v66
      try simp only [q62, q63, q64, q65] at p3v66
      have e70 := CM.j S69 R_r0_1 (by decide) e52
      have e71 := CM.j S69 R_r0_1 (by decide) e53
      have e72 := CM.j S69 R_r0_1 (by decide) e54
      have e73 := (p2v66 44 (by first | decide | exact ncne (by omega) (by omega) (by omega) | exact nckn (by omega) (by omega) | exact (nckn (by omega) (by omega)).symm)).trans e55
      have e74 := (p2v66 40 (by first | decide | exact ncne (by omega) (by omega) (by omega) | exact nckn (by omega) (by omega) | exact (nckn (by omega) (by omega)).symm)).trans e57
      obtain ⟨x75, e76⟩ : ∃ x, I67 r0_4 41 = x := ⟨_, rfl⟩
      have gx75 := rg x75
      have ox75 := IM.dgR hI67 R_r0_4 e76
      try simp only [q62, q63, q64, q65, e52, e53, e54, e55, e57, e76] at p0v66
      try have q0v66 := congrArg Int32.toInt p0v66
      try simp only [q62, q63, q64, q65, e52, e53, e54, e55, e57, e76] at p1v66
      try have q1v66 := congrArg Int32.toInt p1v66
      have hB := p1v66
      have hA := QN.sm hA (fun k hk => p3v66 _ (by omega)) (by omega)
      refine k_aload_n C rfl rfl rfl ?_
      refine z_bipush C (z := 40) rfl rfl rfl (fun x77 ex77 => ?_)
      have q78 : x77.toNatClampNeg = 40 := nck (by omega)
      refine c_VI C (a_X12_isNought hI67 H_r0 (by omega) (by omega)) rfl rfl rfl rfl rfl ⟨_, rfl, rfl, T_r0, Nat.le_of_ble_eq_true rfl⟩ rfl rfl (Nat.le_of_ble_eq_true rfl) (Nat.le_of_ble_eq_true rfl) (Nat.le_of_ble_eq_true rfl) ?_
      rintro x79 _ _ ⟨o0x79, o1x79, p0x79, rfl, rfl⟩
      have p0x79 := p0x79 r0_4 r0_5 R_r0_4 R_r0_5
      have gx79 := rg x79
      try simp only [q78, e70, e71, e72, e73, e74, e76] at p0x79
      try have q0x79 := congrArg Int32.toInt p0x79
      have zA := p0x79
      refine b_if_ne C (t := 87) rfl rfl rfl (fun c80 => ?_) (fun c80 => ?_)
      · skip
        refine z_iconst C (z := 0) rfl rfl rfl (fun x81 ex81 => ?_)
        exact k_iret C rfl (Or.inr ⟨rfl, z01 (by omega) (by omega)⟩) (Nat.le_of_ble_eq_true rfl) (Nat.le_of_ble_eq_true rfl) ⟨_, _, _, rfl, rfl, by omega, by omega, hI67, (CM.cons S3 (CM.cons S13 (CM.cons S26 (CM.cons S51 (CM.mono S69 (by decide) (by decide)) (by decide) (by decide)) (by decide) (by decide)) (by decide) (by decide)) (by decide) (by decide))⟩
      refine k_aload_n C rfl rfl rfl ?_
      refine z_bipush C (z := 41) rfl rfl rfl (fun x82 ex82 => ?_)
      have q83 : x82.toNatClampNeg = 41 := nck (by omega)
      refine c_VI C (a_X12_isNought hI67 H_r0 (by omega) (by omega)) rfl rfl rfl rfl rfl ⟨_, rfl, rfl, T_r0, Nat.le_of_ble_eq_true rfl⟩ rfl rfl (Nat.le_of_ble_eq_true rfl) (Nat.le_of_ble_eq_true rfl) (Nat.le_of_ble_eq_true rfl) ?_
      rintro x84 _ _ ⟨o0x84, o1x84, p0x84, rfl, rfl⟩
      have p0x84 := p0x84 r0_4 r0_5 R_r0_4 R_r0_5
      have gx84 := rg x84
      try simp only [q83, e70, e71, e72, e73, e74, e76] at p0x84
      try have q0x84 := congrArg Int32.toInt p0x84
      have zB := p0x84
      refine b_if_eq C (t := 89) rfl rfl rfl (fun c85 => ?_) (fun c85 => ?_)
      · skip
        refine k_aload_n C rfl rfl rfl ?_
        refine c_VV C (a_X12_commons hI67 H_r0 (fun a4 h4 => by cases (R_r0_4.symm.trans h4); first | omega | (simp only [e70, e71, e72, e73, e74, e76] <;> omega)) (fun a4 h4 => by cases (R_r0_4.symm.trans h4); first | omega | (simp only [e70, e71, e72, e73, e74, e76] <;> omega)) (fun a4 a5 h4 h5 => by cases (R_r0_4.symm.trans h4); cases (R_r0_5.symm.trans h5); simp only [e70, e71, e72, e73, e74, e76]; exact zA (by omega)) (fun a4 a5 h4 h5 => by cases (R_r0_4.symm.trans h4); cases (R_r0_5.symm.trans h5); simp only [e70, e71, e72, e73, e74, e76]; exact zB (by omega)) (fun a1 a4 a5 h1 h4 h5 => by cases (R_r0_1.symm.trans h1); cases (R_r0_4.symm.trans h4); cases (R_r0_5.symm.trans h5); simp only [e70, e71, e72, e73, e74, e76]; exact hA) (fun a1 a4 a5 h1 h4 h5 => by cases (R_r0_1.symm.trans h1); cases (R_r0_4.symm.trans h4); cases (R_r0_5.symm.trans h5); simp only [e70, e71, e72, e73, e74, e76]; exact hB)) rfl rfl rfl rfl rfl ⟨_, rfl, rfl, T_r0, Nat.le_of_ble_eq_true rfl⟩ rfl rfl (Nat.le_of_ble_eq_true rfl) (Nat.le_of_ble_eq_true rfl) (Nat.le_of_ble_eq_true rfl) ?_
        rintro I87 L88 ⟨hI87, S89⟩
        have e90 := CM.j S89 R_r0_1 (by decide) e70
        have e91 := CM.j S89 R_r0_1 (by decide) e71
        have e92 := CM.j S89 R_r0_1 (by decide) e72
        refine k_aload_n C rfl rfl rfl ?_
        refine g_R C rfl rfl rfl T_r0 rfl R_r0_4 ?_
        refine z_bipush C (z := 40) rfl rfl rfl (fun x96 ex96 => ?_)
        refine z_aI C rfl rfl T_r0_4 N_r0_4 (by omega) (by omega) (fun x97 ex97 => ?_)
        have gx97 := rg x97
        have nx97 : I87 r0_4 40 = x97 := (congrArg (I87 r0_4) (nck (n := 40) (by omega))).symm.trans ex97
        have ox97 := IM.dgR hI87 R_r0_4 nx97
        refine b_if_ne C (t := 107) rfl rfl rfl (fun c98 => ?_) (fun c98 => ?_)
        · skip
          refine z_iconst C (z := 0) rfl rfl rfl (fun x99 ex99 => ?_)
          exact k_iret C rfl (Or.inr ⟨rfl, z01 (by omega) (by omega)⟩) (Nat.le_of_ble_eq_true rfl) (Nat.le_of_ble_eq_true rfl) ⟨_, _, _, rfl, rfl, by omega, by omega, hI87, (CM.cons S3 (CM.cons S13 (CM.cons S26 (CM.cons S51 (CM.cons S69 (CM.mono S89 (by decide) (by decide)) (by decide) (by decide)) (by decide) (by decide)) (by decide) (by decide)) (by decide) (by decide)) (by decide) (by decide))⟩
        refine z_iconst C (z := 1) rfl rfl rfl (fun x100 ex100 => ?_)
        refine k_goto C (pc2 := 108) rfl rfl ?_
        exact k_iret C rfl (Or.inr ⟨rfl, z01 (by omega) (by omega)⟩) (Nat.le_of_ble_eq_true rfl) (Nat.le_of_ble_eq_true rfl) ⟨_, _, _, rfl, rfl, by omega, by omega, hI87, (CM.cons S3 (CM.cons S13 (CM.cons S26 (CM.cons S51 (CM.cons S69 (CM.mono S89 (by decide) (by decide)) (by decide) (by decide)) (by decide) (by decide)) (by decide) (by decide)) (by decide) (by decide)) (by decide) (by decide))⟩
      refine z_iconst C (z := 0) rfl rfl rfl (fun x101 ex101 => ?_)
      exact k_iret C rfl (Or.inr ⟨rfl, z01 (by omega) (by omega)⟩) (Nat.le_of_ble_eq_true rfl) (Nat.le_of_ble_eq_true rfl) ⟨_, _, _, rfl, rfl, by omega, by omega, hI67, (CM.cons S3 (CM.cons S13 (CM.cons S26 (CM.cons S51 (CM.mono S69 (by decide) (by decide)) (by decide) (by decide)) (by decide) (by decide)) (by decide) (by decide)) (by decide) (by decide))⟩
    refine z_iconst C (z := 0) rfl rfl rfl (fun x102 ex102 => ?_)
    exact k_iret C rfl (Or.inr ⟨rfl, z01 (by omega) (by omega)⟩) (Nat.le_of_ble_eq_true rfl) (Nat.le_of_ble_eq_true rfl) ⟨_, _, _, rfl, rfl, by omega, by omega, hI24, (CM.cons S3 (CM.cons S13 (CM.mono S26 (by decide) (by decide)) (by decide) (by decide)) (by decide) (by decide))⟩
  refine z_iconst C (z := 0) rfl rfl rfl (fun x103 ex103 => ?_)
  exact k_iret C rfl (Or.inr ⟨rfl, z01 (by omega) (by omega)⟩) (Nat.le_of_ble_eq_true rfl) (Nat.le_of_ble_eq_true rfl) ⟨_, _, _, rfl, rfl, by omega, by omega, hI11, (CM.cons S3 (CM.mono S13 (by decide) (by decide)) (by decide) (by decide))⟩

theorem a_X12_hasQuotient {d : Nat} {T N : Nat → Nat} {I : IT} {L : LT} {R : RT} {A : Nat → Prop} {r0 : Nat} (hI : IM R r0 I) (H_r0 : (h_MD T N R A) r0) (hp0 : ∀ a4, R r0 4 = some a4 → (I a4 40).toInt ≤ 8) (hp1 : ∀ a4, R r0 4 = some a4 → (I a4 41).toInt ≤ 8) (hp2 : ∀ a1 a4 a5, R r0 1 = some a1 → R r0 4 = some a4 → R r0 5 = some a5 → QN I a5 40 ((I a4 40).toInt + 1) (I a1 0).toInt) (hp3 : ∀ a1 a4 a5, R r0 1 = some a1 → R r0 4 = some a4 → R r0 5 = some a5 → QN I a5 41 ((I a4 41).toInt + 1) (I a1 0).toInt) : Ex (d + 6) 293 [.ref r0] (T, N, I, L, R) 0 0 (pI T N R (fun x9 I9 L9 => (0 ≤ x9.toInt) ∧ (x9.toInt ≤ 1) ∧ (IM R r0 I9 ∧ CM A R r0 [] [4, 5] I L I9 L9))) := by
  refine ⟨_, rfl, Nat.le_of_ble_eq_true rfl, fun V C S => ?_⟩
  show V 0 [(0, .ref r0)] [] (T, N, I, L, R) 0 0
  obtain ⟨T_r0, A_r0, ⟨r0_1, R_r0_1, H_r0_1⟩, ⟨r0_2, R_r0_2, H_r0_2⟩, ⟨r0_4, R_r0_4, H_r0_4⟩, ⟨r0_5, R_r0_5, H_r0_5⟩, ⟨r0_10, R_r0_10, H_r0_10⟩, ⟨r0_18, R_r0_18, H_r0_18⟩, ⟨r0_20, R_r0_20, H_r0_20⟩, ⟨r0_21, R_r0_21, H_r0_21⟩, ⟨r0_22, R_r0_22, H_r0_22⟩, ⟨r0_23, R_r0_23, H_r0_23⟩, ⟨r0_25, R_r0_25, H_r0_25⟩, ⟨r0_26, R_r0_26, H_r0_26⟩, ⟨r0_27, R_r0_27, H_r0_27⟩, ⟨r0_28, R_r0_28, H_r0_28⟩, ⟨r0_34, R_r0_34, H_r0_34⟩, J_r0, Y_r0⟩ := id H_r0
  have G_r0 : mF T R r0 := ⟨J_r0, Y_r0, T_r0⟩
  obtain ⟨w_r0_4_40, k0_r0_4_40⟩ : ∃ x, I r0_4 40 = x := ⟨_, rfl⟩
  have gw_r0_4_40 := rg w_r0_4_40
  have ow_r0_4_40 := IM.dgR hI R_r0_4 k0_r0_4_40
  obtain ⟨w_r0_4_41, k0_r0_4_41⟩ : ∃ x, I r0_4 41 = x := ⟨_, rfl⟩
  have gw_r0_4_41 := rg w_r0_4_41
  have ow_r0_4_41 := IM.dgR hI R_r0_4 k0_r0_4_41
  obtain ⟨w_r0_1_0, k0_r0_1_0⟩ : ∃ x, I r0_1 0 = x := ⟨_, rfl⟩
  have gw_r0_1_0 := rg w_r0_1_0
  have ow_r0_1_0 := IM.pi hI R_r0_1 k0_r0_1_0
  have hp0 := hp0 r0_4 R_r0_4
  have hp1 := hp1 r0_4 R_r0_4
  have hp2 := hp2 r0_1 r0_4 r0_5 R_r0_1 R_r0_4 R_r0_5
  have hp3 := hp3 r0_1 r0_4 r0_5 R_r0_1 R_r0_4 R_r0_5
  try simp only [k0_r0_4_40, k0_r0_4_41, k0_r0_1_0] at hp0
  try simp only [k0_r0_4_40, k0_r0_4_41, k0_r0_1_0] at hp1
  try simp only [k0_r0_4_40, k0_r0_4_41, k0_r0_1_0] at hp2
  try simp only [k0_r0_4_40, k0_r0_4_41, k0_r0_1_0] at hp3
  refine k_aload_n C rfl rfl rfl ?_
  refine z_bipush C (z := 41) rfl rfl rfl (fun x1 ex1 => ?_)
  have q2 : x1.toNatClampNeg = 41 := nck (by omega)
  refine c_VI C (a_X12_isNought hI H_r0 (by omega) (by omega)) rfl rfl rfl rfl rfl ⟨_, rfl, rfl, T_r0, Nat.le_of_ble_eq_true rfl⟩ rfl rfl (Nat.le_of_ble_eq_true rfl) (Nat.le_of_ble_eq_true rfl) (Nat.le_of_ble_eq_true rfl) ?_
  rintro x3 _ _ ⟨o0x3, o1x3, p0x3, rfl, rfl⟩
  have p0x3 := p0x3 r0_4 r0_5 R_r0_4 R_r0_5
  have gx3 := rg x3
  try simp only [q2, k0_r0_4_40, k0_r0_4_41, k0_r0_1_0] at p0x3
  try have q0x3 := congrArg Int32.toInt p0x3
  have zB := p0x3
  refine b_if_ne C (t := 26) rfl rfl rfl (fun c4 => ?_) (fun c4 => ?_)
  · skip
    refine z_iconst C (z := 0) rfl rfl rfl (fun x5 ex5 => ?_)
    exact k_iret C rfl (Or.inr ⟨rfl, z01 (by omega) (by omega)⟩) (Nat.le_of_ble_eq_true rfl) (Nat.le_of_ble_eq_true rfl) ⟨_, _, _, rfl, rfl, by omega, by omega, hI, CM.rf⟩
  refine k_aload_n C rfl rfl rfl ?_
  refine g_R C rfl rfl rfl T_r0 rfl R_r0_4 ?_
  refine z_bipush C (z := 40) rfl rfl rfl (fun x6 ex6 => ?_)
  obtain ⟨T_r0_4, N_r0_4, A_r0_4⟩ := id H_r0_4
  refine a_I C rfl rfl T_r0_4 (by rw [N_r0_4]; exact vpi (by omega) (by omega)) ((congrArg (I r0_4) (nck (n := 40) (by omega))).trans k0_r0_4_40) ?_
  refine k_aload_n C rfl rfl rfl ?_
  refine g_R C rfl rfl rfl T_r0 rfl R_r0_4 ?_
  refine z_bipush C (z := 41) rfl rfl rfl (fun x7 ex7 => ?_)
  refine a_I C rfl rfl T_r0_4 (by rw [N_r0_4]; exact vpi (by omega) (by omega)) ((congrArg (I r0_4) (nck (n := 41) (by omega))).trans k0_r0_4_41) ?_
  refine b_icmp_ge C (t := 28) rfl rfl rfl (fun c8 => ?_) (fun c8 => ?_)
  · skip
    refine k_aload_n C rfl rfl rfl ?_
    refine g_R C rfl rfl rfl T_r0 rfl R_r0_4 ?_
    refine z_bipush C (z := 40) rfl rfl rfl (fun x9 ex9 => ?_)
    refine a_I C rfl rfl T_r0_4 (by rw [N_r0_4]; exact vpi (by omega) (by omega)) ((congrArg (I r0_4) (nck (n := 40) (by omega))).trans k0_r0_4_40) ?_
    refine k_aload_n C rfl rfl rfl ?_
    refine g_R C rfl rfl rfl T_r0 rfl R_r0_4 ?_
    refine z_bipush C (z := 41) rfl rfl rfl (fun x10 ex10 => ?_)
    refine a_I C rfl rfl T_r0_4 (by rw [N_r0_4]; exact vpi (by omega) (by omega)) ((congrArg (I r0_4) (nck (n := 41) (by omega))).trans k0_r0_4_41) ?_
    refine z_isub C rfl rfl ⟨by omega, by omega⟩ (fun x11 ex11 => ?_)
    refine k_istore_n C (lw := [(1, .int x11), (0, .ref r0)]) rfl rfl (Nat.le_of_ble_eq_true rfl) rfl ?_
    refine k_aload_n C rfl rfl rfl ?_
    refine z_bipush C (z := 40) rfl rfl rfl (fun x12 ex12 => ?_)
    have q13 : x12.toNatClampNeg = 40 := nck (by omega)
    refine c_VI C (a_X12_isNought hI H_r0 (by omega) (by omega)) rfl rfl rfl rfl rfl ⟨_, rfl, rfl, T_r0, Nat.le_of_ble_eq_true rfl⟩ rfl rfl (Nat.le_of_ble_eq_true rfl) (Nat.le_of_ble_eq_true rfl) (Nat.le_of_ble_eq_true rfl) ?_
    rintro x14 _ _ ⟨o0x14, o1x14, p0x14, rfl, rfl⟩
    have p0x14 := p0x14 r0_4 r0_5 R_r0_4 R_r0_5
    have gx14 := rg x14
    try simp only [q13, k0_r0_4_40, k0_r0_4_41, k0_r0_1_0] at p0x14
    try have q0x14 := congrArg Int32.toInt p0x14
    have zA := p0x14
    refine b_if_eq C (t := 62) rfl rfl rfl (fun c15 => ?_) (fun c15 => ?_)
    · skip
      refine k_aload_n C rfl rfl rfl ?_
      refine z_bipush C (z := 40) rfl rfl rfl (fun x16 ex16 => ?_)
      have q17 : x16.toNatClampNeg = 40 := nck (by omega)
      refine c_VI C (a_X12_strips hI H_r0 (by omega) (by omega) (fun a4 a5 h4 h5 => by cases (R_r0_4.symm.trans h4); cases (R_r0_5.symm.trans h5); simp only [q17, k0_r0_4_40, k0_r0_4_41, k0_r0_1_0]; exact zA (by omega))) rfl rfl rfl rfl rfl ⟨_, rfl, rfl, T_r0, Nat.le_of_ble_eq_true rfl⟩ rfl rfl (Nat.le_of_ble_eq_true rfl) (Nat.le_of_ble_eq_true rfl) (Nat.le_of_ble_eq_true rfl) ?_
      rintro x18 I19 L20 ⟨p0x18, p1x18, p2x18, p3x18, p4x18, p5x18, hI19, S21⟩
      have p0x18 := p0x18 r0_4 R_r0_4
      have p1x18 := p1x18 r0_4 R_r0_4
      have p2x18 := p2x18 r0_5 R_r0_5
      have p3x18 := p3x18 r0_4 r0_5 R_r0_4 R_r0_5
      have p4x18 := p4x18 r0_4 R_r0_4
      have p5x18 := p5x18 r0_5 R_r0_5
      try simp only [q17] at p4x18
      try simp only [q17] at p5x18
      have e23 := (p4x18 41 (by first | decide | exact ncne (by omega) (by omega) (by omega) | exact nckn (by omega) (by omega) | exact (nckn (by omega) (by omega)).symm)).trans k0_r0_4_41
      have e24 := CM.j S21 R_r0_1 (by decide) k0_r0_1_0
      have gx18 := rg x18
      obtain ⟨x25, e26⟩ : ∃ x, I19 r0_4 40 = x := ⟨_, rfl⟩
      have gx25 := rg x25
      have ox25 := IM.dgR hI19 R_r0_4 e26
      try simp only [q17, k0_r0_4_40, k0_r0_4_41, k0_r0_1_0, e26] at p0x18
      try have q0x18 := congrArg Int32.toInt p0x18
      try simp only [q17, k0_r0_4_40, k0_r0_4_41, k0_r0_1_0, e26] at p1x18
      try have q1x18 := congrArg Int32.toInt p1x18
      try simp only [q17, k0_r0_4_40, k0_r0_4_41, k0_r0_1_0, e26] at p2x18
      try have q2x18 := congrArg Int32.toInt p2x18
      try simp only [q17, k0_r0_4_40, k0_r0_4_41, k0_r0_1_0, e26] at p3x18
      try have q3x18 := congrArg Int32.toInt p3x18
      have hA := QN.st hp2 p3x18 (by omega)
      have hB := QN.sm hp3 (fun k hk => p5x18 _ (by omega)) (by omega)
      have zB := NZ.sm (zB (by omega)) (fun k hk => p5x18 _ (by omega)) (by omega)
      refine k_aload_n C rfl rfl rfl ?_
      refine z_bipush C (z := 41) rfl rfl rfl (fun x27 ex27 => ?_)
      have q28 : x27.toNatClampNeg = 41 := nck (by omega)
      refine c_VI C (a_X12_strips hI19 H_r0 (by omega) (by omega) (fun a4 a5 h4 h5 => by cases (R_r0_4.symm.trans h4); cases (R_r0_5.symm.trans h5); simp only [q28, e23, e24, e26]; exact zB)) rfl rfl rfl rfl rfl ⟨_, rfl, rfl, T_r0, Nat.le_of_ble_eq_true rfl⟩ rfl rfl (Nat.le_of_ble_eq_true rfl) (Nat.le_of_ble_eq_true rfl) (Nat.le_of_ble_eq_true rfl) ?_
      rintro x29 I30 L31 ⟨p0x29, p1x29, p2x29, p3x29, p4x29, p5x29, hI30, S32⟩
      have p0x29 := p0x29 r0_4 R_r0_4
      have p1x29 := p1x29 r0_4 R_r0_4
      have p2x29 := p2x29 r0_5 R_r0_5
      have p3x29 := p3x29 r0_4 r0_5 R_r0_4 R_r0_5
      have p4x29 := p4x29 r0_4 R_r0_4
      have p5x29 := p5x29 r0_5 R_r0_5
      try simp only [q28] at p4x29
      try simp only [q28] at p5x29
      have e34 := CM.j S32 R_r0_1 (by decide) e24
      have e35 := (p4x29 40 (by first | decide | exact ncne (by omega) (by omega) (by omega) | exact nckn (by omega) (by omega) | exact (nckn (by omega) (by omega)).symm)).trans e26
      have gx29 := rg x29
      obtain ⟨x36, e37⟩ : ∃ x, I30 r0_4 41 = x := ⟨_, rfl⟩
      have gx36 := rg x36
      have ox36 := IM.dgR hI30 R_r0_4 e37
      try simp only [q28, e23, e24, e26, e37] at p0x29
      try have q0x29 := congrArg Int32.toInt p0x29
      try simp only [q28, e23, e24, e26, e37] at p1x29
      try have q1x29 := congrArg Int32.toInt p1x29
      try simp only [q28, e23, e24, e26, e37] at p2x29
      try have q2x29 := congrArg Int32.toInt p2x29
      try simp only [q28, e23, e24, e26, e37] at p3x29
      try have q3x29 := congrArg Int32.toInt p3x29
      have hB := QN.st hB p3x29 (by omega)
      have nB := STP.ne p3x29 p2x29 (by omega) (by omega)
      have hA := QN.sm hA (fun k hk => p5x29 _ (by omega)) (by omega)
      refine z_isub C rfl rfl ⟨by omega, by omega⟩ (fun x38 ex38 => ?_)
      refine k_istore_n C (lw := [(2, .int x38), (1, .int x11), (0, .ref r0)]) rfl rfl (Nat.le_of_ble_eq_true rfl) rfl ?_
      refine k_iload_n C rfl rfl rfl ?_
      refine b_if_lt C (t := 97) rfl rfl rfl (fun c39 => ?_) (fun c39 => ?_)
      · skip
        refine z_iconst C (z := 0) rfl rfl rfl (fun x40 ex40 => ?_)
        exact k_iret C rfl (Or.inr ⟨rfl, z01 (by omega) (by omega)⟩) (Nat.le_of_ble_eq_true rfl) (Nat.le_of_ble_eq_true rfl) ⟨_, _, _, rfl, rfl, by omega, by omega, hI30, (CM.cons S21 (CM.mono S32 (by decide) (by decide)) (by decide) (by decide))⟩
      refine k_aload_n C rfl rfl rfl ?_
      refine g_R C rfl rfl rfl T_r0 rfl R_r0_4 ?_
      refine z_bipush C (z := 40) rfl rfl rfl (fun x41 ex41 => ?_)
      refine a_I C rfl rfl T_r0_4 (by rw [N_r0_4]; exact vpi (by omega) (by omega)) ((congrArg (I30 r0_4) (nck (n := 40) (by omega))).trans e35) ?_
      refine k_aload_n C rfl rfl rfl ?_
      refine g_R C rfl rfl rfl T_r0 rfl R_r0_4 ?_
      refine z_bipush C (z := 41) rfl rfl rfl (fun x42 ex42 => ?_)
      refine a_I C rfl rfl T_r0_4 (by rw [N_r0_4]; exact vpi (by omega) (by omega)) ((congrArg (I30 r0_4) (nck (n := 41) (by omega))).trans e37) ?_
      refine b_icmp_ge C (t := 99) rfl rfl rfl (fun c43 => ?_) (fun c43 => ?_)
      · skip
        refine k_aload_n C rfl rfl rfl ?_
        refine z_bipush C (z := 40) rfl rfl rfl (fun x44 ex44 => ?_)
        refine z_bipush C (z := 41) rfl rfl rfl (fun x45 ex45 => ?_)
        refine z_bipush C (z := 43) rfl rfl rfl (fun x46 ex46 => ?_)
        have q47 : x44.toNatClampNeg = 40 := nck (by omega)
        have q48 : x45.toNatClampNeg = 41 := nck (by omega)
        have q49 : x46.toNatClampNeg = 43 := nck (by omega)
        refine c_VV C (a_X12_divides hI30 H_r0 (by omega) (by omega) (by omega) (by omega) (by omega) (by omega) (fun a4 h4 => by cases (R_r0_4.symm.trans h4); first | omega | (simp only [q47, q48, q49, e34, e35, e37] <;> omega)) (fun a5 h5 => by cases (R_r0_5.symm.trans h5); exact nB) (fun a1 a5 h1 h5 => by cases (R_r0_1.symm.trans h1); cases (R_r0_5.symm.trans h5); simp only [q47, q48, q49, e34, e35, e37]; exact QN.le hB (by omega)) (fun a1 a4 a5 h1 h4 h5 => by cases (R_r0_1.symm.trans h1); cases (R_r0_4.symm.trans h4); cases (R_r0_5.symm.trans h5); simp only [q47, q48, q49, e34, e35, e37]; exact QN.le hA (by omega))) rfl rfl rfl rfl rfl ⟨_, rfl, rfl, T_r0, Nat.le_of_ble_eq_true rfl⟩ rfl rfl (Nat.le_of_ble_eq_true rfl) (Nat.le_of_ble_eq_true rfl) (Nat.le_of_ble_eq_true rfl) ?_
        rintro I51 L52 ⟨p0v50, p1v50, p2v50, p3v50, p4v50, hI51, S53⟩
        have p0v50 := p0v50 r0_4 r0_5 R_r0_4 R_r0_5
        have p1v50 := p1v50 r0_1 r0_4 r0_5 R_r0_1 R_r0_4 R_r0_5
        have p2v50 := p2v50 r0_4 R_r0_4
        have p3v50 := p3v50 r0_4 R_r0_4
        have p4v50 := p4v50 r0_5 R_r0_5
        try simp only [q47, q48, q49] at p3v50
        try simp only [q47, q48, q49] at p4v50
        have e54 := CM.j S53 R_r0_1 (by decide) e34
        have e55 := (p3v50 40 (by first | decide | exact ncne (by omega) (by omega) (by omega) | exact nckn (by omega) (by omega) | exact (nckn (by omega) (by omega)).symm)).trans e35
        have e56 := (p3v50 41 (by first | decide | exact ncne (by omega) (by omega) (by omega) | exact nckn (by omega) (by omega) | exact (nckn (by omega) (by omega)).symm)).trans e37
        obtain ⟨x57, e58⟩ : ∃ x, I51 r0_4 43 = x := ⟨_, rfl⟩
        have gx57 := rg x57
        have ox57 := IM.dgR hI51 R_r0_4 e58
        try simp only [q47, q48, q49, e34, e35, e37, e58] at p0v50
        try have q0v50 := congrArg Int32.toInt p0v50
        try simp only [q47, q48, q49, e34, e35, e37, e58] at p1v50
        try have q1v50 := congrArg Int32.toInt p1v50
        try simp only [q47, q48, q49, e34, e35, e37, e58] at p2v50
        try have q2v50 := congrArg Int32.toInt p2v50
        refine k_aload_n C rfl rfl rfl ?_
        refine z_bipush C (z := 40) rfl rfl rfl (fun x59 ex59 => ?_)
        have q60 : x59.toNatClampNeg = 40 := nck (by omega)
        refine c_VI C (a_X12_isNought hI51 H_r0 (by omega) (by omega)) rfl rfl rfl rfl rfl ⟨_, rfl, rfl, T_r0, Nat.le_of_ble_eq_true rfl⟩ rfl rfl (Nat.le_of_ble_eq_true rfl) (Nat.le_of_ble_eq_true rfl) (Nat.le_of_ble_eq_true rfl) ?_
        rintro x61 _ _ ⟨o0x61, o1x61, p0x61, rfl, rfl⟩
        have p0x61 := p0x61 r0_4 r0_5 R_r0_4 R_r0_5
        have gx61 := rg x61
        try simp only [q60, e54, e55, e56, e58] at p0x61
        try have q0x61 := congrArg Int32.toInt p0x61
        refine b_if_ne C (t := 120) rfl rfl rfl (fun c62 => ?_) (fun c62 => ?_)
        · skip
          refine k_aload_n C rfl rfl rfl ?_
          refine z_bipush C (z := 42) rfl rfl rfl (fun x63 ex63 => ?_)
          refine k_iload_n C rfl rfl rfl ?_
          have q64 : x63.toNatClampNeg = 42 := nck (by omega)
          refine c_VV C (a_X12_clears hI51 H_r0 (by omega) (by omega) (by omega) (by omega)) rfl rfl rfl rfl rfl ⟨_, rfl, rfl, T_r0, Nat.le_of_ble_eq_true rfl⟩ rfl rfl (Nat.le_of_ble_eq_true rfl) (Nat.le_of_ble_eq_true rfl) (Nat.le_of_ble_eq_true rfl) ?_
          rintro I66 L67 ⟨p0v65, p1v65, p2v65, p3v65, hI66, S68⟩
          have p0v65 := p0v65 r0_4 R_r0_4
          have p1v65 := p1v65 r0_5 R_r0_5
          have p2v65 := p2v65 r0_4 R_r0_4
          have p3v65 := p3v65 r0_5 R_r0_5
          try simp only [q64] at p2v65
          try simp only [q64] at p3v65
          have e69 := CM.j S68 R_r0_1 (by decide) e54
          have e70 := (p2v65 40 (by first | decide | exact ncne (by omega) (by omega) (by omega) | exact nckn (by omega) (by omega) | exact (nckn (by omega) (by omega)).symm)).trans e55
          have e71 := (p2v65 41 (by first | decide | exact ncne (by omega) (by omega) (by omega) | exact nckn (by omega) (by omega) | exact (nckn (by omega) (by omega)).symm)).trans e56
          have e72 := (p2v65 43 (by first | decide | exact ncne (by omega) (by omega) (by omega) | exact nckn (by omega) (by omega) | exact (nckn (by omega) (by omega)).symm)).trans e58
          obtain ⟨x73, e74⟩ : ∃ x, I66 r0_4 42 = x := ⟨_, rfl⟩
          have gx73 := rg x73
          have ox73 := IM.dgR hI66 R_r0_4 e74
          try simp only [q64, e54, e55, e56, e58, e74] at p0v65
          try have q0v65 := congrArg Int32.toInt p0v65
          try simp only [q64, e54, e55, e56, e58, e74] at p1v65
          try have q1v65 := congrArg Int32.toInt p1v65
          refine z_iconst C (z := 0) rfl rfl rfl (fun x75 ex75 => ?_)
          have J76 : ∀ (nn77 : Nat) (I78 : IT) (L79 : LT) (x80 : Int32), ((41 - x80.toInt).toNat = nn77) → (IM R r0 I78) → (CM A R r0 [] [5] I66 L67 I78 L79) → (0 ≤ x80.toInt) → (x80.toInt ≤ 41) → V 129 [(0, .ref r0), (2, .int x38), (3, .int x80)] [] (T, N, I78, L79, R) 0 0 := by
            intro nn77
            induction nn77 using Nat.strongRecOn with
            | _ nn77 ihJ76 =>
              intro I78 L79 x80 hmnn77 hI84 S83 b81 b82
              have gx80 := rg x80
              have e85 := CM.j S83 R_r0_1 (by decide) e69
              have e86 := CM.j S83 R_r0_4 (by decide) e70
              have e87 := CM.j S83 R_r0_4 (by decide) e71
              have e88 := CM.j S83 R_r0_4 (by decide) e72
              have e89 := CM.j S83 R_r0_4 (by decide) e74
              refine k_iload_n C rfl rfl rfl ?_
              refine k_aload_n C rfl rfl rfl ?_
              refine g_R C rfl rfl rfl T_r0 rfl R_r0_4 ?_
              refine z_bipush C (z := 43) rfl rfl rfl (fun x90 ex90 => ?_)
              refine a_I C rfl rfl T_r0_4 (by rw [N_r0_4]; exact vpi (by omega) (by omega)) ((congrArg (I78 r0_4) (nck (n := 43) (by omega))).trans e88) ?_
              refine b_icmp_gt C (t := 162) rfl rfl rfl (fun c91 => ?_) (fun c91 => ?_)
              · skip
                refine z_iconst C (z := 1) rfl rfl rfl (fun x92 ex92 => ?_)
                exact k_iret C rfl (Or.inr ⟨rfl, z01 (by omega) (by omega)⟩) (Nat.le_of_ble_eq_true rfl) (Nat.le_of_ble_eq_true rfl) ⟨_, _, _, rfl, rfl, by omega, by omega, hI84, (CM.cons S21 (CM.cons S32 (CM.cons S53 (CM.cons S68 (CM.mono S83 (by decide) (by decide)) (by decide) (by decide)) (by decide) (by decide)) (by decide) (by decide)) (by decide) (by decide))⟩
              refine k_aload_n C rfl rfl rfl ?_
              refine z_bipush C (z := 42) rfl rfl rfl (fun x93 ex93 => ?_)
              refine k_iload_n C rfl rfl rfl ?_
              refine k_iload_n C rfl rfl rfl ?_
              refine z_iadd C rfl rfl ⟨by omega, by omega⟩ (fun x94 ex94 => ?_)
              refine k_aload_n C rfl rfl rfl ?_
              refine z_bipush C (z := 43) rfl rfl rfl (fun x95 ex95 => ?_)
              refine k_iload_n C rfl rfl rfl ?_
              have q96 : x95.toNatClampNeg = 43 := nck (by omega)
              refine c_VI C (a_X12_of hI84 H_r0 (by omega) (by omega) (by omega) (by omega)) rfl rfl rfl rfl rfl ⟨_, rfl, rfl, T_r0, Nat.le_of_ble_eq_true rfl⟩ rfl rfl (Nat.le_of_ble_eq_true rfl) (Nat.le_of_ble_eq_true rfl) (Nat.le_of_ble_eq_true rfl) ?_
              rintro x97 _ _ ⟨o0x97, o1x97, p0x97, rfl, rfl⟩
              have p0x97 := p0x97 r0_5 R_r0_5
              have gx97 := rg x97
              try simp only [q96, e85, e86, e87, e88, e89] at p0x97
              try have q0x97 := congrArg Int32.toInt p0x97
              have q98 : x93.toNatClampNeg = 42 := nck (by omega)
              refine c_VV C (a_X12_put hI84 H_r0 (by omega) (by omega) (by omega) (by omega) (by omega) (by omega)) rfl rfl rfl rfl rfl ⟨_, rfl, rfl, T_r0, Nat.le_of_ble_eq_true rfl⟩ rfl rfl (Nat.le_of_ble_eq_true rfl) (Nat.le_of_ble_eq_true rfl) (Nat.le_of_ble_eq_true rfl) ?_
              rintro I100 L101 ⟨p0v99, p1v99, hI100, S102⟩
              have p0v99 := p0v99 r0_5 R_r0_5
              have p1v99 := p1v99 r0_5 R_r0_5
              try simp only [q98] at p1v99
              have e103 := CM.j S102 R_r0_1 (by decide) e85
              have e104 := CM.j S102 R_r0_4 (by decide) e86
              have e105 := CM.j S102 R_r0_4 (by decide) e87
              have e106 := CM.j S102 R_r0_4 (by decide) e88
              have e107 := CM.j S102 R_r0_4 (by decide) e89
              try simp only [q98, e85, e86, e87, e88, e89] at p0v99
              try have q0v99 := congrArg Int32.toInt p0v99
              refine z_iinc C (z := 1) (lw := fun x108 => [(3, .int x108), (0, .ref r0), (2, .int x38)]) rfl rfl rfl (Nat.le_of_ble_eq_true rfl) rfl ⟨by omega, by omega⟩ (fun _ => rfl) (fun x108 ex108 => ?_)
              show V 159 [(3, .int x108), (0, .ref r0), (2, .int x38)] _ _ _ _
              refine k_goto C (pc2 := 129) rfl rfl ?_
              refine k_sub S [(0, .ref r0), (2, .int x38), (3, .int x108)] (List.forall_mem_cons.mpr ⟨List.mem_of_getElem? (i := 1) rfl, List.forall_mem_cons.mpr ⟨List.mem_of_getElem? (i := 2) rfl, List.forall_mem_cons.mpr ⟨List.mem_of_getElem? (i := 0) rfl, fun _ h => nomatch h⟩⟩⟩) ?_
              exact ihJ76 _ (by omega) I100 L101 x108 rfl hI100 (CM.cons S83 (CM.mono S102 (by decide) (by decide)) (by decide) (by decide)) (by omega) (by omega)
          refine k_istore_n C (lw := [(3, .int x75), (2, .int x38), (1, .int x11), (0, .ref r0)]) rfl rfl (Nat.le_of_ble_eq_true rfl) rfl ?_
          refine k_sub S [(0, .ref r0), (2, .int x38), (3, .int x75)] (List.forall_mem_cons.mpr ⟨List.mem_of_getElem? (i := 3) rfl, List.forall_mem_cons.mpr ⟨List.mem_of_getElem? (i := 1) rfl, List.forall_mem_cons.mpr ⟨List.mem_of_getElem? (i := 0) rfl, fun _ h => nomatch h⟩⟩⟩) ?_
          exact J76 _ I66 L67 x75 rfl hI66 CM.rf (by omega) (by omega)
        refine z_iconst C (z := 0) rfl rfl rfl (fun x109 ex109 => ?_)
        exact k_iret C rfl (Or.inr ⟨rfl, z01 (by omega) (by omega)⟩) (Nat.le_of_ble_eq_true rfl) (Nat.le_of_ble_eq_true rfl) ⟨_, _, _, rfl, rfl, by omega, by omega, hI51, (CM.cons S21 (CM.cons S32 (CM.mono S53 (by decide) (by decide)) (by decide) (by decide)) (by decide) (by decide))⟩
      refine z_iconst C (z := 0) rfl rfl rfl (fun x110 ex110 => ?_)
      exact k_iret C rfl (Or.inr ⟨rfl, z01 (by omega) (by omega)⟩) (Nat.le_of_ble_eq_true rfl) (Nat.le_of_ble_eq_true rfl) ⟨_, _, _, rfl, rfl, by omega, by omega, hI30, (CM.cons S21 (CM.mono S32 (by decide) (by decide)) (by decide) (by decide))⟩
    refine k_aload_n C rfl rfl rfl ?_
    refine z_bipush C (z := 42) rfl rfl rfl (fun x111 ex111 => ?_)
    refine k_iload_n C rfl rfl rfl ?_
    have q112 : x111.toNatClampNeg = 42 := nck (by omega)
    refine c_VV C (a_X12_clears hI H_r0 (by omega) (by omega) (by omega) (by omega)) rfl rfl rfl rfl rfl ⟨_, rfl, rfl, T_r0, Nat.le_of_ble_eq_true rfl⟩ rfl rfl (Nat.le_of_ble_eq_true rfl) (Nat.le_of_ble_eq_true rfl) (Nat.le_of_ble_eq_true rfl) ?_
    rintro I114 L115 ⟨p0v113, p1v113, p2v113, p3v113, hI114, S116⟩
    have p0v113 := p0v113 r0_4 R_r0_4
    have p1v113 := p1v113 r0_5 R_r0_5
    have p2v113 := p2v113 r0_4 R_r0_4
    have p3v113 := p3v113 r0_5 R_r0_5
    try simp only [q112] at p2v113
    try simp only [q112] at p3v113
    have e117 := (p2v113 40 (by first | decide | exact ncne (by omega) (by omega) (by omega) | exact nckn (by omega) (by omega) | exact (nckn (by omega) (by omega)).symm)).trans k0_r0_4_40
    have e118 := (p2v113 41 (by first | decide | exact ncne (by omega) (by omega) (by omega) | exact nckn (by omega) (by omega) | exact (nckn (by omega) (by omega)).symm)).trans k0_r0_4_41
    have e119 := CM.j S116 R_r0_1 (by decide) k0_r0_1_0
    obtain ⟨x120, e121⟩ : ∃ x, I114 r0_4 42 = x := ⟨_, rfl⟩
    have gx120 := rg x120
    have ox120 := IM.dgR hI114 R_r0_4 e121
    try simp only [q112, k0_r0_4_40, k0_r0_4_41, k0_r0_1_0, e121] at p0v113
    try have q0v113 := congrArg Int32.toInt p0v113
    try simp only [q112, k0_r0_4_40, k0_r0_4_41, k0_r0_1_0, e121] at p1v113
    try have q1v113 := congrArg Int32.toInt p1v113
    refine z_iconst C (z := 1) rfl rfl rfl (fun x122 ex122 => ?_)
    exact k_iret C rfl (Or.inr ⟨rfl, z01 (by omega) (by omega)⟩) (Nat.le_of_ble_eq_true rfl) (Nat.le_of_ble_eq_true rfl) ⟨_, _, _, rfl, rfl, by omega, by omega, hI114, (CM.mono S116 (by decide) (by decide))⟩
  refine z_iconst C (z := 0) rfl rfl rfl (fun x123 ex123 => ?_)
  exact k_iret C rfl (Or.inr ⟨rfl, z01 (by omega) (by omega)⟩) (Nat.le_of_ble_eq_true rfl) (Nat.le_of_ble_eq_true rfl) ⟨_, _, _, rfl, rfl, by omega, by omega, hI, CM.rf⟩

theorem a_X12_quotient {d : Nat} {T N : Nat → Nat} {I : IT} {L : LT} {R : RT} {A : Nat → Prop} {r0 : Nat} {n1 n2 n3 : Int32} (hI : IM R r0 I) (H_r0 : (h_MD T N R A) r0) : Ex (d + 7) 294 [.ref r0, .int n1, .int n2, .int n3] (T, N, I, L, R) 0 0 (pI T N R (fun x9 I9 L9 => (-18 ≤ x9.toInt) ∧ (x9.toInt ≤ 40) ∧ (IM R r0 I9 ∧ CM A R r0 [0] [4, 5] I L I9 L9))) := by
  refine ⟨_, rfl, Nat.le_of_ble_eq_true rfl, fun V C S => ?_⟩
  show V 0 [(0, .ref r0), (1, .int n1), (2, .int n2), (3, .int n3)] [] (T, N, I, L, R) 0 0
  have gn1 := rg n1
  have gn2 := rg n2
  have gn3 := rg n3
  obtain ⟨T_r0, A_r0, ⟨r0_1, R_r0_1, H_r0_1⟩, ⟨r0_2, R_r0_2, H_r0_2⟩, ⟨r0_4, R_r0_4, H_r0_4⟩, ⟨r0_5, R_r0_5, H_r0_5⟩, ⟨r0_10, R_r0_10, H_r0_10⟩, ⟨r0_18, R_r0_18, H_r0_18⟩, ⟨r0_20, R_r0_20, H_r0_20⟩, ⟨r0_21, R_r0_21, H_r0_21⟩, ⟨r0_22, R_r0_22, H_r0_22⟩, ⟨r0_23, R_r0_23, H_r0_23⟩, ⟨r0_25, R_r0_25, H_r0_25⟩, ⟨r0_26, R_r0_26, H_r0_26⟩, ⟨r0_27, R_r0_27, H_r0_27⟩, ⟨r0_28, R_r0_28, H_r0_28⟩, ⟨r0_34, R_r0_34, H_r0_34⟩, J_r0, Y_r0⟩ := id H_r0
  have G_r0 : mF T R r0 := ⟨J_r0, Y_r0, T_r0⟩
  refine k_aload_n C rfl rfl rfl ?_
  refine z_iconst C (z := 0) rfl rfl rfl (fun x1 ex1 => ?_)
  refine z_pI C rfl rfl rfl T_r0 (Or.inr rfl) rfl (fun I2 uI2 => ?_)
  have hI2 : IM R r0 I2 := IM.fld hI G_r0 ⟨(fun h => absurd h (by decide)), (fun h => absurd h (by decide)), (fun h => absurd h (by decide)), (fun h => absurd h (by decide)), (fun h => absurd h (by decide))⟩ uI2
  have S3 : CM A R r0 [0] [] I L I2 L := CM.f G_r0 A_r0 uI2
  have e4 := u2_e uI2
  refine k_aload_n C rfl rfl rfl ?_
  refine k_aload_n C rfl rfl rfl ?_
  refine k_iload_n C rfl rfl rfl ?_
  refine c_VI C (a_X12_noForm hI2 H_r0) rfl rfl rfl rfl rfl ⟨_, rfl, rfl, T_r0, Nat.le_of_ble_eq_true rfl⟩ rfl rfl (Nat.le_of_ble_eq_true rfl) (Nat.le_of_ble_eq_true rfl) (Nat.le_of_ble_eq_true rfl) ?_
  rintro x5 _ _ ⟨o0x5, o1x5, p0x5, rfl, rfl⟩
  have p0x5 := p0x5 r0_1 R_r0_1
  have gx5 := rg x5
  obtain ⟨x6, e7⟩ : ∃ x, I2 r0_1 1 = x := ⟨_, rfl⟩
  have gx6 := rg x6
  have ox6 := IM.c1 hI2 R_r0_1 e7
  try simp only [e4, e7] at p0x5
  try have q0x5 := congrArg Int32.toInt p0x5
  refine b_if_ne C (t := 22) rfl rfl rfl (fun c8 => ?_) (fun c8 => ?_)
  · skip
    refine z_iconst C (z := 1) rfl rfl rfl (fun x9 ex9 => ?_)
    refine k_goto C (pc2 := 27) rfl rfl ?_
    refine z_iconst C (z := 1) rfl rfl rfl (fun x10 ex10 => ?_)
    have q11 : x9.toNatClampNeg = 1 := nck (by omega)
    have q12 : x10.toNatClampNeg = 1 := nck (by omega)
    refine c_VI C (a_X12_throwsIf hI2 H_r0 (by omega) (by omega)) rfl rfl rfl rfl rfl ⟨_, rfl, rfl, T_r0, Nat.le_of_ble_eq_true rfl⟩ rfl rfl (Nat.le_of_ble_eq_true rfl) (Nat.le_of_ble_eq_true rfl) (Nat.le_of_ble_eq_true rfl) ?_
    rintro x13 I14 L15 ⟨o0x13, o1x13, p0x13, hI14, S16⟩
    have e18 := CM.j S16 R_r0_1 (by decide) e7
    have gx13 := rg x13
    try simp only [q11, q12, e4, e7] at p0x13
    try have q0x13 := congrArg Int32.toInt p0x13
    refine b_if_eq C (t := 36) rfl rfl rfl (fun c19 => by exfalso; omega) (fun c19 => ?_)
    refine z_iconst C (z := 0) rfl rfl rfl (fun x20 ex20 => ?_)
    exact k_iret C rfl (Or.inl rfl) (Nat.le_of_ble_eq_true rfl) (Nat.le_of_ble_eq_true rfl) ⟨_, _, _, rfl, rfl, by omega, by omega, hI14, (CM.cons S3 (CM.mono S16 (by decide) (by decide)) (by decide) (by decide))⟩
  refine k_aload_n C rfl rfl rfl ?_
  refine k_iload_n C rfl rfl rfl ?_
  refine c_VI C (a_X12_noForm hI2 H_r0) rfl rfl rfl rfl rfl ⟨_, rfl, rfl, T_r0, Nat.le_of_ble_eq_true rfl⟩ rfl rfl (Nat.le_of_ble_eq_true rfl) (Nat.le_of_ble_eq_true rfl) (Nat.le_of_ble_eq_true rfl) ?_
  rintro x21 _ _ ⟨o0x21, o1x21, p0x21, rfl, rfl⟩
  have p0x21 := p0x21 r0_1 R_r0_1
  have gx21 := rg x21
  try simp only [e4, e7, e7] at p0x21
  try have q0x21 := congrArg Int32.toInt p0x21
  refine b_if_eq C (t := 26) rfl rfl rfl (fun c22 => ?_) (fun c22 => ?_)
  · skip
    refine z_iconst C (z := 0) rfl rfl rfl (fun x23 ex23 => ?_)
    refine z_iconst C (z := 1) rfl rfl rfl (fun x24 ex24 => ?_)
    have q25 : x23.toNatClampNeg = 0 := nck (by omega)
    have q26 : x24.toNatClampNeg = 1 := nck (by omega)
    refine c_VI C (a_X12_throwsIf hI2 H_r0 (by omega) (by omega)) rfl rfl rfl rfl rfl ⟨_, rfl, rfl, T_r0, Nat.le_of_ble_eq_true rfl⟩ rfl rfl (Nat.le_of_ble_eq_true rfl) (Nat.le_of_ble_eq_true rfl) (Nat.le_of_ble_eq_true rfl) ?_
    rintro x27 I28 L29 ⟨o0x27, o1x27, p0x27, hI28, S30⟩
    have e32 := CM.j S30 R_r0_1 (by decide) e7
    have gx27 := rg x27
    try simp only [q25, q26, e4, e7] at p0x27
    try have q0x27 := congrArg Int32.toInt p0x27
    refine b_if_eq C (t := 36) rfl rfl rfl (fun c33 => ?_) (fun c33 => by exfalso; omega)
    refine k_aload_n C rfl rfl rfl ?_
    refine z_bipush C (z := 40) rfl rfl rfl (fun x34 ex34 => ?_)
    refine k_iload_n C rfl rfl rfl ?_
    obtain ⟨x35, e36⟩ : ∃ x, I28 r0_1 (6 + 10 * n1.toNatClampNeg) = x := ⟨_, rfl⟩
    have gx35 := rg x35
    obtain ⟨x37, e38⟩ : ∃ x, I28 r0_1 0 = x := ⟨_, rfl⟩
    have gx37 := rg x37
    have ox37 := IM.pi hI28 R_r0_1 e38
    have q39 : x34.toNatClampNeg = 40 := nck (by omega)
    refine c_VV C (a_X12_takes hI28 H_r0 (by omega) (by omega) (by omega) (by omega)) rfl rfl rfl rfl rfl ⟨_, rfl, rfl, T_r0, Nat.le_of_ble_eq_true rfl⟩ rfl rfl (Nat.le_of_ble_eq_true rfl) (Nat.le_of_ble_eq_true rfl) (Nat.le_of_ble_eq_true rfl) ?_
    rintro I41 L42 ⟨p0v40, p1v40, p2v40, p3v40, p4v40, hI41, S43⟩
    have p0v40 := p0v40 r0_4 R_r0_4
    have p1v40 := p1v40 r0_1 r0_4 R_r0_1 R_r0_4
    have p2v40 := p2v40 r0_1 r0_4 r0_5 R_r0_1 R_r0_4 R_r0_5
    have p3v40 := p3v40 r0_4 R_r0_4
    have p4v40 := p4v40 r0_5 R_r0_5
    try simp only [q39] at p3v40
    try simp only [q39] at p4v40
    have e44 := CM.j S43 R_r0_1 (by decide) e32
    have e45 := CM.j S43 R_r0_1 (by decide) e36
    have e46 := CM.j S43 R_r0_1 (by decide) e38
    obtain ⟨x47, e48⟩ : ∃ x, I41 r0_4 40 = x := ⟨_, rfl⟩
    have gx47 := rg x47
    have ox47 := IM.dgR hI41 R_r0_4 e48
    try simp only [q39, e32, e36, e38, e48] at p0v40
    try have q0v40 := congrArg Int32.toInt p0v40
    try simp only [q39, e32, e36, e38, e48] at p1v40
    try have q1v40 := congrArg Int32.toInt p1v40
    try simp only [q39, e32, e36, e38, e48] at p2v40
    try have q2v40 := congrArg Int32.toInt p2v40
    have hA := p2v40 (by omega)
    refine k_aload_n C rfl rfl rfl ?_
    refine z_bipush C (z := 41) rfl rfl rfl (fun x49 ex49 => ?_)
    refine k_iload_n C rfl rfl rfl ?_
    obtain ⟨x50, e51⟩ : ∃ x, I41 r0_1 (6 + 10 * n2.toNatClampNeg) = x := ⟨_, rfl⟩
    have gx50 := rg x50
    have q52 : x49.toNatClampNeg = 41 := nck (by omega)
    refine c_VV C (a_X12_takes hI41 H_r0 (by omega) (by omega) (by omega) (by omega)) rfl rfl rfl rfl rfl ⟨_, rfl, rfl, T_r0, Nat.le_of_ble_eq_true rfl⟩ rfl rfl (Nat.le_of_ble_eq_true rfl) (Nat.le_of_ble_eq_true rfl) (Nat.le_of_ble_eq_true rfl) ?_
    rintro I54 L55 ⟨p0v53, p1v53, p2v53, p3v53, p4v53, hI54, S56⟩
    have p0v53 := p0v53 r0_4 R_r0_4
    have p1v53 := p1v53 r0_1 r0_4 R_r0_1 R_r0_4
    have p2v53 := p2v53 r0_1 r0_4 r0_5 R_r0_1 R_r0_4 R_r0_5
    have p3v53 := p3v53 r0_4 R_r0_4
    have p4v53 := p4v53 r0_5 R_r0_5
    try simp only [q52] at p3v53
    try simp only [q52] at p4v53
    have e57 := CM.j S56 R_r0_1 (by decide) e44
    have e58 := CM.j S56 R_r0_1 (by decide) e45
    have e59 := CM.j S56 R_r0_1 (by decide) e46
    have e60 := (p3v53 40 (by first | decide | exact ncne (by omega) (by omega) (by omega) | exact nckn (by omega) (by omega) | exact (nckn (by omega) (by omega)).symm)).trans e48
    have e61 := CM.j S56 R_r0_1 (by decide) e51
    obtain ⟨x62, e63⟩ : ∃ x, I54 r0_4 41 = x := ⟨_, rfl⟩
    have gx62 := rg x62
    have ox62 := IM.dgR hI54 R_r0_4 e63
    try simp only [q52, e44, e45, e46, e48, e51, e63] at p0v53
    try have q0v53 := congrArg Int32.toInt p0v53
    try simp only [q52, e44, e45, e46, e48, e51, e63] at p1v53
    try have q1v53 := congrArg Int32.toInt p1v53
    try simp only [q52, e44, e45, e46, e48, e51, e63] at p2v53
    try have q2v53 := congrArg Int32.toInt p2v53
    have hB := p2v53 (by omega)
    have hA := QN.sm hA (fun k hk => p4v53 _ (by omega)) (by omega)
    refine k_aload_n C rfl rfl rfl ?_
    refine c_VI C (a_X12_hasQuotient hI54 H_r0 (fun a4 h4 => by cases (R_r0_4.symm.trans h4); first | omega | (simp only [e57, e58, e59, e60, e61, e63] <;> omega)) (fun a4 h4 => by cases (R_r0_4.symm.trans h4); first | omega | (simp only [e57, e58, e59, e60, e61, e63] <;> omega)) (fun a1 a4 a5 h1 h4 h5 => by cases (R_r0_1.symm.trans h1); cases (R_r0_4.symm.trans h4); cases (R_r0_5.symm.trans h5); simp only [e57, e58, e59, e60, e61, e63]; exact hA) (fun a1 a4 a5 h1 h4 h5 => by cases (R_r0_1.symm.trans h1); cases (R_r0_4.symm.trans h4); cases (R_r0_5.symm.trans h5); simp only [e57, e58, e59, e60, e61, e63]; exact hB)) rfl rfl rfl rfl rfl ⟨_, rfl, rfl, T_r0, Nat.le_of_ble_eq_true rfl⟩ rfl rfl (Nat.le_of_ble_eq_true rfl) (Nat.le_of_ble_eq_true rfl) (Nat.le_of_ble_eq_true rfl) ?_
    rintro x64 I65 L66 ⟨o0x64, o1x64, hI65, S67⟩
    have e68 := CM.j S67 R_r0_1 (by decide) e57
    have e69 := CM.j S67 R_r0_1 (by decide) e58
    have e70 := CM.j S67 R_r0_1 (by decide) e59
    have e72 := CM.j S67 R_r0_1 (by decide) e61
    have gx64 := rg x64
    refine b_if_eq C (t := 67) rfl rfl rfl (fun c74 => ?_) (fun c74 => ?_)
    · skip
      refine z_bipush C (z := -2) rfl rfl rfl (fun x75 ex75 => ?_)
      exact k_iret C rfl (Or.inl rfl) (Nat.le_of_ble_eq_true rfl) (Nat.le_of_ble_eq_true rfl) ⟨_, _, _, rfl, rfl, by omega, by omega, hI65, (CM.cons S3 (CM.cons S30 (CM.cons S43 (CM.cons S56 (CM.mono S67 (by decide) (by decide)) (by decide) (by decide)) (by decide) (by decide)) (by decide) (by decide)) (by decide) (by decide))⟩
    refine k_aload_n C rfl rfl rfl ?_
    refine z_bipush C (z := 42) rfl rfl rfl (fun x76 ex76 => ?_)
    refine k_iload_n C rfl rfl rfl ?_
    refine c_VI C (a_X12_toldOf hI65 H_r0 (by omega) (by omega)) rfl rfl rfl rfl rfl ⟨_, rfl, rfl, T_r0, Nat.le_of_ble_eq_true rfl⟩ rfl rfl (Nat.le_of_ble_eq_true rfl) (Nat.le_of_ble_eq_true rfl) (Nat.le_of_ble_eq_true rfl) ?_
    rintro x77 _ _ ⟨o0x77, o1x77, rfl, rfl⟩
    have gx77 := rg x77
    refine k_goto C (pc2 := 69) rfl rfl ?_
    exact k_iret C rfl (Or.inl rfl) (Nat.le_of_ble_eq_true rfl) (Nat.le_of_ble_eq_true rfl) ⟨_, _, _, rfl, rfl, by omega, by omega, hI65, (CM.cons S3 (CM.cons S30 (CM.cons S43 (CM.cons S56 (CM.mono S67 (by decide) (by decide)) (by decide) (by decide)) (by decide) (by decide)) (by decide) (by decide)) (by decide) (by decide))⟩
  refine z_iconst C (z := 1) rfl rfl rfl (fun x78 ex78 => ?_)
  refine k_goto C (pc2 := 27) rfl rfl ?_
  refine z_iconst C (z := 1) rfl rfl rfl (fun x79 ex79 => ?_)
  have q80 : x78.toNatClampNeg = 1 := nck (by omega)
  have q81 : x79.toNatClampNeg = 1 := nck (by omega)
  refine c_VI C (a_X12_throwsIf hI2 H_r0 (by omega) (by omega)) rfl rfl rfl rfl rfl ⟨_, rfl, rfl, T_r0, Nat.le_of_ble_eq_true rfl⟩ rfl rfl (Nat.le_of_ble_eq_true rfl) (Nat.le_of_ble_eq_true rfl) (Nat.le_of_ble_eq_true rfl) ?_
  rintro x82 I83 L84 ⟨o0x82, o1x82, p0x82, hI83, S85⟩
  have e87 := CM.j S85 R_r0_1 (by decide) e7
  have gx82 := rg x82
  try simp only [q80, q81, e4, e7] at p0x82
  try have q0x82 := congrArg Int32.toInt p0x82
  refine b_if_eq C (t := 36) rfl rfl rfl (fun c88 => by exfalso; omega) (fun c88 => ?_)
  refine z_iconst C (z := 0) rfl rfl rfl (fun x89 ex89 => ?_)
  exact k_iret C rfl (Or.inl rfl) (Nat.le_of_ble_eq_true rfl) (Nat.le_of_ble_eq_true rfl) ⟨_, _, _, rfl, rfl, by omega, by omega, hI83, (CM.cons S3 (CM.mono S85 (by decide) (by decide)) (by decide) (by decide))⟩

