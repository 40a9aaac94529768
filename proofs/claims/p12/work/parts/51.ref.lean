/-! the reference in any state: the parser -/
set_option maxHeartbeats 8000000 in
theorem a_X12_readOverlap_6 {d : Nat} {T N : Nat → Nat} {I : IT} {L : LT} {R : RT} {A : Nat → Prop} {r0 : Nat} (hI : IM R r0 I) (H_r0 : (h_MD T N R A) r0) (hp0 : (I r0 15).toInt = 6) (hp1 : ∀ a1, R r0 1 = some a1 → PD (I a1) (I r0 19).toInt) (hp2 : ∀ a1, R r0 1 = some a1 → 0 ≤ (I r0 19).toInt ∧ 0 ≤ Hgt (I a1) 3606 (I r0 19).toNatClampNeg ∧ Hgt (I a1) 3606 (I r0 19).toNatClampNeg ≤ (I r0 16).toInt ∧ (I r0 19).toInt + 4 * (40 - (I r0 16).toInt) + (6 - 6) ≤ 166) : Ex (d + 2) 226 [.ref r0] (T, N, I, L, R) 0 0 (pI T N R (fun x9 I9 L9 => (0 ≤ x9.toInt) ∧ (x9.toInt ≤ 1) ∧ (∀ a1, R r0 1 = some a1 → x9.toInt = 1 → (I9 r0 15).toInt = 6 ∧ (I r0 16).toInt + 1 ≤ (I9 r0 16).toInt ∧ 0 ≤ (I9 r0 19).toInt ∧ (I9 r0 19).toInt + 3 ≤ (I r0 19).toInt + 4 * ((I9 r0 16).toInt - (I r0 16).toInt) + (6 - 6) ∧ Hgt (I9 a1) 3606 (I9 r0 19).toNatClampNeg = Hgt (I a1) 3606 (I r0 19).toNatClampNeg + 1) ∧ (∀ a1, R r0 1 = some a1 → x9.toInt = 1 → PD (I9 a1) (I9 r0 19).toInt) ∧ (∀ a1, R r0 1 = some a1 → ∀ r : Nat, r < 3606 → I9 a1 r = I a1 r) ∧ (IM R r0 I9 ∧ CM A R r0 [12, 14, 15, 16, 19] [1] I L I9 L9))) := by
  refine ⟨_, rfl, Nat.le_of_ble_eq_true rfl, fun V C S => ?_⟩
  show V 0 [(0, .ref r0)] [] (T, N, I, L, R) 0 0
  obtain ⟨T_r0, A_r0, ⟨r0_1, R_r0_1, H_r0_1⟩, ⟨r0_2, R_r0_2, H_r0_2⟩, ⟨r0_4, R_r0_4, H_r0_4⟩, ⟨r0_5, R_r0_5, H_r0_5⟩, ⟨r0_10, R_r0_10, H_r0_10⟩, ⟨r0_18, R_r0_18, H_r0_18⟩, ⟨r0_20, R_r0_20, H_r0_20⟩, ⟨r0_21, R_r0_21, H_r0_21⟩, ⟨r0_22, R_r0_22, H_r0_22⟩, ⟨r0_23, R_r0_23, H_r0_23⟩, ⟨r0_25, R_r0_25, H_r0_25⟩, ⟨r0_26, R_r0_26, H_r0_26⟩, ⟨r0_27, R_r0_27, H_r0_27⟩, ⟨r0_28, R_r0_28, H_r0_28⟩, ⟨r0_34, R_r0_34, H_r0_34⟩, J_r0, Y_r0⟩ := id H_r0
  have G_r0 : mF T R r0 := ⟨J_r0, Y_r0, T_r0⟩
  obtain ⟨w_r0_15, k0_r0_15⟩ : ∃ x, I r0 15 = x := ⟨_, rfl⟩
  have gw_r0_15 := rg w_r0_15
  have ow_r0_15 := IM.f15 hI k0_r0_15
  obtain ⟨w_r0_16, k0_r0_16⟩ : ∃ x, I r0 16 = x := ⟨_, rfl⟩
  have gw_r0_16 := rg w_r0_16
  have ow_r0_16 := IM.f16 hI k0_r0_16
  obtain ⟨w_r0_19, k0_r0_19⟩ : ∃ x, I r0 19 = x := ⟨_, rfl⟩
  have gw_r0_19 := rg w_r0_19
  obtain ⟨w_r0_12, k0_r0_12⟩ : ∃ x, I r0 12 = x := ⟨_, rfl⟩
  have gw_r0_12 := rg w_r0_12
  have ow_r0_12 := IM.f12 hI k0_r0_12
  obtain ⟨w_r0_13, k0_r0_13⟩ : ∃ x, I r0 13 = x := ⟨_, rfl⟩
  have gw_r0_13 := rg w_r0_13
  have ow_r0_13 := IM.f13 hI k0_r0_13
  have hp1 := hp1 r0_1 R_r0_1
  have hp2 := hp2 r0_1 R_r0_1
  obtain ⟨g0, hg0⟩ : ∃ g, I r0_1 = g := ⟨_, rfl⟩
  have hg := hg0
  try simp only [hg0, k0_r0_15, k0_r0_16, k0_r0_19, k0_r0_12, k0_r0_13] at hp0
  try simp only [hg0, k0_r0_15, k0_r0_16, k0_r0_19, k0_r0_12, k0_r0_13] at hp1
  try simp only [hg0, k0_r0_15, k0_r0_16, k0_r0_19, k0_r0_12, k0_r0_13] at hp2
  have hPD := hp1
  refine k_aload_n C rfl rfl rfl ?_
  refine g_I C rfl rfl rfl T_r0 rfl k0_r0_16 ?_
  refine z_bipush C (z := 40) rfl rfl rfl (fun x1 ex1 => ?_)
  refine b_icmp_eq C (t := 16) rfl rfl rfl (fun c2 => ?_) (fun c2 => ?_)
  · skip
    refine z_iconst C (z := 0) rfl rfl rfl (fun x3 ex3 => ?_)
    exact k_iret C rfl (Or.inr ⟨rfl, z01 (by omega) (by omega)⟩) (Nat.le_of_ble_eq_true rfl) (Nat.le_of_ble_eq_true rfl) ⟨_, _, _, rfl, rfl, by omega, by omega, fun a1 h1 => by cases (R_r0_1.symm.trans h1); first | (intro h; exfalso; omega) | (intro h; simp only [hg, hg0, k0_r0_15, k0_r0_16, k0_r0_19, k0_r0_12, k0_r0_13]; omega), fun a1 h1 => by cases (R_r0_1.symm.trans h1); first | (intro h; exfalso; omega) | (intro h; simp only [hg, k0_r0_15, k0_r0_16, k0_r0_19, k0_r0_12, k0_r0_13]; first | exact hPD | exact hP1 h | exact hP1 (by omega)), fun a1 h1 => by cases (R_r0_1.symm.trans h1); exact (fun r z0 => rfl), hI, CM.rf⟩
  refine k_aload_n C rfl rfl rfl ?_
  refine c_VI C (a_X12_deeper hI H_r0) rfl rfl rfl rfl rfl ⟨_, rfl, rfl, T_r0, Nat.le_of_ble_eq_true rfl⟩ rfl rfl (Nat.le_of_ble_eq_true rfl) (Nat.le_of_ble_eq_true rfl) (Nat.le_of_ble_eq_true rfl) ?_
  rintro x4 I5 L6 ⟨o0x4, o1x4, p0x4, hI5, S7⟩
  have e9 := CM.k S7 (by decide) k0_r0_16
  have e10 := CM.k S7 (by decide) k0_r0_19
  have e11 := CM.k S7 (by decide) k0_r0_12
  have e12 := CM.k S7 (by decide) k0_r0_13
  have gx4 := rg x4
  obtain ⟨x13, e14⟩ : ∃ x, I5 r0 15 = x := ⟨_, rfl⟩
  have gx13 := rg x13
  have ox13 := IM.f15 hI5 e14
  have hg := (CM.j0 S7 R_r0_1 (by decide)).trans hg
  try simp only [k0_r0_15, k0_r0_16, k0_r0_19, k0_r0_12, k0_r0_13, e14] at p0x4
  try have q0x4 := congrArg Int32.toInt p0x4
  refine b_if_ne C (t := 18) rfl rfl rfl (fun c15 => by exfalso; omega) (fun c15 => ?_)
  refine z_iconst C (z := 0) rfl rfl rfl (fun x16 ex16 => ?_)
  exact k_iret C rfl (Or.inr ⟨rfl, z01 (by omega) (by omega)⟩) (Nat.le_of_ble_eq_true rfl) (Nat.le_of_ble_eq_true rfl) ⟨_, _, _, rfl, rfl, by omega, by omega, fun a1 h1 => by cases (R_r0_1.symm.trans h1); first | (intro h; exfalso; omega) | (intro h; simp only [hg, hg0, e9, e10, e11, e12, e14, k0_r0_15, k0_r0_16, k0_r0_19, k0_r0_12, k0_r0_13]; omega), fun a1 h1 => by cases (R_r0_1.symm.trans h1); first | (intro h; exfalso; omega) | (intro h; simp only [hg, e9, e10, e11, e12, e14, k0_r0_15, k0_r0_16, k0_r0_19, k0_r0_12, k0_r0_13]; first | exact hPD | exact hP1 h | exact hP1 (by omega)), fun a1 h1 => by cases (R_r0_1.symm.trans h1); exact (fun r z0 => (congrFun (CM.j0 S7 R_r0_1 (by decide)) r)), hI5, (CM.mono S7 (by decide) (by decide))⟩

set_option maxHeartbeats 8000000 in
theorem a_X12_readUnit_6 {d : Nat} {T N : Nat → Nat} {I : IT} {L : LT} {R : RT} {A : Nat → Prop} {r0 : Nat} (hI : IM R r0 I) (H_r0 : (h_MD T N R A) r0) (hp0 : (I r0 15).toInt = 6) (hp1 : ∀ a1, R r0 1 = some a1 → PD (I a1) (I r0 19).toInt) (hp2 : ∀ a1, R r0 1 = some a1 → 0 ≤ (I r0 19).toInt ∧ 0 ≤ Hgt (I a1) 3606 (I r0 19).toNatClampNeg ∧ Hgt (I a1) 3606 (I r0 19).toNatClampNeg ≤ (I r0 16).toInt ∧ (I r0 19).toInt + 4 * (40 - (I r0 16).toInt) + (6 - 6) ≤ 166) : Ex (d + 4) 229 [.ref r0] (T, N, I, L, R) 0 0 (pI T N R (fun x9 I9 L9 => (0 ≤ x9.toInt) ∧ (x9.toInt ≤ 1) ∧ (∀ a1, R r0 1 = some a1 → x9.toInt = 1 → (I9 r0 15).toInt = 6 ∧ (I r0 16).toInt + 1 ≤ (I9 r0 16).toInt ∧ 0 ≤ (I9 r0 19).toInt ∧ (I9 r0 19).toInt + 3 ≤ (I r0 19).toInt + 4 * ((I9 r0 16).toInt - (I r0 16).toInt) + (6 - 6) ∧ Hgt (I9 a1) 3606 (I9 r0 19).toNatClampNeg = Hgt (I a1) 3606 (I r0 19).toNatClampNeg + 1) ∧ (∀ a1, R r0 1 = some a1 → x9.toInt = 1 → PD (I9 a1) (I9 r0 19).toInt) ∧ (∀ a1, R r0 1 = some a1 → ∀ r : Nat, r < 3606 → I9 a1 r = I a1 r) ∧ (IM R r0 I9 ∧ CM A R r0 [12, 14, 15, 16, 19] [1] I L I9 L9))) := by
  refine ⟨_, rfl, Nat.le_of_ble_eq_true rfl, fun V C S => ?_⟩
  show V 0 [(0, .ref r0)] [] (T, N, I, L, R) 0 0
  obtain ⟨T_r0, A_r0, ⟨r0_1, R_r0_1, H_r0_1⟩, ⟨r0_2, R_r0_2, H_r0_2⟩, ⟨r0_4, R_r0_4, H_r0_4⟩, ⟨r0_5, R_r0_5, H_r0_5⟩, ⟨r0_10, R_r0_10, H_r0_10⟩, ⟨r0_18, R_r0_18, H_r0_18⟩, ⟨r0_20, R_r0_20, H_r0_20⟩, ⟨r0_21, R_r0_21, H_r0_21⟩, ⟨r0_22, R_r0_22, H_r0_22⟩, ⟨r0_23, R_r0_23, H_r0_23⟩, ⟨r0_25, R_r0_25, H_r0_25⟩, ⟨r0_26, R_r0_26, H_r0_26⟩, ⟨r0_27, R_r0_27, H_r0_27⟩, ⟨r0_28, R_r0_28, H_r0_28⟩, ⟨r0_34, R_r0_34, H_r0_34⟩, J_r0, Y_r0⟩ := id H_r0
  have G_r0 : mF T R r0 := ⟨J_r0, Y_r0, T_r0⟩
  obtain ⟨w_r0_15, k0_r0_15⟩ : ∃ x, I r0 15 = x := ⟨_, rfl⟩
  have gw_r0_15 := rg w_r0_15
  have ow_r0_15 := IM.f15 hI k0_r0_15
  obtain ⟨w_r0_16, k0_r0_16⟩ : ∃ x, I r0 16 = x := ⟨_, rfl⟩
  have gw_r0_16 := rg w_r0_16
  have ow_r0_16 := IM.f16 hI k0_r0_16
  obtain ⟨w_r0_19, k0_r0_19⟩ : ∃ x, I r0 19 = x := ⟨_, rfl⟩
  have gw_r0_19 := rg w_r0_19
  obtain ⟨w_r0_12, k0_r0_12⟩ : ∃ x, I r0 12 = x := ⟨_, rfl⟩
  have gw_r0_12 := rg w_r0_12
  have ow_r0_12 := IM.f12 hI k0_r0_12
  obtain ⟨w_r0_13, k0_r0_13⟩ : ∃ x, I r0 13 = x := ⟨_, rfl⟩
  have gw_r0_13 := rg w_r0_13
  have ow_r0_13 := IM.f13 hI k0_r0_13
  have hp1 := hp1 r0_1 R_r0_1
  have hp2 := hp2 r0_1 R_r0_1
  obtain ⟨g0, hg0⟩ : ∃ g, I r0_1 = g := ⟨_, rfl⟩
  have hg := hg0
  try simp only [hg0, k0_r0_15, k0_r0_16, k0_r0_19, k0_r0_12, k0_r0_13] at hp0
  try simp only [hg0, k0_r0_15, k0_r0_16, k0_r0_19, k0_r0_12, k0_r0_13] at hp1
  try simp only [hg0, k0_r0_15, k0_r0_16, k0_r0_19, k0_r0_12, k0_r0_13] at hp2
  have hPD := hp1
  refine k_aload_n C rfl rfl rfl ?_
  refine z_bipush C (z := 45) rfl rfl rfl (fun x1 ex1 => ?_)
  refine c_VI C (a_X12_has hI H_r0) rfl rfl rfl rfl rfl ⟨_, rfl, rfl, T_r0, Nat.le_of_ble_eq_true rfl⟩ rfl rfl (Nat.le_of_ble_eq_true rfl) (Nat.le_of_ble_eq_true rfl) (Nat.le_of_ble_eq_true rfl) ?_
  rintro x2 I3 L4 ⟨o0x2, o1x2, hI3, S5⟩
  have e6 := CM.k S5 (by decide) k0_r0_15
  have e7 := CM.k S5 (by decide) k0_r0_16
  have e8 := CM.k S5 (by decide) k0_r0_19
  have e10 := CM.k S5 (by decide) k0_r0_13
  have gx2 := rg x2
  have hg := (CM.j0 S5 R_r0_1 (by decide)).trans hg
  refine b_if_eq C (t := 42) rfl rfl rfl (fun c11 => ?_) (fun c11 => ?_)
  · skip
    refine k_aload_n C rfl rfl rfl ?_
    refine z_bipush C (z := 40) rfl rfl rfl (fun x12 ex12 => ?_)
    refine c_VI C (a_X12_has hI3 H_r0) rfl rfl rfl rfl rfl ⟨_, rfl, rfl, T_r0, Nat.le_of_ble_eq_true rfl⟩ rfl rfl (Nat.le_of_ble_eq_true rfl) (Nat.le_of_ble_eq_true rfl) (Nat.le_of_ble_eq_true rfl) ?_
    rintro x13 I14 L15 ⟨o0x13, o1x13, hI14, S16⟩
    have e17 := CM.k S16 (by decide) e6
    have e18 := CM.k S16 (by decide) e7
    have e19 := CM.k S16 (by decide) e8
    have e20 := CM.k S16 (by decide) e10
    have gx13 := rg x13
    have hg := (CM.j0 S16 R_r0_1 (by decide)).trans hg
    refine b_if_eq C (t := 84) rfl rfl rfl (fun c21 => ?_) (fun c21 => ?_)
    · skip
      refine k_aload_n C rfl rfl rfl ?_
      refine z_bipush C (z := 91) rfl rfl rfl (fun x22 ex22 => ?_)
      refine c_VI C (a_X12_has hI14 H_r0) rfl rfl rfl rfl rfl ⟨_, rfl, rfl, T_r0, Nat.le_of_ble_eq_true rfl⟩ rfl rfl (Nat.le_of_ble_eq_true rfl) (Nat.le_of_ble_eq_true rfl) (Nat.le_of_ble_eq_true rfl) ?_
      rintro x23 I24 L25 ⟨o0x23, o1x23, hI24, S26⟩
      have e27 := CM.k S26 (by decide) e17
      have e28 := CM.k S26 (by decide) e18
      have e29 := CM.k S26 (by decide) e19
      have e30 := CM.k S26 (by decide) e20
      have gx23 := rg x23
      have hg := (CM.j0 S26 R_r0_1 (by decide)).trans hg
      refine b_if_eq C (t := 98) rfl rfl rfl (fun c31 => ?_) (fun c31 => ?_)
      · skip
        refine k_aload_n C rfl rfl rfl ?_
        refine c_VV C (a_X12_blanks hI24 H_r0) rfl rfl rfl rfl rfl ⟨_, rfl, rfl, T_r0, Nat.le_of_ble_eq_true rfl⟩ rfl rfl (Nat.le_of_ble_eq_true rfl) (Nat.le_of_ble_eq_true rfl) (Nat.le_of_ble_eq_true rfl) ?_
        rintro I33 L34 ⟨hI33, S35⟩
        have e36 := CM.k S35 (by decide) e27
        have e37 := CM.k S35 (by decide) e28
        have e38 := CM.k S35 (by decide) e29
        have e39 := CM.k S35 (by decide) e30
        obtain ⟨x40, e41⟩ : ∃ x, I33 r0 12 = x := ⟨_, rfl⟩
        have gx40 := rg x40
        have ox40 := IM.f12 hI33 e41
        have hg := (CM.j0 S35 R_r0_1 (by decide)).trans hg
        refine k_aload_n C rfl rfl rfl ?_
        refine z_bipush C (z := 48) rfl rfl rfl (fun x42 ex42 => ?_)
        refine z_bipush C (z := 57) rfl rfl rfl (fun x43 ex43 => ?_)
        have q44 : x42.toNatClampNeg = 48 := nck (by omega)
        have q45 : x43.toNatClampNeg = 57 := nck (by omega)
        refine c_VI C (a_X12_isAt hI33 H_r0) rfl rfl rfl rfl rfl ⟨_, rfl, rfl, T_r0, Nat.le_of_ble_eq_true rfl⟩ rfl rfl (Nat.le_of_ble_eq_true rfl) (Nat.le_of_ble_eq_true rfl) (Nat.le_of_ble_eq_true rfl) ?_
        rintro x46 _ _ ⟨o0x46, o1x46, p0x46, rfl, rfl⟩
        have gx46 := rg x46
        try simp only [q44, q45, e36, e37, e38, e39, e41] at p0x46
        try have q0x46 := congrArg Int32.toInt p0x46
        have J47 : ∀ (nn48 : Nat) (I49 : IT) (L50 : LT) (x53 : Int32), (MN (400 - x53.toInt) nn48) → (IM R r0 I49) → (CM A R r0 [12] [] I33 L34 I49 L50) → (I49 r0 12 = x53) → (0 ≤ x53.toInt) → (x53.toInt ≤ 400) → V 161 [(0, .ref r0)] [] (T, N, I49, L50, R) 0 0 := by
          intro nn48
          induction nn48 using Nat.strongRecOn with
          | _ nn48 ihJ47 =>
            intro I49 L50 x53 hmnn48 hI52 S51 e54 b55 b56
            have gx53 := rg x53
            have e57 := CM.k S51 (by decide) e36
            have e58 := CM.k S51 (by decide) e37
            have e59 := CM.k S51 (by decide) e38
            have e60 := CM.k S51 (by decide) e39
            have hg := (CM.j0 S51 R_r0_1 (by decide)).trans hg
            refine k_aload_n C rfl rfl rfl ?_
            refine z_bipush C (z := 97) rfl rfl rfl (fun x61 ex61 => ?_)
            refine z_bipush C (z := 122) rfl rfl rfl (fun x62 ex62 => ?_)
            have q63 : x61.toNatClampNeg = 97 := nck (by omega)
            have q64 : x62.toNatClampNeg = 122 := nck (by omega)
            refine c_VI C (a_X12_isAt hI52 H_r0) rfl rfl rfl rfl rfl ⟨_, rfl, rfl, T_r0, Nat.le_of_ble_eq_true rfl⟩ rfl rfl (Nat.le_of_ble_eq_true rfl) (Nat.le_of_ble_eq_true rfl) (Nat.le_of_ble_eq_true rfl) ?_
            rintro x65 _ _ ⟨o0x65, o1x65, p0x65, rfl, rfl⟩
            have gx65 := rg x65
            try simp only [q63, q64, e57, e58, e59, e60, e54] at p0x65
            try have q0x65 := congrArg Int32.toInt p0x65
            refine b_if_eq C (t := 185) rfl rfl rfl (fun c66 => ?_) (fun c66 => ?_)
            · skip
              refine k_aload_n C rfl rfl rfl ?_
              refine g_I C rfl rfl rfl T_r0 rfl e54 ?_
              refine k_aload_n C rfl rfl rfl ?_
              refine z_gI C rfl rfl rfl T_r0 rfl (fun x67 ex67 => ?_)
              have gx67 := rg x67
              have ox67 := IM.f14 hI52 ex67
              refine z_isub C rfl rfl ⟨by omega, by omega⟩ (fun x68 ex68 => ?_)
              refine z_iconst C (z := 1) rfl rfl rfl (fun x69 ex69 => ?_)
              refine b_icmp_ne C (t := 221) rfl rfl rfl (fun c70 => ?_) (fun c70 => ?_)
              · skip
                refine z_iconst C (z := 0) rfl rfl rfl (fun x71 ex71 => ?_)
                exact k_iret C rfl (Or.inr ⟨rfl, z01 (by omega) (by omega)⟩) (Nat.le_of_ble_eq_true rfl) (Nat.le_of_ble_eq_true rfl) ⟨_, _, _, rfl, rfl, by omega, by omega, fun a1 h1 => by cases (R_r0_1.symm.trans h1); first | (intro h; exfalso; omega) | (intro h; simp only [hg, hg0, e57, e58, e59, e60, e54, ex67, k0_r0_15, k0_r0_16, k0_r0_19, k0_r0_12, k0_r0_13]; omega), fun a1 h1 => by cases (R_r0_1.symm.trans h1); first | (intro h; exfalso; omega) | (intro h; simp only [hg, e57, e58, e59, e60, e54, ex67, k0_r0_15, k0_r0_16, k0_r0_19, k0_r0_12, k0_r0_13]; first | exact hPD | exact hP1 h | exact hP1 (by omega)), fun a1 h1 => by cases (R_r0_1.symm.trans h1); exact (fun r z0 => ((congrFun (CM.j0 S51 R_r0_1 (by decide)) r).trans ((congrFun (CM.j0 S35 R_r0_1 (by decide)) r).trans ((congrFun (CM.j0 S26 R_r0_1 (by decide)) r).trans ((congrFun (CM.j0 S16 R_r0_1 (by decide)) r).trans (congrFun (CM.j0 S5 R_r0_1 (by decide)) r)))))), hI52, (CM.cons S5 (CM.cons S16 (CM.cons S26 (CM.cons S35 (CM.mono S51 (by decide) (by decide)) (by decide) (by decide)) (by decide) (by decide)) (by decide) (by decide)) (by decide) (by decide))⟩
              refine k_aload_n C rfl rfl rfl ?_
              refine g_R C rfl rfl rfl T_r0 rfl R_r0_10 ?_
              refine k_aload_n C rfl rfl rfl ?_
              refine g_I C rfl rfl rfl T_r0 rfl ex67 ?_
              obtain ⟨T_r0_10, N_r0_10, A_r0_10⟩ := id H_r0_10
              refine z_aB C rfl rfl T_r0_10 N_r0_10 (by omega) (by omega) (fun x72 ex72 => ?_)
              have gx72 := rg x72
              refine z_bipush C (z := 102) rfl rfl rfl (fun x73 ex73 => ?_)
              refine b_icmp_ne C (t := 221) rfl rfl rfl (fun c74 => ?_) (fun c74 => ?_)
              · skip
                refine z_iconst C (z := 0) rfl rfl rfl (fun x75 ex75 => ?_)
                exact k_iret C rfl (Or.inr ⟨rfl, z01 (by omega) (by omega)⟩) (Nat.le_of_ble_eq_true rfl) (Nat.le_of_ble_eq_true rfl) ⟨_, _, _, rfl, rfl, by omega, by omega, fun a1 h1 => by cases (R_r0_1.symm.trans h1); first | (intro h; exfalso; omega) | (intro h; simp only [hg, hg0, e57, e58, e59, e60, e54, ex67, ex72, k0_r0_15, k0_r0_16, k0_r0_19, k0_r0_12, k0_r0_13]; omega), fun a1 h1 => by cases (R_r0_1.symm.trans h1); first | (intro h; exfalso; omega) | (intro h; simp only [hg, e57, e58, e59, e60, e54, ex67, ex72, k0_r0_15, k0_r0_16, k0_r0_19, k0_r0_12, k0_r0_13]; first | exact hPD | exact hP1 h | exact hP1 (by omega)), fun a1 h1 => by cases (R_r0_1.symm.trans h1); exact (fun r z0 => ((congrFun (CM.j0 S51 R_r0_1 (by decide)) r).trans ((congrFun (CM.j0 S35 R_r0_1 (by decide)) r).trans ((congrFun (CM.j0 S26 R_r0_1 (by decide)) r).trans ((congrFun (CM.j0 S16 R_r0_1 (by decide)) r).trans (congrFun (CM.j0 S5 R_r0_1 (by decide)) r)))))), hI52, (CM.cons S5 (CM.cons S16 (CM.cons S26 (CM.cons S35 (CM.mono S51 (by decide) (by decide)) (by decide) (by decide)) (by decide) (by decide)) (by decide) (by decide)) (by decide) (by decide))⟩
              refine k_aload_n C rfl rfl rfl ?_
              refine g_I C rfl rfl rfl T_r0 rfl e58 ?_
              refine z_bipush C (z := 40) rfl rfl rfl (fun x76 ex76 => ?_)
              refine b_icmp_ne C (t := 223) rfl rfl rfl (fun c77 => ?_) (fun c77 => ?_)
              · skip
                refine k_aload_n C rfl rfl rfl ?_
                refine k_dup C rfl rfl rfl ?_
                refine g_I C rfl rfl rfl T_r0 rfl e58 ?_
                refine z_iconst C (z := 1) rfl rfl rfl (fun x78 ex78 => ?_)
                refine z_iadd C rfl rfl ⟨by omega, by omega⟩ (fun x79 ex79 => ?_)
                refine z_pI C rfl rfl rfl T_r0 (Or.inr rfl) rfl (fun I80 uI80 => ?_)
                have hI80 : IM R r0 I80 := IM.fld hI52 G_r0 ⟨(fun h => absurd h (by decide)), (fun h => absurd h (by decide)), (fun _ => ⟨by omega, by omega⟩), (fun h => absurd h (by decide)), (fun h => absurd h (by decide))⟩ uI80
                have S81 : CM A R r0 [16] [] I49 L50 I80 L50 := CM.f G_r0 A_r0 uI80
                have e82 := u2_j uI80 (by first | decide | exact ncne (by omega) (by omega) (by omega) | exact nckn (by omega) (by omega) | exact (nckn (by omega) (by omega)).symm) e57
                have e84 := u2_j uI80 (by first | decide | exact ncne (by omega) (by omega) (by omega) | exact nckn (by omega) (by omega) | exact (nckn (by omega) (by omega)).symm) e59
                have e85 := u2_j uI80 (by first | decide | exact ncne (by omega) (by omega) (by omega) | exact nckn (by omega) (by omega) | exact (nckn (by omega) (by omega)).symm) e60
                have e86 := u2_j uI80 (by first | decide | exact ncne (by omega) (by omega) (by omega) | exact nckn (by omega) (by omega) | exact (nckn (by omega) (by omega)).symm) e54
                have e87 := u2_j uI80 (by first | decide | exact ncne (by omega) (by omega) (by omega) | exact nckn (by omega) (by omega) | exact (nckn (by omega) (by omega)).symm) ex67
                have e88 := u2_n uI80 (mF.ne G_r0 R_r0_10) ex72
                have e89 := u2_e uI80
                have hg := (CM.j0 S81 R_r0_1 (by decide)).trans hg
                refine k_aload_n C rfl rfl rfl ?_
                refine z_iconst C (z := 0) rfl rfl rfl (fun x90 ex90 => ?_)
                refine z_iconst C (z := 0) rfl rfl rfl (fun x91 ex91 => ?_)
                have q92 : x90.toNatClampNeg = 0 := nck (by omega)
                have q93 : x91.toNatClampNeg = 0 := nck (by omega)
                refine c_VI C (a_X12_emits hI80 H_r0 (by omega) (by omega) (by omega) (by omega) (by first | omega | (simp only [q92, q93, hg, e82, e84, e85, e86, e87, e88, e89] <;> omega)) (by first | omega | (simp only [q92, q93, hg, e82, e84, e85, e86, e87, e88, e89] <;> omega))) rfl rfl rfl rfl rfl ⟨_, rfl, rfl, T_r0, Nat.le_of_ble_eq_true rfl⟩ rfl rfl (Nat.le_of_ble_eq_true rfl) (Nat.le_of_ble_eq_true rfl) (Nat.le_of_ble_eq_true rfl) ?_
                rintro x94 I95 L96 ⟨o0x94, o1x94, p0x94, p1x94, p2x94, hI95, S97⟩
                have p0x94 := p0x94 r0_1 R_r0_1
                have p2x94 := p2x94 r0_1 R_r0_1
                have F98 : ∀ r : Nat, r < 3606 → I95 r0_1 r = I80 r0_1 r := fun r z0 => p2x94 r z0
                have e99 := CM.k S97 (by decide) e82
                have e101 := CM.k S97 (by decide) e85
                have e102 := CM.k S97 (by decide) e86
                have e103 := CM.k S97 (by decide) e87
                have e104 := CM.j S97 R_r0_10 (by decide) e88
                have e105 := CM.k S97 (by decide) e89
                have gx94 := rg x94
                obtain ⟨x106, e107⟩ : ∃ x, I95 r0 19 = x := ⟨_, rfl⟩
                have gx106 := rg x106
                obtain ⟨gS97, hgS97⟩ : ∃ g, I95 r0_1 = g := ⟨_, rfl⟩
                try simp only [q92, q93, e82, e84, e85, e86, e87, e88, e89, e107, hg, hgS97] at p0x94
                try have q0x94 := congrArg Int32.toInt p0x94
                try simp only [q92, q93, e82, e84, e85, e86, e87, e88, e89, e107, hg, hgS97] at p1x94
                try have q1x94 := congrArg Int32.toInt p1x94
                have hgo := hg
                have hg := hgS97
                have hE := p0x94
                have hPD := PD.em hPD hE (by omega) (by omega) ⟨by omega, by omega⟩ ⟨by omega, by omega⟩ ⟨by omega, by omega⟩ (fun _ => by omega) (fun _ _ => by omega) (fun _ => by omega)
                have hHH := Hgt.e1 hE (by omega) (by omega) (by omega)
                exact k_iret C rfl (Or.inr ⟨rfl, z01 (by omega) (by omega)⟩) (Nat.le_of_ble_eq_true rfl) (Nat.le_of_ble_eq_true rfl) ⟨_, _, _, rfl, rfl, by omega, by omega, fun a1 h1 => by cases (R_r0_1.symm.trans h1); first | (intro h; exfalso; omega) | (intro h; simp only [hg, hg0, e99, e101, e102, e103, e104, e105, e107, k0_r0_15, k0_r0_16, k0_r0_19, k0_r0_12, k0_r0_13]; omega), fun a1 h1 => by cases (R_r0_1.symm.trans h1); first | (intro h; exfalso; omega) | (intro h; simp only [hg, e99, e101, e102, e103, e104, e105, e107, k0_r0_15, k0_r0_16, k0_r0_19, k0_r0_12, k0_r0_13]; first | exact hPD | exact hP1 h | exact hP1 (by omega)), fun a1 h1 => by cases (R_r0_1.symm.trans h1); exact (fun r z0 => ((F98 r z0).trans ((congrFun (CM.j0 S81 R_r0_1 (by decide)) r).trans ((congrFun (CM.j0 S51 R_r0_1 (by decide)) r).trans ((congrFun (CM.j0 S35 R_r0_1 (by decide)) r).trans ((congrFun (CM.j0 S26 R_r0_1 (by decide)) r).trans ((congrFun (CM.j0 S16 R_r0_1 (by decide)) r).trans (congrFun (CM.j0 S5 R_r0_1 (by decide)) r)))))))), hI95, (CM.cons S5 (CM.cons S16 (CM.cons S26 (CM.cons S35 (CM.cons S51 (CM.cons S81 (CM.mono S97 (by decide) (by decide)) (by decide) (by decide)) (by decide) (by decide)) (by decide) (by decide)) (by decide) (by decide)) (by decide) (by decide)) (by decide) (by decide))⟩
              refine z_iconst C (z := 0) rfl rfl rfl (fun x108 ex108 => ?_)
              exact k_iret C rfl (Or.inr ⟨rfl, z01 (by omega) (by omega)⟩) (Nat.le_of_ble_eq_true rfl) (Nat.le_of_ble_eq_true rfl) ⟨_, _, _, rfl, rfl, by omega, by omega, fun a1 h1 => by cases (R_r0_1.symm.trans h1); first | (intro h; exfalso; omega) | (intro h; simp only [hg, hg0, e57, e58, e59, e60, e54, ex67, ex72, k0_r0_15, k0_r0_16, k0_r0_19, k0_r0_12, k0_r0_13]; omega), fun a1 h1 => by cases (R_r0_1.symm.trans h1); first | (intro h; exfalso; omega) | (intro h; simp only [hg, e57, e58, e59, e60, e54, ex67, ex72, k0_r0_15, k0_r0_16, k0_r0_19, k0_r0_12, k0_r0_13]; first | exact hPD | exact hP1 h | exact hP1 (by omega)), fun a1 h1 => by cases (R_r0_1.symm.trans h1); exact (fun r z0 => ((congrFun (CM.j0 S51 R_r0_1 (by decide)) r).trans ((congrFun (CM.j0 S35 R_r0_1 (by decide)) r).trans ((congrFun (CM.j0 S26 R_r0_1 (by decide)) r).trans ((congrFun (CM.j0 S16 R_r0_1 (by decide)) r).trans (congrFun (CM.j0 S5 R_r0_1 (by decide)) r)))))), hI52, (CM.cons S5 (CM.cons S16 (CM.cons S26 (CM.cons S35 (CM.mono S51 (by decide) (by decide)) (by decide) (by decide)) (by decide) (by decide)) (by decide) (by decide)) (by decide) (by decide))⟩
            refine k_aload_n C rfl rfl rfl ?_
            refine k_dup C rfl rfl rfl ?_
            refine g_I C rfl rfl rfl T_r0 rfl e54 ?_
            refine z_iconst C (z := 1) rfl rfl rfl (fun x109 ex109 => ?_)
            refine z_iadd C rfl rfl ⟨by omega, by omega⟩ (fun x110 ex110 => ?_)
            refine z_pI C rfl rfl rfl T_r0 (Or.inr rfl) rfl (fun I111 uI111 => ?_)
            have hI111 : IM R r0 I111 := IM.fld hI52 G_r0 ⟨(fun _ => ⟨by omega, by omega⟩), (fun h => absurd h (by decide)), (fun h => absurd h (by decide)), (fun h => absurd h (by decide)), (fun h => absurd h (by decide))⟩ uI111
            have S112 : CM A R r0 [12] [] I49 L50 I111 L50 := CM.f G_r0 A_r0 uI111
            have e113 := u2_j uI111 (by first | decide | exact ncne (by omega) (by omega) (by omega) | exact nckn (by omega) (by omega) | exact (nckn (by omega) (by omega)).symm) e57
            have e114 := u2_j uI111 (by first | decide | exact ncne (by omega) (by omega) (by omega) | exact nckn (by omega) (by omega) | exact (nckn (by omega) (by omega)).symm) e58
            have e115 := u2_j uI111 (by first | decide | exact ncne (by omega) (by omega) (by omega) | exact nckn (by omega) (by omega) | exact (nckn (by omega) (by omega)).symm) e59
            have e116 := u2_j uI111 (by first | decide | exact ncne (by omega) (by omega) (by omega) | exact nckn (by omega) (by omega) | exact (nckn (by omega) (by omega)).symm) e60
            have e118 := u2_e uI111
            have hg := (CM.j0 S112 R_r0_1 (by decide)).trans hg
            refine k_goto C (pc2 := 161) rfl rfl ?_
            refine k_sub S [(0, .ref r0)] (List.forall_mem_cons.mpr ⟨List.mem_of_getElem? (i := 0) rfl, fun _ h => nomatch h⟩) ?_
            exact ihJ47 _ (MN.lt hmnn48 (by omega) (by omega)) I111 L50 x110 rfl hI111 (CM.cons S51 (CM.mono S112 (by decide) (by decide)) (by decide) (by decide)) e118 (by omega) (by omega)
        refine b_if_eq C (t := 161) rfl rfl rfl (fun c119 => ?_) (fun c119 => ?_)
        · skip
          refine k_sub S [(0, .ref r0)] (List.forall_mem_cons.mpr ⟨List.mem_of_getElem? (i := 0) rfl, fun _ h => nomatch h⟩) ?_
          exact J47 _ I33 L34 x40 rfl hI33 CM.rf e41 (by omega) (by omega)
        refine k_aload_n C rfl rfl rfl ?_
        refine g_I C rfl rfl rfl T_r0 rfl e37 ?_
        refine z_bipush C (z := 40) rfl rfl rfl (fun x120 ex120 => ?_)
        refine b_icmp_ne C (t := 124) rfl rfl rfl (fun c121 => ?_) (fun c121 => ?_)
        · skip
          refine k_aload_n C rfl rfl rfl ?_
          refine k_dup C rfl rfl rfl ?_
          refine g_I C rfl rfl rfl T_r0 rfl e37 ?_
          refine z_iconst C (z := 1) rfl rfl rfl (fun x122 ex122 => ?_)
          refine z_iadd C rfl rfl ⟨by omega, by omega⟩ (fun x123 ex123 => ?_)
          refine z_pI C rfl rfl rfl T_r0 (Or.inr rfl) rfl (fun I124 uI124 => ?_)
          have hI124 : IM R r0 I124 := IM.fld hI33 G_r0 ⟨(fun h => absurd h (by decide)), (fun h => absurd h (by decide)), (fun _ => ⟨by omega, by omega⟩), (fun h => absurd h (by decide)), (fun h => absurd h (by decide))⟩ uI124
          have S125 : CM A R r0 [16] [] I33 L34 I124 L34 := CM.f G_r0 A_r0 uI124
          have e126 := u2_j uI124 (by first | decide | exact ncne (by omega) (by omega) (by omega) | exact nckn (by omega) (by omega) | exact (nckn (by omega) (by omega)).symm) e36
          have e128 := u2_j uI124 (by first | decide | exact ncne (by omega) (by omega) (by omega) | exact nckn (by omega) (by omega) | exact (nckn (by omega) (by omega)).symm) e38
          have e129 := u2_j uI124 (by first | decide | exact ncne (by omega) (by omega) (by omega) | exact nckn (by omega) (by omega) | exact (nckn (by omega) (by omega)).symm) e39
          have e130 := u2_j uI124 (by first | decide | exact ncne (by omega) (by omega) (by omega) | exact nckn (by omega) (by omega) | exact (nckn (by omega) (by omega)).symm) e41
          have e131 := u2_e uI124
          have hg := (CM.j0 S125 R_r0_1 (by decide)).trans hg
          refine k_aload_n C rfl rfl rfl ?_
          refine z_sipush C (z := 999) rfl rfl rfl (fun x132 ex132 => ?_)
          have q133 : x132.toNatClampNeg = 999 := nck (by omega)
          refine c_VI C (a_X12_number hI124 H_r0) rfl rfl rfl rfl rfl ⟨_, rfl, rfl, T_r0, Nat.le_of_ble_eq_true rfl⟩ rfl rfl (Nat.le_of_ble_eq_true rfl) (Nat.le_of_ble_eq_true rfl) (Nat.le_of_ble_eq_true rfl) ?_
          rintro x134 I135 L136 ⟨p0x134, hI135, S137⟩
          have e138 := CM.k S137 (by decide) e126
          have e139 := CM.k S137 (by decide) e128
          have e140 := CM.k S137 (by decide) e129
          have e142 := CM.k S137 (by decide) e131
          have gx134 := rg x134
          have hg := (CM.j0 S137 R_r0_1 (by decide)).trans hg
          try simp only [q133, e126, e128, e129, e130, e131] at p0x134
          try have q0x134 := congrArg Int32.toInt p0x134
          refine k_istore_n C (lw := [(1, .int x134), (0, .ref r0)]) rfl rfl (Nat.le_of_ble_eq_true rfl) rfl ?_
          refine k_iload_n C rfl rfl rfl ?_
          refine b_if_lt C (t := 159) rfl rfl rfl (fun c143 => ?_) (fun c143 => ?_)
          · skip
            refine z_iconst C (z := 0) rfl rfl rfl (fun x144 ex144 => ?_)
            exact k_iret C rfl (Or.inr ⟨rfl, z01 (by omega) (by omega)⟩) (Nat.le_of_ble_eq_true rfl) (Nat.le_of_ble_eq_true rfl) ⟨_, _, _, rfl, rfl, by omega, by omega, fun a1 h1 => by cases (R_r0_1.symm.trans h1); first | (intro h; exfalso; omega) | (intro h; simp only [hg, hg0, e138, e139, e140, e142, k0_r0_15, k0_r0_16, k0_r0_19, k0_r0_12, k0_r0_13]; omega), fun a1 h1 => by cases (R_r0_1.symm.trans h1); first | (intro h; exfalso; omega) | (intro h; simp only [hg, e138, e139, e140, e142, k0_r0_15, k0_r0_16, k0_r0_19, k0_r0_12, k0_r0_13]; first | exact hPD | exact hP1 h | exact hP1 (by omega)), fun a1 h1 => by cases (R_r0_1.symm.trans h1); exact (fun r z0 => ((congrFun (CM.j0 S137 R_r0_1 (by decide)) r).trans ((congrFun (CM.j0 S125 R_r0_1 (by decide)) r).trans ((congrFun (CM.j0 S35 R_r0_1 (by decide)) r).trans ((congrFun (CM.j0 S26 R_r0_1 (by decide)) r).trans ((congrFun (CM.j0 S16 R_r0_1 (by decide)) r).trans (congrFun (CM.j0 S5 R_r0_1 (by decide)) r))))))), hI135, (CM.cons S5 (CM.cons S16 (CM.cons S26 (CM.cons S35 (CM.cons S125 (CM.mono S137 (by decide) (by decide)) (by decide) (by decide)) (by decide) (by decide)) (by decide) (by decide)) (by decide) (by decide)) (by decide) (by decide))⟩
          refine k_aload_n C rfl rfl rfl ?_
          refine z_iconst C (z := 1) rfl rfl rfl (fun x145 ex145 => ?_)
          refine k_iload_n C rfl rfl rfl ?_
          have q146 : x145.toNatClampNeg = 1 := nck (by omega)
          refine c_VI C (a_X12_emits hI135 H_r0 (by omega) (by omega) (by omega) (by omega) (by first | omega | (simp only [q146, hg, e138, e139, e140, e142] <;> omega)) (by first | omega | (simp only [q146, hg, e138, e139, e140, e142] <;> omega))) rfl rfl rfl rfl rfl ⟨_, rfl, rfl, T_r0, Nat.le_of_ble_eq_true rfl⟩ rfl rfl (Nat.le_of_ble_eq_true rfl) (Nat.le_of_ble_eq_true rfl) (Nat.le_of_ble_eq_true rfl) ?_
          rintro x147 I148 L149 ⟨o0x147, o1x147, p0x147, p1x147, p2x147, hI148, S150⟩
          have p0x147 := p0x147 r0_1 R_r0_1
          have p2x147 := p2x147 r0_1 R_r0_1
          have F151 : ∀ r : Nat, r < 3606 → I148 r0_1 r = I135 r0_1 r := fun r z0 => p2x147 r z0
          have e152 := CM.k S150 (by decide) e138
          have e154 := CM.k S150 (by decide) e140
          have e155 := CM.k S150 (by decide) e142
          have gx147 := rg x147
          obtain ⟨x156, e157⟩ : ∃ x, I148 r0 19 = x := ⟨_, rfl⟩
          have gx156 := rg x156
          obtain ⟨gS150, hgS150⟩ : ∃ g, I148 r0_1 = g := ⟨_, rfl⟩
          try simp only [q146, e138, e139, e140, e142, e157, hg, hgS150] at p0x147
          try have q0x147 := congrArg Int32.toInt p0x147
          try simp only [q146, e138, e139, e140, e142, e157, hg, hgS150] at p1x147
          try have q1x147 := congrArg Int32.toInt p1x147
          have hgo := hg
          have hg := hgS150
          have hE := p0x147
          have hPD := PD.em hPD hE (by omega) (by omega) ⟨by omega, by omega⟩ ⟨by omega, by omega⟩ ⟨by omega, by omega⟩ (fun _ => by omega) (fun _ _ => by omega) (fun _ => by omega)
          have hHH := Hgt.e1 hE (by omega) (by omega) (by omega)
          refine b_if_eq C (t := 159) rfl rfl rfl (fun c158 => by exfalso; omega) (fun c158 => ?_)
          refine z_iconst C (z := 1) rfl rfl rfl (fun x159 ex159 => ?_)
          refine k_goto C (pc2 := 160) rfl rfl ?_
          exact k_iret C rfl (Or.inr ⟨rfl, z01 (by omega) (by omega)⟩) (Nat.le_of_ble_eq_true rfl) (Nat.le_of_ble_eq_true rfl) ⟨_, _, _, rfl, rfl, by omega, by omega, fun a1 h1 => by cases (R_r0_1.symm.trans h1); first | (intro h; exfalso; omega) | (intro h; simp only [hg, hg0, e152, e154, e155, e157, k0_r0_15, k0_r0_16, k0_r0_19, k0_r0_12, k0_r0_13]; omega), fun a1 h1 => by cases (R_r0_1.symm.trans h1); first | (intro h; exfalso; omega) | (intro h; simp only [hg, e152, e154, e155, e157, k0_r0_15, k0_r0_16, k0_r0_19, k0_r0_12, k0_r0_13]; first | exact hPD | exact hP1 h | exact hP1 (by omega)), fun a1 h1 => by cases (R_r0_1.symm.trans h1); exact (fun r z0 => ((F151 r z0).trans ((congrFun (CM.j0 S137 R_r0_1 (by decide)) r).trans ((congrFun (CM.j0 S125 R_r0_1 (by decide)) r).trans ((congrFun (CM.j0 S35 R_r0_1 (by decide)) r).trans ((congrFun (CM.j0 S26 R_r0_1 (by decide)) r).trans ((congrFun (CM.j0 S16 R_r0_1 (by decide)) r).trans (congrFun (CM.j0 S5 R_r0_1 (by decide)) r)))))))), hI148, (CM.cons S5 (CM.cons S16 (CM.cons S26 (CM.cons S35 (CM.cons S125 (CM.cons S137 (CM.mono S150 (by decide) (by decide)) (by decide) (by decide)) (by decide) (by decide)) (by decide) (by decide)) (by decide) (by decide)) (by decide) (by decide)) (by decide) (by decide))⟩
        refine z_iconst C (z := 0) rfl rfl rfl (fun x160 ex160 => ?_)
        exact k_iret C rfl (Or.inr ⟨rfl, z01 (by omega) (by omega)⟩) (Nat.le_of_ble_eq_true rfl) (Nat.le_of_ble_eq_true rfl) ⟨_, _, _, rfl, rfl, by omega, by omega, fun a1 h1 => by cases (R_r0_1.symm.trans h1); first | (intro h; exfalso; omega) | (intro h; simp only [hg, hg0, e36, e37, e38, e39, e41, k0_r0_15, k0_r0_16, k0_r0_19, k0_r0_12, k0_r0_13]; omega), fun a1 h1 => by cases (R_r0_1.symm.trans h1); first | (intro h; exfalso; omega) | (intro h; simp only [hg, e36, e37, e38, e39, e41, k0_r0_15, k0_r0_16, k0_r0_19, k0_r0_12, k0_r0_13]; first | exact hPD | exact hP1 h | exact hP1 (by omega)), fun a1 h1 => by cases (R_r0_1.symm.trans h1); exact (fun r z0 => ((congrFun (CM.j0 S35 R_r0_1 (by decide)) r).trans ((congrFun (CM.j0 S26 R_r0_1 (by decide)) r).trans ((congrFun (CM.j0 S16 R_r0_1 (by decide)) r).trans (congrFun (CM.j0 S5 R_r0_1 (by decide)) r))))), hI33, (CM.cons S5 (CM.cons S16 (CM.cons S26 (CM.mono S35 (by decide) (by decide)) (by decide) (by decide)) (by decide) (by decide)) (by decide) (by decide))⟩
      refine k_aload_n C rfl rfl rfl ?_
      refine c_VI C (a_X12_readOverlap_6 hI24 H_r0 (by first | omega | (simp only [hg, e27, e28, e29, e30] <;> omega)) (fun a1 h1 => by cases (R_r0_1.symm.trans h1); simp only [hg, e27, e28, e29, e30]; exact hPD) (fun a1 h1 => by cases (R_r0_1.symm.trans h1); first | omega | (simp only [hg, e27, e28, e29, e30] <;> omega))) rfl rfl rfl rfl rfl ⟨_, rfl, rfl, T_r0, Nat.le_of_ble_eq_true rfl⟩ rfl rfl (Nat.le_of_ble_eq_true rfl) (Nat.le_of_ble_eq_true rfl) (Nat.le_of_ble_eq_true rfl) ?_
      rintro x161 I162 L163 ⟨o0x161, o1x161, p0x161, p1x161, p2x161, hI162, S164⟩
      have p0x161 := p0x161 r0_1 R_r0_1
      have p1x161 := p1x161 r0_1 R_r0_1
      have p2x161 := p2x161 r0_1 R_r0_1
      have F165 : ∀ r : Nat, r < 3606 → I162 r0_1 r = I24 r0_1 r := fun r z0 => p2x161 r z0
      have e169 := CM.k S164 (by decide) e30
      have gx161 := rg x161
      obtain ⟨x170, e171⟩ : ∃ x, I162 r0 15 = x := ⟨_, rfl⟩
      have gx170 := rg x170
      have ox170 := IM.f15 hI162 e171
      obtain ⟨x172, e173⟩ : ∃ x, I162 r0 16 = x := ⟨_, rfl⟩
      have gx172 := rg x172
      have ox172 := IM.f16 hI162 e173
      obtain ⟨x174, e175⟩ : ∃ x, I162 r0 19 = x := ⟨_, rfl⟩
      have gx174 := rg x174
      obtain ⟨x176, e177⟩ : ∃ x, I162 r0 12 = x := ⟨_, rfl⟩
      have gx176 := rg x176
      have ox176 := IM.f12 hI162 e177
      obtain ⟨gS164, hgS164⟩ : ∃ g, I162 r0_1 = g := ⟨_, rfl⟩
      try simp only [e27, e28, e29, e30, e171, e173, e175, e177, hg, hgS164] at p0x161
      try have q0x161 := congrArg Int32.toInt p0x161
      try simp only [e27, e28, e29, e30, e171, e173, e175, e177, hg, hgS164] at p1x161
      try have q1x161 := congrArg Int32.toInt p1x161
      have hgo := hg
      have hg := hgS164
      have hP0 := p0x161
      have hP1 := p1x161
      exact k_iret C rfl (Or.inr ⟨rfl, z01 (by omega) (by omega)⟩) (Nat.le_of_ble_eq_true rfl) (Nat.le_of_ble_eq_true rfl) ⟨_, _, _, rfl, rfl, by omega, by omega, fun a1 h1 => by cases (R_r0_1.symm.trans h1); first | (intro h; exfalso; omega) | (intro h; simp only [hg, hg0, e169, e171, e173, e175, e177, k0_r0_15, k0_r0_16, k0_r0_19, k0_r0_12, k0_r0_13]; omega), fun a1 h1 => by cases (R_r0_1.symm.trans h1); first | (intro h; exfalso; omega) | (intro h; simp only [hg, e169, e171, e173, e175, e177, k0_r0_15, k0_r0_16, k0_r0_19, k0_r0_12, k0_r0_13]; first | exact hPD | exact hP1 h | exact hP1 (by omega)), fun a1 h1 => by cases (R_r0_1.symm.trans h1); exact (fun r z0 => ((F165 r z0).trans ((congrFun (CM.j0 S26 R_r0_1 (by decide)) r).trans ((congrFun (CM.j0 S16 R_r0_1 (by decide)) r).trans (congrFun (CM.j0 S5 R_r0_1 (by decide)) r))))), hI162, (CM.cons S5 (CM.cons S16 (CM.cons S26 (CM.mono S164 (by decide) (by decide)) (by decide) (by decide)) (by decide) (by decide)) (by decide) (by decide))⟩
    refine k_aload_n C rfl rfl rfl ?_
    refine c_VI C (a_X12_deeper hI14 H_r0) rfl rfl rfl rfl rfl ⟨_, rfl, rfl, T_r0, Nat.le_of_ble_eq_true rfl⟩ rfl rfl (Nat.le_of_ble_eq_true rfl) (Nat.le_of_ble_eq_true rfl) (Nat.le_of_ble_eq_true rfl) ?_
    rintro x178 I179 L180 ⟨o0x178, o1x178, p0x178, hI179, S181⟩
    have e183 := CM.k S181 (by decide) e18
    have e184 := CM.k S181 (by decide) e19
    have e185 := CM.k S181 (by decide) e20
    have gx178 := rg x178
    obtain ⟨x186, e187⟩ : ∃ x, I179 r0 15 = x := ⟨_, rfl⟩
    have gx186 := rg x186
    have ox186 := IM.f15 hI179 e187
    have hg := (CM.j0 S181 R_r0_1 (by decide)).trans hg
    try simp only [e17, e18, e19, e20, e187] at p0x178
    try have q0x178 := congrArg Int32.toInt p0x178
    refine b_if_eq C (t := 65) rfl rfl rfl (fun c188 => ?_) (fun c188 => by exfalso; omega)
    refine z_iconst C (z := 0) rfl rfl rfl (fun x189 ex189 => ?_)
    exact k_iret C rfl (Or.inr ⟨rfl, z01 (by omega) (by omega)⟩) (Nat.le_of_ble_eq_true rfl) (Nat.le_of_ble_eq_true rfl) ⟨_, _, _, rfl, rfl, by omega, by omega, fun a1 h1 => by cases (R_r0_1.symm.trans h1); first | (intro h; exfalso; omega) | (intro h; simp only [hg, hg0, e183, e184, e185, e187, k0_r0_15, k0_r0_16, k0_r0_19, k0_r0_12, k0_r0_13]; omega), fun a1 h1 => by cases (R_r0_1.symm.trans h1); first | (intro h; exfalso; omega) | (intro h; simp only [hg, e183, e184, e185, e187, k0_r0_15, k0_r0_16, k0_r0_19, k0_r0_12, k0_r0_13]; first | exact hPD | exact hP1 h | exact hP1 (by omega)), fun a1 h1 => by cases (R_r0_1.symm.trans h1); exact (fun r z0 => ((congrFun (CM.j0 S181 R_r0_1 (by decide)) r).trans ((congrFun (CM.j0 S16 R_r0_1 (by decide)) r).trans (congrFun (CM.j0 S5 R_r0_1 (by decide)) r)))), hI179, (CM.cons S5 (CM.cons S16 (CM.mono S181 (by decide) (by decide)) (by decide) (by decide)) (by decide) (by decide))⟩
  refine k_aload_n C rfl rfl rfl ?_
  refine c_VI C (a_X12_deeper hI3 H_r0) rfl rfl rfl rfl rfl ⟨_, rfl, rfl, T_r0, Nat.le_of_ble_eq_true rfl⟩ rfl rfl (Nat.le_of_ble_eq_true rfl) (Nat.le_of_ble_eq_true rfl) (Nat.le_of_ble_eq_true rfl) ?_
  rintro x190 I191 L192 ⟨o0x190, o1x190, p0x190, hI191, S193⟩
  have e195 := CM.k S193 (by decide) e7
  have e196 := CM.k S193 (by decide) e8
  have e197 := CM.k S193 (by decide) e10
  have gx190 := rg x190
  obtain ⟨x198, e199⟩ : ∃ x, I191 r0 15 = x := ⟨_, rfl⟩
  have gx198 := rg x198
  have ox198 := IM.f15 hI191 e199
  have hg := (CM.j0 S193 R_r0_1 (by decide)).trans hg
  try simp only [e6, e7, e8, e10, e199] at p0x190
  try have q0x190 := congrArg Int32.toInt p0x190
  refine b_if_eq C (t := 23) rfl rfl rfl (fun c200 => ?_) (fun c200 => by exfalso; omega)
  refine z_iconst C (z := 0) rfl rfl rfl (fun x201 ex201 => ?_)
  exact k_iret C rfl (Or.inr ⟨rfl, z01 (by omega) (by omega)⟩) (Nat.le_of_ble_eq_true rfl) (Nat.le_of_ble_eq_true rfl) ⟨_, _, _, rfl, rfl, by omega, by omega, fun a1 h1 => by cases (R_r0_1.symm.trans h1); first | (intro h; exfalso; omega) | (intro h; simp only [hg, hg0, e195, e196, e197, e199, k0_r0_15, k0_r0_16, k0_r0_19, k0_r0_12, k0_r0_13]; omega), fun a1 h1 => by cases (R_r0_1.symm.trans h1); first | (intro h; exfalso; omega) | (intro h; simp only [hg, e195, e196, e197, e199, k0_r0_15, k0_r0_16, k0_r0_19, k0_r0_12, k0_r0_13]; first | exact hPD | exact hP1 h | exact hP1 (by omega)), fun a1 h1 => by cases (R_r0_1.symm.trans h1); exact (fun r z0 => ((congrFun (CM.j0 S193 R_r0_1 (by decide)) r).trans (congrFun (CM.j0 S5 R_r0_1 (by decide)) r))), hI191, (CM.cons S5 (CM.mono S193 (by decide) (by decide)) (by decide) (by decide))⟩

set_option maxHeartbeats 8000000 in
theorem a_X12_readProduct_6 {d : Nat} {T N : Nat → Nat} {I : IT} {L : LT} {R : RT} {A : Nat → Prop} {r0 : Nat} (hI : IM R r0 I) (H_r0 : (h_MD T N R A) r0) (hp0 : (I r0 15).toInt = 6) (hp1 : ∀ a1, R r0 1 = some a1 → PD (I a1) (I r0 19).toInt) (hp2 : ∀ a1, R r0 1 = some a1 → 0 ≤ (I r0 19).toInt ∧ 0 ≤ Hgt (I a1) 3606 (I r0 19).toNatClampNeg ∧ Hgt (I a1) 3606 (I r0 19).toNatClampNeg ≤ (I r0 16).toInt ∧ (I r0 19).toInt + 4 * (40 - (I r0 16).toInt) + (6 - 6) ≤ 166) : Ex (d + 5) 227 [.ref r0] (T, N, I, L, R) 0 0 (pI T N R (fun x9 I9 L9 => (0 ≤ x9.toInt) ∧ (x9.toInt ≤ 1) ∧ (∀ a1, R r0 1 = some a1 → x9.toInt = 1 → (I9 r0 15).toInt = 6 ∧ (I r0 16).toInt + 1 ≤ (I9 r0 16).toInt ∧ 0 ≤ (I9 r0 19).toInt ∧ (I9 r0 19).toInt + 3 ≤ (I r0 19).toInt + 4 * ((I9 r0 16).toInt - (I r0 16).toInt) + (6 - 6) ∧ Hgt (I9 a1) 3606 (I9 r0 19).toNatClampNeg = Hgt (I a1) 3606 (I r0 19).toNatClampNeg + 1) ∧ (∀ a1, R r0 1 = some a1 → x9.toInt = 1 → PD (I9 a1) (I9 r0 19).toInt) ∧ (∀ a1, R r0 1 = some a1 → ∀ r : Nat, r < 3606 → I9 a1 r = I a1 r) ∧ (IM R r0 I9 ∧ CM A R r0 [12, 14, 15, 16, 19] [1] I L I9 L9))) := by
  refine ⟨_, rfl, Nat.le_of_ble_eq_true rfl, fun V C S => ?_⟩
  show V 0 [(0, .ref r0)] [] (T, N, I, L, R) 0 0
  obtain ⟨T_r0, A_r0, ⟨r0_1, R_r0_1, H_r0_1⟩, ⟨r0_2, R_r0_2, H_r0_2⟩, ⟨r0_4, R_r0_4, H_r0_4⟩, ⟨r0_5, R_r0_5, H_r0_5⟩, ⟨r0_10, R_r0_10, H_r0_10⟩, ⟨r0_18, R_r0_18, H_r0_18⟩, ⟨r0_20, R_r0_20, H_r0_20⟩, ⟨r0_21, R_r0_21, H_r0_21⟩, ⟨r0_22, R_r0_22, H_r0_22⟩, ⟨r0_23, R_r0_23, H_r0_23⟩, ⟨r0_25, R_r0_25, H_r0_25⟩, ⟨r0_26, R_r0_26, H_r0_26⟩, ⟨r0_27, R_r0_27, H_r0_27⟩, ⟨r0_28, R_r0_28, H_r0_28⟩, ⟨r0_34, R_r0_34, H_r0_34⟩, J_r0, Y_r0⟩ := id H_r0
  have G_r0 : mF T R r0 := ⟨J_r0, Y_r0, T_r0⟩
  obtain ⟨w_r0_15, k0_r0_15⟩ : ∃ x, I r0 15 = x := ⟨_, rfl⟩
  have gw_r0_15 := rg w_r0_15
  have ow_r0_15 := IM.f15 hI k0_r0_15
  obtain ⟨w_r0_16, k0_r0_16⟩ : ∃ x, I r0 16 = x := ⟨_, rfl⟩
  have gw_r0_16 := rg w_r0_16
  have ow_r0_16 := IM.f16 hI k0_r0_16
  obtain ⟨w_r0_19, k0_r0_19⟩ : ∃ x, I r0 19 = x := ⟨_, rfl⟩
  have gw_r0_19 := rg w_r0_19
  obtain ⟨w_r0_12, k0_r0_12⟩ : ∃ x, I r0 12 = x := ⟨_, rfl⟩
  have gw_r0_12 := rg w_r0_12
  have ow_r0_12 := IM.f12 hI k0_r0_12
  obtain ⟨w_r0_13, k0_r0_13⟩ : ∃ x, I r0 13 = x := ⟨_, rfl⟩
  have gw_r0_13 := rg w_r0_13
  have ow_r0_13 := IM.f13 hI k0_r0_13
  have hp1 := hp1 r0_1 R_r0_1
  have hp2 := hp2 r0_1 R_r0_1
  obtain ⟨g0, hg0⟩ : ∃ g, I r0_1 = g := ⟨_, rfl⟩
  have hg := hg0
  try simp only [hg0, k0_r0_15, k0_r0_16, k0_r0_19, k0_r0_12, k0_r0_13] at hp0
  try simp only [hg0, k0_r0_15, k0_r0_16, k0_r0_19, k0_r0_12, k0_r0_13] at hp1
  try simp only [hg0, k0_r0_15, k0_r0_16, k0_r0_19, k0_r0_12, k0_r0_13] at hp2
  have hPD := hp1
  refine k_aload_n C rfl rfl rfl ?_
  refine c_VI C (a_X12_readUnit_6 hI H_r0 (by first | omega | (simp only [hg, k0_r0_15, k0_r0_16, k0_r0_19, k0_r0_12, k0_r0_13] <;> omega)) (fun a1 h1 => by cases (R_r0_1.symm.trans h1); simp only [hg, k0_r0_15, k0_r0_16, k0_r0_19, k0_r0_12, k0_r0_13]; exact hPD) (fun a1 h1 => by cases (R_r0_1.symm.trans h1); first | omega | (simp only [hg, k0_r0_15, k0_r0_16, k0_r0_19, k0_r0_12, k0_r0_13] <;> omega))) rfl rfl rfl rfl rfl ⟨_, rfl, rfl, T_r0, Nat.le_of_ble_eq_true rfl⟩ rfl rfl (Nat.le_of_ble_eq_true rfl) (Nat.le_of_ble_eq_true rfl) (Nat.le_of_ble_eq_true rfl) ?_
  rintro x1 I2 L3 ⟨o0x1, o1x1, p0x1, p1x1, p2x1, hI2, S4⟩
  have p0x1 := p0x1 r0_1 R_r0_1
  have p1x1 := p1x1 r0_1 R_r0_1
  have p2x1 := p2x1 r0_1 R_r0_1
  have F5 : ∀ r : Nat, r < 3606 → I2 r0_1 r = I r0_1 r := fun r z0 => p2x1 r z0
  have e10 := CM.k S4 (by decide) k0_r0_13
  have gx1 := rg x1
  obtain ⟨x11, e12⟩ : ∃ x, I2 r0 15 = x := ⟨_, rfl⟩
  have gx11 := rg x11
  have ox11 := IM.f15 hI2 e12
  obtain ⟨x13, e14⟩ : ∃ x, I2 r0 16 = x := ⟨_, rfl⟩
  have gx13 := rg x13
  have ox13 := IM.f16 hI2 e14
  obtain ⟨x15, e16⟩ : ∃ x, I2 r0 19 = x := ⟨_, rfl⟩
  have gx15 := rg x15
  obtain ⟨x17, e18⟩ : ∃ x, I2 r0 12 = x := ⟨_, rfl⟩
  have gx17 := rg x17
  have ox17 := IM.f12 hI2 e18
  obtain ⟨gS4, hgS4⟩ : ∃ g, I2 r0_1 = g := ⟨_, rfl⟩
  try simp only [k0_r0_15, k0_r0_16, k0_r0_19, k0_r0_12, k0_r0_13, e12, e14, e16, e18, hg, hgS4] at p0x1
  try have q0x1 := congrArg Int32.toInt p0x1
  try simp only [k0_r0_15, k0_r0_16, k0_r0_19, k0_r0_12, k0_r0_13, e12, e14, e16, e18, hg, hgS4] at p1x1
  try have q1x1 := congrArg Int32.toInt p1x1
  have hgo := hg
  have hg := hgS4
  have hP0 := p0x1
  have hP1 := p1x1
  have J19 : ∀ (nn20 : Nat) (I21 : IT) (L22 : LT) (x26 : Int32) (x30 : Int32) (x34 : Int32) (x38 : Int32), (MN (40 - x30.toInt) nn20) → (IM R r0 I21) → (CM A R r0 [12, 14, 15, 16, 19] [1] I2 L3 I21 L22) → (∀ r : Nat, r < 3606 → I21 r0_1 r = I2 r0_1 r) → (I21 r0 15 = x26) → (6 ≤ x26.toInt) → (x26.toInt ≤ 6) → (I21 r0 16 = x30) → (0 ≤ x30.toInt) → (x30.toInt ≤ 40) → (I21 r0 19 = x34) → (0 ≤ x34.toInt) → (x34.toInt ≤ 199) → (I21 r0 12 = x38) → (0 ≤ x38.toInt) → (x38.toInt ≤ 400) → (PD (I21 r0_1) x34.toInt) → (w_r0_16.toInt + 1 ≤ x30.toInt) → (x34.toInt + 3 ≤ w_r0_19.toInt + 4 * (x30.toInt - w_r0_16.toInt) + (6 - 6)) → (Hgt (I21 r0_1) 3606 x34.toNatClampNeg = Hgt (I r0_1) 3606 w_r0_19.toNatClampNeg + 1) → V 9 [(0, .ref r0)] [] (T, N, I21, L22, R) 0 0 := by
    intro nn20
    induction nn20 using Nat.strongRecOn with
    | _ nn20 ihJ19 =>
      intro I21 L22 x26 x30 x34 x38 hmnn20 hI24 S23 F25 e27 b28 b29 e31 b32 b33 e35 b36 b37 e39 b40 b41 ff9_0 ff9_1 ff9_2 ff9_3
      have gx26 := rg x26
      have gx30 := rg x30
      have gx34 := rg x34
      have gx38 := rg x38
      have e42 := CM.k S23 (by decide) e10
      obtain ⟨gL, hgL⟩ : ∃ g, I21 r0_1 = g := ⟨_, rfl⟩
      rw [hgL] at ff9_0
      rw [hgL, hg0] at ff9_3
      have hg := hgL
      have hPD := ff9_0
      refine k_aload_n C rfl rfl rfl ?_
      refine z_bipush C (z := 42) rfl rfl rfl (fun x43 ex43 => ?_)
      have q44 : x43.toNatClampNeg = 42 := nck (by omega)
      refine c_VI C (a_X12_counts hI24 H_r0) rfl rfl rfl rfl rfl ⟨_, rfl, rfl, T_r0, Nat.le_of_ble_eq_true rfl⟩ rfl rfl (Nat.le_of_ble_eq_true rfl) (Nat.le_of_ble_eq_true rfl) (Nat.le_of_ble_eq_true rfl) ?_
      rintro x45 I46 L47 ⟨o0x45, o1x45, p0x45, hI46, S48⟩
      have e49 := CM.k S48 (by decide) e42
      have e50 := CM.k S48 (by decide) e27
      have e52 := CM.k S48 (by decide) e35
      have gx45 := rg x45
      obtain ⟨x54, e55⟩ : ∃ x, I46 r0 16 = x := ⟨_, rfl⟩
      have gx54 := rg x54
      have ox54 := IM.f16 hI46 e55
      have hg := (CM.j0 S48 R_r0_1 (by decide)).trans hg
      try simp only [q44, e42, e27, e31, e35, e39, e55] at p0x45
      try have q0x45 := congrArg Int32.toInt p0x45
      refine b_if_eq C (t := 36) rfl rfl rfl (fun c56 => ?_) (fun c56 => ?_)
      · skip
        refine z_iconst C (z := 1) rfl rfl rfl (fun x57 ex57 => ?_)
        exact k_iret C rfl (Or.inr ⟨rfl, z01 (by omega) (by omega)⟩) (Nat.le_of_ble_eq_true rfl) (Nat.le_of_ble_eq_true rfl) ⟨_, _, _, rfl, rfl, by omega, by omega, fun a1 h1 => by cases (R_r0_1.symm.trans h1); first | (intro h; exfalso; omega) | (intro h; simp only [hg, hg0, e49, e50, e52, e55, k0_r0_15, k0_r0_16, k0_r0_19, k0_r0_12, k0_r0_13]; omega), fun a1 h1 => by cases (R_r0_1.symm.trans h1); first | (intro h; exfalso; omega) | (intro h; simp only [hg, e49, e50, e52, e55, k0_r0_15, k0_r0_16, k0_r0_19, k0_r0_12, k0_r0_13]; first | exact hPD | exact hP1 h | exact hP1 (by omega)), fun a1 h1 => by cases (R_r0_1.symm.trans h1); exact (fun r z0 => ((congrFun (CM.j0 S48 R_r0_1 (by decide)) r).trans ((F25 r z0).trans (F5 r z0)))), hI46, (CM.cons S4 (CM.cons S23 (CM.mono S48 (by decide) (by decide)) (by decide) (by decide)) (by decide) (by decide))⟩
      refine k_aload_n C rfl rfl rfl ?_
      refine c_VI C (a_X12_readUnit_6 hI46 H_r0 (by first | omega | (simp only [hg, e49, e50, e52, e55] <;> omega)) (fun a1 h1 => by cases (R_r0_1.symm.trans h1); simp only [hg, e49, e50, e52, e55]; exact hPD) (fun a1 h1 => by cases (R_r0_1.symm.trans h1); first | omega | (simp only [hg, e49, e50, e52, e55] <;> omega))) rfl rfl rfl rfl rfl ⟨_, rfl, rfl, T_r0, Nat.le_of_ble_eq_true rfl⟩ rfl rfl (Nat.le_of_ble_eq_true rfl) (Nat.le_of_ble_eq_true rfl) (Nat.le_of_ble_eq_true rfl) ?_
      rintro x58 I59 L60 ⟨o0x58, o1x58, p0x58, p1x58, p2x58, hI59, S61⟩
      have p0x58 := p0x58 r0_1 R_r0_1
      have p1x58 := p1x58 r0_1 R_r0_1
      have p2x58 := p2x58 r0_1 R_r0_1
      have F62 : ∀ r : Nat, r < 3606 → I59 r0_1 r = I46 r0_1 r := fun r z0 => p2x58 r z0
      have e63 := CM.k S61 (by decide) e49
      have gx58 := rg x58
      obtain ⟨x67, e68⟩ : ∃ x, I59 r0 15 = x := ⟨_, rfl⟩
      have gx67 := rg x67
      have ox67 := IM.f15 hI59 e68
      obtain ⟨x69, e70⟩ : ∃ x, I59 r0 16 = x := ⟨_, rfl⟩
      have gx69 := rg x69
      have ox69 := IM.f16 hI59 e70
      obtain ⟨x71, e72⟩ : ∃ x, I59 r0 19 = x := ⟨_, rfl⟩
      have gx71 := rg x71
      obtain ⟨x73, e74⟩ : ∃ x, I59 r0 12 = x := ⟨_, rfl⟩
      have gx73 := rg x73
      have ox73 := IM.f12 hI59 e74
      obtain ⟨gS61, hgS61⟩ : ∃ g, I59 r0_1 = g := ⟨_, rfl⟩
      try simp only [e49, e50, e52, e55, e68, e70, e72, e74, hg, hgS61] at p0x58
      try have q0x58 := congrArg Int32.toInt p0x58
      try simp only [e49, e50, e52, e55, e68, e70, e72, e74, hg, hgS61] at p1x58
      try have q1x58 := congrArg Int32.toInt p1x58
      have hgo := hg
      have hg := hgS61
      have hP0 := p0x58
      have hP1 := p1x58
      refine b_if_eq C (t := 34) rfl rfl rfl (fun c75 => ?_) (fun c75 => ?_)
      · skip
        refine z_iconst C (z := 0) rfl rfl rfl (fun x76 ex76 => ?_)
        exact k_iret C rfl (Or.inr ⟨rfl, z01 (by omega) (by omega)⟩) (Nat.le_of_ble_eq_true rfl) (Nat.le_of_ble_eq_true rfl) ⟨_, _, _, rfl, rfl, by omega, by omega, fun a1 h1 => by cases (R_r0_1.symm.trans h1); first | (intro h; exfalso; omega) | (intro h; simp only [hg, hg0, e63, e68, e70, e72, e74, k0_r0_15, k0_r0_16, k0_r0_19, k0_r0_12, k0_r0_13]; omega), fun a1 h1 => by cases (R_r0_1.symm.trans h1); first | (intro h; exfalso; omega) | (intro h; simp only [hg, e63, e68, e70, e72, e74, k0_r0_15, k0_r0_16, k0_r0_19, k0_r0_12, k0_r0_13]; first | exact hPD | exact hP1 h | exact hP1 (by omega)), fun a1 h1 => by cases (R_r0_1.symm.trans h1); exact (fun r z0 => ((F62 r z0).trans ((congrFun (CM.j0 S48 R_r0_1 (by decide)) r).trans ((F25 r z0).trans (F5 r z0))))), hI59, (CM.cons S4 (CM.cons S23 (CM.cons S48 (CM.mono S61 (by decide) (by decide)) (by decide) (by decide)) (by decide) (by decide)) (by decide) (by decide))⟩
      have hPD := hP1 (by omega)
      have hPq := hP0 (by omega)
      refine k_aload_n C rfl rfl rfl ?_
      refine z_iconst C (z := 3) rfl rfl rfl (fun x77 ex77 => ?_)
      refine z_iconst C (z := 0) rfl rfl rfl (fun x78 ex78 => ?_)
      have q79 : x77.toNatClampNeg = 3 := nck (by omega)
      have q80 : x78.toNatClampNeg = 0 := nck (by omega)
      refine c_VI C (a_X12_emits hI59 H_r0 (by omega) (by omega) (by omega) (by omega) (by first | omega | (simp only [q79, q80, hg, e63, e68, e70, e72, e74] <;> omega)) (by first | omega | (simp only [q79, q80, hg, e63, e68, e70, e72, e74] <;> omega))) rfl rfl rfl rfl rfl ⟨_, rfl, rfl, T_r0, Nat.le_of_ble_eq_true rfl⟩ rfl rfl (Nat.le_of_ble_eq_true rfl) (Nat.le_of_ble_eq_true rfl) (Nat.le_of_ble_eq_true rfl) ?_
      rintro x81 I82 L83 ⟨o0x81, o1x81, p0x81, p1x81, p2x81, hI82, S84⟩
      have p0x81 := p0x81 r0_1 R_r0_1
      have p2x81 := p2x81 r0_1 R_r0_1
      have F85 : ∀ r : Nat, r < 3606 → I82 r0_1 r = I59 r0_1 r := fun r z0 => p2x81 r z0
      have e86 := CM.k S84 (by decide) e63
      have e87 := CM.k S84 (by decide) e68
      have e88 := CM.k S84 (by decide) e70
      have e90 := CM.k S84 (by decide) e74
      have gx81 := rg x81
      obtain ⟨x91, e92⟩ : ∃ x, I82 r0 19 = x := ⟨_, rfl⟩
      have gx91 := rg x91
      obtain ⟨gS84, hgS84⟩ : ∃ g, I82 r0_1 = g := ⟨_, rfl⟩
      try simp only [q79, q80, e63, e68, e70, e72, e74, e92, hg, hgS84] at p0x81
      try have q0x81 := congrArg Int32.toInt p0x81
      try simp only [q79, q80, e63, e68, e70, e72, e74, e92, hg, hgS84] at p1x81
      try have q1x81 := congrArg Int32.toInt p1x81
      have hgo := hg
      have hg := hgS84
      have hE := p0x81
      have hPD := PD.em hPD hE (by omega) (by omega) ⟨by omega, by omega⟩ ⟨by omega, by omega⟩ ⟨by omega, by omega⟩ (fun _ => by omega) (fun _ _ => by omega) (fun _ => by omega)
      have hHH := Hgt.e2 hE (by omega) (by omega) ⟨by omega, by omega⟩
      refine b_if_ne C (t := 9) rfl rfl rfl (fun c93 => ?_) (fun c93 => by exfalso; omega)
      refine k_sub S [(0, .ref r0)] (List.forall_mem_cons.mpr ⟨List.mem_of_getElem? (i := 0) rfl, fun _ h => nomatch h⟩) ?_
      exact ihJ19 _ (MN.lt hmnn20 (by omega) (by omega)) I82 L83 x67 x69 x91 x73 rfl hI82 (CM.cons S23 (CM.cons S48 (CM.cons S61 (CM.mono S84 (by decide) (by decide)) (by decide) (by decide)) (by decide) (by decide)) (by decide) (by decide)) (fun r z0 => ((F85 r z0).trans ((F62 r z0).trans ((congrFun (CM.j0 S48 R_r0_1 (by decide)) r).trans (F25 r z0))))) e87 (by omega) (by omega) e88 (by omega) (by omega) e92 (by omega) (by omega) e90 (by omega) (by omega) (by rw [hg]; exact hPD) (by omega) (by omega) (by rw [hg, hg0]; omega)
  refine b_if_ne C (t := 9) rfl rfl rfl (fun c94 => ?_) (fun c94 => ?_)
  · skip
    have hPD := hP1 (by omega)
    have hPq := hP0 (by omega)
    refine k_sub S [(0, .ref r0)] (List.forall_mem_cons.mpr ⟨List.mem_of_getElem? (i := 0) rfl, fun _ h => nomatch h⟩) ?_
    exact J19 _ I2 L3 x11 x13 x15 x17 rfl hI2 CM.rf (fun r z0 => rfl) e12 (by omega) (by omega) e14 (by omega) (by omega) e16 (by omega) (by omega) e18 (by omega) (by omega) (by rw [hg]; exact hPD) (by omega) (by omega) (by rw [hg, hg0]; omega)
  refine z_iconst C (z := 0) rfl rfl rfl (fun x95 ex95 => ?_)
  exact k_iret C rfl (Or.inr ⟨rfl, z01 (by omega) (by omega)⟩) (Nat.le_of_ble_eq_true rfl) (Nat.le_of_ble_eq_true rfl) ⟨_, _, _, rfl, rfl, by omega, by omega, fun a1 h1 => by cases (R_r0_1.symm.trans h1); first | (intro h; exfalso; omega) | (intro h; simp only [hg, hg0, e10, e12, e14, e16, e18, k0_r0_15, k0_r0_16, k0_r0_19, k0_r0_12, k0_r0_13]; omega), fun a1 h1 => by cases (R_r0_1.symm.trans h1); first | (intro h; exfalso; omega) | (intro h; simp only [hg, e10, e12, e14, e16, e18, k0_r0_15, k0_r0_16, k0_r0_19, k0_r0_12, k0_r0_13]; first | exact hPD | exact hP1 h | exact hP1 (by omega)), fun a1 h1 => by cases (R_r0_1.symm.trans h1); exact (fun r z0 => (F5 r z0)), hI2, (CM.mono S4 (by decide) (by decide))⟩

set_option maxHeartbeats 8000000 in
theorem a_X12_readSum_6 {d : Nat} {T N : Nat → Nat} {I : IT} {L : LT} {R : RT} {A : Nat → Prop} {r0 : Nat} (hI : IM R r0 I) (H_r0 : (h_MD T N R A) r0) (hp0 : (I r0 15).toInt = 6) (hp1 : ∀ a1, R r0 1 = some a1 → PD (I a1) (I r0 19).toInt) (hp2 : ∀ a1, R r0 1 = some a1 → 0 ≤ (I r0 19).toInt ∧ 0 ≤ Hgt (I a1) 3606 (I r0 19).toNatClampNeg ∧ Hgt (I a1) 3606 (I r0 19).toNatClampNeg ≤ (I r0 16).toInt ∧ (I r0 19).toInt + 4 * (40 - (I r0 16).toInt) + (6 - 6) ≤ 166) : Ex (d + 6) 228 [.ref r0] (T, N, I, L, R) 0 0 (pI T N R (fun x9 I9 L9 => (0 ≤ x9.toInt) ∧ (x9.toInt ≤ 1) ∧ (∀ a1, R r0 1 = some a1 → x9.toInt = 1 → (I9 r0 15).toInt = 6 ∧ (I r0 16).toInt + 1 ≤ (I9 r0 16).toInt ∧ 0 ≤ (I9 r0 19).toInt ∧ (I9 r0 19).toInt + 3 ≤ (I r0 19).toInt + 4 * ((I9 r0 16).toInt - (I r0 16).toInt) + (6 - 6) ∧ Hgt (I9 a1) 3606 (I9 r0 19).toNatClampNeg = Hgt (I a1) 3606 (I r0 19).toNatClampNeg + 1) ∧ (∀ a1, R r0 1 = some a1 → x9.toInt = 1 → PD (I9 a1) (I9 r0 19).toInt) ∧ (∀ a1, R r0 1 = some a1 → ∀ r : Nat, r < 3606 → I9 a1 r = I a1 r) ∧ (IM R r0 I9 ∧ CM A R r0 [12, 14, 15, 16, 19] [1] I L I9 L9))) := by
  refine ⟨_, rfl, Nat.le_of_ble_eq_true rfl, fun V C S => ?_⟩
  show V 0 [(0, .ref r0)] [] (T, N, I, L, R) 0 0
  obtain ⟨T_r0, A_r0, ⟨r0_1, R_r0_1, H_r0_1⟩, ⟨r0_2, R_r0_2, H_r0_2⟩, ⟨r0_4, R_r0_4, H_r0_4⟩, ⟨r0_5, R_r0_5, H_r0_5⟩, ⟨r0_10, R_r0_10, H_r0_10⟩, ⟨r0_18, R_r0_18, H_r0_18⟩, ⟨r0_20, R_r0_20, H_r0_20⟩, ⟨r0_21, R_r0_21, H_r0_21⟩, ⟨r0_22, R_r0_22, H_r0_22⟩, ⟨r0_23, R_r0_23, H_r0_23⟩, ⟨r0_25, R_r0_25, H_r0_25⟩, ⟨r0_26, R_r0_26, H_r0_26⟩, ⟨r0_27, R_r0_27, H_r0_27⟩, ⟨r0_28, R_r0_28, H_r0_28⟩, ⟨r0_34, R_r0_34, H_r0_34⟩, J_r0, Y_r0⟩ := id H_r0
  have G_r0 : mF T R r0 := ⟨J_r0, Y_r0, T_r0⟩
  obtain ⟨w_r0_15, k0_r0_15⟩ : ∃ x, I r0 15 = x := ⟨_, rfl⟩
  have gw_r0_15 := rg w_r0_15
  have ow_r0_15 := IM.f15 hI k0_r0_15
  obtain ⟨w_r0_16, k0_r0_16⟩ : ∃ x, I r0 16 = x := ⟨_, rfl⟩
  have gw_r0_16 := rg w_r0_16
  have ow_r0_16 := IM.f16 hI k0_r0_16
  obtain ⟨w_r0_19, k0_r0_19⟩ : ∃ x, I r0 19 = x := ⟨_, rfl⟩
  have gw_r0_19 := rg w_r0_19
  obtain ⟨w_r0_12, k0_r0_12⟩ : ∃ x, I r0 12 = x := ⟨_, rfl⟩
  have gw_r0_12 := rg w_r0_12
  have ow_r0_12 := IM.f12 hI k0_r0_12
  obtain ⟨w_r0_13, k0_r0_13⟩ : ∃ x, I r0 13 = x := ⟨_, rfl⟩
  have gw_r0_13 := rg w_r0_13
  have ow_r0_13 := IM.f13 hI k0_r0_13
  have hp1 := hp1 r0_1 R_r0_1
  have hp2 := hp2 r0_1 R_r0_1
  obtain ⟨g0, hg0⟩ : ∃ g, I r0_1 = g := ⟨_, rfl⟩
  have hg := hg0
  try simp only [hg0, k0_r0_15, k0_r0_16, k0_r0_19, k0_r0_12, k0_r0_13] at hp0
  try simp only [hg0, k0_r0_15, k0_r0_16, k0_r0_19, k0_r0_12, k0_r0_13] at hp1
  try simp only [hg0, k0_r0_15, k0_r0_16, k0_r0_19, k0_r0_12, k0_r0_13] at hp2
  have hPD := hp1
  refine k_aload_n C rfl rfl rfl ?_
  refine c_VI C (a_X12_readProduct_6 hI H_r0 (by first | omega | (simp only [hg, k0_r0_15, k0_r0_16, k0_r0_19, k0_r0_12, k0_r0_13] <;> omega)) (fun a1 h1 => by cases (R_r0_1.symm.trans h1); simp only [hg, k0_r0_15, k0_r0_16, k0_r0_19, k0_r0_12, k0_r0_13]; exact hPD) (fun a1 h1 => by cases (R_r0_1.symm.trans h1); first | omega | (simp only [hg, k0_r0_15, k0_r0_16, k0_r0_19, k0_r0_12, k0_r0_13] <;> omega))) rfl rfl rfl rfl rfl ⟨_, rfl, rfl, T_r0, Nat.le_of_ble_eq_true rfl⟩ rfl rfl (Nat.le_of_ble_eq_true rfl) (Nat.le_of_ble_eq_true rfl) (Nat.le_of_ble_eq_true rfl) ?_
  rintro x1 I2 L3 ⟨o0x1, o1x1, p0x1, p1x1, p2x1, hI2, S4⟩
  have p0x1 := p0x1 r0_1 R_r0_1
  have p1x1 := p1x1 r0_1 R_r0_1
  have p2x1 := p2x1 r0_1 R_r0_1
  have F5 : ∀ r : Nat, r < 3606 → I2 r0_1 r = I r0_1 r := fun r z0 => p2x1 r z0
  have e10 := CM.k S4 (by decide) k0_r0_13
  have gx1 := rg x1
  obtain ⟨x11, e12⟩ : ∃ x, I2 r0 15 = x := ⟨_, rfl⟩
  have gx11 := rg x11
  have ox11 := IM.f15 hI2 e12
  obtain ⟨x13, e14⟩ : ∃ x, I2 r0 16 = x := ⟨_, rfl⟩
  have gx13 := rg x13
  have ox13 := IM.f16 hI2 e14
  obtain ⟨x15, e16⟩ : ∃ x, I2 r0 19 = x := ⟨_, rfl⟩
  have gx15 := rg x15
  obtain ⟨x17, e18⟩ : ∃ x, I2 r0 12 = x := ⟨_, rfl⟩
  have gx17 := rg x17
  have ox17 := IM.f12 hI2 e18
  obtain ⟨gS4, hgS4⟩ : ∃ g, I2 r0_1 = g := ⟨_, rfl⟩
  try simp only [k0_r0_15, k0_r0_16, k0_r0_19, k0_r0_12, k0_r0_13, e12, e14, e16, e18, hg, hgS4] at p0x1
  try have q0x1 := congrArg Int32.toInt p0x1
  try simp only [k0_r0_15, k0_r0_16, k0_r0_19, k0_r0_12, k0_r0_13, e12, e14, e16, e18, hg, hgS4] at p1x1
  try have q1x1 := congrArg Int32.toInt p1x1
  have hgo := hg
  have hg := hgS4
  have hP0 := p0x1
  have hP1 := p1x1
  have J19 : ∀ (nn20 : Nat) (I21 : IT) (L22 : LT) (x26 : Int32) (x30 : Int32) (x34 : Int32) (x38 : Int32), (MN (40 - x30.toInt) nn20) → (IM R r0 I21) → (CM A R r0 [12, 14, 15, 16, 19] [1] I2 L3 I21 L22) → (∀ r : Nat, r < 3606 → I21 r0_1 r = I2 r0_1 r) → (I21 r0 15 = x26) → (6 ≤ x26.toInt) → (x26.toInt ≤ 6) → (I21 r0 16 = x30) → (0 ≤ x30.toInt) → (x30.toInt ≤ 40) → (I21 r0 19 = x34) → (0 ≤ x34.toInt) → (x34.toInt ≤ 199) → (I21 r0 12 = x38) → (0 ≤ x38.toInt) → (x38.toInt ≤ 400) → (PD (I21 r0_1) x34.toInt) → (w_r0_16.toInt + 1 ≤ x30.toInt) → (x34.toInt + 3 ≤ w_r0_19.toInt + 4 * (x30.toInt - w_r0_16.toInt) + (6 - 6)) → (Hgt (I21 r0_1) 3606 x34.toNatClampNeg = Hgt (I r0_1) 3606 w_r0_19.toNatClampNeg + 1) → V 9 [(0, .ref r0)] [] (T, N, I21, L22, R) 0 0 := by
    intro nn20
    induction nn20 using Nat.strongRecOn with
    | _ nn20 ihJ19 =>
      intro I21 L22 x26 x30 x34 x38 hmnn20 hI24 S23 F25 e27 b28 b29 e31 b32 b33 e35 b36 b37 e39 b40 b41 ff9_0 ff9_1 ff9_2 ff9_3
      have gx26 := rg x26
      have gx30 := rg x30
      have gx34 := rg x34
      have gx38 := rg x38
      have e42 := CM.k S23 (by decide) e10
      obtain ⟨gL, hgL⟩ : ∃ g, I21 r0_1 = g := ⟨_, rfl⟩
      rw [hgL] at ff9_0
      rw [hgL, hg0] at ff9_3
      have hg := hgL
      have hPD := ff9_0
      refine k_aload_n C rfl rfl rfl ?_
      refine z_bipush C (z := 43) rfl rfl rfl (fun x43 ex43 => ?_)
      have q44 : x43.toNatClampNeg = 43 := nck (by omega)
      refine c_VI C (a_X12_counts hI24 H_r0) rfl rfl rfl rfl rfl ⟨_, rfl, rfl, T_r0, Nat.le_of_ble_eq_true rfl⟩ rfl rfl (Nat.le_of_ble_eq_true rfl) (Nat.le_of_ble_eq_true rfl) (Nat.le_of_ble_eq_true rfl) ?_
      rintro x45 I46 L47 ⟨o0x45, o1x45, p0x45, hI46, S48⟩
      have e49 := CM.k S48 (by decide) e42
      have e50 := CM.k S48 (by decide) e27
      have e52 := CM.k S48 (by decide) e35
      have gx45 := rg x45
      obtain ⟨x54, e55⟩ : ∃ x, I46 r0 16 = x := ⟨_, rfl⟩
      have gx54 := rg x54
      have ox54 := IM.f16 hI46 e55
      have hg := (CM.j0 S48 R_r0_1 (by decide)).trans hg
      try simp only [q44, e42, e27, e31, e35, e39, e55] at p0x45
      try have q0x45 := congrArg Int32.toInt p0x45
      refine b_if_eq C (t := 36) rfl rfl rfl (fun c56 => ?_) (fun c56 => ?_)
      · skip
        refine z_iconst C (z := 1) rfl rfl rfl (fun x57 ex57 => ?_)
        exact k_iret C rfl (Or.inr ⟨rfl, z01 (by omega) (by omega)⟩) (Nat.le_of_ble_eq_true rfl) (Nat.le_of_ble_eq_true rfl) ⟨_, _, _, rfl, rfl, by omega, by omega, fun a1 h1 => by cases (R_r0_1.symm.trans h1); first | (intro h; exfalso; omega) | (intro h; simp only [hg, hg0, e49, e50, e52, e55, k0_r0_15, k0_r0_16, k0_r0_19, k0_r0_12, k0_r0_13]; omega), fun a1 h1 => by cases (R_r0_1.symm.trans h1); first | (intro h; exfalso; omega) | (intro h; simp only [hg, e49, e50, e52, e55, k0_r0_15, k0_r0_16, k0_r0_19, k0_r0_12, k0_r0_13]; first | exact hPD | exact hP1 h | exact hP1 (by omega)), fun a1 h1 => by cases (R_r0_1.symm.trans h1); exact (fun r z0 => ((congrFun (CM.j0 S48 R_r0_1 (by decide)) r).trans ((F25 r z0).trans (F5 r z0)))), hI46, (CM.cons S4 (CM.cons S23 (CM.mono S48 (by decide) (by decide)) (by decide) (by decide)) (by decide) (by decide))⟩
      refine k_aload_n C rfl rfl rfl ?_
      refine c_VI C (a_X12_readProduct_6 hI46 H_r0 (by first | omega | (simp only [hg, e49, e50, e52, e55] <;> omega)) (fun a1 h1 => by cases (R_r0_1.symm.trans h1); simp only [hg, e49, e50, e52, e55]; exact hPD) (fun a1 h1 => by cases (R_r0_1.symm.trans h1); first | omega | (simp only [hg, e49, e50, e52, e55] <;> omega))) rfl rfl rfl rfl rfl ⟨_, rfl, rfl, T_r0, Nat.le_of_ble_eq_true rfl⟩ rfl rfl (Nat.le_of_ble_eq_true rfl) (Nat.le_of_ble_eq_true rfl) (Nat.le_of_ble_eq_true rfl) ?_
      rintro x58 I59 L60 ⟨o0x58, o1x58, p0x58, p1x58, p2x58, hI59, S61⟩
      have p0x58 := p0x58 r0_1 R_r0_1
      have p1x58 := p1x58 r0_1 R_r0_1
      have p2x58 := p2x58 r0_1 R_r0_1
      have F62 : ∀ r : Nat, r < 3606 → I59 r0_1 r = I46 r0_1 r := fun r z0 => p2x58 r z0
      have e63 := CM.k S61 (by decide) e49
      have gx58 := rg x58
      obtain ⟨x67, e68⟩ : ∃ x, I59 r0 15 = x := ⟨_, rfl⟩
      have gx67 := rg x67
      have ox67 := IM.f15 hI59 e68
      obtain ⟨x69, e70⟩ : ∃ x, I59 r0 16 = x := ⟨_, rfl⟩
      have gx69 := rg x69
      have ox69 := IM.f16 hI59 e70
      obtain ⟨x71, e72⟩ : ∃ x, I59 r0 19 = x := ⟨_, rfl⟩
      have gx71 := rg x71
      obtain ⟨x73, e74⟩ : ∃ x, I59 r0 12 = x := ⟨_, rfl⟩
      have gx73 := rg x73
      have ox73 := IM.f12 hI59 e74
      obtain ⟨gS61, hgS61⟩ : ∃ g, I59 r0_1 = g := ⟨_, rfl⟩
      try simp only [e49, e50, e52, e55, e68, e70, e72, e74, hg, hgS61] at p0x58
      try have q0x58 := congrArg Int32.toInt p0x58
      try simp only [e49, e50, e52, e55, e68, e70, e72, e74, hg, hgS61] at p1x58
      try have q1x58 := congrArg Int32.toInt p1x58
      have hgo := hg
      have hg := hgS61
      have hP0 := p0x58
      have hP1 := p1x58
      refine b_if_eq C (t := 34) rfl rfl rfl (fun c75 => ?_) (fun c75 => ?_)
      · skip
        refine z_iconst C (z := 0) rfl rfl rfl (fun x76 ex76 => ?_)
        exact k_iret C rfl (Or.inr ⟨rfl, z01 (by omega) (by omega)⟩) (Nat.le_of_ble_eq_true rfl) (Nat.le_of_ble_eq_true rfl) ⟨_, _, _, rfl, rfl, by omega, by omega, fun a1 h1 => by cases (R_r0_1.symm.trans h1); first | (intro h; exfalso; omega) | (intro h; simp only [hg, hg0, e63, e68, e70, e72, e74, k0_r0_15, k0_r0_16, k0_r0_19, k0_r0_12, k0_r0_13]; omega), fun a1 h1 => by cases (R_r0_1.symm.trans h1); first | (intro h; exfalso; omega) | (intro h; simp only [hg, e63, e68, e70, e72, e74, k0_r0_15, k0_r0_16, k0_r0_19, k0_r0_12, k0_r0_13]; first | exact hPD | exact hP1 h | exact hP1 (by omega)), fun a1 h1 => by cases (R_r0_1.symm.trans h1); exact (fun r z0 => ((F62 r z0).trans ((congrFun (CM.j0 S48 R_r0_1 (by decide)) r).trans ((F25 r z0).trans (F5 r z0))))), hI59, (CM.cons S4 (CM.cons S23 (CM.cons S48 (CM.mono S61 (by decide) (by decide)) (by decide) (by decide)) (by decide) (by decide)) (by decide) (by decide))⟩
      have hPD := hP1 (by omega)
      have hPq := hP0 (by omega)
      refine k_aload_n C rfl rfl rfl ?_
      refine z_iconst C (z := 2) rfl rfl rfl (fun x77 ex77 => ?_)
      refine z_iconst C (z := 0) rfl rfl rfl (fun x78 ex78 => ?_)
      have q79 : x77.toNatClampNeg = 2 := nck (by omega)
      have q80 : x78.toNatClampNeg = 0 := nck (by omega)
      refine c_VI C (a_X12_emits hI59 H_r0 (by omega) (by omega) (by omega) (by omega) (by first | omega | (simp only [q79, q80, hg, e63, e68, e70, e72, e74] <;> omega)) (by first | omega | (simp only [q79, q80, hg, e63, e68, e70, e72, e74] <;> omega))) rfl rfl rfl rfl rfl ⟨_, rfl, rfl, T_r0, Nat.le_of_ble_eq_true rfl⟩ rfl rfl (Nat.le_of_ble_eq_true rfl) (Nat.le_of_ble_eq_true rfl) (Nat.le_of_ble_eq_true rfl) ?_
      rintro x81 I82 L83 ⟨o0x81, o1x81, p0x81, p1x81, p2x81, hI82, S84⟩
      have p0x81 := p0x81 r0_1 R_r0_1
      have p2x81 := p2x81 r0_1 R_r0_1
      have F85 : ∀ r : Nat, r < 3606 → I82 r0_1 r = I59 r0_1 r := fun r z0 => p2x81 r z0
      have e86 := CM.k S84 (by decide) e63
      have e87 := CM.k S84 (by decide) e68
      have e88 := CM.k S84 (by decide) e70
      have e90 := CM.k S84 (by decide) e74
      have gx81 := rg x81
      obtain ⟨x91, e92⟩ : ∃ x, I82 r0 19 = x := ⟨_, rfl⟩
      have gx91 := rg x91
      obtain ⟨gS84, hgS84⟩ : ∃ g, I82 r0_1 = g := ⟨_, rfl⟩
      try simp only [q79, q80, e63, e68, e70, e72, e74, e92, hg, hgS84] at p0x81
      try have q0x81 := congrArg Int32.toInt p0x81
      try simp only [q79, q80, e63, e68, e70, e72, e74, e92, hg, hgS84] at p1x81
      try have q1x81 := congrArg Int32.toInt p1x81
      have hgo := hg
      have hg := hgS84
      have hE := p0x81
      have hPD := PD.em hPD hE (by omega) (by omega) ⟨by omega, by omega⟩ ⟨by omega, by omega⟩ ⟨by omega, by omega⟩ (fun _ => by omega) (fun _ _ => by omega) (fun _ => by omega)
      have hHH := Hgt.e2 hE (by omega) (by omega) ⟨by omega, by omega⟩
      refine b_if_ne C (t := 9) rfl rfl rfl (fun c93 => ?_) (fun c93 => by exfalso; omega)
      refine k_sub S [(0, .ref r0)] (List.forall_mem_cons.mpr ⟨List.mem_of_getElem? (i := 0) rfl, fun _ h => nomatch h⟩) ?_
      exact ihJ19 _ (MN.lt hmnn20 (by omega) (by omega)) I82 L83 x67 x69 x91 x73 rfl hI82 (CM.cons S23 (CM.cons S48 (CM.cons S61 (CM.mono S84 (by decide) (by decide)) (by decide) (by decide)) (by decide) (by decide)) (by decide) (by decide)) (fun r z0 => ((F85 r z0).trans ((F62 r z0).trans ((congrFun (CM.j0 S48 R_r0_1 (by decide)) r).trans (F25 r z0))))) e87 (by omega) (by omega) e88 (by omega) (by omega) e92 (by omega) (by omega) e90 (by omega) (by omega) (by rw [hg]; exact hPD) (by omega) (by omega) (by rw [hg, hg0]; omega)
  refine b_if_ne C (t := 9) rfl rfl rfl (fun c94 => ?_) (fun c94 => ?_)
  · skip
    have hPD := hP1 (by omega)
    have hPq := hP0 (by omega)
    refine k_sub S [(0, .ref r0)] (List.forall_mem_cons.mpr ⟨List.mem_of_getElem? (i := 0) rfl, fun _ h => nomatch h⟩) ?_
    exact J19 _ I2 L3 x11 x13 x15 x17 rfl hI2 CM.rf (fun r z0 => rfl) e12 (by omega) (by omega) e14 (by omega) (by omega) e16 (by omega) (by omega) e18 (by omega) (by omega) (by rw [hg]; exact hPD) (by omega) (by omega) (by rw [hg, hg0]; omega)
  refine z_iconst C (z := 0) rfl rfl rfl (fun x95 ex95 => ?_)
  exact k_iret C rfl (Or.inr ⟨rfl, z01 (by omega) (by omega)⟩) (Nat.le_of_ble_eq_true rfl) (Nat.le_of_ble_eq_true rfl) ⟨_, _, _, rfl, rfl, by omega, by omega, fun a1 h1 => by cases (R_r0_1.symm.trans h1); first | (intro h; exfalso; omega) | (intro h; simp only [hg, hg0, e10, e12, e14, e16, e18, k0_r0_15, k0_r0_16, k0_r0_19, k0_r0_12, k0_r0_13]; omega), fun a1 h1 => by cases (R_r0_1.symm.trans h1); first | (intro h; exfalso; omega) | (intro h; simp only [hg, e10, e12, e14, e16, e18, k0_r0_15, k0_r0_16, k0_r0_19, k0_r0_12, k0_r0_13]; first | exact hPD | exact hP1 h | exact hP1 (by omega)), fun a1 h1 => by cases (R_r0_1.symm.trans h1); exact (fun r z0 => (F5 r z0)), hI2, (CM.mono S4 (by decide) (by decide))⟩

def CR_Overlap (e : Nat) (lq : Int) (kq : Nat) : Prop := ∀ {T N : Nat → Nat} {I : IT} {L : LT} {R : RT} {A : Nat → Prop} {r0 : Nat} (hI : IM R r0 I) (H_r0 : (h_MD T N R A) r0) (hp0 : (I r0 15).toInt = lq) (hp1 : ∀ a1, R r0 1 = some a1 → PD (I a1) (I r0 19).toInt) (hp2 : ∀ a1, R r0 1 = some a1 → 0 ≤ (I r0 19).toInt ∧ 0 ≤ Hgt (I a1) 3606 (I r0 19).toNatClampNeg ∧ Hgt (I a1) 3606 (I r0 19).toNatClampNeg ≤ (I r0 16).toInt ∧ (I r0 19).toInt + 4 * (40 - (I r0 16).toInt) + (6 - lq) ≤ 166), Ex e 226 [.ref r0] (T, N, I, L, R) 0 0 (pI T N R (fun x9 I9 L9 => (0 ≤ x9.toInt) ∧ (x9.toInt ≤ 1) ∧ (∀ a1, R r0 1 = some a1 → x9.toInt = 1 → (I9 r0 15).toInt = lq ∧ (I r0 16).toInt + 1 ≤ (I9 r0 16).toInt ∧ 0 ≤ (I9 r0 19).toInt ∧ (I9 r0 19).toInt + 3 ≤ (I r0 19).toInt + 4 * ((I9 r0 16).toInt - (I r0 16).toInt) + (6 - lq) ∧ Hgt (I9 a1) 3606 (I9 r0 19).toNatClampNeg = Hgt (I a1) 3606 (I r0 19).toNatClampNeg + 1) ∧ (∀ a1, R r0 1 = some a1 → x9.toInt = 1 → PD (I9 a1) (I9 r0 19).toInt) ∧ (∀ a1, R r0 1 = some a1 → ∀ r : Nat, r < 3606 → I9 a1 r = I a1 r) ∧ (IM R r0 I9 ∧ CM A R r0 [12, 14, 15, 16, 19] [1] I L I9 L9)))
def CR_Unit (e : Nat) (lq : Int) (mq : Nat) : Prop := ∀ {T N : Nat → Nat} {I : IT} {L : LT} {R : RT} {A : Nat → Prop} {r0 : Nat} (hI : IM R r0 I) (H_r0 : (h_MD T N R A) r0) (hp0 : (I r0 15).toInt = lq) (hp1 : ∀ a1, R r0 1 = some a1 → PD (I a1) (I r0 19).toInt) (hp2 : ∀ a1, R r0 1 = some a1 → 0 ≤ (I r0 19).toInt ∧ 0 ≤ Hgt (I a1) 3606 (I r0 19).toNatClampNeg ∧ Hgt (I a1) 3606 (I r0 19).toNatClampNeg ≤ (I r0 16).toInt ∧ (I r0 19).toInt + 4 * (40 - (I r0 16).toInt) + (6 - lq) ≤ 166), Ex e 229 [.ref r0] (T, N, I, L, R) 0 0 (pI T N R (fun x9 I9 L9 => (0 ≤ x9.toInt) ∧ (x9.toInt ≤ 1) ∧ (∀ a1, R r0 1 = some a1 → x9.toInt = 1 → (I9 r0 15).toInt = lq ∧ (I r0 16).toInt + 1 ≤ (I9 r0 16).toInt ∧ 0 ≤ (I9 r0 19).toInt ∧ (I9 r0 19).toInt + 3 ≤ (I r0 19).toInt + 4 * ((I9 r0 16).toInt - (I r0 16).toInt) + (6 - lq) ∧ Hgt (I9 a1) 3606 (I9 r0 19).toNatClampNeg = Hgt (I a1) 3606 (I r0 19).toNatClampNeg + 1) ∧ (∀ a1, R r0 1 = some a1 → x9.toInt = 1 → PD (I9 a1) (I9 r0 19).toInt) ∧ (∀ a1, R r0 1 = some a1 → ∀ r : Nat, r < 3606 → I9 a1 r = I a1 r) ∧ (IM R r0 I9 ∧ CM A R r0 [12, 14, 15, 16, 19] [1] I L I9 L9)))
def CR_Product (e : Nat) (lq : Int) (mq : Nat) : Prop := ∀ {T N : Nat → Nat} {I : IT} {L : LT} {R : RT} {A : Nat → Prop} {r0 : Nat} (hI : IM R r0 I) (H_r0 : (h_MD T N R A) r0) (hp0 : (I r0 15).toInt = lq) (hp1 : ∀ a1, R r0 1 = some a1 → PD (I a1) (I r0 19).toInt) (hp2 : ∀ a1, R r0 1 = some a1 → 0 ≤ (I r0 19).toInt ∧ 0 ≤ Hgt (I a1) 3606 (I r0 19).toNatClampNeg ∧ Hgt (I a1) 3606 (I r0 19).toNatClampNeg ≤ (I r0 16).toInt ∧ (I r0 19).toInt + 4 * (40 - (I r0 16).toInt) + (6 - lq) ≤ 166), Ex e 227 [.ref r0] (T, N, I, L, R) 0 0 (pI T N R (fun x9 I9 L9 => (0 ≤ x9.toInt) ∧ (x9.toInt ≤ 1) ∧ (∀ a1, R r0 1 = some a1 → x9.toInt = 1 → (I9 r0 15).toInt = lq ∧ (I r0 16).toInt + 1 ≤ (I9 r0 16).toInt ∧ 0 ≤ (I9 r0 19).toInt ∧ (I9 r0 19).toInt + 3 ≤ (I r0 19).toInt + 4 * ((I9 r0 16).toInt - (I r0 16).toInt) + (6 - lq) ∧ Hgt (I9 a1) 3606 (I9 r0 19).toNatClampNeg = Hgt (I a1) 3606 (I r0 19).toNatClampNeg + 1) ∧ (∀ a1, R r0 1 = some a1 → x9.toInt = 1 → PD (I9 a1) (I9 r0 19).toInt) ∧ (∀ a1, R r0 1 = some a1 → ∀ r : Nat, r < 3606 → I9 a1 r = I a1 r) ∧ (IM R r0 I9 ∧ CM A R r0 [12, 14, 15, 16, 19] [1] I L I9 L9)))
def CR_Sum (e : Nat) (lq : Int) (mq : Nat) : Prop := ∀ {T N : Nat → Nat} {I : IT} {L : LT} {R : RT} {A : Nat → Prop} {r0 : Nat} (hI : IM R r0 I) (H_r0 : (h_MD T N R A) r0) (hp0 : (I r0 15).toInt = lq) (hp1 : ∀ a1, R r0 1 = some a1 → PD (I a1) (I r0 19).toInt) (hp2 : ∀ a1, R r0 1 = some a1 → 0 ≤ (I r0 19).toInt ∧ 0 ≤ Hgt (I a1) 3606 (I r0 19).toNatClampNeg ∧ Hgt (I a1) 3606 (I r0 19).toNatClampNeg ≤ (I r0 16).toInt ∧ (I r0 19).toInt + 4 * (40 - (I r0 16).toInt) + (6 - lq) ≤ 166), Ex e 228 [.ref r0] (T, N, I, L, R) 0 0 (pI T N R (fun x9 I9 L9 => (0 ≤ x9.toInt) ∧ (x9.toInt ≤ 1) ∧ (∀ a1, R r0 1 = some a1 → x9.toInt = 1 → (I9 r0 15).toInt = lq ∧ (I r0 16).toInt + 1 ≤ (I9 r0 16).toInt ∧ 0 ≤ (I9 r0 19).toInt ∧ (I9 r0 19).toInt + 3 ≤ (I r0 19).toInt + 4 * ((I9 r0 16).toInt - (I r0 16).toInt) + (6 - lq) ∧ Hgt (I9 a1) 3606 (I9 r0 19).toNatClampNeg = Hgt (I a1) 3606 (I r0 19).toNatClampNeg + 1) ∧ (∀ a1, R r0 1 = some a1 → x9.toInt = 1 → PD (I9 a1) (I9 r0 19).toInt) ∧ (∀ a1, R r0 1 = some a1 → ∀ r : Nat, r < 3606 → I9 a1 r = I a1 r) ∧ (IM R r0 I9 ∧ CM A R r0 [12, 14, 15, 16, 19] [1] I L I9 L9)))
set_option maxHeartbeats 8000000 in
theorem a_X12_readOverlap_g {d : Nat} {lq lq' : Int} {kq : Nat} (hq0 : 0 ≤ lq) (hq5 : lq ≤ 5) (hq' : lq' = lq + 1) (hqSum : CR_Sum (d + 6) lq' kq) : CR_Overlap (d + 7) lq kq := by
  intro T N I L R A r0 hI H_r0 hp0 hp1 hp2
  refine ⟨_, rfl, Nat.le_of_ble_eq_true rfl, fun V C S => ?_⟩
  show V 0 [(0, .ref r0)] [] (T, N, I, L, R) 0 0
  obtain ⟨T_r0, A_r0, ⟨r0_1, R_r0_1, H_r0_1⟩, ⟨r0_2, R_r0_2, H_r0_2⟩, ⟨r0_4, R_r0_4, H_r0_4⟩, ⟨r0_5, R_r0_5, H_r0_5⟩, ⟨r0_10, R_r0_10, H_r0_10⟩, ⟨r0_18, R_r0_18, H_r0_18⟩, ⟨r0_20, R_r0_20, H_r0_20⟩, ⟨r0_21, R_r0_21, H_r0_21⟩, ⟨r0_22, R_r0_22, H_r0_22⟩, ⟨r0_23, R_r0_23, H_r0_23⟩, ⟨r0_25, R_r0_25, H_r0_25⟩, ⟨r0_26, R_r0_26, H_r0_26⟩, ⟨r0_27, R_r0_27, H_r0_27⟩, ⟨r0_28, R_r0_28, H_r0_28⟩, ⟨r0_34, R_r0_34, H_r0_34⟩, J_r0, Y_r0⟩ := id H_r0
  have G_r0 : mF T R r0 := ⟨J_r0, Y_r0, T_r0⟩
  obtain ⟨w_r0_15, k0_r0_15⟩ : ∃ x, I r0 15 = x := ⟨_, rfl⟩
  have gw_r0_15 := rg w_r0_15
  have ow_r0_15 := IM.f15 hI k0_r0_15
  obtain ⟨w_r0_16, k0_r0_16⟩ : ∃ x, I r0 16 = x := ⟨_, rfl⟩
  have gw_r0_16 := rg w_r0_16
  have ow_r0_16 := IM.f16 hI k0_r0_16
  obtain ⟨w_r0_19, k0_r0_19⟩ : ∃ x, I r0 19 = x := ⟨_, rfl⟩
  have gw_r0_19 := rg w_r0_19
  obtain ⟨w_r0_12, k0_r0_12⟩ : ∃ x, I r0 12 = x := ⟨_, rfl⟩
  have gw_r0_12 := rg w_r0_12
  have ow_r0_12 := IM.f12 hI k0_r0_12
  obtain ⟨w_r0_13, k0_r0_13⟩ : ∃ x, I r0 13 = x := ⟨_, rfl⟩
  have gw_r0_13 := rg w_r0_13
  have ow_r0_13 := IM.f13 hI k0_r0_13
  have hp1 := hp1 r0_1 R_r0_1
  have hp2 := hp2 r0_1 R_r0_1
  obtain ⟨g0, hg0⟩ : ∃ g, I r0_1 = g := ⟨_, rfl⟩
  have hg := hg0
  try simp only [hg0, k0_r0_15, k0_r0_16, k0_r0_19, k0_r0_12, k0_r0_13] at hp0
  try simp only [hg0, k0_r0_15, k0_r0_16, k0_r0_19, k0_r0_12, k0_r0_13] at hp1
  try simp only [hg0, k0_r0_15, k0_r0_16, k0_r0_19, k0_r0_12, k0_r0_13] at hp2
  have hPD := hp1
  refine k_aload_n C rfl rfl rfl ?_
  refine g_I C rfl rfl rfl T_r0 rfl k0_r0_16 ?_
  refine z_bipush C (z := 40) rfl rfl rfl (fun x1 ex1 => ?_)
  refine b_icmp_eq C (t := 16) rfl rfl rfl (fun c2 => ?_) (fun c2 => ?_)
  · skip
    refine z_iconst C (z := 0) rfl rfl rfl (fun x3 ex3 => ?_)
    exact k_iret C rfl (Or.inr ⟨rfl, z01 (by omega) (by omega)⟩) (Nat.le_of_ble_eq_true rfl) (Nat.le_of_ble_eq_true rfl) ⟨_, _, _, rfl, rfl, by omega, by omega, fun a1 h1 => by cases (R_r0_1.symm.trans h1); first | (intro h; exfalso; omega) | (intro h; simp only [hg, hg0, k0_r0_15, k0_r0_16, k0_r0_19, k0_r0_12, k0_r0_13]; omega), fun a1 h1 => by cases (R_r0_1.symm.trans h1); first | (intro h; exfalso; omega) | (intro h; simp only [hg, k0_r0_15, k0_r0_16, k0_r0_19, k0_r0_12, k0_r0_13]; first | exact hPD | exact hP1 h | exact hP1 (by omega)), fun a1 h1 => by cases (R_r0_1.symm.trans h1); exact (fun r z0 => rfl), hI, CM.rf⟩
  refine k_aload_n C rfl rfl rfl ?_
  refine c_VI C (a_X12_deeper hI H_r0) rfl rfl rfl rfl rfl ⟨_, rfl, rfl, T_r0, Nat.le_of_ble_eq_true rfl⟩ rfl rfl (Nat.le_of_ble_eq_true rfl) (Nat.le_of_ble_eq_true rfl) (Nat.le_of_ble_eq_true rfl) ?_
  rintro x4 I5 L6 ⟨o0x4, o1x4, p0x4, hI5, S7⟩
  have e9 := CM.k S7 (by decide) k0_r0_16
  have e10 := CM.k S7 (by decide) k0_r0_19
  have e11 := CM.k S7 (by decide) k0_r0_12
  have e12 := CM.k S7 (by decide) k0_r0_13
  have gx4 := rg x4
  obtain ⟨x13, e14⟩ : ∃ x, I5 r0 15 = x := ⟨_, rfl⟩
  have gx13 := rg x13
  have ox13 := IM.f15 hI5 e14
  have hg := (CM.j0 S7 R_r0_1 (by decide)).trans hg
  try simp only [k0_r0_15, k0_r0_16, k0_r0_19, k0_r0_12, k0_r0_13, e14] at p0x4
  try have q0x4 := congrArg Int32.toInt p0x4
  refine b_if_ne C (t := 18) rfl rfl rfl (fun c15 => ?_) (fun c15 => ?_)
  · skip
    refine k_aload_n C rfl rfl rfl ?_
    refine k_dup C rfl rfl rfl ?_
    refine g_I C rfl rfl rfl T_r0 rfl e9 ?_
    refine z_iconst C (z := 1) rfl rfl rfl (fun x16 ex16 => ?_)
    refine z_iadd C rfl rfl ⟨by omega, by omega⟩ (fun x17 ex17 => ?_)
    refine z_pI C rfl rfl rfl T_r0 (Or.inr rfl) rfl (fun I18 uI18 => ?_)
    have hI18 : IM R r0 I18 := IM.fld hI5 G_r0 ⟨(fun h => absurd h (by decide)), (fun h => absurd h (by decide)), (fun _ => ⟨by omega, by omega⟩), (fun h => absurd h (by decide)), (fun h => absurd h (by decide))⟩ uI18
    have S19 : CM A R r0 [16] [] I5 L6 I18 L6 := CM.f G_r0 A_r0 uI18
    have e21 := u2_j uI18 (by first | decide | exact ncne (by omega) (by omega) (by omega) | exact nckn (by omega) (by omega) | exact (nckn (by omega) (by omega)).symm) e10
    have e22 := u2_j uI18 (by first | decide | exact ncne (by omega) (by omega) (by omega) | exact nckn (by omega) (by omega) | exact (nckn (by omega) (by omega)).symm) e11
    have e23 := u2_j uI18 (by first | decide | exact ncne (by omega) (by omega) (by omega) | exact nckn (by omega) (by omega) | exact (nckn (by omega) (by omega)).symm) e12
    have e24 := u2_j uI18 (by first | decide | exact ncne (by omega) (by omega) (by omega) | exact nckn (by omega) (by omega) | exact (nckn (by omega) (by omega)).symm) e14
    have e25 := u2_e uI18
    have hg := (CM.j0 S19 R_r0_1 (by decide)).trans hg
    refine k_aload_n C rfl rfl rfl ?_
    refine c_VI C (hqSum hI18 H_r0 (by first | omega | (simp only [hg, e21, e22, e23, e24, e25] <;> omega)) (fun a1 h1 => by cases (R_r0_1.symm.trans h1); simp only [hg, e21, e22, e23, e24, e25]; exact hPD) (fun a1 h1 => by cases (R_r0_1.symm.trans h1); first | omega | (simp only [hg, e21, e22, e23, e24, e25] <;> omega))) rfl rfl rfl rfl rfl ⟨_, rfl, rfl, T_r0, Nat.le_of_ble_eq_true rfl⟩ rfl rfl (Nat.le_of_ble_eq_true rfl) (Nat.le_of_ble_eq_true rfl) (Nat.le_of_ble_eq_true rfl) ?_
    rintro x26 I27 L28 ⟨o0x26, o1x26, p0x26, p1x26, p2x26, hI27, S29⟩
    have p0x26 := p0x26 r0_1 R_r0_1
    have p1x26 := p1x26 r0_1 R_r0_1
    have p2x26 := p2x26 r0_1 R_r0_1
    have F30 : ∀ r : Nat, r < 3606 → I27 r0_1 r = I18 r0_1 r := fun r z0 => p2x26 r z0
    have e33 := CM.k S29 (by decide) e23
    have gx26 := rg x26
    obtain ⟨x36, e37⟩ : ∃ x, I27 r0 15 = x := ⟨_, rfl⟩
    have gx36 := rg x36
    have ox36 := IM.f15 hI27 e37
    obtain ⟨x38, e39⟩ : ∃ x, I27 r0 16 = x := ⟨_, rfl⟩
    have gx38 := rg x38
    have ox38 := IM.f16 hI27 e39
    obtain ⟨x40, e41⟩ : ∃ x, I27 r0 19 = x := ⟨_, rfl⟩
    have gx40 := rg x40
    obtain ⟨x42, e43⟩ : ∃ x, I27 r0 12 = x := ⟨_, rfl⟩
    have gx42 := rg x42
    have ox42 := IM.f12 hI27 e43
    obtain ⟨gS29, hgS29⟩ : ∃ g, I27 r0_1 = g := ⟨_, rfl⟩
    try simp only [e21, e22, e23, e24, e25, e37, e39, e41, e43, hg, hgS29] at p0x26
    try have q0x26 := congrArg Int32.toInt p0x26
    try simp only [e21, e22, e23, e24, e25, e37, e39, e41, e43, hg, hgS29] at p1x26
    try have q1x26 := congrArg Int32.toInt p1x26
    have hgo := hg
    have hg := hgS29
    have hP0 := p0x26
    have hP1 := p1x26
    refine b_if_eq C (t := 60) rfl rfl rfl (fun c44 => ?_) (fun c44 => ?_)
    · skip
      refine z_iconst C (z := 0) rfl rfl rfl (fun x45 ex45 => ?_)
      exact k_iret C rfl (Or.inr ⟨rfl, z01 (by omega) (by omega)⟩) (Nat.le_of_ble_eq_true rfl) (Nat.le_of_ble_eq_true rfl) ⟨_, _, _, rfl, rfl, by omega, by omega, fun a1 h1 => by cases (R_r0_1.symm.trans h1); first | (intro h; exfalso; omega) | (intro h; simp only [hg, hg0, e33, e37, e39, e41, e43, k0_r0_15, k0_r0_16, k0_r0_19, k0_r0_12, k0_r0_13]; omega), fun a1 h1 => by cases (R_r0_1.symm.trans h1); first | (intro h; exfalso; omega) | (intro h; simp only [hg, e33, e37, e39, e41, e43, k0_r0_15, k0_r0_16, k0_r0_19, k0_r0_12, k0_r0_13]; first | exact hPD | exact hP1 h | exact hP1 (by omega)), fun a1 h1 => by cases (R_r0_1.symm.trans h1); exact (fun r z0 => ((F30 r z0).trans ((congrFun (CM.j0 S19 R_r0_1 (by decide)) r).trans (congrFun (CM.j0 S7 R_r0_1 (by decide)) r)))), hI27, (CM.cons S7 (CM.cons S19 (CM.mono S29 (by decide) (by decide)) (by decide) (by decide)) (by decide) (by decide))⟩
    have hPD := hP1 (by omega)
    have hPq := hP0 (by omega)
    refine k_aload_n C rfl rfl rfl ?_
    refine z_bipush C (z := 44) rfl rfl rfl (fun x46 ex46 => ?_)
    refine c_VI C (a_X12_has hI27 H_r0) rfl rfl rfl rfl rfl ⟨_, rfl, rfl, T_r0, Nat.le_of_ble_eq_true rfl⟩ rfl rfl (Nat.le_of_ble_eq_true rfl) (Nat.le_of_ble_eq_true rfl) (Nat.le_of_ble_eq_true rfl) ?_
    rintro x47 I48 L49 ⟨o0x47, o1x47, hI48, S50⟩
    have e51 := CM.k S50 (by decide) e33
    have e52 := CM.k S50 (by decide) e37
    have e53 := CM.k S50 (by decide) e39
    have e54 := CM.k S50 (by decide) e41
    have gx47 := rg x47
    have hg := (CM.j0 S50 R_r0_1 (by decide)).trans hg
    refine b_if_eq C (t := 60) rfl rfl rfl (fun c56 => ?_) (fun c56 => ?_)
    · skip
      refine z_iconst C (z := 0) rfl rfl rfl (fun x57 ex57 => ?_)
      exact k_iret C rfl (Or.inr ⟨rfl, z01 (by omega) (by omega)⟩) (Nat.le_of_ble_eq_true rfl) (Nat.le_of_ble_eq_true rfl) ⟨_, _, _, rfl, rfl, by omega, by omega, fun a1 h1 => by cases (R_r0_1.symm.trans h1); first | (intro h; exfalso; omega) | (intro h; simp only [hg, hg0, e51, e52, e53, e54, k0_r0_15, k0_r0_16, k0_r0_19, k0_r0_12, k0_r0_13]; omega), fun a1 h1 => by cases (R_r0_1.symm.trans h1); first | (intro h; exfalso; omega) | (intro h; simp only [hg, e51, e52, e53, e54, k0_r0_15, k0_r0_16, k0_r0_19, k0_r0_12, k0_r0_13]; first | exact hPD | exact hP1 h | exact hP1 (by omega)), fun a1 h1 => by cases (R_r0_1.symm.trans h1); exact (fun r z0 => ((congrFun (CM.j0 S50 R_r0_1 (by decide)) r).trans ((F30 r z0).trans ((congrFun (CM.j0 S19 R_r0_1 (by decide)) r).trans (congrFun (CM.j0 S7 R_r0_1 (by decide)) r))))), hI48, (CM.cons S7 (CM.cons S19 (CM.cons S29 (CM.mono S50 (by decide) (by decide)) (by decide) (by decide)) (by decide) (by decide)) (by decide) (by decide))⟩
    refine k_aload_n C rfl rfl rfl ?_
    refine c_VI C (hqSum hI48 H_r0 (by first | omega | (simp only [hg, e51, e52, e53, e54] <;> omega)) (fun a1 h1 => by cases (R_r0_1.symm.trans h1); simp only [hg, e51, e52, e53, e54]; exact hPD) (fun a1 h1 => by cases (R_r0_1.symm.trans h1); first | omega | (simp only [hg, e51, e52, e53, e54] <;> omega))) rfl rfl rfl rfl rfl ⟨_, rfl, rfl, T_r0, Nat.le_of_ble_eq_true rfl⟩ rfl rfl (Nat.le_of_ble_eq_true rfl) (Nat.le_of_ble_eq_true rfl) (Nat.le_of_ble_eq_true rfl) ?_
    rintro x58 I59 L60 ⟨o0x58, o1x58, p0x58, p1x58, p2x58, hI59, S61⟩
    have p0x58 := p0x58 r0_1 R_r0_1
    have p1x58 := p1x58 r0_1 R_r0_1
    have p2x58 := p2x58 r0_1 R_r0_1
    have F62 : ∀ r : Nat, r < 3606 → I59 r0_1 r = I48 r0_1 r := fun r z0 => p2x58 r z0
    have e63 := CM.k S61 (by decide) e51
    have gx58 := rg x58
    obtain ⟨x67, e68⟩ : ∃ x, I59 r0 15 = x := ⟨_, rfl⟩
    have gx67 := rg x67
    have ox67 := IM.f15 hI59 e68
    obtain ⟨x69, e70⟩ : ∃ x, I59 r0 16 = x := ⟨_, rfl⟩
    have gx69 := rg x69
    have ox69 := IM.f16 hI59 e70
    obtain ⟨x71, e72⟩ : ∃ x, I59 r0 19 = x := ⟨_, rfl⟩
    have gx71 := rg x71
    obtain ⟨x73, e74⟩ : ∃ x, I59 r0 12 = x := ⟨_, rfl⟩
    have gx73 := rg x73
    have ox73 := IM.f12 hI59 e74
    obtain ⟨gS61, hgS61⟩ : ∃ g, I59 r0_1 = g := ⟨_, rfl⟩
    try simp only [e51, e52, e53, e54, e68, e70, e72, e74, hg, hgS61] at p0x58
    try have q0x58 := congrArg Int32.toInt p0x58
    try simp only [e51, e52, e53, e54, e68, e70, e72, e74, hg, hgS61] at p1x58
    try have q1x58 := congrArg Int32.toInt p1x58
    have hgo := hg
    have hg := hgS61
    have hP0 := p0x58
    have hP1 := p1x58
    refine b_if_eq C (t := 60) rfl rfl rfl (fun c75 => ?_) (fun c75 => ?_)
    · skip
      refine z_iconst C (z := 0) rfl rfl rfl (fun x76 ex76 => ?_)
      exact k_iret C rfl (Or.inr ⟨rfl, z01 (by omega) (by omega)⟩) (Nat.le_of_ble_eq_true rfl) (Nat.le_of_ble_eq_true rfl) ⟨_, _, _, rfl, rfl, by omega, by omega, fun a1 h1 => by cases (R_r0_1.symm.trans h1); first | (intro h; exfalso; omega) | (intro h; simp only [hg, hg0, e63, e68, e70, e72, e74, k0_r0_15, k0_r0_16, k0_r0_19, k0_r0_12, k0_r0_13]; omega), fun a1 h1 => by cases (R_r0_1.symm.trans h1); first | (intro h; exfalso; omega) | (intro h; simp only [hg, e63, e68, e70, e72, e74, k0_r0_15, k0_r0_16, k0_r0_19, k0_r0_12, k0_r0_13]; first | exact hPD | exact hP1 h | exact hP1 (by omega)), fun a1 h1 => by cases (R_r0_1.symm.trans h1); exact (fun r z0 => ((F62 r z0).trans ((congrFun (CM.j0 S50 R_r0_1 (by decide)) r).trans ((F30 r z0).trans ((congrFun (CM.j0 S19 R_r0_1 (by decide)) r).trans (congrFun (CM.j0 S7 R_r0_1 (by decide)) r)))))), hI59, (CM.cons S7 (CM.cons S19 (CM.cons S29 (CM.cons S50 (CM.mono S61 (by decide) (by decide)) (by decide) (by decide)) (by decide) (by decide)) (by decide) (by decide)) (by decide) (by decide))⟩
    have hPD := hP1 (by omega)
    have hPq := hP0 (by omega)
    refine k_aload_n C rfl rfl rfl ?_
    refine z_bipush C (z := 93) rfl rfl rfl (fun x77 ex77 => ?_)
    refine c_VI C (a_X12_has hI59 H_r0) rfl rfl rfl rfl rfl ⟨_, rfl, rfl, T_r0, Nat.le_of_ble_eq_true rfl⟩ rfl rfl (Nat.le_of_ble_eq_true rfl) (Nat.le_of_ble_eq_true rfl) (Nat.le_of_ble_eq_true rfl) ?_
    rintro x78 I79 L80 ⟨o0x78, o1x78, hI79, S81⟩
    have e82 := CM.k S81 (by decide) e63
    have e83 := CM.k S81 (by decide) e68
    have e84 := CM.k S81 (by decide) e70
    have e85 := CM.k S81 (by decide) e72
    have gx78 := rg x78
    have hg := (CM.j0 S81 R_r0_1 (by decide)).trans hg
    refine b_if_ne C (t := 62) rfl rfl rfl (fun c87 => ?_) (fun c87 => ?_)
    · skip
      refine k_aload_n C rfl rfl rfl ?_
      refine k_dup C rfl rfl rfl ?_
      refine g_I C rfl rfl rfl T_r0 rfl e83 ?_
      refine z_iconst C (z := 1) rfl rfl rfl (fun x88 ex88 => ?_)
      refine z_isub C rfl rfl ⟨by omega, by omega⟩ (fun x89 ex89 => ?_)
      refine z_pI C rfl rfl rfl T_r0 (Or.inr rfl) rfl (fun I90 uI90 => ?_)
      have hI90 : IM R r0 I90 := IM.fld hI79 G_r0 ⟨(fun h => absurd h (by decide)), (fun _ => ⟨by omega, by omega⟩), (fun h => absurd h (by decide)), (fun h => absurd h (by decide)), (fun h => absurd h (by decide))⟩ uI90
      have S91 : CM A R r0 [15] [] I79 L80 I90 L80 := CM.f G_r0 A_r0 uI90
      have e92 := u2_j uI90 (by first | decide | exact ncne (by omega) (by omega) (by omega) | exact nckn (by omega) (by omega) | exact (nckn (by omega) (by omega)).symm) e82
      have e94 := u2_j uI90 (by first | decide | exact ncne (by omega) (by omega) (by omega) | exact nckn (by omega) (by omega) | exact (nckn (by omega) (by omega)).symm) e84
      have e95 := u2_j uI90 (by first | decide | exact ncne (by omega) (by omega) (by omega) | exact nckn (by omega) (by omega) | exact (nckn (by omega) (by omega)).symm) e85
      have e96 := u2_e uI90
      have hg := (CM.j0 S91 R_r0_1 (by decide)).trans hg
      refine k_aload_n C rfl rfl rfl ?_
      refine z_bipush C (z := 8) rfl rfl rfl (fun x97 ex97 => ?_)
      have q98 : x97.toNatClampNeg = 8 := nck (by omega)
      refine c_VI C (a_X12_number hI90 H_r0) rfl rfl rfl rfl rfl ⟨_, rfl, rfl, T_r0, Nat.le_of_ble_eq_true rfl⟩ rfl rfl (Nat.le_of_ble_eq_true rfl) (Nat.le_of_ble_eq_true rfl) (Nat.le_of_ble_eq_true rfl) ?_
      rintro x99 I100 L101 ⟨p0x99, hI100, S102⟩
      have e103 := CM.k S102 (by decide) e92
      have e104 := CM.k S102 (by decide) e94
      have e105 := CM.k S102 (by decide) e95
      have e106 := CM.k S102 (by decide) e96
      have gx99 := rg x99
      have hg := (CM.j0 S102 R_r0_1 (by decide)).trans hg
      try simp only [q98, e92, e94, e95, e96] at p0x99
      try have q0x99 := congrArg Int32.toInt p0x99
      refine k_istore_n C (lw := [(1, .int x99), (0, .ref r0)]) rfl rfl (Nat.le_of_ble_eq_true rfl) rfl ?_
      refine k_iload_n C rfl rfl rfl ?_
      refine b_if_lt C (t := 96) rfl rfl rfl (fun c107 => ?_) (fun c107 => ?_)
      · skip
        refine z_iconst C (z := 0) rfl rfl rfl (fun x108 ex108 => ?_)
        exact k_iret C rfl (Or.inr ⟨rfl, z01 (by omega) (by omega)⟩) (Nat.le_of_ble_eq_true rfl) (Nat.le_of_ble_eq_true rfl) ⟨_, _, _, rfl, rfl, by omega, by omega, fun a1 h1 => by cases (R_r0_1.symm.trans h1); first | (intro h; exfalso; omega) | (intro h; simp only [hg, hg0, e103, e104, e105, e106, k0_r0_15, k0_r0_16, k0_r0_19, k0_r0_12, k0_r0_13]; omega), fun a1 h1 => by cases (R_r0_1.symm.trans h1); first | (intro h; exfalso; omega) | (intro h; simp only [hg, e103, e104, e105, e106, k0_r0_15, k0_r0_16, k0_r0_19, k0_r0_12, k0_r0_13]; first | exact hPD | exact hP1 h | exact hP1 (by omega)), fun a1 h1 => by cases (R_r0_1.symm.trans h1); exact (fun r z0 => ((congrFun (CM.j0 S102 R_r0_1 (by decide)) r).trans ((congrFun (CM.j0 S91 R_r0_1 (by decide)) r).trans ((congrFun (CM.j0 S81 R_r0_1 (by decide)) r).trans ((F62 r z0).trans ((congrFun (CM.j0 S50 R_r0_1 (by decide)) r).trans ((F30 r z0).trans ((congrFun (CM.j0 S19 R_r0_1 (by decide)) r).trans (congrFun (CM.j0 S7 R_r0_1 (by decide)) r))))))))), hI100, (CM.cons S7 (CM.cons S19 (CM.cons S29 (CM.cons S50 (CM.cons S61 (CM.cons S81 (CM.cons S91 (CM.mono S102 (by decide) (by decide)) (by decide) (by decide)) (by decide) (by decide)) (by decide) (by decide)) (by decide) (by decide)) (by decide) (by decide)) (by decide) (by decide)) (by decide) (by decide))⟩
      refine k_aload_n C rfl rfl rfl ?_
      refine z_iconst C (z := 4) rfl rfl rfl (fun x109 ex109 => ?_)
      refine k_iload_n C rfl rfl rfl ?_
      have q110 : x109.toNatClampNeg = 4 := nck (by omega)
      refine c_VI C (a_X12_emits hI100 H_r0 (by omega) (by omega) (by omega) (by omega) (by first | omega | (simp only [q110, hg, e103, e104, e105, e106] <;> omega)) (by first | omega | (simp only [q110, hg, e103, e104, e105, e106] <;> omega))) rfl rfl rfl rfl rfl ⟨_, rfl, rfl, T_r0, Nat.le_of_ble_eq_true rfl⟩ rfl rfl (Nat.le_of_ble_eq_true rfl) (Nat.le_of_ble_eq_true rfl) (Nat.le_of_ble_eq_true rfl) ?_
      rintro x111 I112 L113 ⟨o0x111, o1x111, p0x111, p1x111, p2x111, hI112, S114⟩
      have p0x111 := p0x111 r0_1 R_r0_1
      have p2x111 := p2x111 r0_1 R_r0_1
      have F115 : ∀ r : Nat, r < 3606 → I112 r0_1 r = I100 r0_1 r := fun r z0 => p2x111 r z0
      have e116 := CM.k S114 (by decide) e103
      have e117 := CM.k S114 (by decide) e104
      have e119 := CM.k S114 (by decide) e106
      have gx111 := rg x111
      obtain ⟨x120, e121⟩ : ∃ x, I112 r0 19 = x := ⟨_, rfl⟩
      have gx120 := rg x120
      obtain ⟨gS114, hgS114⟩ : ∃ g, I112 r0_1 = g := ⟨_, rfl⟩
      try simp only [q110, e103, e104, e105, e106, e121, hg, hgS114] at p0x111
      try have q0x111 := congrArg Int32.toInt p0x111
      try simp only [q110, e103, e104, e105, e106, e121, hg, hgS114] at p1x111
      try have q1x111 := congrArg Int32.toInt p1x111
      have hgo := hg
      have hg := hgS114
      have hE := p0x111
      have hPD := PD.em hPD hE (by omega) (by omega) ⟨by omega, by omega⟩ ⟨by omega, by omega⟩ ⟨by omega, by omega⟩ (fun _ => by omega) (fun _ _ => by omega) (fun _ => by omega)
      have hHH := Hgt.e2 hE (by omega) (by omega) ⟨by omega, by omega⟩
      refine b_if_eq C (t := 96) rfl rfl rfl (fun c122 => by exfalso; omega) (fun c122 => ?_)
      refine z_iconst C (z := 1) rfl rfl rfl (fun x123 ex123 => ?_)
      refine k_goto C (pc2 := 97) rfl rfl ?_
      exact k_iret C rfl (Or.inr ⟨rfl, z01 (by omega) (by omega)⟩) (Nat.le_of_ble_eq_true rfl) (Nat.le_of_ble_eq_true rfl) ⟨_, _, _, rfl, rfl, by omega, by omega, fun a1 h1 => by cases (R_r0_1.symm.trans h1); first | (intro h; exfalso; omega) | (intro h; simp only [hg, hg0, e116, e117, e119, e121, k0_r0_15, k0_r0_16, k0_r0_19, k0_r0_12, k0_r0_13]; omega), fun a1 h1 => by cases (R_r0_1.symm.trans h1); first | (intro h; exfalso; omega) | (intro h; simp only [hg, e116, e117, e119, e121, k0_r0_15, k0_r0_16, k0_r0_19, k0_r0_12, k0_r0_13]; first | exact hPD | exact hP1 h | exact hP1 (by omega)), fun a1 h1 => by cases (R_r0_1.symm.trans h1); exact (fun r z0 => ((F115 r z0).trans ((congrFun (CM.j0 S102 R_r0_1 (by decide)) r).trans ((congrFun (CM.j0 S91 R_r0_1 (by decide)) r).trans ((congrFun (CM.j0 S81 R_r0_1 (by decide)) r).trans ((F62 r z0).trans ((congrFun (CM.j0 S50 R_r0_1 (by decide)) r).trans ((F30 r z0).trans ((congrFun (CM.j0 S19 R_r0_1 (by decide)) r).trans (congrFun (CM.j0 S7 R_r0_1 (by decide)) r)))))))))), hI112, (CM.cons S7 (CM.cons S19 (CM.cons S29 (CM.cons S50 (CM.cons S61 (CM.cons S81 (CM.cons S91 (CM.cons S102 (CM.mono S114 (by decide) (by decide)) (by decide) (by decide)) (by decide) (by decide)) (by decide) (by decide)) (by decide) (by decide)) (by decide) (by decide)) (by decide) (by decide)) (by decide) (by decide)) (by decide) (by decide))⟩
    refine z_iconst C (z := 0) rfl rfl rfl (fun x124 ex124 => ?_)
    exact k_iret C rfl (Or.inr ⟨rfl, z01 (by omega) (by omega)⟩) (Nat.le_of_ble_eq_true rfl) (Nat.le_of_ble_eq_true rfl) ⟨_, _, _, rfl, rfl, by omega, by omega, fun a1 h1 => by cases (R_r0_1.symm.trans h1); first | (intro h; exfalso; omega) | (intro h; simp only [hg, hg0, e82, e83, e84, e85, k0_r0_15, k0_r0_16, k0_r0_19, k0_r0_12, k0_r0_13]; omega), fun a1 h1 => by cases (R_r0_1.symm.trans h1); first | (intro h; exfalso; omega) | (intro h; simp only [hg, e82, e83, e84, e85, k0_r0_15, k0_r0_16, k0_r0_19, k0_r0_12, k0_r0_13]; first | exact hPD | exact hP1 h | exact hP1 (by omega)), fun a1 h1 => by cases (R_r0_1.symm.trans h1); exact (fun r z0 => ((congrFun (CM.j0 S81 R_r0_1 (by decide)) r).trans ((F62 r z0).trans ((congrFun (CM.j0 S50 R_r0_1 (by decide)) r).trans ((F30 r z0).trans ((congrFun (CM.j0 S19 R_r0_1 (by decide)) r).trans (congrFun (CM.j0 S7 R_r0_1 (by decide)) r))))))), hI79, (CM.cons S7 (CM.cons S19 (CM.cons S29 (CM.cons S50 (CM.cons S61 (CM.mono S81 (by decide) (by decide)) (by decide) (by decide)) (by decide) (by decide)) (by decide) (by decide)) (by decide) (by decide)) (by decide) (by decide))⟩
  refine z_iconst C (z := 0) rfl rfl rfl (fun x125 ex125 => ?_)
  exact k_iret C rfl (Or.inr ⟨rfl, z01 (by omega) (by omega)⟩) (Nat.le_of_ble_eq_true rfl) (Nat.le_of_ble_eq_true rfl) ⟨_, _, _, rfl, rfl, by omega, by omega, fun a1 h1 => by cases (R_r0_1.symm.trans h1); first | (intro h; exfalso; omega) | (intro h; simp only [hg, hg0, e9, e10, e11, e12, e14, k0_r0_15, k0_r0_16, k0_r0_19, k0_r0_12, k0_r0_13]; omega), fun a1 h1 => by cases (R_r0_1.symm.trans h1); first | (intro h; exfalso; omega) | (intro h; simp only [hg, e9, e10, e11, e12, e14, k0_r0_15, k0_r0_16, k0_r0_19, k0_r0_12, k0_r0_13]; first | exact hPD | exact hP1 h | exact hP1 (by omega)), fun a1 h1 => by cases (R_r0_1.symm.trans h1); exact (fun r z0 => (congrFun (CM.j0 S7 R_r0_1 (by decide)) r)), hI5, (CM.mono S7 (by decide) (by decide))⟩

set_option maxHeartbeats 8000000 in
theorem a_X12_readUnit_g {d : Nat} {lq lq' : Int} {kq : Nat} (hq0 : 0 ≤ lq) (hq5 : lq ≤ 5) (hq' : lq' = lq + 1) (hqOverlap : CR_Overlap (d + 7) lq kq) (hqSum : CR_Sum (d + 7) lq' kq) (hqUnit : CR_Unit (d + 7) lq' kq) : CR_Unit (d + 8) lq (kq + 1) := by
  intro T N I L R A r0 hI H_r0 hp0 hp1 hp2
  refine ⟨_, rfl, Nat.le_of_ble_eq_true rfl, fun V C S => ?_⟩
  show V 0 [(0, .ref r0)] [] (T, N, I, L, R) 0 0
  obtain ⟨T_r0, A_r0, ⟨r0_1, R_r0_1, H_r0_1⟩, ⟨r0_2, R_r0_2, H_r0_2⟩, ⟨r0_4, R_r0_4, H_r0_4⟩, ⟨r0_5, R_r0_5, H_r0_5⟩, ⟨r0_10, R_r0_10, H_r0_10⟩, ⟨r0_18, R_r0_18, H_r0_18⟩, ⟨r0_20, R_r0_20, H_r0_20⟩, ⟨r0_21, R_r0_21, H_r0_21⟩, ⟨r0_22, R_r0_22, H_r0_22⟩, ⟨r0_23, R_r0_23, H_r0_23⟩, ⟨r0_25, R_r0_25, H_r0_25⟩, ⟨r0_26, R_r0_26, H_r0_26⟩, ⟨r0_27, R_r0_27, H_r0_27⟩, ⟨r0_28, R_r0_28, H_r0_28⟩, ⟨r0_34, R_r0_34, H_r0_34⟩, J_r0, Y_r0⟩ := id H_r0
  have G_r0 : mF T R r0 := ⟨J_r0, Y_r0, T_r0⟩
  obtain ⟨w_r0_15, k0_r0_15⟩ : ∃ x, I r0 15 = x := ⟨_, rfl⟩
  have gw_r0_15 := rg w_r0_15
  have ow_r0_15 := IM.f15 hI k0_r0_15
  obtain ⟨w_r0_16, k0_r0_16⟩ : ∃ x, I r0 16 = x := ⟨_, rfl⟩
  have gw_r0_16 := rg w_r0_16
  have ow_r0_16 := IM.f16 hI k0_r0_16
  obtain ⟨w_r0_19, k0_r0_19⟩ : ∃ x, I r0 19 = x := ⟨_, rfl⟩
  have gw_r0_19 := rg w_r0_19
  obtain ⟨w_r0_12, k0_r0_12⟩ : ∃ x, I r0 12 = x := ⟨_, rfl⟩
  have gw_r0_12 := rg w_r0_12
  have ow_r0_12 := IM.f12 hI k0_r0_12
  obtain ⟨w_r0_13, k0_r0_13⟩ : ∃ x, I r0 13 = x := ⟨_, rfl⟩
  have gw_r0_13 := rg w_r0_13
  have ow_r0_13 := IM.f13 hI k0_r0_13
  have hp1 := hp1 r0_1 R_r0_1
  have hp2 := hp2 r0_1 R_r0_1
  obtain ⟨g0, hg0⟩ : ∃ g, I r0_1 = g := ⟨_, rfl⟩
  have hg := hg0
  try simp only [hg0, k0_r0_15, k0_r0_16, k0_r0_19, k0_r0_12, k0_r0_13] at hp0
  try simp only [hg0, k0_r0_15, k0_r0_16, k0_r0_19, k0_r0_12, k0_r0_13] at hp1
  try simp only [hg0, k0_r0_15, k0_r0_16, k0_r0_19, k0_r0_12, k0_r0_13] at hp2
  have hPD := hp1
  refine k_aload_n C rfl rfl rfl ?_
  refine z_bipush C (z := 45) rfl rfl rfl (fun x1 ex1 => ?_)
  refine c_VI C (a_X12_has hI H_r0) rfl rfl rfl rfl rfl ⟨_, rfl, rfl, T_r0, Nat.le_of_ble_eq_true rfl⟩ rfl rfl (Nat.le_of_ble_eq_true rfl) (Nat.le_of_ble_eq_true rfl) (Nat.le_of_ble_eq_true rfl) ?_
  rintro x2 I3 L4 ⟨o0x2, o1x2, hI3, S5⟩
  have e6 := CM.k S5 (by decide) k0_r0_15
  have e7 := CM.k S5 (by decide) k0_r0_16
  have e8 := CM.k S5 (by decide) k0_r0_19
  have e10 := CM.k S5 (by decide) k0_r0_13
  have gx2 := rg x2
  have hg := (CM.j0 S5 R_r0_1 (by decide)).trans hg
  refine b_if_eq C (t := 42) rfl rfl rfl (fun c11 => ?_) (fun c11 => ?_)
  · skip
    refine k_aload_n C rfl rfl rfl ?_
    refine z_bipush C (z := 40) rfl rfl rfl (fun x12 ex12 => ?_)
    refine c_VI C (a_X12_has hI3 H_r0) rfl rfl rfl rfl rfl ⟨_, rfl, rfl, T_r0, Nat.le_of_ble_eq_true rfl⟩ rfl rfl (Nat.le_of_ble_eq_true rfl) (Nat.le_of_ble_eq_true rfl) (Nat.le_of_ble_eq_true rfl) ?_
    rintro x13 I14 L15 ⟨o0x13, o1x13, hI14, S16⟩
    have e17 := CM.k S16 (by decide) e6
    have e18 := CM.k S16 (by decide) e7
    have e19 := CM.k S16 (by decide) e8
    have e20 := CM.k S16 (by decide) e10
    have gx13 := rg x13
    have hg := (CM.j0 S16 R_r0_1 (by decide)).trans hg
    refine b_if_eq C (t := 84) rfl rfl rfl (fun c21 => ?_) (fun c21 => ?_)
    · skip
      refine k_aload_n C rfl rfl rfl ?_
      refine z_bipush C (z := 91) rfl rfl rfl (fun x22 ex22 => ?_)
      refine c_VI C (a_X12_has hI14 H_r0) rfl rfl rfl rfl rfl ⟨_, rfl, rfl, T_r0, Nat.le_of_ble_eq_true rfl⟩ rfl rfl (Nat.le_of_ble_eq_true rfl) (Nat.le_of_ble_eq_true rfl) (Nat.le_of_ble_eq_true rfl) ?_
      rintro x23 I24 L25 ⟨o0x23, o1x23, hI24, S26⟩
      have e27 := CM.k S26 (by decide) e17
      have e28 := CM.k S26 (by decide) e18
      have e29 := CM.k S26 (by decide) e19
      have e30 := CM.k S26 (by decide) e20
      have gx23 := rg x23
      have hg := (CM.j0 S26 R_r0_1 (by decide)).trans hg
      refine b_if_eq C (t := 98) rfl rfl rfl (fun c31 => ?_) (fun c31 => ?_)
      · skip
        refine k_aload_n C rfl rfl rfl ?_
        refine c_VV C (a_X12_blanks hI24 H_r0) rfl rfl rfl rfl rfl ⟨_, rfl, rfl, T_r0, Nat.le_of_ble_eq_true rfl⟩ rfl rfl (Nat.le_of_ble_eq_true rfl) (Nat.le_of_ble_eq_true rfl) (Nat.le_of_ble_eq_true rfl) ?_
        rintro I33 L34 ⟨hI33, S35⟩
        have e36 := CM.k S35 (by decide) e27
        have e37 := CM.k S35 (by decide) e28
        have e38 := CM.k S35 (by decide) e29
        have e39 := CM.k S35 (by decide) e30
        obtain ⟨x40, e41⟩ : ∃ x, I33 r0 12 = x := ⟨_, rfl⟩
        have gx40 := rg x40
        have ox40 := IM.f12 hI33 e41
        have hg := (CM.j0 S35 R_r0_1 (by decide)).trans hg
        refine k_aload_n C rfl rfl rfl ?_
        refine z_bipush C (z := 48) rfl rfl rfl (fun x42 ex42 => ?_)
        refine z_bipush C (z := 57) rfl rfl rfl (fun x43 ex43 => ?_)
        have q44 : x42.toNatClampNeg = 48 := nck (by omega)
        have q45 : x43.toNatClampNeg = 57 := nck (by omega)
        refine c_VI C (a_X12_isAt hI33 H_r0) rfl rfl rfl rfl rfl ⟨_, rfl, rfl, T_r0, Nat.le_of_ble_eq_true rfl⟩ rfl rfl (Nat.le_of_ble_eq_true rfl) (Nat.le_of_ble_eq_true rfl) (Nat.le_of_ble_eq_true rfl) ?_
        rintro x46 _ _ ⟨o0x46, o1x46, p0x46, rfl, rfl⟩
        have gx46 := rg x46
        try simp only [q44, q45, e36, e37, e38, e39, e41] at p0x46
        try have q0x46 := congrArg Int32.toInt p0x46
        have J47 : ∀ (nn48 : Nat) (I49 : IT) (L50 : LT) (x53 : Int32), (MN (400 - x53.toInt) nn48) → (IM R r0 I49) → (CM A R r0 [12] [] I33 L34 I49 L50) → (I49 r0 12 = x53) → (0 ≤ x53.toInt) → (x53.toInt ≤ 400) → V 161 [(0, .ref r0)] [] (T, N, I49, L50, R) 0 0 := by
          intro nn48
          induction nn48 using Nat.strongRecOn with
          | _ nn48 ihJ47 =>
            intro I49 L50 x53 hmnn48 hI52 S51 e54 b55 b56
            have gx53 := rg x53
            have e57 := CM.k S51 (by decide) e36
            have e58 := CM.k S51 (by decide) e37
            have e59 := CM.k S51 (by decide) e38
            have e60 := CM.k S51 (by decide) e39
            have hg := (CM.j0 S51 R_r0_1 (by decide)).trans hg
            refine k_aload_n C rfl rfl rfl ?_
            refine z_bipush C (z := 97) rfl rfl rfl (fun x61 ex61 => ?_)
            refine z_bipush C (z := 122) rfl rfl rfl (fun x62 ex62 => ?_)
            have q63 : x61.toNatClampNeg = 97 := nck (by omega)
            have q64 : x62.toNatClampNeg = 122 := nck (by omega)
            refine c_VI C (a_X12_isAt hI52 H_r0) rfl rfl rfl rfl rfl ⟨_, rfl, rfl, T_r0, Nat.le_of_ble_eq_true rfl⟩ rfl rfl (Nat.le_of_ble_eq_true rfl) (Nat.le_of_ble_eq_true rfl) (Nat.le_of_ble_eq_true rfl) ?_
            rintro x65 _ _ ⟨o0x65, o1x65, p0x65, rfl, rfl⟩
            have gx65 := rg x65
            try simp only [q63, q64, e57, e58, e59, e60, e54] at p0x65
            try have q0x65 := congrArg Int32.toInt p0x65
            refine b_if_eq C (t := 185) rfl rfl rfl (fun c66 => ?_) (fun c66 => ?_)
            · skip
              refine k_aload_n C rfl rfl rfl ?_
              refine g_I C rfl rfl rfl T_r0 rfl e54 ?_
              refine k_aload_n C rfl rfl rfl ?_
              refine z_gI C rfl rfl rfl T_r0 rfl (fun x67 ex67 => ?_)
              have gx67 := rg x67
              have ox67 := IM.f14 hI52 ex67
              refine z_isub C rfl rfl ⟨by omega, by omega⟩ (fun x68 ex68 => ?_)
              refine z_iconst C (z := 1) rfl rfl rfl (fun x69 ex69 => ?_)
              refine b_icmp_ne C (t := 221) rfl rfl rfl (fun c70 => ?_) (fun c70 => ?_)
              · skip
                refine z_iconst C (z := 0) rfl rfl rfl (fun x71 ex71 => ?_)
                exact k_iret C rfl (Or.inr ⟨rfl, z01 (by omega) (by omega)⟩) (Nat.le_of_ble_eq_true rfl) (Nat.le_of_ble_eq_true rfl) ⟨_, _, _, rfl, rfl, by omega, by omega, fun a1 h1 => by cases (R_r0_1.symm.trans h1); first | (intro h; exfalso; omega) | (intro h; simp only [hg, hg0, e57, e58, e59, e60, e54, ex67, k0_r0_15, k0_r0_16, k0_r0_19, k0_r0_12, k0_r0_13]; omega), fun a1 h1 => by cases (R_r0_1.symm.trans h1); first | (intro h; exfalso; omega) | (intro h; simp only [hg, e57, e58, e59, e60, e54, ex67, k0_r0_15, k0_r0_16, k0_r0_19, k0_r0_12, k0_r0_13]; first | exact hPD | exact hP1 h | exact hP1 (by omega)), fun a1 h1 => by cases (R_r0_1.symm.trans h1); exact (fun r z0 => ((congrFun (CM.j0 S51 R_r0_1 (by decide)) r).trans ((congrFun (CM.j0 S35 R_r0_1 (by decide)) r).trans ((congrFun (CM.j0 S26 R_r0_1 (by decide)) r).trans ((congrFun (CM.j0 S16 R_r0_1 (by decide)) r).trans (congrFun (CM.j0 S5 R_r0_1 (by decide)) r)))))), hI52, (CM.cons S5 (CM.cons S16 (CM.cons S26 (CM.cons S35 (CM.mono S51 (by decide) (by decide)) (by decide) (by decide)) (by decide) (by decide)) (by decide) (by decide)) (by decide) (by decide))⟩
              refine k_aload_n C rfl rfl rfl ?_
              refine g_R C rfl rfl rfl T_r0 rfl R_r0_10 ?_
              refine k_aload_n C rfl rfl rfl ?_
              refine g_I C rfl rfl rfl T_r0 rfl ex67 ?_
              obtain ⟨T_r0_10, N_r0_10, A_r0_10⟩ := id H_r0_10
              refine z_aB C rfl rfl T_r0_10 N_r0_10 (by omega) (by omega) (fun x72 ex72 => ?_)
              have gx72 := rg x72
              refine z_bipush C (z := 102) rfl rfl rfl (fun x73 ex73 => ?_)
              refine b_icmp_ne C (t := 221) rfl rfl rfl (fun c74 => ?_) (fun c74 => ?_)
              · skip
                refine z_iconst C (z := 0) rfl rfl rfl (fun x75 ex75 => ?_)
                exact k_iret C rfl (Or.inr ⟨rfl, z01 (by omega) (by omega)⟩) (Nat.le_of_ble_eq_true rfl) (Nat.le_of_ble_eq_true rfl) ⟨_, _, _, rfl, rfl, by omega, by omega, fun a1 h1 => by cases (R_r0_1.symm.trans h1); first | (intro h; exfalso; omega) | (intro h; simp only [hg, hg0, e57, e58, e59, e60, e54, ex67, ex72, k0_r0_15, k0_r0_16, k0_r0_19, k0_r0_12, k0_r0_13]; omega), fun a1 h1 => by cases (R_r0_1.symm.trans h1); first | (intro h; exfalso; omega) | (intro h; simp only [hg, e57, e58, e59, e60, e54, ex67, ex72, k0_r0_15, k0_r0_16, k0_r0_19, k0_r0_12, k0_r0_13]; first | exact hPD | exact hP1 h | exact hP1 (by omega)), fun a1 h1 => by cases (R_r0_1.symm.trans h1); exact (fun r z0 => ((congrFun (CM.j0 S51 R_r0_1 (by decide)) r).trans ((congrFun (CM.j0 S35 R_r0_1 (by decide)) r).trans ((congrFun (CM.j0 S26 R_r0_1 (by decide)) r).trans ((congrFun (CM.j0 S16 R_r0_1 (by decide)) r).trans (congrFun (CM.j0 S5 R_r0_1 (by decide)) r)))))), hI52, (CM.cons S5 (CM.cons S16 (CM.cons S26 (CM.cons S35 (CM.mono S51 (by decide) (by decide)) (by decide) (by decide)) (by decide) (by decide)) (by decide) (by decide)) (by decide) (by decide))⟩
              refine k_aload_n C rfl rfl rfl ?_
              refine g_I C rfl rfl rfl T_r0 rfl e58 ?_
              refine z_bipush C (z := 40) rfl rfl rfl (fun x76 ex76 => ?_)
              refine b_icmp_ne C (t := 223) rfl rfl rfl (fun c77 => ?_) (fun c77 => ?_)
              · skip
                refine k_aload_n C rfl rfl rfl ?_
                refine k_dup C rfl rfl rfl ?_
                refine g_I C rfl rfl rfl T_r0 rfl e58 ?_
                refine z_iconst C (z := 1) rfl rfl rfl (fun x78 ex78 => ?_)
                refine z_iadd C rfl rfl ⟨by omega, by omega⟩ (fun x79 ex79 => ?_)
                refine z_pI C rfl rfl rfl T_r0 (Or.inr rfl) rfl (fun I80 uI80 => ?_)
                have hI80 : IM R r0 I80 := IM.fld hI52 G_r0 ⟨(fun h => absurd h (by decide)), (fun h => absurd h (by decide)), (fun _ => ⟨by omega, by omega⟩), (fun h => absurd h (by decide)), (fun h => absurd h (by decide))⟩ uI80
                have S81 : CM A R r0 [16] [] I49 L50 I80 L50 := CM.f G_r0 A_r0 uI80
                have e82 := u2_j uI80 (by first | decide | exact ncne (by omega) (by omega) (by omega) | exact nckn (by omega) (by omega) | exact (nckn (by omega) (by omega)).symm) e57
                have e84 := u2_j uI80 (by first | decide | exact ncne (by omega) (by omega) (by omega) | exact nckn (by omega) (by omega) | exact (nckn (by omega) (by omega)).symm) e59
                have e85 := u2_j uI80 (by first | decide | exact ncne (by omega) (by omega) (by omega) | exact nckn (by omega) (by omega) | exact (nckn (by omega) (by omega)).symm) e60
                have e86 := u2_j uI80 (by first | decide | exact ncne (by omega) (by omega) (by omega) | exact nckn (by omega) (by omega) | exact (nckn (by omega) (by omega)).symm) e54
                have e87 := u2_j uI80 (by first | decide | exact ncne (by omega) (by omega) (by omega) | exact nckn (by omega) (by omega) | exact (nckn (by omega) (by omega)).symm) ex67
                have e88 := u2_n uI80 (mF.ne G_r0 R_r0_10) ex72
                have e89 := u2_e uI80
                have hg := (CM.j0 S81 R_r0_1 (by decide)).trans hg
                refine k_aload_n C rfl rfl rfl ?_
                refine z_iconst C (z := 0) rfl rfl rfl (fun x90 ex90 => ?_)
                refine z_iconst C (z := 0) rfl rfl rfl (fun x91 ex91 => ?_)
                have q92 : x90.toNatClampNeg = 0 := nck (by omega)
                have q93 : x91.toNatClampNeg = 0 := nck (by omega)
                refine c_VI C (a_X12_emits hI80 H_r0 (by omega) (by omega) (by omega) (by omega) (by first | omega | (simp only [q92, q93, hg, e82, e84, e85, e86, e87, e88, e89] <;> omega)) (by first | omega | (simp only [q92, q93, hg, e82, e84, e85, e86, e87, e88, e89] <;> omega))) rfl rfl rfl rfl rfl ⟨_, rfl, rfl, T_r0, Nat.le_of_ble_eq_true rfl⟩ rfl rfl (Nat.le_of_ble_eq_true rfl) (Nat.le_of_ble_eq_true rfl) (Nat.le_of_ble_eq_true rfl) ?_
                rintro x94 I95 L96 ⟨o0x94, o1x94, p0x94, p1x94, p2x94, hI95, S97⟩
                have p0x94 := p0x94 r0_1 R_r0_1
                have p2x94 := p2x94 r0_1 R_r0_1
                have F98 : ∀ r : Nat, r < 3606 → I95 r0_1 r = I80 r0_1 r := fun r z0 => p2x94 r z0
                have e99 := CM.k S97 (by decide) e82
                have e101 := CM.k S97 (by decide) e85
                have e102 := CM.k S97 (by decide) e86
                have e103 := CM.k S97 (by decide) e87
                have e104 := CM.j S97 R_r0_10 (by decide) e88
                have e105 := CM.k S97 (by decide) e89
                have gx94 := rg x94
                obtain ⟨x106, e107⟩ : ∃ x, I95 r0 19 = x := ⟨_, rfl⟩
                have gx106 := rg x106
                obtain ⟨gS97, hgS97⟩ : ∃ g, I95 r0_1 = g := ⟨_, rfl⟩
                try simp only [q92, q93, e82, e84, e85, e86, e87, e88, e89, e107, hg, hgS97] at p0x94
                try have q0x94 := congrArg Int32.toInt p0x94
                try simp only [q92, q93, e82, e84, e85, e86, e87, e88, e89, e107, hg, hgS97] at p1x94
                try have q1x94 := congrArg Int32.toInt p1x94
                have hgo := hg
                have hg := hgS97
                have hE := p0x94
                have hPD := PD.em hPD hE (by omega) (by omega) ⟨by omega, by omega⟩ ⟨by omega, by omega⟩ ⟨by omega, by omega⟩ (fun _ => by omega) (fun _ _ => by omega) (fun _ => by omega)
                have hHH := Hgt.e1 hE (by omega) (by omega) (by omega)
                exact k_iret C rfl (Or.inr ⟨rfl, z01 (by omega) (by omega)⟩) (Nat.le_of_ble_eq_true rfl) (Nat.le_of_ble_eq_true rfl) ⟨_, _, _, rfl, rfl, by omega, by omega, fun a1 h1 => by cases (R_r0_1.symm.trans h1); first | (intro h; exfalso; omega) | (intro h; simp only [hg, hg0, e99, e101, e102, e103, e104, e105, e107, k0_r0_15, k0_r0_16, k0_r0_19, k0_r0_12, k0_r0_13]; omega), fun a1 h1 => by cases (R_r0_1.symm.trans h1); first | (intro h; exfalso; omega) | (intro h; simp only [hg, e99, e101, e102, e103, e104, e105, e107, k0_r0_15, k0_r0_16, k0_r0_19, k0_r0_12, k0_r0_13]; first | exact hPD | exact hP1 h | exact hP1 (by omega)), fun a1 h1 => by cases (R_r0_1.symm.trans h1); exact (fun r z0 => ((F98 r z0).trans ((congrFun (CM.j0 S81 R_r0_1 (by decide)) r).trans ((congrFun (CM.j0 S51 R_r0_1 (by decide)) r).trans ((congrFun (CM.j0 S35 R_r0_1 (by decide)) r).trans ((congrFun (CM.j0 S26 R_r0_1 (by decide)) r).trans ((congrFun (CM.j0 S16 R_r0_1 (by decide)) r).trans (congrFun (CM.j0 S5 R_r0_1 (by decide)) r)))))))), hI95, (CM.cons S5 (CM.cons S16 (CM.cons S26 (CM.cons S35 (CM.cons S51 (CM.cons S81 (CM.mono S97 (by decide) (by decide)) (by decide) (by decide)) (by decide) (by decide)) (by decide) (by decide)) (by decide) (by decide)) (by decide) (by decide)) (by decide) (by decide))⟩
              refine z_iconst C (z := 0) rfl rfl rfl (fun x108 ex108 => ?_)
              exact k_iret C rfl (Or.inr ⟨rfl, z01 (by omega) (by omega)⟩) (Nat.le_of_ble_eq_true rfl) (Nat.le_of_ble_eq_true rfl) ⟨_, _, _, rfl, rfl, by omega, by omega, fun a1 h1 => by cases (R_r0_1.symm.trans h1); first | (intro h; exfalso; omega) | (intro h; simp only [hg, hg0, e57, e58, e59, e60, e54, ex67, ex72, k0_r0_15, k0_r0_16, k0_r0_19, k0_r0_12, k0_r0_13]; omega), fun a1 h1 => by cases (R_r0_1.symm.trans h1); first | (intro h; exfalso; omega) | (intro h; simp only [hg, e57, e58, e59, e60, e54, ex67, ex72, k0_r0_15, k0_r0_16, k0_r0_19, k0_r0_12, k0_r0_13]; first | exact hPD | exact hP1 h | exact hP1 (by omega)), fun a1 h1 => by cases (R_r0_1.symm.trans h1); exact (fun r z0 => ((congrFun (CM.j0 S51 R_r0_1 (by decide)) r).trans ((congrFun (CM.j0 S35 R_r0_1 (by decide)) r).trans ((congrFun (CM.j0 S26 R_r0_1 (by decide)) r).trans ((congrFun (CM.j0 S16 R_r0_1 (by decide)) r).trans (congrFun (CM.j0 S5 R_r0_1 (by decide)) r)))))), hI52, (CM.cons S5 (CM.cons S16 (CM.cons S26 (CM.cons S35 (CM.mono S51 (by decide) (by decide)) (by decide) (by decide)) (by decide) (by decide)) (by decide) (by decide)) (by decide) (by decide))⟩
            refine k_aload_n C rfl rfl rfl ?_
            refine k_dup C rfl rfl rfl ?_
            refine g_I C rfl rfl rfl T_r0 rfl e54 ?_
            refine z_iconst C (z := 1) rfl rfl rfl (fun x109 ex109 => ?_)
            refine z_iadd C rfl rfl ⟨by omega, by omega⟩ (fun x110 ex110 => ?_)
            refine z_pI C rfl rfl rfl T_r0 (Or.inr rfl) rfl (fun I111 uI111 => ?_)
            have hI111 : IM R r0 I111 := IM.fld hI52 G_r0 ⟨(fun _ => ⟨by omega, by omega⟩), (fun h => absurd h (by decide)), (fun h => absurd h (by decide)), (fun h => absurd h (by decide)), (fun h => absurd h (by decide))⟩ uI111
            have S112 : CM A R r0 [12] [] I49 L50 I111 L50 := CM.f G_r0 A_r0 uI111
            have e113 := u2_j uI111 (by first | decide | exact ncne (by omega) (by omega) (by omega) | exact nckn (by omega) (by omega) | exact (nckn (by omega) (by omega)).symm) e57
            have e114 := u2_j uI111 (by first | decide | exact ncne (by omega) (by omega) (by omega) | exact nckn (by omega) (by omega) | exact (nckn (by omega) (by omega)).symm) e58
            have e115 := u2_j uI111 (by first | decide | exact ncne (by omega) (by omega) (by omega) | exact nckn (by omega) (by omega) | exact (nckn (by omega) (by omega)).symm) e59
            have e116 := u2_j uI111 (by first | decide | exact ncne (by omega) (by omega) (by omega) | exact nckn (by omega) (by omega) | exact (nckn (by omega) (by omega)).symm) e60
            have e118 := u2_e uI111
            have hg := (CM.j0 S112 R_r0_1 (by decide)).trans hg
            refine k_goto C (pc2 := 161) rfl rfl ?_
            refine k_sub S [(0, .ref r0)] (List.forall_mem_cons.mpr ⟨List.mem_of_getElem? (i := 0) rfl, fun _ h => nomatch h⟩) ?_
            exact ihJ47 _ (MN.lt hmnn48 (by omega) (by omega)) I111 L50 x110 rfl hI111 (CM.cons S51 (CM.mono S112 (by decide) (by decide)) (by decide) (by decide)) e118 (by omega) (by omega)
        refine b_if_eq C (t := 161) rfl rfl rfl (fun c119 => ?_) (fun c119 => ?_)
        · skip
          refine k_sub S [(0, .ref r0)] (List.forall_mem_cons.mpr ⟨List.mem_of_getElem? (i := 0) rfl, fun _ h => nomatch h⟩) ?_
          exact J47 _ I33 L34 x40 rfl hI33 CM.rf e41 (by omega) (by omega)
        refine k_aload_n C rfl rfl rfl ?_
        refine g_I C rfl rfl rfl T_r0 rfl e37 ?_
        refine z_bipush C (z := 40) rfl rfl rfl (fun x120 ex120 => ?_)
        refine b_icmp_ne C (t := 124) rfl rfl rfl (fun c121 => ?_) (fun c121 => ?_)
        · skip
          refine k_aload_n C rfl rfl rfl ?_
          refine k_dup C rfl rfl rfl ?_
          refine g_I C rfl rfl rfl T_r0 rfl e37 ?_
          refine z_iconst C (z := 1) rfl rfl rfl (fun x122 ex122 => ?_)
          refine z_iadd C rfl rfl ⟨by omega, by omega⟩ (fun x123 ex123 => ?_)
          refine z_pI C rfl rfl rfl T_r0 (Or.inr rfl) rfl (fun I124 uI124 => ?_)
          have hI124 : IM R r0 I124 := IM.fld hI33 G_r0 ⟨(fun h => absurd h (by decide)), (fun h => absurd h (by decide)), (fun _ => ⟨by omega, by omega⟩), (fun h => absurd h (by decide)), (fun h => absurd h (by decide))⟩ uI124
          have S125 : CM A R r0 [16] [] I33 L34 I124 L34 := CM.f G_r0 A_r0 uI124
          have e126 := u2_j uI124 (by first | decide | exact ncne (by omega) (by omega) (by omega) | exact nckn (by omega) (by omega) | exact (nckn (by omega) (by omega)).symm) e36
          have e128 := u2_j uI124 (by first | decide | exact ncne (by omega) (by omega) (by omega) | exact nckn (by omega) (by omega) | exact (nckn (by omega) (by omega)).symm) e38
          have e129 := u2_j uI124 (by first | decide | exact ncne (by omega) (by omega) (by omega) | exact nckn (by omega) (by omega) | exact (nckn (by omega) (by omega)).symm) e39
          have e130 := u2_j uI124 (by first | decide | exact ncne (by omega) (by omega) (by omega) | exact nckn (by omega) (by omega) | exact (nckn (by omega) (by omega)).symm) e41
          have e131 := u2_e uI124
          have hg := (CM.j0 S125 R_r0_1 (by decide)).trans hg
          refine k_aload_n C rfl rfl rfl ?_
          refine z_sipush C (z := 999) rfl rfl rfl (fun x132 ex132 => ?_)
          have q133 : x132.toNatClampNeg = 999 := nck (by omega)
          refine c_VI C (a_X12_number hI124 H_r0) rfl rfl rfl rfl rfl ⟨_, rfl, rfl, T_r0, Nat.le_of_ble_eq_true rfl⟩ rfl rfl (Nat.le_of_ble_eq_true rfl) (Nat.le_of_ble_eq_true rfl) (Nat.le_of_ble_eq_true rfl) ?_
          rintro x134 I135 L136 ⟨p0x134, hI135, S137⟩
          have e138 := CM.k S137 (by decide) e126
          have e139 := CM.k S137 (by decide) e128
          have e140 := CM.k S137 (by decide) e129
          have e142 := CM.k S137 (by decide) e131
          have gx134 := rg x134
          have hg := (CM.j0 S137 R_r0_1 (by decide)).trans hg
          try simp only [q133, e126, e128, e129, e130, e131] at p0x134
          try have q0x134 := congrArg Int32.toInt p0x134
          refine k_istore_n C (lw := [(1, .int x134), (0, .ref r0)]) rfl rfl (Nat.le_of_ble_eq_true rfl) rfl ?_
          refine k_iload_n C rfl rfl rfl ?_
          refine b_if_lt C (t := 159) rfl rfl rfl (fun c143 => ?_) (fun c143 => ?_)
          · skip
            refine z_iconst C (z := 0) rfl rfl rfl (fun x144 ex144 => ?_)
            exact k_iret C rfl (Or.inr ⟨rfl, z01 (by omega) (by omega)⟩) (Nat.le_of_ble_eq_true rfl) (Nat.le_of_ble_eq_true rfl) ⟨_, _, _, rfl, rfl, by omega, by omega, fun a1 h1 => by cases (R_r0_1.symm.trans h1); first | (intro h; exfalso; omega) | (intro h; simp only [hg, hg0, e138, e139, e140, e142, k0_r0_15, k0_r0_16, k0_r0_19, k0_r0_12, k0_r0_13]; omega), fun a1 h1 => by cases (R_r0_1.symm.trans h1); first | (intro h; exfalso; omega) | (intro h; simp only [hg, e138, e139, e140, e142, k0_r0_15, k0_r0_16, k0_r0_19, k0_r0_12, k0_r0_13]; first | exact hPD | exact hP1 h | exact hP1 (by omega)), fun a1 h1 => by cases (R_r0_1.symm.trans h1); exact (fun r z0 => ((congrFun (CM.j0 S137 R_r0_1 (by decide)) r).trans ((congrFun (CM.j0 S125 R_r0_1 (by decide)) r).trans ((congrFun (CM.j0 S35 R_r0_1 (by decide)) r).trans ((congrFun (CM.j0 S26 R_r0_1 (by decide)) r).trans ((congrFun (CM.j0 S16 R_r0_1 (by decide)) r).trans (congrFun (CM.j0 S5 R_r0_1 (by decide)) r))))))), hI135, (CM.cons S5 (CM.cons S16 (CM.cons S26 (CM.cons S35 (CM.cons S125 (CM.mono S137 (by decide) (by decide)) (by decide) (by decide)) (by decide) (by decide)) (by decide) (by decide)) (by decide) (by decide)) (by decide) (by decide))⟩
          refine k_aload_n C rfl rfl rfl ?_
          refine z_iconst C (z := 1) rfl rfl rfl (fun x145 ex145 => ?_)
          refine k_iload_n C rfl rfl rfl ?_
          have q146 : x145.toNatClampNeg = 1 := nck (by omega)
          refine c_VI C (a_X12_emits hI135 H_r0 (by omega) (by omega) (by omega) (by omega) (by first | omega | (simp only [q146, hg, e138, e139, e140, e142] <;> omega)) (by first | omega | (simp only [q146, hg, e138, e139, e140, e142] <;> omega))) rfl rfl rfl rfl rfl ⟨_, rfl, rfl, T_r0, Nat.le_of_ble_eq_true rfl⟩ rfl rfl (Nat.le_of_ble_eq_true rfl) (Nat.le_of_ble_eq_true rfl) (Nat.le_of_ble_eq_true rfl) ?_
          rintro x147 I148 L149 ⟨o0x147, o1x147, p0x147, p1x147, p2x147, hI148, S150⟩
          have p0x147 := p0x147 r0_1 R_r0_1
          have p2x147 := p2x147 r0_1 R_r0_1
          have F151 : ∀ r : Nat, r < 3606 → I148 r0_1 r = I135 r0_1 r := fun r z0 => p2x147 r z0
          have e152 := CM.k S150 (by decide) e138
          have e154 := CM.k S150 (by decide) e140
          have e155 := CM.k S150 (by decide) e142
          have gx147 := rg x147
          obtain ⟨x156, e157⟩ : ∃ x, I148 r0 19 = x := ⟨_, rfl⟩
          have gx156 := rg x156
          obtain ⟨gS150, hgS150⟩ : ∃ g, I148 r0_1 = g := ⟨_, rfl⟩
          try simp only [q146, e138, e139, e140, e142, e157, hg, hgS150] at p0x147
          try have q0x147 := congrArg Int32.toInt p0x147
          try simp only [q146, e138, e139, e140, e142, e157, hg, hgS150] at p1x147
          try have q1x147 := congrArg Int32.toInt p1x147
          have hgo := hg
          have hg := hgS150
          have hE := p0x147
          have hPD := PD.em hPD hE (by omega) (by omega) ⟨by omega, by omega⟩ ⟨by omega, by omega⟩ ⟨by omega, by omega⟩ (fun _ => by omega) (fun _ _ => by omega) (fun _ => by omega)
          have hHH := Hgt.e1 hE (by omega) (by omega) (by omega)
          refine b_if_eq C (t := 159) rfl rfl rfl (fun c158 => by exfalso; omega) (fun c158 => ?_)
          refine z_iconst C (z := 1) rfl rfl rfl (fun x159 ex159 => ?_)
          refine k_goto C (pc2 := 160) rfl rfl ?_
          exact k_iret C rfl (Or.inr ⟨rfl, z01 (by omega) (by omega)⟩) (Nat.le_of_ble_eq_true rfl) (Nat.le_of_ble_eq_true rfl) ⟨_, _, _, rfl, rfl, by omega, by omega, fun a1 h1 => by cases (R_r0_1.symm.trans h1); first | (intro h; exfalso; omega) | (intro h; simp only [hg, hg0, e152, e154, e155, e157, k0_r0_15, k0_r0_16, k0_r0_19, k0_r0_12, k0_r0_13]; omega), fun a1 h1 => by cases (R_r0_1.symm.trans h1); first | (intro h; exfalso; omega) | (intro h; simp only [hg, e152, e154, e155, e157, k0_r0_15, k0_r0_16, k0_r0_19, k0_r0_12, k0_r0_13]; first | exact hPD | exact hP1 h | exact hP1 (by omega)), fun a1 h1 => by cases (R_r0_1.symm.trans h1); exact (fun r z0 => ((F151 r z0).trans ((congrFun (CM.j0 S137 R_r0_1 (by decide)) r).trans ((congrFun (CM.j0 S125 R_r0_1 (by decide)) r).trans ((congrFun (CM.j0 S35 R_r0_1 (by decide)) r).trans ((congrFun (CM.j0 S26 R_r0_1 (by decide)) r).trans ((congrFun (CM.j0 S16 R_r0_1 (by decide)) r).trans (congrFun (CM.j0 S5 R_r0_1 (by decide)) r)))))))), hI148, (CM.cons S5 (CM.cons S16 (CM.cons S26 (CM.cons S35 (CM.cons S125 (CM.cons S137 (CM.mono S150 (by decide) (by decide)) (by decide) (by decide)) (by decide) (by decide)) (by decide) (by decide)) (by decide) (by decide)) (by decide) (by decide)) (by decide) (by decide))⟩
        refine z_iconst C (z := 0) rfl rfl rfl (fun x160 ex160 => ?_)
        exact k_iret C rfl (Or.inr ⟨rfl, z01 (by omega) (by omega)⟩) (Nat.le_of_ble_eq_true rfl) (Nat.le_of_ble_eq_true rfl) ⟨_, _, _, rfl, rfl, by omega, by omega, fun a1 h1 => by cases (R_r0_1.symm.trans h1); first | (intro h; exfalso; omega) | (intro h; simp only [hg, hg0, e36, e37, e38, e39, e41, k0_r0_15, k0_r0_16, k0_r0_19, k0_r0_12, k0_r0_13]; omega), fun a1 h1 => by cases (R_r0_1.symm.trans h1); first | (intro h; exfalso; omega) | (intro h; simp only [hg, e36, e37, e38, e39, e41, k0_r0_15, k0_r0_16, k0_r0_19, k0_r0_12, k0_r0_13]; first | exact hPD | exact hP1 h | exact hP1 (by omega)), fun a1 h1 => by cases (R_r0_1.symm.trans h1); exact (fun r z0 => ((congrFun (CM.j0 S35 R_r0_1 (by decide)) r).trans ((congrFun (CM.j0 S26 R_r0_1 (by decide)) r).trans ((congrFun (CM.j0 S16 R_r0_1 (by decide)) r).trans (congrFun (CM.j0 S5 R_r0_1 (by decide)) r))))), hI33, (CM.cons S5 (CM.cons S16 (CM.cons S26 (CM.mono S35 (by decide) (by decide)) (by decide) (by decide)) (by decide) (by decide)) (by decide) (by decide))⟩
      refine k_aload_n C rfl rfl rfl ?_
      refine c_VI C (hqOverlap hI24 H_r0 (by first | omega | (simp only [hg, e27, e28, e29, e30] <;> omega)) (fun a1 h1 => by cases (R_r0_1.symm.trans h1); simp only [hg, e27, e28, e29, e30]; exact hPD) (fun a1 h1 => by cases (R_r0_1.symm.trans h1); first | omega | (simp only [hg, e27, e28, e29, e30] <;> omega))) rfl rfl rfl rfl rfl ⟨_, rfl, rfl, T_r0, Nat.le_of_ble_eq_true rfl⟩ rfl rfl (Nat.le_of_ble_eq_true rfl) (Nat.le_of_ble_eq_true rfl) (Nat.le_of_ble_eq_true rfl) ?_
      rintro x161 I162 L163 ⟨o0x161, o1x161, p0x161, p1x161, p2x161, hI162, S164⟩
      have p0x161 := p0x161 r0_1 R_r0_1
      have p1x161 := p1x161 r0_1 R_r0_1
      have p2x161 := p2x161 r0_1 R_r0_1
      have F165 : ∀ r : Nat, r < 3606 → I162 r0_1 r = I24 r0_1 r := fun r z0 => p2x161 r z0
      have e169 := CM.k S164 (by decide) e30
      have gx161 := rg x161
      obtain ⟨x170, e171⟩ : ∃ x, I162 r0 15 = x := ⟨_, rfl⟩
      have gx170 := rg x170
      have ox170 := IM.f15 hI162 e171
      obtain ⟨x172, e173⟩ : ∃ x, I162 r0 16 = x := ⟨_, rfl⟩
      have gx172 := rg x172
      have ox172 := IM.f16 hI162 e173
      obtain ⟨x174, e175⟩ : ∃ x, I162 r0 19 = x := ⟨_, rfl⟩
      have gx174 := rg x174
      obtain ⟨x176, e177⟩ : ∃ x, I162 r0 12 = x := ⟨_, rfl⟩
      have gx176 := rg x176
      have ox176 := IM.f12 hI162 e177
      obtain ⟨gS164, hgS164⟩ : ∃ g, I162 r0_1 = g := ⟨_, rfl⟩
      try simp only [e27, e28, e29, e30, e171, e173, e175, e177, hg, hgS164] at p0x161
      try have q0x161 := congrArg Int32.toInt p0x161
      try simp only [e27, e28, e29, e30, e171, e173, e175, e177, hg, hgS164] at p1x161
      try have q1x161 := congrArg Int32.toInt p1x161
      have hgo := hg
      have hg := hgS164
      have hP0 := p0x161
      have hP1 := p1x161
      exact k_iret C rfl (Or.inr ⟨rfl, z01 (by omega) (by omega)⟩) (Nat.le_of_ble_eq_true rfl) (Nat.le_of_ble_eq_true rfl) ⟨_, _, _, rfl, rfl, by omega, by omega, fun a1 h1 => by cases (R_r0_1.symm.trans h1); first | (intro h; exfalso; omega) | (intro h; simp only [hg, hg0, e169, e171, e173, e175, e177, k0_r0_15, k0_r0_16, k0_r0_19, k0_r0_12, k0_r0_13]; omega), fun a1 h1 => by cases (R_r0_1.symm.trans h1); first | (intro h; exfalso; omega) | (intro h; simp only [hg, e169, e171, e173, e175, e177, k0_r0_15, k0_r0_16, k0_r0_19, k0_r0_12, k0_r0_13]; first | exact hPD | exact hP1 h | exact hP1 (by omega)), fun a1 h1 => by cases (R_r0_1.symm.trans h1); exact (fun r z0 => ((F165 r z0).trans ((congrFun (CM.j0 S26 R_r0_1 (by decide)) r).trans ((congrFun (CM.j0 S16 R_r0_1 (by decide)) r).trans (congrFun (CM.j0 S5 R_r0_1 (by decide)) r))))), hI162, (CM.cons S5 (CM.cons S16 (CM.cons S26 (CM.mono S164 (by decide) (by decide)) (by decide) (by decide)) (by decide) (by decide)) (by decide) (by decide))⟩
    refine k_aload_n C rfl rfl rfl ?_
    refine c_VI C (a_X12_deeper hI14 H_r0) rfl rfl rfl rfl rfl ⟨_, rfl, rfl, T_r0, Nat.le_of_ble_eq_true rfl⟩ rfl rfl (Nat.le_of_ble_eq_true rfl) (Nat.le_of_ble_eq_true rfl) (Nat.le_of_ble_eq_true rfl) ?_
    rintro x178 I179 L180 ⟨o0x178, o1x178, p0x178, hI179, S181⟩
    have e183 := CM.k S181 (by decide) e18
    have e184 := CM.k S181 (by decide) e19
    have e185 := CM.k S181 (by decide) e20
    have gx178 := rg x178
    obtain ⟨x186, e187⟩ : ∃ x, I179 r0 15 = x := ⟨_, rfl⟩
    have gx186 := rg x186
    have ox186 := IM.f15 hI179 e187
    have hg := (CM.j0 S181 R_r0_1 (by decide)).trans hg
    try simp only [e17, e18, e19, e20, e187] at p0x178
    try have q0x178 := congrArg Int32.toInt p0x178
    refine b_if_eq C (t := 65) rfl rfl rfl (fun c188 => ?_) (fun c188 => ?_)
    · skip
      refine z_iconst C (z := 0) rfl rfl rfl (fun x189 ex189 => ?_)
      exact k_iret C rfl (Or.inr ⟨rfl, z01 (by omega) (by omega)⟩) (Nat.le_of_ble_eq_true rfl) (Nat.le_of_ble_eq_true rfl) ⟨_, _, _, rfl, rfl, by omega, by omega, fun a1 h1 => by cases (R_r0_1.symm.trans h1); first | (intro h; exfalso; omega) | (intro h; simp only [hg, hg0, e183, e184, e185, e187, k0_r0_15, k0_r0_16, k0_r0_19, k0_r0_12, k0_r0_13]; omega), fun a1 h1 => by cases (R_r0_1.symm.trans h1); first | (intro h; exfalso; omega) | (intro h; simp only [hg, e183, e184, e185, e187, k0_r0_15, k0_r0_16, k0_r0_19, k0_r0_12, k0_r0_13]; first | exact hPD | exact hP1 h | exact hP1 (by omega)), fun a1 h1 => by cases (R_r0_1.symm.trans h1); exact (fun r z0 => ((congrFun (CM.j0 S181 R_r0_1 (by decide)) r).trans ((congrFun (CM.j0 S16 R_r0_1 (by decide)) r).trans (congrFun (CM.j0 S5 R_r0_1 (by decide)) r)))), hI179, (CM.cons S5 (CM.cons S16 (CM.mono S181 (by decide) (by decide)) (by decide) (by decide)) (by decide) (by decide))⟩
    refine k_aload_n C rfl rfl rfl ?_
    refine c_VI C (hqSum hI179 H_r0 (by first | omega | (simp only [hg, e183, e184, e185, e187] <;> omega)) (fun a1 h1 => by cases (R_r0_1.symm.trans h1); simp only [hg, e183, e184, e185, e187]; exact hPD) (fun a1 h1 => by cases (R_r0_1.symm.trans h1); first | omega | (simp only [hg, e183, e184, e185, e187] <;> omega))) rfl rfl rfl rfl rfl ⟨_, rfl, rfl, T_r0, Nat.le_of_ble_eq_true rfl⟩ rfl rfl (Nat.le_of_ble_eq_true rfl) (Nat.le_of_ble_eq_true rfl) (Nat.le_of_ble_eq_true rfl) ?_
    rintro x190 I191 L192 ⟨o0x190, o1x190, p0x190, p1x190, p2x190, hI191, S193⟩
    have p0x190 := p0x190 r0_1 R_r0_1
    have p1x190 := p1x190 r0_1 R_r0_1
    have p2x190 := p2x190 r0_1 R_r0_1
    have F194 : ∀ r : Nat, r < 3606 → I191 r0_1 r = I179 r0_1 r := fun r z0 => p2x190 r z0
    have e197 := CM.k S193 (by decide) e185
    have gx190 := rg x190
    obtain ⟨x199, e200⟩ : ∃ x, I191 r0 15 = x := ⟨_, rfl⟩
    have gx199 := rg x199
    have ox199 := IM.f15 hI191 e200
    obtain ⟨x201, e202⟩ : ∃ x, I191 r0 16 = x := ⟨_, rfl⟩
    have gx201 := rg x201
    have ox201 := IM.f16 hI191 e202
    obtain ⟨x203, e204⟩ : ∃ x, I191 r0 19 = x := ⟨_, rfl⟩
    have gx203 := rg x203
    obtain ⟨x205, e206⟩ : ∃ x, I191 r0 12 = x := ⟨_, rfl⟩
    have gx205 := rg x205
    have ox205 := IM.f12 hI191 e206
    obtain ⟨gS193, hgS193⟩ : ∃ g, I191 r0_1 = g := ⟨_, rfl⟩
    try simp only [e183, e184, e185, e187, e200, e202, e204, e206, hg, hgS193] at p0x190
    try have q0x190 := congrArg Int32.toInt p0x190
    try simp only [e183, e184, e185, e187, e200, e202, e204, e206, hg, hgS193] at p1x190
    try have q1x190 := congrArg Int32.toInt p1x190
    have hgo := hg
    have hg := hgS193
    have hP0 := p0x190
    have hP1 := p1x190
    refine b_if_ne C (t := 67) rfl rfl rfl (fun c207 => ?_) (fun c207 => ?_)
    · skip
      have hPD := hP1 (by omega)
      have hPq := hP0 (by omega)
      refine k_aload_n C rfl rfl rfl ?_
      refine k_dup C rfl rfl rfl ?_
      refine g_I C rfl rfl rfl T_r0 rfl e200 ?_
      refine z_iconst C (z := 1) rfl rfl rfl (fun x208 ex208 => ?_)
      refine z_isub C rfl rfl ⟨by omega, by omega⟩ (fun x209 ex209 => ?_)
      refine z_pI C rfl rfl rfl T_r0 (Or.inr rfl) rfl (fun I210 uI210 => ?_)
      have hI210 : IM R r0 I210 := IM.fld hI191 G_r0 ⟨(fun h => absurd h (by decide)), (fun _ => ⟨by omega, by omega⟩), (fun h => absurd h (by decide)), (fun h => absurd h (by decide)), (fun h => absurd h (by decide))⟩ uI210
      have S211 : CM A R r0 [15] [] I191 L192 I210 L192 := CM.f G_r0 A_r0 uI210
      have e212 := u2_j uI210 (by first | decide | exact ncne (by omega) (by omega) (by omega) | exact nckn (by omega) (by omega) | exact (nckn (by omega) (by omega)).symm) e197
      have e214 := u2_j uI210 (by first | decide | exact ncne (by omega) (by omega) (by omega) | exact nckn (by omega) (by omega) | exact (nckn (by omega) (by omega)).symm) e202
      have e215 := u2_j uI210 (by first | decide | exact ncne (by omega) (by omega) (by omega) | exact nckn (by omega) (by omega) | exact (nckn (by omega) (by omega)).symm) e204
      have e216 := u2_j uI210 (by first | decide | exact ncne (by omega) (by omega) (by omega) | exact nckn (by omega) (by omega) | exact (nckn (by omega) (by omega)).symm) e206
      have e217 := u2_e uI210
      have hg := (CM.j0 S211 R_r0_1 (by decide)).trans hg
      refine k_aload_n C rfl rfl rfl ?_
      refine z_bipush C (z := 41) rfl rfl rfl (fun x218 ex218 => ?_)
      refine c_VI C (a_X12_has hI210 H_r0) rfl rfl rfl rfl rfl ⟨_, rfl, rfl, T_r0, Nat.le_of_ble_eq_true rfl⟩ rfl rfl (Nat.le_of_ble_eq_true rfl) (Nat.le_of_ble_eq_true rfl) (Nat.le_of_ble_eq_true rfl) ?_
      rintro x219 I220 L221 ⟨o0x219, o1x219, hI220, S222⟩
      have e223 := CM.k S222 (by decide) e212
      have e224 := CM.k S222 (by decide) e214
      have e225 := CM.k S222 (by decide) e215
      have e227 := CM.k S222 (by decide) e217
      have gx219 := rg x219
      have hg := (CM.j0 S222 R_r0_1 (by decide)).trans hg
      exact k_iret C rfl (Or.inr ⟨rfl, z01 (by omega) (by omega)⟩) (Nat.le_of_ble_eq_true rfl) (Nat.le_of_ble_eq_true rfl) ⟨_, _, _, rfl, rfl, by omega, by omega, fun a1 h1 => by cases (R_r0_1.symm.trans h1); first | (intro h; exfalso; omega) | (intro h; simp only [hg, hg0, e223, e224, e225, e227, k0_r0_15, k0_r0_16, k0_r0_19, k0_r0_12, k0_r0_13]; omega), fun a1 h1 => by cases (R_r0_1.symm.trans h1); first | (intro h; exfalso; omega) | (intro h; simp only [hg, e223, e224, e225, e227, k0_r0_15, k0_r0_16, k0_r0_19, k0_r0_12, k0_r0_13]; first | exact hPD | exact hP1 h | exact hP1 (by omega)), fun a1 h1 => by cases (R_r0_1.symm.trans h1); exact (fun r z0 => ((congrFun (CM.j0 S222 R_r0_1 (by decide)) r).trans ((congrFun (CM.j0 S211 R_r0_1 (by decide)) r).trans ((F194 r z0).trans ((congrFun (CM.j0 S181 R_r0_1 (by decide)) r).trans ((congrFun (CM.j0 S16 R_r0_1 (by decide)) r).trans (congrFun (CM.j0 S5 R_r0_1 (by decide)) r))))))), hI220, (CM.cons S5 (CM.cons S16 (CM.cons S181 (CM.cons S193 (CM.cons S211 (CM.mono S222 (by decide) (by decide)) (by decide) (by decide)) (by decide) (by decide)) (by decide) (by decide)) (by decide) (by decide)) (by decide) (by decide))⟩
    refine z_iconst C (z := 0) rfl rfl rfl (fun x228 ex228 => ?_)
    exact k_iret C rfl (Or.inr ⟨rfl, z01 (by omega) (by omega)⟩) (Nat.le_of_ble_eq_true rfl) (Nat.le_of_ble_eq_true rfl) ⟨_, _, _, rfl, rfl, by omega, by omega, fun a1 h1 => by cases (R_r0_1.symm.trans h1); first | (intro h; exfalso; omega) | (intro h; simp only [hg, hg0, e197, e200, e202, e204, e206, k0_r0_15, k0_r0_16, k0_r0_19, k0_r0_12, k0_r0_13]; omega), fun a1 h1 => by cases (R_r0_1.symm.trans h1); first | (intro h; exfalso; omega) | (intro h; simp only [hg, e197, e200, e202, e204, e206, k0_r0_15, k0_r0_16, k0_r0_19, k0_r0_12, k0_r0_13]; first | exact hPD | exact hP1 h | exact hP1 (by omega)), fun a1 h1 => by cases (R_r0_1.symm.trans h1); exact (fun r z0 => ((F194 r z0).trans ((congrFun (CM.j0 S181 R_r0_1 (by decide)) r).trans ((congrFun (CM.j0 S16 R_r0_1 (by decide)) r).trans (congrFun (CM.j0 S5 R_r0_1 (by decide)) r))))), hI191, (CM.cons S5 (CM.cons S16 (CM.cons S181 (CM.mono S193 (by decide) (by decide)) (by decide) (by decide)) (by decide) (by decide)) (by decide) (by decide))⟩
  refine k_aload_n C rfl rfl rfl ?_
  refine c_VI C (a_X12_deeper hI3 H_r0) rfl rfl rfl rfl rfl ⟨_, rfl, rfl, T_r0, Nat.le_of_ble_eq_true rfl⟩ rfl rfl (Nat.le_of_ble_eq_true rfl) (Nat.le_of_ble_eq_true rfl) (Nat.le_of_ble_eq_true rfl) ?_
  rintro x229 I230 L231 ⟨o0x229, o1x229, p0x229, hI230, S232⟩
  have e234 := CM.k S232 (by decide) e7
  have e235 := CM.k S232 (by decide) e8
  have e236 := CM.k S232 (by decide) e10
  have gx229 := rg x229
  obtain ⟨x237, e238⟩ : ∃ x, I230 r0 15 = x := ⟨_, rfl⟩
  have gx237 := rg x237
  have ox237 := IM.f15 hI230 e238
  have hg := (CM.j0 S232 R_r0_1 (by decide)).trans hg
  try simp only [e6, e7, e8, e10, e238] at p0x229
  try have q0x229 := congrArg Int32.toInt p0x229
  refine b_if_eq C (t := 23) rfl rfl rfl (fun c239 => ?_) (fun c239 => ?_)
  · skip
    refine z_iconst C (z := 0) rfl rfl rfl (fun x240 ex240 => ?_)
    exact k_iret C rfl (Or.inr ⟨rfl, z01 (by omega) (by omega)⟩) (Nat.le_of_ble_eq_true rfl) (Nat.le_of_ble_eq_true rfl) ⟨_, _, _, rfl, rfl, by omega, by omega, fun a1 h1 => by cases (R_r0_1.symm.trans h1); first | (intro h; exfalso; omega) | (intro h; simp only [hg, hg0, e234, e235, e236, e238, k0_r0_15, k0_r0_16, k0_r0_19, k0_r0_12, k0_r0_13]; omega), fun a1 h1 => by cases (R_r0_1.symm.trans h1); first | (intro h; exfalso; omega) | (intro h; simp only [hg, e234, e235, e236, e238, k0_r0_15, k0_r0_16, k0_r0_19, k0_r0_12, k0_r0_13]; first | exact hPD | exact hP1 h | exact hP1 (by omega)), fun a1 h1 => by cases (R_r0_1.symm.trans h1); exact (fun r z0 => ((congrFun (CM.j0 S232 R_r0_1 (by decide)) r).trans (congrFun (CM.j0 S5 R_r0_1 (by decide)) r))), hI230, (CM.cons S5 (CM.mono S232 (by decide) (by decide)) (by decide) (by decide))⟩
  refine k_aload_n C rfl rfl rfl ?_
  refine c_VI C (hqUnit hI230 H_r0 (by first | omega | (simp only [hg, e234, e235, e236, e238] <;> omega)) (fun a1 h1 => by cases (R_r0_1.symm.trans h1); simp only [hg, e234, e235, e236, e238]; exact hPD) (fun a1 h1 => by cases (R_r0_1.symm.trans h1); first | omega | (simp only [hg, e234, e235, e236, e238] <;> omega))) rfl rfl rfl rfl rfl ⟨_, rfl, rfl, T_r0, Nat.le_of_ble_eq_true rfl⟩ rfl rfl (Nat.le_of_ble_eq_true rfl) (Nat.le_of_ble_eq_true rfl) (Nat.le_of_ble_eq_true rfl) ?_
  rintro x241 I242 L243 ⟨o0x241, o1x241, p0x241, p1x241, p2x241, hI242, S244⟩
  have p0x241 := p0x241 r0_1 R_r0_1
  have p1x241 := p1x241 r0_1 R_r0_1
  have p2x241 := p2x241 r0_1 R_r0_1
  have F245 : ∀ r : Nat, r < 3606 → I242 r0_1 r = I230 r0_1 r := fun r z0 => p2x241 r z0
  have e248 := CM.k S244 (by decide) e236
  have gx241 := rg x241
  obtain ⟨x250, e251⟩ : ∃ x, I242 r0 15 = x := ⟨_, rfl⟩
  have gx250 := rg x250
  have ox250 := IM.f15 hI242 e251
  obtain ⟨x252, e253⟩ : ∃ x, I242 r0 16 = x := ⟨_, rfl⟩
  have gx252 := rg x252
  have ox252 := IM.f16 hI242 e253
  obtain ⟨x254, e255⟩ : ∃ x, I242 r0 19 = x := ⟨_, rfl⟩
  have gx254 := rg x254
  obtain ⟨x256, e257⟩ : ∃ x, I242 r0 12 = x := ⟨_, rfl⟩
  have gx256 := rg x256
  have ox256 := IM.f12 hI242 e257
  obtain ⟨gS244, hgS244⟩ : ∃ g, I242 r0_1 = g := ⟨_, rfl⟩
  try simp only [e234, e235, e236, e238, e251, e253, e255, e257, hg, hgS244] at p0x241
  try have q0x241 := congrArg Int32.toInt p0x241
  try simp only [e234, e235, e236, e238, e251, e253, e255, e257, hg, hgS244] at p1x241
  try have q1x241 := congrArg Int32.toInt p1x241
  have hgo := hg
  have hg := hgS244
  have hP0 := p0x241
  have hP1 := p1x241
  refine b_if_ne C (t := 25) rfl rfl rfl (fun c258 => ?_) (fun c258 => ?_)
  · skip
    have hPD := hP1 (by omega)
    have hPq := hP0 (by omega)
    refine k_aload_n C rfl rfl rfl ?_
    refine k_dup C rfl rfl rfl ?_
    refine g_I C rfl rfl rfl T_r0 rfl e251 ?_
    refine z_iconst C (z := 1) rfl rfl rfl (fun x259 ex259 => ?_)
    refine z_isub C rfl rfl ⟨by omega, by omega⟩ (fun x260 ex260 => ?_)
    refine z_pI C rfl rfl rfl T_r0 (Or.inr rfl) rfl (fun I261 uI261 => ?_)
    have hI261 : IM R r0 I261 := IM.fld hI242 G_r0 ⟨(fun h => absurd h (by decide)), (fun _ => ⟨by omega, by omega⟩), (fun h => absurd h (by decide)), (fun h => absurd h (by decide)), (fun h => absurd h (by decide))⟩ uI261
    have S262 : CM A R r0 [15] [] I242 L243 I261 L243 := CM.f G_r0 A_r0 uI261
    have e263 := u2_j uI261 (by first | decide | exact ncne (by omega) (by omega) (by omega) | exact nckn (by omega) (by omega) | exact (nckn (by omega) (by omega)).symm) e248
    have e265 := u2_j uI261 (by first | decide | exact ncne (by omega) (by omega) (by omega) | exact nckn (by omega) (by omega) | exact (nckn (by omega) (by omega)).symm) e253
    have e266 := u2_j uI261 (by first | decide | exact ncne (by omega) (by omega) (by omega) | exact nckn (by omega) (by omega) | exact (nckn (by omega) (by omega)).symm) e255
    have e267 := u2_j uI261 (by first | decide | exact ncne (by omega) (by omega) (by omega) | exact nckn (by omega) (by omega) | exact (nckn (by omega) (by omega)).symm) e257
    have e268 := u2_e uI261
    have hg := (CM.j0 S262 R_r0_1 (by decide)).trans hg
    refine k_aload_n C rfl rfl rfl ?_
    refine z_iconst C (z := 5) rfl rfl rfl (fun x269 ex269 => ?_)
    refine z_iconst C (z := 0) rfl rfl rfl (fun x270 ex270 => ?_)
    have q271 : x269.toNatClampNeg = 5 := nck (by omega)
    have q272 : x270.toNatClampNeg = 0 := nck (by omega)
    refine c_VI C (a_X12_emits hI261 H_r0 (by omega) (by omega) (by omega) (by omega) (by first | omega | (simp only [q271, q272, hg, e263, e265, e266, e267, e268] <;> omega)) (by first | omega | (simp only [q271, q272, hg, e263, e265, e266, e267, e268] <;> omega))) rfl rfl rfl rfl rfl ⟨_, rfl, rfl, T_r0, Nat.le_of_ble_eq_true rfl⟩ rfl rfl (Nat.le_of_ble_eq_true rfl) (Nat.le_of_ble_eq_true rfl) (Nat.le_of_ble_eq_true rfl) ?_
    rintro x273 I274 L275 ⟨o0x273, o1x273, p0x273, p1x273, p2x273, hI274, S276⟩
    have p0x273 := p0x273 r0_1 R_r0_1
    have p2x273 := p2x273 r0_1 R_r0_1
    have F277 : ∀ r : Nat, r < 3606 → I274 r0_1 r = I261 r0_1 r := fun r z0 => p2x273 r z0
    have e278 := CM.k S276 (by decide) e263
    have e279 := CM.k S276 (by decide) e265
    have e281 := CM.k S276 (by decide) e267
    have e282 := CM.k S276 (by decide) e268
    have gx273 := rg x273
    obtain ⟨x283, e284⟩ : ∃ x, I274 r0 19 = x := ⟨_, rfl⟩
    have gx283 := rg x283
    obtain ⟨gS276, hgS276⟩ : ∃ g, I274 r0_1 = g := ⟨_, rfl⟩
    try simp only [q271, q272, e263, e265, e266, e267, e268, e284, hg, hgS276] at p0x273
    try have q0x273 := congrArg Int32.toInt p0x273
    try simp only [q271, q272, e263, e265, e266, e267, e268, e284, hg, hgS276] at p1x273
    try have q1x273 := congrArg Int32.toInt p1x273
    have hgo := hg
    have hg := hgS276
    have hE := p0x273
    have hPD := PD.em hPD hE (by omega) (by omega) ⟨by omega, by omega⟩ ⟨by omega, by omega⟩ ⟨by omega, by omega⟩ (fun _ => by omega) (fun _ _ => by omega) (fun _ => by omega)
    have hHH := Hgt.e5 hE (by omega) (by omega) (by omega)
    exact k_iret C rfl (Or.inr ⟨rfl, z01 (by omega) (by omega)⟩) (Nat.le_of_ble_eq_true rfl) (Nat.le_of_ble_eq_true rfl) ⟨_, _, _, rfl, rfl, by omega, by omega, fun a1 h1 => by cases (R_r0_1.symm.trans h1); first | (intro h; exfalso; omega) | (intro h; simp only [hg, hg0, e278, e279, e281, e282, e284, k0_r0_15, k0_r0_16, k0_r0_19, k0_r0_12, k0_r0_13]; omega), fun a1 h1 => by cases (R_r0_1.symm.trans h1); first | (intro h; exfalso; omega) | (intro h; simp only [hg, e278, e279, e281, e282, e284, k0_r0_15, k0_r0_16, k0_r0_19, k0_r0_12, k0_r0_13]; first | exact hPD | exact hP1 h | exact hP1 (by omega)), fun a1 h1 => by cases (R_r0_1.symm.trans h1); exact (fun r z0 => ((F277 r z0).trans ((congrFun (CM.j0 S262 R_r0_1 (by decide)) r).trans ((F245 r z0).trans ((congrFun (CM.j0 S232 R_r0_1 (by decide)) r).trans (congrFun (CM.j0 S5 R_r0_1 (by decide)) r)))))), hI274, (CM.cons S5 (CM.cons S232 (CM.cons S244 (CM.cons S262 (CM.mono S276 (by decide) (by decide)) (by decide) (by decide)) (by decide) (by decide)) (by decide) (by decide)) (by decide) (by decide))⟩
  refine z_iconst C (z := 0) rfl rfl rfl (fun x285 ex285 => ?_)
  exact k_iret C rfl (Or.inr ⟨rfl, z01 (by omega) (by omega)⟩) (Nat.le_of_ble_eq_true rfl) (Nat.le_of_ble_eq_true rfl) ⟨_, _, _, rfl, rfl, by omega, by omega, fun a1 h1 => by cases (R_r0_1.symm.trans h1); first | (intro h; exfalso; omega) | (intro h; simp only [hg, hg0, e248, e251, e253, e255, e257, k0_r0_15, k0_r0_16, k0_r0_19, k0_r0_12, k0_r0_13]; omega), fun a1 h1 => by cases (R_r0_1.symm.trans h1); first | (intro h; exfalso; omega) | (intro h; simp only [hg, e248, e251, e253, e255, e257, k0_r0_15, k0_r0_16, k0_r0_19, k0_r0_12, k0_r0_13]; first | exact hPD | exact hP1 h | exact hP1 (by omega)), fun a1 h1 => by cases (R_r0_1.symm.trans h1); exact (fun r z0 => ((F245 r z0).trans ((congrFun (CM.j0 S232 R_r0_1 (by decide)) r).trans (congrFun (CM.j0 S5 R_r0_1 (by decide)) r)))), hI242, (CM.cons S5 (CM.cons S232 (CM.mono S244 (by decide) (by decide)) (by decide) (by decide)) (by decide) (by decide))⟩

set_option maxHeartbeats 8000000 in
theorem a_X12_readProduct_g {d : Nat} {lq : Int} {mq : Nat} (hq0 : 0 ≤ lq) (hq5 : lq ≤ 5) (hqUnit : CR_Unit (d + 8) lq mq) : CR_Product (d + 9) lq mq := by
  intro T N I L R A r0 hI H_r0 hp0 hp1 hp2
  refine ⟨_, rfl, Nat.le_of_ble_eq_true rfl, fun V C S => ?_⟩
  show V 0 [(0, .ref r0)] [] (T, N, I, L, R) 0 0
  obtain ⟨T_r0, A_r0, ⟨r0_1, R_r0_1, H_r0_1⟩, ⟨r0_2, R_r0_2, H_r0_2⟩, ⟨r0_4, R_r0_4, H_r0_4⟩, ⟨r0_5, R_r0_5, H_r0_5⟩, ⟨r0_10, R_r0_10, H_r0_10⟩, ⟨r0_18, R_r0_18, H_r0_18⟩, ⟨r0_20, R_r0_20, H_r0_20⟩, ⟨r0_21, R_r0_21, H_r0_21⟩, ⟨r0_22, R_r0_22, H_r0_22⟩, ⟨r0_23, R_r0_23, H_r0_23⟩, ⟨r0_25, R_r0_25, H_r0_25⟩, ⟨r0_26, R_r0_26, H_r0_26⟩, ⟨r0_27, R_r0_27, H_r0_27⟩, ⟨r0_28, R_r0_28, H_r0_28⟩, ⟨r0_34, R_r0_34, H_r0_34⟩, J_r0, Y_r0⟩ := id H_r0
  have G_r0 : mF T R r0 := ⟨J_r0, Y_r0, T_r0⟩
  obtain ⟨w_r0_15, k0_r0_15⟩ : ∃ x, I r0 15 = x := ⟨_, rfl⟩
  have gw_r0_15 := rg w_r0_15
  have ow_r0_15 := IM.f15 hI k0_r0_15
  obtain ⟨w_r0_16, k0_r0_16⟩ : ∃ x, I r0 16 = x := ⟨_, rfl⟩
  have gw_r0_16 := rg w_r0_16
  have ow_r0_16 := IM.f16 hI k0_r0_16
  obtain ⟨w_r0_19, k0_r0_19⟩ : ∃ x, I r0 19 = x := ⟨_, rfl⟩
  have gw_r0_19 := rg w_r0_19
  obtain ⟨w_r0_12, k0_r0_12⟩ : ∃ x, I r0 12 = x := ⟨_, rfl⟩
  have gw_r0_12 := rg w_r0_12
  have ow_r0_12 := IM.f12 hI k0_r0_12
  obtain ⟨w_r0_13, k0_r0_13⟩ : ∃ x, I r0 13 = x := ⟨_, rfl⟩
  have gw_r0_13 := rg w_r0_13
  have ow_r0_13 := IM.f13 hI k0_r0_13
  have hp1 := hp1 r0_1 R_r0_1
  have hp2 := hp2 r0_1 R_r0_1
  obtain ⟨g0, hg0⟩ : ∃ g, I r0_1 = g := ⟨_, rfl⟩
  have hg := hg0
  try simp only [hg0, k0_r0_15, k0_r0_16, k0_r0_19, k0_r0_12, k0_r0_13] at hp0
  try simp only [hg0, k0_r0_15, k0_r0_16, k0_r0_19, k0_r0_12, k0_r0_13] at hp1
  try simp only [hg0, k0_r0_15, k0_r0_16, k0_r0_19, k0_r0_12, k0_r0_13] at hp2
  have hPD := hp1
  refine k_aload_n C rfl rfl rfl ?_
  refine c_VI C (hqUnit hI H_r0 (by first | omega | (simp only [hg, k0_r0_15, k0_r0_16, k0_r0_19, k0_r0_12, k0_r0_13] <;> omega)) (fun a1 h1 => by cases (R_r0_1.symm.trans h1); simp only [hg, k0_r0_15, k0_r0_16, k0_r0_19, k0_r0_12, k0_r0_13]; exact hPD) (fun a1 h1 => by cases (R_r0_1.symm.trans h1); first | omega | (simp only [hg, k0_r0_15, k0_r0_16, k0_r0_19, k0_r0_12, k0_r0_13] <;> omega))) rfl rfl rfl rfl rfl ⟨_, rfl, rfl, T_r0, Nat.le_of_ble_eq_true rfl⟩ rfl rfl (Nat.le_of_ble_eq_true rfl) (Nat.le_of_ble_eq_true rfl) (Nat.le_of_ble_eq_true rfl) ?_
  rintro x1 I2 L3 ⟨o0x1, o1x1, p0x1, p1x1, p2x1, hI2, S4⟩
  have p0x1 := p0x1 r0_1 R_r0_1
  have p1x1 := p1x1 r0_1 R_r0_1
  have p2x1 := p2x1 r0_1 R_r0_1
  have F5 : ∀ r : Nat, r < 3606 → I2 r0_1 r = I r0_1 r := fun r z0 => p2x1 r z0
  have e10 := CM.k S4 (by decide) k0_r0_13
  have gx1 := rg x1
  obtain ⟨x11, e12⟩ : ∃ x, I2 r0 15 = x := ⟨_, rfl⟩
  have gx11 := rg x11
  have ox11 := IM.f15 hI2 e12
  obtain ⟨x13, e14⟩ : ∃ x, I2 r0 16 = x := ⟨_, rfl⟩
  have gx13 := rg x13
  have ox13 := IM.f16 hI2 e14
  obtain ⟨x15, e16⟩ : ∃ x, I2 r0 19 = x := ⟨_, rfl⟩
  have gx15 := rg x15
  obtain ⟨x17, e18⟩ : ∃ x, I2 r0 12 = x := ⟨_, rfl⟩
  have gx17 := rg x17
  have ox17 := IM.f12 hI2 e18
  obtain ⟨gS4, hgS4⟩ : ∃ g, I2 r0_1 = g := ⟨_, rfl⟩
  try simp only [k0_r0_15, k0_r0_16, k0_r0_19, k0_r0_12, k0_r0_13, e12, e14, e16, e18, hg, hgS4] at p0x1
  try have q0x1 := congrArg Int32.toInt p0x1
  try simp only [k0_r0_15, k0_r0_16, k0_r0_19, k0_r0_12, k0_r0_13, e12, e14, e16, e18, hg, hgS4] at p1x1
  try have q1x1 := congrArg Int32.toInt p1x1
  have hgo := hg
  have hg := hgS4
  have hP0 := p0x1
  have hP1 := p1x1
  have J19 : ∀ (nn20 : Nat) (I21 : IT) (L22 : LT) (x26 : Int32) (x30 : Int32) (x34 : Int32) (x38 : Int32), (MN (40 - x30.toInt) nn20) → (IM R r0 I21) → (CM A R r0 [12, 14, 15, 16, 19] [1] I2 L3 I21 L22) → (∀ r : Nat, r < 3606 → I21 r0_1 r = I2 r0_1 r) → (I21 r0 15 = x26) → (lq ≤ x26.toInt) → (x26.toInt ≤ lq) → (I21 r0 16 = x30) → (0 ≤ x30.toInt) → (x30.toInt ≤ 40) → (I21 r0 19 = x34) → (0 ≤ x34.toInt) → (x34.toInt ≤ 199) → (I21 r0 12 = x38) → (0 ≤ x38.toInt) → (x38.toInt ≤ 400) → (PD (I21 r0_1) x34.toInt) → (w_r0_16.toInt + 1 ≤ x30.toInt) → (x34.toInt + 3 ≤ w_r0_19.toInt + 4 * (x30.toInt - w_r0_16.toInt) + (6 - lq)) → (Hgt (I21 r0_1) 3606 x34.toNatClampNeg = Hgt (I r0_1) 3606 w_r0_19.toNatClampNeg + 1) → V 9 [(0, .ref r0)] [] (T, N, I21, L22, R) 0 0 := by
    intro nn20
    induction nn20 using Nat.strongRecOn with
    | _ nn20 ihJ19 =>
      intro I21 L22 x26 x30 x34 x38 hmnn20 hI24 S23 F25 e27 b28 b29 e31 b32 b33 e35 b36 b37 e39 b40 b41 ff9_0 ff9_1 ff9_2 ff9_3
      have gx26 := rg x26
      have gx30 := rg x30
      have gx34 := rg x34
      have gx38 := rg x38
      have e42 := CM.k S23 (by decide) e10
      obtain ⟨gL, hgL⟩ : ∃ g, I21 r0_1 = g := ⟨_, rfl⟩
      rw [hgL] at ff9_0
      rw [hgL, hg0] at ff9_3
      have hg := hgL
      have hPD := ff9_0
      refine k_aload_n C rfl rfl rfl ?_
      refine z_bipush C (z := 42) rfl rfl rfl (fun x43 ex43 => ?_)
      have q44 : x43.toNatClampNeg = 42 := nck (by omega)
      refine c_VI C (a_X12_counts hI24 H_r0) rfl rfl rfl rfl rfl ⟨_, rfl, rfl, T_r0, Nat.le_of_ble_eq_true rfl⟩ rfl rfl (Nat.le_of_ble_eq_true rfl) (Nat.le_of_ble_eq_true rfl) (Nat.le_of_ble_eq_true rfl) ?_
      rintro x45 I46 L47 ⟨o0x45, o1x45, p0x45, hI46, S48⟩
      have e49 := CM.k S48 (by decide) e42
      have e50 := CM.k S48 (by decide) e27
      have e52 := CM.k S48 (by decide) e35
      have gx45 := rg x45
      obtain ⟨x54, e55⟩ : ∃ x, I46 r0 16 = x := ⟨_, rfl⟩
      have gx54 := rg x54
      have ox54 := IM.f16 hI46 e55
      have hg := (CM.j0 S48 R_r0_1 (by decide)).trans hg
      try simp only [q44, e42, e27, e31, e35, e39, e55] at p0x45
      try have q0x45 := congrArg Int32.toInt p0x45
      refine b_if_eq C (t := 36) rfl rfl rfl (fun c56 => ?_) (fun c56 => ?_)
      · skip
        refine z_iconst C (z := 1) rfl rfl rfl (fun x57 ex57 => ?_)
        exact k_iret C rfl (Or.inr ⟨rfl, z01 (by omega) (by omega)⟩) (Nat.le_of_ble_eq_true rfl) (Nat.le_of_ble_eq_true rfl) ⟨_, _, _, rfl, rfl, by omega, by omega, fun a1 h1 => by cases (R_r0_1.symm.trans h1); first | (intro h; exfalso; omega) | (intro h; simp only [hg, hg0, e49, e50, e52, e55, k0_r0_15, k0_r0_16, k0_r0_19, k0_r0_12, k0_r0_13]; omega), fun a1 h1 => by cases (R_r0_1.symm.trans h1); first | (intro h; exfalso; omega) | (intro h; simp only [hg, e49, e50, e52, e55, k0_r0_15, k0_r0_16, k0_r0_19, k0_r0_12, k0_r0_13]; first | exact hPD | exact hP1 h | exact hP1 (by omega)), fun a1 h1 => by cases (R_r0_1.symm.trans h1); exact (fun r z0 => ((congrFun (CM.j0 S48 R_r0_1 (by decide)) r).trans ((F25 r z0).trans (F5 r z0)))), hI46, (CM.cons S4 (CM.cons S23 (CM.mono S48 (by decide) (by decide)) (by decide) (by decide)) (by decide) (by decide))⟩
      refine k_aload_n C rfl rfl rfl ?_
      refine c_VI C (hqUnit hI46 H_r0 (by first | omega | (simp only [hg, e49, e50, e52, e55] <;> omega)) (fun a1 h1 => by cases (R_r0_1.symm.trans h1); simp only [hg, e49, e50, e52, e55]; exact hPD) (fun a1 h1 => by cases (R_r0_1.symm.trans h1); first | omega | (simp only [hg, e49, e50, e52, e55] <;> omega))) rfl rfl rfl rfl rfl ⟨_, rfl, rfl, T_r0, Nat.le_of_ble_eq_true rfl⟩ rfl rfl (Nat.le_of_ble_eq_true rfl) (Nat.le_of_ble_eq_true rfl) (Nat.le_of_ble_eq_true rfl) ?_
      rintro x58 I59 L60 ⟨o0x58, o1x58, p0x58, p1x58, p2x58, hI59, S61⟩
      have p0x58 := p0x58 r0_1 R_r0_1
      have p1x58 := p1x58 r0_1 R_r0_1
      have p2x58 := p2x58 r0_1 R_r0_1
      have F62 : ∀ r : Nat, r < 3606 → I59 r0_1 r = I46 r0_1 r := fun r z0 => p2x58 r z0
      have e63 := CM.k S61 (by decide) e49
      have gx58 := rg x58
      obtain ⟨x67, e68⟩ : ∃ x, I59 r0 15 = x := ⟨_, rfl⟩
      have gx67 := rg x67
      have ox67 := IM.f15 hI59 e68
      obtain ⟨x69, e70⟩ : ∃ x, I59 r0 16 = x := ⟨_, rfl⟩
      have gx69 := rg x69
      have ox69 := IM.f16 hI59 e70
      obtain ⟨x71, e72⟩ : ∃ x, I59 r0 19 = x := ⟨_, rfl⟩
      have gx71 := rg x71
      obtain ⟨x73, e74⟩ : ∃ x, I59 r0 12 = x := ⟨_, rfl⟩
      have gx73 := rg x73
      have ox73 := IM.f12 hI59 e74
      obtain ⟨gS61, hgS61⟩ : ∃ g, I59 r0_1 = g := ⟨_, rfl⟩
      try simp only [e49, e50, e52, e55, e68, e70, e72, e74, hg, hgS61] at p0x58
      try have q0x58 := congrArg Int32.toInt p0x58
      try simp only [e49, e50, e52, e55, e68, e70, e72, e74, hg, hgS61] at p1x58
      try have q1x58 := congrArg Int32.toInt p1x58
      have hgo := hg
      have hg := hgS61
      have hP0 := p0x58
      have hP1 := p1x58
      refine b_if_eq C (t := 34) rfl rfl rfl (fun c75 => ?_) (fun c75 => ?_)
      · skip
        refine z_iconst C (z := 0) rfl rfl rfl (fun x76 ex76 => ?_)
        exact k_iret C rfl (Or.inr ⟨rfl, z01 (by omega) (by omega)⟩) (Nat.le_of_ble_eq_true rfl) (Nat.le_of_ble_eq_true rfl) ⟨_, _, _, rfl, rfl, by omega, by omega, fun a1 h1 => by cases (R_r0_1.symm.trans h1); first | (intro h; exfalso; omega) | (intro h; simp only [hg, hg0, e63, e68, e70, e72, e74, k0_r0_15, k0_r0_16, k0_r0_19, k0_r0_12, k0_r0_13]; omega), fun a1 h1 => by cases (R_r0_1.symm.trans h1); first | (intro h; exfalso; omega) | (intro h; simp only [hg, e63, e68, e70, e72, e74, k0_r0_15, k0_r0_16, k0_r0_19, k0_r0_12, k0_r0_13]; first | exact hPD | exact hP1 h | exact hP1 (by omega)), fun a1 h1 => by cases (R_r0_1.symm.trans h1); exact (fun r z0 => ((F62 r z0).trans ((congrFun (CM.j0 S48 R_r0_1 (by decide)) r).trans ((F25 r z0).trans (F5 r z0))))), hI59, (CM.cons S4 (CM.cons S23 (CM.cons S48 (CM.mono S61 (by decide) (by decide)) (by decide) (by decide)) (by decide) (by decide)) (by decide) (by decide))⟩
      have hPD := hP1 (by omega)
      have hPq := hP0 (by omega)
      refine k_aload_n C rfl rfl rfl ?_
      refine z_iconst C (z := 3) rfl rfl rfl (fun x77 ex77 => ?_)
      refine z_iconst C (z := 0) rfl rfl rfl (fun x78 ex78 => ?_)
      have q79 : x77.toNatClampNeg = 3 := nck (by omega)
      have q80 : x78.toNatClampNeg = 0 := nck (by omega)
      refine c_VI C (a_X12_emits hI59 H_r0 (by omega) (by omega) (by omega) (by omega) (by first | omega | (simp only [q79, q80, hg, e63, e68, e70, e72, e74] <;> omega)) (by first | omega | (simp only [q79, q80, hg, e63, e68, e70, e72, e74] <;> omega))) rfl rfl rfl rfl rfl ⟨_, rfl, rfl, T_r0, Nat.le_of_ble_eq_true rfl⟩ rfl rfl (Nat.le_of_ble_eq_true rfl) (Nat.le_of_ble_eq_true rfl) (Nat.le_of_ble_eq_true rfl) ?_
      rintro x81 I82 L83 ⟨o0x81, o1x81, p0x81, p1x81, p2x81, hI82, S84⟩
      have p0x81 := p0x81 r0_1 R_r0_1
      have p2x81 := p2x81 r0_1 R_r0_1
      have F85 : ∀ r : Nat, r < 3606 → I82 r0_1 r = I59 r0_1 r := fun r z0 => p2x81 r z0
      have e86 := CM.k S84 (by decide) e63
      have e87 := CM.k S84 (by decide) e68
      have e88 := CM.k S84 (by decide) e70
      have e90 := CM.k S84 (by decide) e74
      have gx81 := rg x81
      obtain ⟨x91, e92⟩ : ∃ x, I82 r0 19 = x := ⟨_, rfl⟩
      have gx91 := rg x91
      obtain ⟨gS84, hgS84⟩ : ∃ g, I82 r0_1 = g := ⟨_, rfl⟩
      try simp only [q79, q80, e63, e68, e70, e72, e74, e92, hg, hgS84] at p0x81
      try have q0x81 := congrArg Int32.toInt p0x81
      try simp only [q79, q80, e63, e68, e70, e72, e74, e92, hg, hgS84] at p1x81
      try have q1x81 := congrArg Int32.toInt p1x81
      have hgo := hg
      have hg := hgS84
      have hE := p0x81
      have hPD := PD.em hPD hE (by omega) (by omega) ⟨by omega, by omega⟩ ⟨by omega, by omega⟩ ⟨by omega, by omega⟩ (fun _ => by omega) (fun _ _ => by omega) (fun _ => by omega)
      have hHH := Hgt.e2 hE (by omega) (by omega) ⟨by omega, by omega⟩
      refine b_if_ne C (t := 9) rfl rfl rfl (fun c93 => ?_) (fun c93 => by exfalso; omega)
      refine k_sub S [(0, .ref r0)] (List.forall_mem_cons.mpr ⟨List.mem_of_getElem? (i := 0) rfl, fun _ h => nomatch h⟩) ?_
      exact ihJ19 _ (MN.lt hmnn20 (by omega) (by omega)) I82 L83 x67 x69 x91 x73 rfl hI82 (CM.cons S23 (CM.cons S48 (CM.cons S61 (CM.mono S84 (by decide) (by decide)) (by decide) (by decide)) (by decide) (by decide)) (by decide) (by decide)) (fun r z0 => ((F85 r z0).trans ((F62 r z0).trans ((congrFun (CM.j0 S48 R_r0_1 (by decide)) r).trans (F25 r z0))))) e87 (by omega) (by omega) e88 (by omega) (by omega) e92 (by omega) (by omega) e90 (by omega) (by omega) (by rw [hg]; exact hPD) (by omega) (by omega) (by rw [hg, hg0]; omega)
  refine b_if_ne C (t := 9) rfl rfl rfl (fun c94 => ?_) (fun c94 => ?_)
  · skip
    have hPD := hP1 (by omega)
    have hPq := hP0 (by omega)
    refine k_sub S [(0, .ref r0)] (List.forall_mem_cons.mpr ⟨List.mem_of_getElem? (i := 0) rfl, fun _ h => nomatch h⟩) ?_
    exact J19 _ I2 L3 x11 x13 x15 x17 rfl hI2 CM.rf (fun r z0 => rfl) e12 (by omega) (by omega) e14 (by omega) (by omega) e16 (by omega) (by omega) e18 (by omega) (by omega) (by rw [hg]; exact hPD) (by omega) (by omega) (by rw [hg, hg0]; omega)
  refine z_iconst C (z := 0) rfl rfl rfl (fun x95 ex95 => ?_)
  exact k_iret C rfl (Or.inr ⟨rfl, z01 (by omega) (by omega)⟩) (Nat.le_of_ble_eq_true rfl) (Nat.le_of_ble_eq_true rfl) ⟨_, _, _, rfl, rfl, by omega, by omega, fun a1 h1 => by cases (R_r0_1.symm.trans h1); first | (intro h; exfalso; omega) | (intro h; simp only [hg, hg0, e10, e12, e14, e16, e18, k0_r0_15, k0_r0_16, k0_r0_19, k0_r0_12, k0_r0_13]; omega), fun a1 h1 => by cases (R_r0_1.symm.trans h1); first | (intro h; exfalso; omega) | (intro h; simp only [hg, e10, e12, e14, e16, e18, k0_r0_15, k0_r0_16, k0_r0_19, k0_r0_12, k0_r0_13]; first | exact hPD | exact hP1 h | exact hP1 (by omega)), fun a1 h1 => by cases (R_r0_1.symm.trans h1); exact (fun r z0 => (F5 r z0)), hI2, (CM.mono S4 (by decide) (by decide))⟩

set_option maxHeartbeats 8000000 in
theorem a_X12_readSum_g {d : Nat} {lq : Int} {mq : Nat} (hq0 : 0 ≤ lq) (hq5 : lq ≤ 5) (hqProduct : CR_Product (d + 9) lq mq) : CR_Sum (d + 10) lq mq := by
  intro T N I L R A r0 hI H_r0 hp0 hp1 hp2
  refine ⟨_, rfl, Nat.le_of_ble_eq_true rfl, fun V C S => ?_⟩
  show V 0 [(0, .ref r0)] [] (T, N, I, L, R) 0 0
  obtain ⟨T_r0, A_r0, ⟨r0_1, R_r0_1, H_r0_1⟩, ⟨r0_2, R_r0_2, H_r0_2⟩, ⟨r0_4, R_r0_4, H_r0_4⟩, ⟨r0_5, R_r0_5, H_r0_5⟩, ⟨r0_10, R_r0_10, H_r0_10⟩, ⟨r0_18, R_r0_18, H_r0_18⟩, ⟨r0_20, R_r0_20, H_r0_20⟩, ⟨r0_21, R_r0_21, H_r0_21⟩, ⟨r0_22, R_r0_22, H_r0_22⟩, ⟨r0_23, R_r0_23, H_r0_23⟩, ⟨r0_25, R_r0_25, H_r0_25⟩, ⟨r0_26, R_r0_26, H_r0_26⟩, ⟨r0_27, R_r0_27, H_r0_27⟩, ⟨r0_28, R_r0_28, H_r0_28⟩, ⟨r0_34, R_r0_34, H_r0_34⟩, J_r0, Y_r0⟩ := id H_r0
  have G_r0 : mF T R r0 := ⟨J_r0, Y_r0, T_r0⟩
  obtain ⟨w_r0_15, k0_r0_15⟩ : ∃ x, I r0 15 = x := ⟨_, rfl⟩
  have gw_r0_15 := rg w_r0_15
  have ow_r0_15 := IM.f15 hI k0_r0_15
  obtain ⟨w_r0_16, k0_r0_16⟩ : ∃ x, I r0 16 = x := ⟨_, rfl⟩
  have gw_r0_16 := rg w_r0_16
  have ow_r0_16 := IM.f16 hI k0_r0_16
  obtain ⟨w_r0_19, k0_r0_19⟩ : ∃ x, I r0 19 = x := ⟨_, rfl⟩
  have gw_r0_19 := rg w_r0_19
  obtain ⟨w_r0_12, k0_r0_12⟩ : ∃ x, I r0 12 = x := ⟨_, rfl⟩
  have gw_r0_12 := rg w_r0_12
  have ow_r0_12 := IM.f12 hI k0_r0_12
  obtain ⟨w_r0_13, k0_r0_13⟩ : ∃ x, I r0 13 = x := ⟨_, rfl⟩
  have gw_r0_13 := rg w_r0_13
  have ow_r0_13 := IM.f13 hI k0_r0_13
  have hp1 := hp1 r0_1 R_r0_1
  have hp2 := hp2 r0_1 R_r0_1
  obtain ⟨g0, hg0⟩ : ∃ g, I r0_1 = g := ⟨_, rfl⟩
  have hg := hg0
  try simp only [hg0, k0_r0_15, k0_r0_16, k0_r0_19, k0_r0_12, k0_r0_13] at hp0
  try simp only [hg0, k0_r0_15, k0_r0_16, k0_r0_19, k0_r0_12, k0_r0_13] at hp1
  try simp only [hg0, k0_r0_15, k0_r0_16, k0_r0_19, k0_r0_12, k0_r0_13] at hp2
  have hPD := hp1
  refine k_aload_n C rfl rfl rfl ?_
  refine c_VI C (hqProduct hI H_r0 (by first | omega | (simp only [hg, k0_r0_15, k0_r0_16, k0_r0_19, k0_r0_12, k0_r0_13] <;> omega)) (fun a1 h1 => by cases (R_r0_1.symm.trans h1); simp only [hg, k0_r0_15, k0_r0_16, k0_r0_19, k0_r0_12, k0_r0_13]; exact hPD) (fun a1 h1 => by cases (R_r0_1.symm.trans h1); first | omega | (simp only [hg, k0_r0_15, k0_r0_16, k0_r0_19, k0_r0_12, k0_r0_13] <;> omega))) rfl rfl rfl rfl rfl ⟨_, rfl, rfl, T_r0, Nat.le_of_ble_eq_true rfl⟩ rfl rfl (Nat.le_of_ble_eq_true rfl) (Nat.le_of_ble_eq_true rfl) (Nat.le_of_ble_eq_true rfl) ?_
  rintro x1 I2 L3 ⟨o0x1, o1x1, p0x1, p1x1, p2x1, hI2, S4⟩
  have p0x1 := p0x1 r0_1 R_r0_1
  have p1x1 := p1x1 r0_1 R_r0_1
  have p2x1 := p2x1 r0_1 R_r0_1
  have F5 : ∀ r : Nat, r < 3606 → I2 r0_1 r = I r0_1 r := fun r z0 => p2x1 r z0
  have e10 := CM.k S4 (by decide) k0_r0_13
  have gx1 := rg x1
  obtain ⟨x11, e12⟩ : ∃ x, I2 r0 15 = x := ⟨_, rfl⟩
  have gx11 := rg x11
  have ox11 := IM.f15 hI2 e12
  obtain ⟨x13, e14⟩ : ∃ x, I2 r0 16 = x := ⟨_, rfl⟩
  have gx13 := rg x13
  have ox13 := IM.f16 hI2 e14
  obtain ⟨x15, e16⟩ : ∃ x, I2 r0 19 = x := ⟨_, rfl⟩
  have gx15 := rg x15
  obtain ⟨x17, e18⟩ : ∃ x, I2 r0 12 = x := ⟨_, rfl⟩
  have gx17 := rg x17
  have ox17 := IM.f12 hI2 e18
  obtain ⟨gS4, hgS4⟩ : ∃ g, I2 r0_1 = g := ⟨_, rfl⟩
  try simp only [k0_r0_15, k0_r0_16, k0_r0_19, k0_r0_12, k0_r0_13, e12, e14, e16, e18, hg, hgS4] at p0x1
  try have q0x1 := congrArg Int32.toInt p0x1
  try simp only [k0_r0_15, k0_r0_16, k0_r0_19, k0_r0_12, k0_r0_13, e12, e14, e16, e18, hg, hgS4] at p1x1
  try have q1x1 := congrArg Int32.toInt p1x1
  have hgo := hg
  have hg := hgS4
  have hP0 := p0x1
  have hP1 := p1x1
  have J19 : ∀ (nn20 : Nat) (I21 : IT) (L22 : LT) (x26 : Int32) (x30 : Int32) (x34 : Int32) (x38 : Int32), (MN (40 - x30.toInt) nn20) → (IM R r0 I21) → (CM A R r0 [12, 14, 15, 16, 19] [1] I2 L3 I21 L22) → (∀ r : Nat, r < 3606 → I21 r0_1 r = I2 r0_1 r) → (I21 r0 15 = x26) → (lq ≤ x26.toInt) → (x26.toInt ≤ lq) → (I21 r0 16 = x30) → (0 ≤ x30.toInt) → (x30.toInt ≤ 40) → (I21 r0 19 = x34) → (0 ≤ x34.toInt) → (x34.toInt ≤ 199) → (I21 r0 12 = x38) → (0 ≤ x38.toInt) → (x38.toInt ≤ 400) → (PD (I21 r0_1) x34.toInt) → (w_r0_16.toInt + 1 ≤ x30.toInt) → (x34.toInt + 3 ≤ w_r0_19.toInt + 4 * (x30.toInt - w_r0_16.toInt) + (6 - lq)) → (Hgt (I21 r0_1) 3606 x34.toNatClampNeg = Hgt (I r0_1) 3606 w_r0_19.toNatClampNeg + 1) → V 9 [(0, .ref r0)] [] (T, N, I21, L22, R) 0 0 := by
    intro nn20
    induction nn20 using Nat.strongRecOn with
    | _ nn20 ihJ19 =>
      intro I21 L22 x26 x30 x34 x38 hmnn20 hI24 S23 F25 e27 b28 b29 e31 b32 b33 e35 b36 b37 e39 b40 b41 ff9_0 ff9_1 ff9_2 ff9_3
      have gx26 := rg x26
      have gx30 := rg x30
      have gx34 := rg x34
      have gx38 := rg x38
      have e42 := CM.k S23 (by decide) e10
      obtain ⟨gL, hgL⟩ : ∃ g, I21 r0_1 = g := ⟨_, rfl⟩
      rw [hgL] at ff9_0
      rw [hgL, hg0] at ff9_3
      have hg := hgL
      have hPD := ff9_0
      refine k_aload_n C rfl rfl rfl ?_
      refine z_bipush C (z := 43) rfl rfl rfl (fun x43 ex43 => ?_)
      have q44 : x43.toNatClampNeg = 43 := nck (by omega)
      refine c_VI C (a_X12_counts hI24 H_r0) rfl rfl rfl rfl rfl ⟨_, rfl, rfl, T_r0, Nat.le_of_ble_eq_true rfl⟩ rfl rfl (Nat.le_of_ble_eq_true rfl) (Nat.le_of_ble_eq_true rfl) (Nat.le_of_ble_eq_true rfl) ?_
      rintro x45 I46 L47 ⟨o0x45, o1x45, p0x45, hI46, S48⟩
      have e49 := CM.k S48 (by decide) e42
      have e50 := CM.k S48 (by decide) e27
      have e52 := CM.k S48 (by decide) e35
      have gx45 := rg x45
      obtain ⟨x54, e55⟩ : ∃ x, I46 r0 16 = x := ⟨_, rfl⟩
      have gx54 := rg x54
      have ox54 := IM.f16 hI46 e55
      have hg := (CM.j0 S48 R_r0_1 (by decide)).trans hg
      try simp only [q44, e42, e27, e31, e35, e39, e55] at p0x45
      try have q0x45 := congrArg Int32.toInt p0x45
      refine b_if_eq C (t := 36) rfl rfl rfl (fun c56 => ?_) (fun c56 => ?_)
      · skip
        refine z_iconst C (z := 1) rfl rfl rfl (fun x57 ex57 => ?_)
        exact k_iret C rfl (Or.inr ⟨rfl, z01 (by omega) (by omega)⟩) (Nat.le_of_ble_eq_true rfl) (Nat.le_of_ble_eq_true rfl) ⟨_, _, _, rfl, rfl, by omega, by omega, fun a1 h1 => by cases (R_r0_1.symm.trans h1); first | (intro h; exfalso; omega) | (intro h; simp only [hg, hg0, e49, e50, e52, e55, k0_r0_15, k0_r0_16, k0_r0_19, k0_r0_12, k0_r0_13]; omega), fun a1 h1 => by cases (R_r0_1.symm.trans h1); first | (intro h; exfalso; omega) | (intro h; simp only [hg, e49, e50, e52, e55, k0_r0_15, k0_r0_16, k0_r0_19, k0_r0_12, k0_r0_13]; first | exact hPD | exact hP1 h | exact hP1 (by omega)), fun a1 h1 => by cases (R_r0_1.symm.trans h1); exact (fun r z0 => ((congrFun (CM.j0 S48 R_r0_1 (by decide)) r).trans ((F25 r z0).trans (F5 r z0)))), hI46, (CM.cons S4 (CM.cons S23 (CM.mono S48 (by decide) (by decide)) (by decide) (by decide)) (by decide) (by decide))⟩
      refine k_aload_n C rfl rfl rfl ?_
      refine c_VI C (hqProduct hI46 H_r0 (by first | omega | (simp only [hg, e49, e50, e52, e55] <;> omega)) (fun a1 h1 => by cases (R_r0_1.symm.trans h1); simp only [hg, e49, e50, e52, e55]; exact hPD) (fun a1 h1 => by cases (R_r0_1.symm.trans h1); first | omega | (simp only [hg, e49, e50, e52, e55] <;> omega))) rfl rfl rfl rfl rfl ⟨_, rfl, rfl, T_r0, Nat.le_of_ble_eq_true rfl⟩ rfl rfl (Nat.le_of_ble_eq_true rfl) (Nat.le_of_ble_eq_true rfl) (Nat.le_of_ble_eq_true rfl) ?_
      rintro x58 I59 L60 ⟨o0x58, o1x58, p0x58, p1x58, p2x58, hI59, S61⟩
      have p0x58 := p0x58 r0_1 R_r0_1
      have p1x58 := p1x58 r0_1 R_r0_1
      have p2x58 := p2x58 r0_1 R_r0_1
      have F62 : ∀ r : Nat, r < 3606 → I59 r0_1 r = I46 r0_1 r := fun r z0 => p2x58 r z0
      have e63 := CM.k S61 (by decide) e49
      have gx58 := rg x58
      obtain ⟨x67, e68⟩ : ∃ x, I59 r0 15 = x := ⟨_, rfl⟩
      have gx67 := rg x67
      have ox67 := IM.f15 hI59 e68
      obtain ⟨x69, e70⟩ : ∃ x, I59 r0 16 = x := ⟨_, rfl⟩
      have gx69 := rg x69
      have ox69 := IM.f16 hI59 e70
      obtain ⟨x71, e72⟩ : ∃ x, I59 r0 19 = x := ⟨_, rfl⟩
      have gx71 := rg x71
      obtain ⟨x73, e74⟩ : ∃ x, I59 r0 12 = x := ⟨_, rfl⟩
      have gx73 := rg x73
      have ox73 := IM.f12 hI59 e74
      obtain ⟨gS61, hgS61⟩ : ∃ g, I59 r0_1 = g := ⟨_, rfl⟩
      try simp only [e49, e50, e52, e55, e68, e70, e72, e74, hg, hgS61] at p0x58
      try have q0x58 := congrArg Int32.toInt p0x58
      try simp only [e49, e50, e52, e55, e68, e70, e72, e74, hg, hgS61] at p1x58
      try have q1x58 := congrArg Int32.toInt p1x58
      have hgo := hg
      have hg := hgS61
      have hP0 := p0x58
      have hP1 := p1x58
      refine b_if_eq C (t := 34) rfl rfl rfl (fun c75 => ?_) (fun c75 => ?_)
      · skip
        refine z_iconst C (z := 0) rfl rfl rfl (fun x76 ex76 => ?_)
        exact k_iret C rfl (Or.inr ⟨rfl, z01 (by omega) (by omega)⟩) (Nat.le_of_ble_eq_true rfl) (Nat.le_of_ble_eq_true rfl) ⟨_, _, _, rfl, rfl, by omega, by omega, fun a1 h1 => by cases (R_r0_1.symm.trans h1); first | (intro h; exfalso; omega) | (intro h; simp only [hg, hg0, e63, e68, e70, e72, e74, k0_r0_15, k0_r0_16, k0_r0_19, k0_r0_12, k0_r0_13]; omega), fun a1 h1 => by cases (R_r0_1.symm.trans h1); first | (intro h; exfalso; omega) | (intro h; simp only [hg, e63, e68, e70, e72, e74, k0_r0_15, k0_r0_16, k0_r0_19, k0_r0_12, k0_r0_13]; first | exact hPD | exact hP1 h | exact hP1 (by omega)), fun a1 h1 => by cases (R_r0_1.symm.trans h1); exact (fun r z0 => ((F62 r z0).trans ((congrFun (CM.j0 S48 R_r0_1 (by decide)) r).trans ((F25 r z0).trans (F5 r z0))))), hI59, (CM.cons S4 (CM.cons S23 (CM.cons S48 (CM.mono S61 (by decide) (by decide)) (by decide) (by decide)) (by decide) (by decide)) (by decide) (by decide))⟩
      have hPD := hP1 (by omega)
      have hPq := hP0 (by omega)
      refine k_aload_n C rfl rfl rfl ?_
      refine z_iconst C (z := 2) rfl rfl rfl (fun x77 ex77 => ?_)
      refine z_iconst C (z := 0) rfl rfl rfl (fun x78 ex78 => ?_)
      have q79 : x77.toNatClampNeg = 2 := nck (by omega)
      have q80 : x78.toNatClampNeg = 0 := nck (by omega)
      refine c_VI C (a_X12_emits hI59 H_r0 (by omega) (by omega) (by omega) (by omega) (by first | omega | (simp only [q79, q80, hg, e63, e68, e70, e72, e74] <;> omega)) (by first | omega | (simp only [q79, q80, hg, e63, e68, e70, e72, e74] <;> omega))) rfl rfl rfl rfl rfl ⟨_, rfl, rfl, T_r0, Nat.le_of_ble_eq_true rfl⟩ rfl rfl (Nat.le_of_ble_eq_true rfl) (Nat.le_of_ble_eq_true rfl) (Nat.le_of_ble_eq_true rfl) ?_
      rintro x81 I82 L83 ⟨o0x81, o1x81, p0x81, p1x81, p2x81, hI82, S84⟩
      have p0x81 := p0x81 r0_1 R_r0_1
      have p2x81 := p2x81 r0_1 R_r0_1
      have F85 : ∀ r : Nat, r < 3606 → I82 r0_1 r = I59 r0_1 r := fun r z0 => p2x81 r z0
      have e86 := CM.k S84 (by decide) e63
      have e87 := CM.k S84 (by decide) e68
      have e88 := CM.k S84 (by decide) e70
      have e90 := CM.k S84 (by decide) e74
      have gx81 := rg x81
      obtain ⟨x91, e92⟩ : ∃ x, I82 r0 19 = x := ⟨_, rfl⟩
      have gx91 := rg x91
      obtain ⟨gS84, hgS84⟩ : ∃ g, I82 r0_1 = g := ⟨_, rfl⟩
      try simp only [q79, q80, e63, e68, e70, e72, e74, e92, hg, hgS84] at p0x81
      try have q0x81 := congrArg Int32.toInt p0x81
      try simp only [q79, q80, e63, e68, e70, e72, e74, e92, hg, hgS84] at p1x81
      try have q1x81 := congrArg Int32.toInt p1x81
      have hgo := hg
      have hg := hgS84
      have hE := p0x81
      have hPD := PD.em hPD hE (by omega) (by omega) ⟨by omega, by omega⟩ ⟨by omega, by omega⟩ ⟨by omega, by omega⟩ (fun _ => by omega) (fun _ _ => by omega) (fun _ => by omega)
      have hHH := Hgt.e2 hE (by omega) (by omega) ⟨by omega, by omega⟩
      refine b_if_ne C (t := 9) rfl rfl rfl (fun c93 => ?_) (fun c93 => by exfalso; omega)
      refine k_sub S [(0, .ref r0)] (List.forall_mem_cons.mpr ⟨List.mem_of_getElem? (i := 0) rfl, fun _ h => nomatch h⟩) ?_
      exact ihJ19 _ (MN.lt hmnn20 (by omega) (by omega)) I82 L83 x67 x69 x91 x73 rfl hI82 (CM.cons S23 (CM.cons S48 (CM.cons S61 (CM.mono S84 (by decide) (by decide)) (by decide) (by decide)) (by decide) (by decide)) (by decide) (by decide)) (fun r z0 => ((F85 r z0).trans ((F62 r z0).trans ((congrFun (CM.j0 S48 R_r0_1 (by decide)) r).trans (F25 r z0))))) e87 (by omega) (by omega) e88 (by omega) (by omega) e92 (by omega) (by omega) e90 (by omega) (by omega) (by rw [hg]; exact hPD) (by omega) (by omega) (by rw [hg, hg0]; omega)
  refine b_if_ne C (t := 9) rfl rfl rfl (fun c94 => ?_) (fun c94 => ?_)
  · skip
    have hPD := hP1 (by omega)
    have hPq := hP0 (by omega)
    refine k_sub S [(0, .ref r0)] (List.forall_mem_cons.mpr ⟨List.mem_of_getElem? (i := 0) rfl, fun _ h => nomatch h⟩) ?_
    exact J19 _ I2 L3 x11 x13 x15 x17 rfl hI2 CM.rf (fun r z0 => rfl) e12 (by omega) (by omega) e14 (by omega) (by omega) e16 (by omega) (by omega) e18 (by omega) (by omega) (by rw [hg]; exact hPD) (by omega) (by omega) (by rw [hg, hg0]; omega)
  refine z_iconst C (z := 0) rfl rfl rfl (fun x95 ex95 => ?_)
  exact k_iret C rfl (Or.inr ⟨rfl, z01 (by omega) (by omega)⟩) (Nat.le_of_ble_eq_true rfl) (Nat.le_of_ble_eq_true rfl) ⟨_, _, _, rfl, rfl, by omega, by omega, fun a1 h1 => by cases (R_r0_1.symm.trans h1); first | (intro h; exfalso; omega) | (intro h; simp only [hg, hg0, e10, e12, e14, e16, e18, k0_r0_15, k0_r0_16, k0_r0_19, k0_r0_12, k0_r0_13]; omega), fun a1 h1 => by cases (R_r0_1.symm.trans h1); first | (intro h; exfalso; omega) | (intro h; simp only [hg, e10, e12, e14, e16, e18, k0_r0_15, k0_r0_16, k0_r0_19, k0_r0_12, k0_r0_13]; first | exact hPD | exact hP1 h | exact hP1 (by omega)), fun a1 h1 => by cases (R_r0_1.symm.trans h1); exact (fun r z0 => (F5 r z0)), hI2, (CM.mono S4 (by decide) (by decide))⟩

theorem a_X12_readUnit_6_c {d : Nat} : CR_Unit (d + 4) 6 0 := by
  intro T N I L R A r0 hI H_r0 hp0 hp1 hp2
  exact a_X12_readUnit_6 hI H_r0 hp0 hp1 hp2
theorem a_X12_readSum_6_c {d : Nat} : CR_Sum (d + 6) 6 0 := by
  intro T N I L R A r0 hI H_r0 hp0 hp1 hp2
  exact a_X12_readSum_6 hI H_r0 hp0 hp1 hp2
theorem a_X12_readOverlap_5_c {d : Nat} : CR_Overlap (d + 7) 5 0 := a_X12_readOverlap_g (d := d + 0) (lq := 5) (lq' := 6) (kq := 0) (by decide) (by decide) (by decide) (a_X12_readSum_6_c (d := d + 0))
theorem a_X12_readUnit_5_c {d : Nat} : CR_Unit (d + 8) 5 1 := a_X12_readUnit_g (d := d + 0) (lq := 5) (lq' := 6) (kq := 0) (by decide) (by decide) (by decide) (a_X12_readOverlap_5_c (d := d)) (a_X12_readSum_6_c (d := d + 1)) (a_X12_readUnit_6_c (d := d + 3))
theorem a_X12_readProduct_5_c {d : Nat} : CR_Product (d + 9) 5 1 := a_X12_readProduct_g (d := d + 0) (lq := 5) (mq := 1) (by decide) (by decide) (a_X12_readUnit_5_c (d := d))
theorem a_X12_readSum_5_c {d : Nat} : CR_Sum (d + 10) 5 1 := a_X12_readSum_g (d := d + 0) (lq := 5) (mq := 1) (by decide) (by decide) (a_X12_readProduct_5_c (d := d))
theorem a_X12_readOverlap_4_c {d : Nat} : CR_Overlap (d + 11) 4 1 := a_X12_readOverlap_g (d := d + 4) (lq := 4) (lq' := 5) (kq := 1) (by decide) (by decide) (by decide) (a_X12_readSum_5_c (d := d + 0))
theorem a_X12_readUnit_4_c {d : Nat} : CR_Unit (d + 12) 4 2 := a_X12_readUnit_g (d := d + 4) (lq := 4) (lq' := 5) (kq := 1) (by decide) (by decide) (by decide) (a_X12_readOverlap_4_c (d := d)) (a_X12_readSum_5_c (d := d + 1)) (a_X12_readUnit_5_c (d := d + 3))
theorem a_X12_readProduct_4_c {d : Nat} : CR_Product (d + 13) 4 2 := a_X12_readProduct_g (d := d + 4) (lq := 4) (mq := 2) (by decide) (by decide) (a_X12_readUnit_4_c (d := d))
theorem a_X12_readSum_4_c {d : Nat} : CR_Sum (d + 14) 4 2 := a_X12_readSum_g (d := d + 4) (lq := 4) (mq := 2) (by decide) (by decide) (a_X12_readProduct_4_c (d := d))
theorem a_X12_readOverlap_3_c {d : Nat} : CR_Overlap (d + 15) 3 2 := a_X12_readOverlap_g (d := d + 8) (lq := 3) (lq' := 4) (kq := 2) (by decide) (by decide) (by decide) (a_X12_readSum_4_c (d := d + 0))
theorem a_X12_readUnit_3_c {d : Nat} : CR_Unit (d + 16) 3 3 := a_X12_readUnit_g (d := d + 8) (lq := 3) (lq' := 4) (kq := 2) (by decide) (by decide) (by decide) (a_X12_readOverlap_3_c (d := d)) (a_X12_readSum_4_c (d := d + 1)) (a_X12_readUnit_4_c (d := d + 3))
theorem a_X12_readProduct_3_c {d : Nat} : CR_Product (d + 17) 3 3 := a_X12_readProduct_g (d := d + 8) (lq := 3) (mq := 3) (by decide) (by decide) (a_X12_readUnit_3_c (d := d))
theorem a_X12_readSum_3_c {d : Nat} : CR_Sum (d + 18) 3 3 := a_X12_readSum_g (d := d + 8) (lq := 3) (mq := 3) (by decide) (by decide) (a_X12_readProduct_3_c (d := d))
theorem a_X12_readOverlap_2_c {d : Nat} : CR_Overlap (d + 19) 2 3 := a_X12_readOverlap_g (d := d + 12) (lq := 2) (lq' := 3) (kq := 3) (by decide) (by decide) (by decide) (a_X12_readSum_3_c (d := d + 0))
theorem a_X12_readUnit_2_c {d : Nat} : CR_Unit (d + 20) 2 4 := a_X12_readUnit_g (d := d + 12) (lq := 2) (lq' := 3) (kq := 3) (by decide) (by decide) (by decide) (a_X12_readOverlap_2_c (d := d)) (a_X12_readSum_3_c (d := d + 1)) (a_X12_readUnit_3_c (d := d + 3))
theorem a_X12_readProduct_2_c {d : Nat} : CR_Product (d + 21) 2 4 := a_X12_readProduct_g (d := d + 12) (lq := 2) (mq := 4) (by decide) (by decide) (a_X12_readUnit_2_c (d := d))
theorem a_X12_readSum_2_c {d : Nat} : CR_Sum (d + 22) 2 4 := a_X12_readSum_g (d := d + 12) (lq := 2) (mq := 4) (by decide) (by decide) (a_X12_readProduct_2_c (d := d))
theorem a_X12_readOverlap_1_c {d : Nat} : CR_Overlap (d + 23) 1 4 := a_X12_readOverlap_g (d := d + 16) (lq := 1) (lq' := 2) (kq := 4) (by decide) (by decide) (by decide) (a_X12_readSum_2_c (d := d + 0))
theorem a_X12_readUnit_1_c {d : Nat} : CR_Unit (d + 24) 1 5 := a_X12_readUnit_g (d := d + 16) (lq := 1) (lq' := 2) (kq := 4) (by decide) (by decide) (by decide) (a_X12_readOverlap_1_c (d := d)) (a_X12_readSum_2_c (d := d + 1)) (a_X12_readUnit_2_c (d := d + 3))
theorem a_X12_readProduct_1_c {d : Nat} : CR_Product (d + 25) 1 5 := a_X12_readProduct_g (d := d + 16) (lq := 1) (mq := 5) (by decide) (by decide) (a_X12_readUnit_1_c (d := d))
theorem a_X12_readSum_1_c {d : Nat} : CR_Sum (d + 26) 1 5 := a_X12_readSum_g (d := d + 16) (lq := 1) (mq := 5) (by decide) (by decide) (a_X12_readProduct_1_c (d := d))
theorem a_X12_readOverlap_0_c {d : Nat} : CR_Overlap (d + 27) 0 5 := a_X12_readOverlap_g (d := d + 20) (lq := 0) (lq' := 1) (kq := 5) (by decide) (by decide) (by decide) (a_X12_readSum_1_c (d := d + 0))
theorem a_X12_readUnit_0_c {d : Nat} : CR_Unit (d + 28) 0 6 := a_X12_readUnit_g (d := d + 20) (lq := 0) (lq' := 1) (kq := 5) (by decide) (by decide) (by decide) (a_X12_readOverlap_0_c (d := d)) (a_X12_readSum_1_c (d := d + 1)) (a_X12_readUnit_1_c (d := d + 3))
theorem a_X12_readProduct_0_c {d : Nat} : CR_Product (d + 29) 0 6 := a_X12_readProduct_g (d := d + 20) (lq := 0) (mq := 6) (by decide) (by decide) (a_X12_readUnit_0_c (d := d))
theorem a_X12_readSum_0_c {d : Nat} : CR_Sum (d + 30) 0 6 := a_X12_readSum_g (d := d + 20) (lq := 0) (mq := 6) (by decide) (by decide) (a_X12_readProduct_0_c (d := d))
theorem a_X12_readSum_0 {d : Nat} {T N : Nat → Nat} {I : IT} {L : LT} {R : RT} {A : Nat → Prop} {r0 : Nat} (hI : IM R r0 I) (H_r0 : (h_MD T N R A) r0) (hp0 : (I r0 15).toInt = 0) (hp1 : ∀ a1, R r0 1 = some a1 → PD (I a1) (I r0 19).toInt) (hp2 : ∀ a1, R r0 1 = some a1 → 0 ≤ (I r0 19).toInt ∧ 0 ≤ Hgt (I a1) 3606 (I r0 19).toNatClampNeg ∧ Hgt (I a1) 3606 (I r0 19).toNatClampNeg ≤ (I r0 16).toInt ∧ (I r0 19).toInt + 4 * (40 - (I r0 16).toInt) + (6 - 0) ≤ 166) : Ex (d + 30) 228 [.ref r0] (T, N, I, L, R) 0 0 (pI T N R (fun x9 I9 L9 => (0 ≤ x9.toInt) ∧ (x9.toInt ≤ 1) ∧ (∀ a1, R r0 1 = some a1 → x9.toInt = 1 → (I9 r0 15).toInt = 0 ∧ (I r0 16).toInt + 1 ≤ (I9 r0 16).toInt ∧ 0 ≤ (I9 r0 19).toInt ∧ (I9 r0 19).toInt + 3 ≤ (I r0 19).toInt + 4 * ((I9 r0 16).toInt - (I r0 16).toInt) + (6 - 0) ∧ Hgt (I9 a1) 3606 (I9 r0 19).toNatClampNeg = Hgt (I a1) 3606 (I r0 19).toNatClampNeg + 1) ∧ (∀ a1, R r0 1 = some a1 → x9.toInt = 1 → PD (I9 a1) (I9 r0 19).toInt) ∧ (∀ a1, R r0 1 = some a1 → ∀ r : Nat, r < 3606 → I9 a1 r = I a1 r) ∧ (IM R r0 I9 ∧ CM A R r0 [12, 14, 15, 16, 19] [1] I L I9 L9))) := a_X12_readSum_0_c (d := d) hI H_r0 hp0 hp1 hp2
