/-! the reference: signs told, exactly -/
theorem a_X12_uses_x {d : Nat} {T N : Nat → Nat} {I : IT} {L : LT} {R : RT} {A : Nat → Prop} {r0 : Nat} (hI : IM R r0 I) (H_r0 : (h_MD T N R A) r0) : Ex (d + 1) 230 [.ref r0] (T, N, I, L, R) 0 0 (pV T N R (fun I9 L9 => ((I9 r0 13).toInt = (I r0 11).toInt) ∧ ((I9 r0 11).toInt = 0) ∧ ((I9 r0 0).toInt = 0) ∧ ((I9 r0 12).toInt = 0) ∧ (IM R r0 I9 ∧ CM A R r0 [0, 11, 12, 13] [] I L I9 L9))) := by
  refine ⟨_, rfl, Nat.le_of_ble_eq_true rfl, fun V C S => ?_⟩
  show V 0 [(0, .ref r0)] [] (T, N, I, L, R) 0 0
  obtain ⟨T_r0, A_r0, ⟨r0_1, R_r0_1, H_r0_1⟩, ⟨r0_2, R_r0_2, H_r0_2⟩, ⟨r0_4, R_r0_4, H_r0_4⟩, ⟨r0_5, R_r0_5, H_r0_5⟩, ⟨r0_10, R_r0_10, H_r0_10⟩, ⟨r0_18, R_r0_18, H_r0_18⟩, ⟨r0_20, R_r0_20, H_r0_20⟩, ⟨r0_21, R_r0_21, H_r0_21⟩, ⟨r0_22, R_r0_22, H_r0_22⟩, ⟨r0_23, R_r0_23, H_r0_23⟩, ⟨r0_25, R_r0_25, H_r0_25⟩, ⟨r0_26, R_r0_26, H_r0_26⟩, ⟨r0_27, R_r0_27, H_r0_27⟩, ⟨r0_28, R_r0_28, H_r0_28⟩, ⟨r0_34, R_r0_34, H_r0_34⟩, J_r0, Y_r0⟩ := id H_r0
  have G_r0 : mF T R r0 := ⟨J_r0, Y_r0, T_r0⟩
  obtain ⟨w_r0_11, k0_r0_11⟩ : ∃ x, I r0 11 = x := ⟨_, rfl⟩
  have gw_r0_11 := rg w_r0_11
  have ow_r0_11 := IM.f11 hI k0_r0_11
  refine k_aload_n C rfl rfl rfl ?_
  refine z_iconst C (z := 0) rfl rfl rfl (fun x1 ex1 => ?_)
  refine z_pI C rfl rfl rfl T_r0 (Or.inr rfl) rfl (fun I2 uI2 => ?_)
  have hI2 : IM R r0 I2 := IM.fld hI G_r0 ⟨(fun h => absurd h (by decide)), (fun h => absurd h (by decide)), (fun h => absurd h (by decide)), (fun h => absurd h (by decide)), (fun h => absurd h (by decide))⟩ uI2
  have S3 : CM A R r0 [0] [] I L I2 L := CM.f G_r0 A_r0 uI2
  have e4 := u2_j uI2 (by first | decide | exact ncne (by omega) (by omega) (by omega) | exact nckn (by omega) (by omega) | exact (nckn (by omega) (by omega)).symm) k0_r0_11
  have e5 := u2_e uI2
  refine k_aload_n C rfl rfl rfl ?_
  refine k_aload_n C rfl rfl rfl ?_
  refine g_I C rfl rfl rfl T_r0 rfl e4 ?_
  refine z_pI C rfl rfl rfl T_r0 (Or.inr rfl) rfl (fun I6 uI6 => ?_)
  have hI6 : IM R r0 I6 := IM.fld hI2 G_r0 ⟨(fun _ => ⟨by omega, by omega⟩), (fun h => absurd h (by decide)), (fun h => absurd h (by decide)), (fun h => absurd h (by decide)), (fun h => absurd h (by decide))⟩ uI6
  have S7 : CM A R r0 [13] [] I2 L I6 L := CM.f G_r0 A_r0 uI6
  have e8 := u2_j uI6 (by first | decide | exact ncne (by omega) (by omega) (by omega) | exact nckn (by omega) (by omega) | exact (nckn (by omega) (by omega)).symm) e4
  have e9 := u2_j uI6 (by first | decide | exact ncne (by omega) (by omega) (by omega) | exact nckn (by omega) (by omega) | exact (nckn (by omega) (by omega)).symm) e5
  have e10 := u2_e uI6
  refine k_aload_n C rfl rfl rfl ?_
  refine z_iconst C (z := 0) rfl rfl rfl (fun x11 ex11 => ?_)
  refine z_pI C rfl rfl rfl T_r0 (Or.inr rfl) rfl (fun I12 uI12 => ?_)
  have hI12 : IM R r0 I12 := IM.fld hI6 G_r0 ⟨(fun _ => ⟨by omega, by omega⟩), (fun h => absurd h (by decide)), (fun h => absurd h (by decide)), (fun h => absurd h (by decide)), (fun h => absurd h (by decide))⟩ uI12
  have S13 : CM A R r0 [11] [] I6 L I12 L := CM.f G_r0 A_r0 uI12
  have e15 := u2_j uI12 (by first | decide | exact ncne (by omega) (by omega) (by omega) | exact nckn (by omega) (by omega) | exact (nckn (by omega) (by omega)).symm) e9
  have e16 := u2_j uI12 (by first | decide | exact ncne (by omega) (by omega) (by omega) | exact nckn (by omega) (by omega) | exact (nckn (by omega) (by omega)).symm) e10
  have e17 := u2_e uI12
  refine k_aload_n C rfl rfl rfl ?_
  refine z_iconst C (z := 0) rfl rfl rfl (fun x18 ex18 => ?_)
  refine z_pI C rfl rfl rfl T_r0 (Or.inr rfl) rfl (fun I19 uI19 => ?_)
  have hI19 : IM R r0 I19 := IM.fld hI12 G_r0 ⟨(fun _ => ⟨by omega, by omega⟩), (fun h => absurd h (by decide)), (fun h => absurd h (by decide)), (fun h => absurd h (by decide)), (fun h => absurd h (by decide))⟩ uI19
  have S20 : CM A R r0 [12] [] I12 L I19 L := CM.f G_r0 A_r0 uI19
  have e21 := u2_j uI19 (by first | decide | exact ncne (by omega) (by omega) (by omega) | exact nckn (by omega) (by omega) | exact (nckn (by omega) (by omega)).symm) e15
  have e22 := u2_j uI19 (by first | decide | exact ncne (by omega) (by omega) (by omega) | exact nckn (by omega) (by omega) | exact (nckn (by omega) (by omega)).symm) e16
  have e23 := u2_j uI19 (by first | decide | exact ncne (by omega) (by omega) (by omega) | exact nckn (by omega) (by omega) | exact (nckn (by omega) (by omega)).symm) e17
  have e24 := u2_e uI19
  exact k_vret C rfl rfl (Nat.le_of_ble_eq_true rfl) (Nat.le_of_ble_eq_true rfl) ⟨_, _, rfl, rfl, by first | omega | (simp only [e21, e22, e23, e24, k0_r0_11, and_true, true_and, or_true, true_or, and_false, false_and, or_false, false_or] <;> omega), by first | omega | (simp only [e21, e22, e23, e24, k0_r0_11, and_true, true_and, or_true, true_or, and_false, false_and, or_false, false_or] <;> omega), by first | omega | (simp only [e21, e22, e23, e24, k0_r0_11, and_true, true_and, or_true, true_or, and_false, false_and, or_false, false_or] <;> omega), by first | omega | (simp only [e21, e22, e23, e24, k0_r0_11, and_true, true_and, or_true, true_or, and_false, false_and, or_false, false_or] <;> omega), hI19, (CM.cons S3 (CM.cons S7 (CM.cons S13 (CM.mono S20 (by decide) (by decide)) (by decide) (by decide)) (by decide) (by decide)) (by decide) (by decide))⟩

set_option maxHeartbeats 8000000 in
theorem a_X12_signs_x {d : Nat} {T N : Nat → Nat} {I : IT} {L : LT} {R : RT} {A : Nat → Prop} {r0 : Nat} (hI : IM R r0 I) (H_r0 : (h_MD T N R A) r0) (hp0 : ∀ a10, R r0 10 = some a10 → TBY (I a10)) : Ex (d + 31) 231 [.ref r0] (T, N, I, L, R) 0 0 (pI T N R (fun x9 I9 L9 => (0 ≤ x9.toInt) ∧ (x9.toInt ≤ 8) ∧ (∀ a1, R r0 1 = some a1 → (I a1 4).toInt + (I a1 5).toInt ≤ 40 → (I9 a1 4).toInt + (I9 a1 5).toInt ≤ 40) ∧ ((I9 r0 11).toInt = 0) ∧ (∀ a1, R r0 1 = some a1 → (I9 a1 0).toInt = (I a1 0).toInt) ∧ (∀ a1, R r0 1 = some a1 → (I9 a1 1).toInt = (I a1 1).toInt) ∧ (∀ a1, R r0 1 = some a1 → (I9 a1 2).toInt = (I a1 2).toInt) ∧ (∀ a1 a10, R r0 1 = some a1 → R r0 10 = some a10 → SIG9 (I9 a1) (I a1) (I9 r0 0).toInt x9.toInt (RDA 200 (BCM (I a10) (I r0 11).toInt))) ∧ (IM R r0 I9 ∧ CM A R r0 [0, 11, 12, 13, 14, 15, 16, 17, 19] [1] I L I9 L9))) := by
  refine ⟨_, rfl, Nat.le_of_ble_eq_true rfl, fun V C S => ?_⟩
  show V 0 [(0, .ref r0)] [] (T, N, I, L, R) 0 0
  obtain ⟨T_r0, A_r0, ⟨r0_1, R_r0_1, H_r0_1⟩, ⟨r0_2, R_r0_2, H_r0_2⟩, ⟨r0_4, R_r0_4, H_r0_4⟩, ⟨r0_5, R_r0_5, H_r0_5⟩, ⟨r0_10, R_r0_10, H_r0_10⟩, ⟨r0_18, R_r0_18, H_r0_18⟩, ⟨r0_20, R_r0_20, H_r0_20⟩, ⟨r0_21, R_r0_21, H_r0_21⟩, ⟨r0_22, R_r0_22, H_r0_22⟩, ⟨r0_23, R_r0_23, H_r0_23⟩, ⟨r0_25, R_r0_25, H_r0_25⟩, ⟨r0_26, R_r0_26, H_r0_26⟩, ⟨r0_27, R_r0_27, H_r0_27⟩, ⟨r0_28, R_r0_28, H_r0_28⟩, ⟨r0_34, R_r0_34, H_r0_34⟩, J_r0, Y_r0⟩ := id H_r0
  have G_r0 : mF T R r0 := ⟨J_r0, Y_r0, T_r0⟩
  obtain ⟨w_r0_1_0, k0_r0_1_0⟩ : ∃ x, I r0_1 0 = x := ⟨_, rfl⟩
  have gw_r0_1_0 := rg w_r0_1_0
  have ow_r0_1_0 := IM.pi hI R_r0_1 k0_r0_1_0
  obtain ⟨w_r0_1_1, k0_r0_1_1⟩ : ∃ x, I r0_1 1 = x := ⟨_, rfl⟩
  have gw_r0_1_1 := rg w_r0_1_1
  have ow_r0_1_1 := IM.c1 hI R_r0_1 k0_r0_1_1
  obtain ⟨w_r0_1_2, k0_r0_1_2⟩ : ∃ x, I r0_1 2 = x := ⟨_, rfl⟩
  have gw_r0_1_2 := rg w_r0_1_2
  have ow_r0_1_2 := IM.c2 hI R_r0_1 k0_r0_1_2
  obtain ⟨w_r0_1_3, k0_r0_1_3⟩ : ∃ x, I r0_1 3 = x := ⟨_, rfl⟩
  have gw_r0_1_3 := rg w_r0_1_3
  have ow_r0_1_3 := IM.c3 hI R_r0_1 k0_r0_1_3
  obtain ⟨w_r0_1_4, k0_r0_1_4⟩ : ∃ x, I r0_1 4 = x := ⟨_, rfl⟩
  have gw_r0_1_4 := rg w_r0_1_4
  have ow_r0_1_4 := IM.c4 hI R_r0_1 k0_r0_1_4
  obtain ⟨w_r0_1_5, k0_r0_1_5⟩ : ∃ x, I r0_1 5 = x := ⟨_, rfl⟩
  have gw_r0_1_5 := rg w_r0_1_5
  have ow_r0_1_5 := IM.c5 hI R_r0_1 k0_r0_1_5
  obtain ⟨w_r0_3, k0_r0_3⟩ : ∃ x, I r0 3 = x := ⟨_, rfl⟩
  have gw_r0_3 := rg w_r0_3
  obtain ⟨w_r0_11, k0_r0_11⟩ : ∃ x, I r0 11 = x := ⟨_, rfl⟩
  have gw_r0_11 := rg w_r0_11
  have ow_r0_11 := IM.f11 hI k0_r0_11
  obtain ⟨w_r0_12, k0_r0_12⟩ : ∃ x, I r0 12 = x := ⟨_, rfl⟩
  have gw_r0_12 := rg w_r0_12
  have ow_r0_12 := IM.f12 hI k0_r0_12
  obtain ⟨w_r0_13, k0_r0_13⟩ : ∃ x, I r0 13 = x := ⟨_, rfl⟩
  have gw_r0_13 := rg w_r0_13
  have ow_r0_13 := IM.f13 hI k0_r0_13
  obtain ⟨w_r0_16, k0_r0_16⟩ : ∃ x, I r0 16 = x := ⟨_, rfl⟩
  have gw_r0_16 := rg w_r0_16
  have ow_r0_16 := IM.f16 hI k0_r0_16
  obtain ⟨w_r0_19, k0_r0_19⟩ : ∃ x, I r0 19 = x := ⟨_, rfl⟩
  have gw_r0_19 := rg w_r0_19
  have hp0 := hp0 r0_10 R_r0_10
  obtain ⟨g0, hg0⟩ : ∃ g, I r0_1 = g := ⟨_, rfl⟩
  have hg := hg0
  try simp only [hg0, k0_r0_1_0, k0_r0_1_1, k0_r0_1_2, k0_r0_1_3, k0_r0_1_4, k0_r0_1_5, k0_r0_3, k0_r0_11, k0_r0_12, k0_r0_13, k0_r0_16, k0_r0_19] at hp0
  have hTB := hp0
  obtain ⟨cc, hcc⟩ : ∃ c, BCM (I r0_10) w_r0_11.toInt = c := ⟨_, rfl⟩
  have hc40 : C40 cc := by rw [← hcc]; exact BCM.c40 (by omega)
  refine k_aload_n C rfl rfl rfl ?_
  refine c_VV C (a_X12_uses_x hI H_r0) rfl rfl rfl rfl rfl ⟨_, rfl, rfl, T_r0, Nat.le_of_ble_eq_true rfl⟩ rfl rfl (Nat.le_of_ble_eq_true rfl) (Nat.le_of_ble_eq_true rfl) (Nat.le_of_ble_eq_true rfl) ?_
  rintro I2 L3 ⟨p0v1, p1v1, p2v1, p3v1, hI2, S4⟩
  have e5 := CM.j S4 R_r0_1 (by decide) k0_r0_1_0
  have e6 := CM.j S4 R_r0_1 (by decide) k0_r0_1_1
  have e7 := CM.j S4 R_r0_1 (by decide) k0_r0_1_2
  have e8 := CM.j S4 R_r0_1 (by decide) k0_r0_1_3
  have e9 := CM.j S4 R_r0_1 (by decide) k0_r0_1_4
  have e10 := CM.j S4 R_r0_1 (by decide) k0_r0_1_5
  have e11 := CM.k S4 (by decide) k0_r0_3
  have e15 := CM.k S4 (by decide) k0_r0_16
  have e16 := CM.k S4 (by decide) k0_r0_19
  obtain ⟨x17, e18⟩ : ∃ x, I2 r0 13 = x := ⟨_, rfl⟩
  have gx17 := rg x17
  have ox17 := IM.f13 hI2 e18
  obtain ⟨x19, e20⟩ : ∃ x, I2 r0 12 = x := ⟨_, rfl⟩
  have gx19 := rg x19
  have ox19 := IM.f12 hI2 e20
  obtain ⟨x21, e22⟩ : ∃ x, I2 r0 11 = x := ⟨_, rfl⟩
  have gx21 := rg x21
  have ox21 := IM.f11 hI2 e22
  obtain ⟨x23, e24⟩ : ∃ x, I2 r0 0 = x := ⟨_, rfl⟩
  have gx23 := rg x23
  have hg := (CM.j0 S4 R_r0_1 (by decide)).trans hg
  try simp only [k0_r0_1_0, k0_r0_1_1, k0_r0_1_2, k0_r0_1_3, k0_r0_1_4, k0_r0_1_5, k0_r0_3, k0_r0_11, k0_r0_12, k0_r0_13, k0_r0_16, k0_r0_19, e18, e20, e22, e24] at p0v1
  try have q0v1 := congrArg Int32.toInt p0v1
  try simp only [k0_r0_1_0, k0_r0_1_1, k0_r0_1_2, k0_r0_1_3, k0_r0_1_4, k0_r0_1_5, k0_r0_3, k0_r0_11, k0_r0_12, k0_r0_13, k0_r0_16, k0_r0_19, e18, e20, e22, e24] at p1v1
  try have q1v1 := congrArg Int32.toInt p1v1
  try simp only [k0_r0_1_0, k0_r0_1_1, k0_r0_1_2, k0_r0_1_3, k0_r0_1_4, k0_r0_1_5, k0_r0_3, k0_r0_11, k0_r0_12, k0_r0_13, k0_r0_16, k0_r0_19, e18, e20, e22, e24] at p2v1
  try have q2v1 := congrArg Int32.toInt p2v1
  try simp only [k0_r0_1_0, k0_r0_1_1, k0_r0_1_2, k0_r0_1_3, k0_r0_1_4, k0_r0_1_5, k0_r0_3, k0_r0_11, k0_r0_12, k0_r0_13, k0_r0_16, k0_r0_19, e18, e20, e22, e24] at p3v1
  try have q3v1 := congrArg Int32.toInt p3v1
  refine k_aload_n C rfl rfl rfl ?_
  refine z_iconst C (z := 0) rfl rfl rfl (fun x25 ex25 => ?_)
  refine z_pI C rfl rfl rfl T_r0 (Or.inr rfl) rfl (fun I26 uI26 => ?_)
  have hI26 : IM R r0 I26 := IM.fld hI2 G_r0 ⟨(fun h => absurd h (by decide)), (fun _ => ⟨by omega, by omega⟩), (fun h => absurd h (by decide)), (fun h => absurd h (by decide)), (fun h => absurd h (by decide))⟩ uI26
  have S27 : CM A R r0 [15] [] I2 L3 I26 L3 := CM.f G_r0 A_r0 uI26
  have e28 := u2_n uI26 (mF.ne G_r0 R_r0_1) e5
  have e29 := u2_n uI26 (mF.ne G_r0 R_r0_1) e6
  have e30 := u2_n uI26 (mF.ne G_r0 R_r0_1) e7
  have e31 := u2_n uI26 (mF.ne G_r0 R_r0_1) e8
  have e32 := u2_n uI26 (mF.ne G_r0 R_r0_1) e9
  have e33 := u2_n uI26 (mF.ne G_r0 R_r0_1) e10
  have e34 := u2_j uI26 (by first | decide | exact ncne (by omega) (by omega) (by omega) | exact nckn (by omega) (by omega) | exact (nckn (by omega) (by omega)).symm) e11
  have e35 := u2_j uI26 (by first | decide | exact ncne (by omega) (by omega) (by omega) | exact nckn (by omega) (by omega) | exact (nckn (by omega) (by omega)).symm) e15
  have e36 := u2_j uI26 (by first | decide | exact ncne (by omega) (by omega) (by omega) | exact nckn (by omega) (by omega) | exact (nckn (by omega) (by omega)).symm) e16
  have e37 := u2_j uI26 (by first | decide | exact ncne (by omega) (by omega) (by omega) | exact nckn (by omega) (by omega) | exact (nckn (by omega) (by omega)).symm) e18
  have e38 := u2_j uI26 (by first | decide | exact ncne (by omega) (by omega) (by omega) | exact nckn (by omega) (by omega) | exact (nckn (by omega) (by omega)).symm) e20
  have e39 := u2_j uI26 (by first | decide | exact ncne (by omega) (by omega) (by omega) | exact nckn (by omega) (by omega) | exact (nckn (by omega) (by omega)).symm) e22
  have e40 := u2_j uI26 (by first | decide | exact ncne (by omega) (by omega) (by omega) | exact nckn (by omega) (by omega) | exact (nckn (by omega) (by omega)).symm) e24
  have e41 := u2_e uI26
  have hg := (CM.j0 S27 R_r0_1 (by decide)).trans hg
  refine k_aload_n C rfl rfl rfl ?_
  refine z_iconst C (z := 0) rfl rfl rfl (fun x42 ex42 => ?_)
  refine z_pI C rfl rfl rfl T_r0 (Or.inr rfl) rfl (fun I43 uI43 => ?_)
  have hI43 : IM R r0 I43 := IM.fld hI26 G_r0 ⟨(fun h => absurd h (by decide)), (fun h => absurd h (by decide)), (fun _ => ⟨by omega, by omega⟩), (fun h => absurd h (by decide)), (fun h => absurd h (by decide))⟩ uI43
  have S44 : CM A R r0 [16] [] I26 L3 I43 L3 := CM.f G_r0 A_r0 uI43
  have e45 := u2_n uI43 (mF.ne G_r0 R_r0_1) e28
  have e46 := u2_n uI43 (mF.ne G_r0 R_r0_1) e29
  have e47 := u2_n uI43 (mF.ne G_r0 R_r0_1) e30
  have e48 := u2_n uI43 (mF.ne G_r0 R_r0_1) e31
  have e49 := u2_n uI43 (mF.ne G_r0 R_r0_1) e32
  have e50 := u2_n uI43 (mF.ne G_r0 R_r0_1) e33
  have e51 := u2_j uI43 (by first | decide | exact ncne (by omega) (by omega) (by omega) | exact nckn (by omega) (by omega) | exact (nckn (by omega) (by omega)).symm) e34
  have e53 := u2_j uI43 (by first | decide | exact ncne (by omega) (by omega) (by omega) | exact nckn (by omega) (by omega) | exact (nckn (by omega) (by omega)).symm) e36
  have e54 := u2_j uI43 (by first | decide | exact ncne (by omega) (by omega) (by omega) | exact nckn (by omega) (by omega) | exact (nckn (by omega) (by omega)).symm) e37
  have e55 := u2_j uI43 (by first | decide | exact ncne (by omega) (by omega) (by omega) | exact nckn (by omega) (by omega) | exact (nckn (by omega) (by omega)).symm) e38
  have e56 := u2_j uI43 (by first | decide | exact ncne (by omega) (by omega) (by omega) | exact nckn (by omega) (by omega) | exact (nckn (by omega) (by omega)).symm) e39
  have e57 := u2_j uI43 (by first | decide | exact ncne (by omega) (by omega) (by omega) | exact nckn (by omega) (by omega) | exact (nckn (by omega) (by omega)).symm) e40
  have e58 := u2_j uI43 (by first | decide | exact ncne (by omega) (by omega) (by omega) | exact nckn (by omega) (by omega) | exact (nckn (by omega) (by omega)).symm) e41
  have e59 := u2_e uI43
  have hg := (CM.j0 S44 R_r0_1 (by decide)).trans hg
  refine k_aload_n C rfl rfl rfl ?_
  refine z_iconst C (z := 0) rfl rfl rfl (fun x60 ex60 => ?_)
  refine z_pI C rfl rfl rfl T_r0 (Or.inr rfl) rfl (fun I61 uI61 => ?_)
  have hI61 : IM R r0 I61 := IM.fld hI43 G_r0 ⟨(fun h => absurd h (by decide)), (fun h => absurd h (by decide)), (fun h => absurd h (by decide)), (fun h => absurd h (by decide)), (fun h => absurd h (by decide))⟩ uI61
  have S62 : CM A R r0 [19] [] I43 L3 I61 L3 := CM.f G_r0 A_r0 uI61
  have e63 := u2_n uI61 (mF.ne G_r0 R_r0_1) e45
  have e64 := u2_n uI61 (mF.ne G_r0 R_r0_1) e46
  have e65 := u2_n uI61 (mF.ne G_r0 R_r0_1) e47
  have e66 := u2_n uI61 (mF.ne G_r0 R_r0_1) e48
  have e67 := u2_n uI61 (mF.ne G_r0 R_r0_1) e49
  have e68 := u2_n uI61 (mF.ne G_r0 R_r0_1) e50
  have e69 := u2_j uI61 (by first | decide | exact ncne (by omega) (by omega) (by omega) | exact nckn (by omega) (by omega) | exact (nckn (by omega) (by omega)).symm) e51
  have e71 := u2_j uI61 (by first | decide | exact ncne (by omega) (by omega) (by omega) | exact nckn (by omega) (by omega) | exact (nckn (by omega) (by omega)).symm) e54
  have e72 := u2_j uI61 (by first | decide | exact ncne (by omega) (by omega) (by omega) | exact nckn (by omega) (by omega) | exact (nckn (by omega) (by omega)).symm) e55
  have e73 := u2_j uI61 (by first | decide | exact ncne (by omega) (by omega) (by omega) | exact nckn (by omega) (by omega) | exact (nckn (by omega) (by omega)).symm) e56
  have e74 := u2_j uI61 (by first | decide | exact ncne (by omega) (by omega) (by omega) | exact nckn (by omega) (by omega) | exact (nckn (by omega) (by omega)).symm) e57
  have e75 := u2_j uI61 (by first | decide | exact ncne (by omega) (by omega) (by omega) | exact nckn (by omega) (by omega) | exact (nckn (by omega) (by omega)).symm) e58
  have e76 := u2_j uI61 (by first | decide | exact ncne (by omega) (by omega) (by omega) | exact nckn (by omega) (by omega) | exact (nckn (by omega) (by omega)).symm) e59
  have e77 := u2_e uI61
  have hg := (CM.j0 S62 R_r0_1 (by decide)).trans hg
  refine k_aload_n C rfl rfl rfl ?_
  have w20 := (CM.j0 (I := I) (L := L) (I' := I61) (L' := L3) (A := A) (W := [0, 11, 12, 13, 14, 15, 16, 17, 19]) (WA := [1]) (CM.cons S4 (CM.cons S27 (CM.cons S44 (CM.mono S62 (by decide) (by decide)) (by decide) (by decide)) (by decide) (by decide)) (by decide) (by decide)) R_r0_10 (by decide))
  have w119 := CM.j0 (W := [0, 11, 12, 13, 15, 16, 19]) (WA := []) (CM.cons S4 (CM.cons S27 (CM.cons S44 (CM.mono S62 (by decide) (by decide)) (by decide) (by decide)) (by decide) (by decide)) (by decide) (by decide)) R_r0_1 (by decide)
  have hs19 := RDM.z0 (I := I61) (m := r0) (w := r0_1) (by rw [e72]; omega) (by rw [e76]; omega) (by rw [e77]; omega)
  have he20 : x17.toInt = w_r0_11.toInt := by omega
  refine c_VI C (a_X12_readSum_0_x hI61 H_r0 (by first | omega | (simp only [hg, e63, e64, e65, e66, e67, e68, e69, e71, e72, e73, e74, e75, e76, e77, and_true, true_and, or_true, true_or, and_false, false_and, or_false, false_or] <;> omega)) (fun a1 h1 => by cases (R_r0_1.symm.trans h1); simp only [hg, e63, e64, e65, e66, e67, e68, e69, e71, e72, e73, e74, e75, e76, e77]; exact PD.z (by omega)) (fun a1 h1 => by cases (R_r0_1.symm.trans h1); simp only [hg, e63, e64, e65, e66, e67, e68, e69, e71, e72, e73, e74, e75, e76, e77]; (have hz := Hgt.z (g := g0) (x := x60) (by omega)); omega) (fun a10 h10 => by cases (R_r0_10.symm.trans h10); rw [(CM.j0 (I := I) (L := L) (I' := I61) (L' := L3) (A := A) (W := [0, 11, 12, 13, 14, 15, 16, 17, 19]) (WA := [1]) (CM.cons S4 (CM.cons S27 (CM.cons S44 (CM.mono S62 (by decide) (by decide)) (by decide) (by decide)) (by decide) (by decide)) (by decide) (by decide)) R_r0_10 (by decide))]; exact hTB)) rfl rfl rfl rfl rfl ⟨_, rfl, rfl, T_r0, Nat.le_of_ble_eq_true rfl⟩ rfl rfl (Nat.le_of_ble_eq_true rfl) (Nat.le_of_ble_eq_true rfl) (Nat.le_of_ble_eq_true rfl) ?_
  rintro x78 I79 L80 ⟨o0x78, o1x78, p0x78, p1x78, p2x78, p3x78, p4x78, hI79, S81⟩
  have p0x78 := p0x78 r0_1 R_r0_1
  have p1x78 := p1x78 r0_1 R_r0_1
  have p2x78 := p2x78 r0_1 r0_10 R_r0_1 R_r0_10
  have p4x78 := p4x78 r0_1 R_r0_1
  have e82 := (p4x78 0 (by decide)).trans e63
  have e83 := (p4x78 1 (by decide)).trans e64
  have e84 := (p4x78 2 (by decide)).trans e65
  have e85 := (p4x78 3 (by decide)).trans e66
  have e86 := (p4x78 4 (by decide)).trans e67
  have e87 := (p4x78 5 (by decide)).trans e68
  have e88 := CM.k S81 (by decide) e69
  have e89 := CM.k S81 (by decide) e71
  have e91 := CM.k S81 (by decide) e73
  have e92 := CM.k S81 (by decide) e74
  have gx78 := rg x78
  obtain ⟨x96, e97⟩ : ∃ x, I79 r0 15 = x := ⟨_, rfl⟩
  have gx96 := rg x96
  have ox96 := IM.f15 hI79 e97
  obtain ⟨x98, e99⟩ : ∃ x, I79 r0 16 = x := ⟨_, rfl⟩
  have gx98 := rg x98
  have ox98 := IM.f16 hI79 e99
  obtain ⟨x100, e101⟩ : ∃ x, I79 r0 19 = x := ⟨_, rfl⟩
  have gx100 := rg x100
  obtain ⟨x102, e103⟩ : ∃ x, I79 r0 12 = x := ⟨_, rfl⟩
  have gx102 := rg x102
  have ox102 := IM.f12 hI79 e103
  obtain ⟨gS81, hgS81⟩ : ∃ g, I79 r0_1 = g := ⟨_, rfl⟩
  try simp only [e63, e64, e65, e66, e67, e68, e69, e71, e72, e73, e74, e75, e76, e77, e97, e99, e101, e103, hg, hgS81] at p0x78
  try have q0x78 := congrArg Int32.toInt p0x78
  try simp only [e63, e64, e65, e66, e67, e68, e69, e71, e72, e73, e74, e75, e76, e77, e97, e99, e101, e103, hg, hgS81] at p1x78
  try have q1x78 := congrArg Int32.toInt p1x78
  try simp only [e63, e64, e65, e66, e67, e68, e69, e71, e72, e73, e74, e75, e76, e77, e97, e99, e101, e103, hg, hgS81] at p2x78
  try have q2x78 := congrArg Int32.toInt p2x78
  try simp only [e63, e64, e65, e66, e67, e68, e69, e71, e72, e73, e74, e75, e76, e77, e97, e99, e101, e103, hg, hgS81] at p3x78
  try have q3x78 := congrArg Int32.toInt p3x78
  have hgo := hg
  have hg := hgS81
  have hP0 := p0x78
  have hP1 := p1x78
  have h20 := p2x78
  have hfr20 := p4x78
  (try rw [w20] at h20)
  (try rw [he20] at h20)
  rw [hcc, hs19] at h20
  have hg20 := hg
  obtain ⟨t20, ht20⟩ : ∃ t, RDM I79 r0 r0_1 = t := ⟨_, rfl⟩
  rw [ht20] at h20
  have hw20 := RDM.l ht20 e101 rfl
  refine k_istore_n C (lw := [(1, .int x78), (0, .ref r0)]) rfl rfl (Nat.le_of_ble_eq_true rfl) rfl ?_
  refine k_iload_n C rfl rfl rfl ?_
  refine b_if_eq C (t := 49) rfl rfl rfl (fun c104 => ?_) (fun c104 => ?_)
  · skip
    have hZ : RDA 200 cc = none := RDA.n0 (h20.no (by omega)) rfl
    refine k_aload_n C rfl rfl rfl ?_
    refine k_iload_n C rfl rfl rfl ?_
    refine b_if_eq C (t := 58) rfl rfl rfl (fun c105 => ?_) (fun c105 => by exfalso; omega)
    refine k_aload_n C rfl rfl rfl ?_
    refine z_gI C rfl rfl rfl T_r0 rfl (fun x106 ex106 => ?_)
    have gx106 := rg x106
    have ox106 := IM.f14 hI79 ex106
    refine z_pI C rfl rfl rfl T_r0 (Or.inr rfl) rfl (fun I107 uI107 => ?_)
    have hI107 : IM R r0 I107 := IM.fld hI79 G_r0 ⟨(fun h => absurd h (by decide)), (fun h => absurd h (by decide)), (fun h => absurd h (by decide)), (fun h => absurd h (by decide)), (fun h => absurd h (by decide))⟩ uI107
    have S108 : CM A R r0 [17] [] I79 L80 I107 L80 := CM.f G_r0 A_r0 uI107
    have e109 := u2_n uI107 (mF.ne G_r0 R_r0_1) e82
    have e110 := u2_n uI107 (mF.ne G_r0 R_r0_1) e83
    have e111 := u2_n uI107 (mF.ne G_r0 R_r0_1) e84
    have e112 := u2_n uI107 (mF.ne G_r0 R_r0_1) e85
    have e113 := u2_n uI107 (mF.ne G_r0 R_r0_1) e86
    have e114 := u2_n uI107 (mF.ne G_r0 R_r0_1) e87
    have e115 := u2_j uI107 (by first | decide | exact ncne (by omega) (by omega) (by omega) | exact nckn (by omega) (by omega) | exact (nckn (by omega) (by omega)).symm) e88
    have e116 := u2_j uI107 (by first | decide | exact ncne (by omega) (by omega) (by omega) | exact nckn (by omega) (by omega) | exact (nckn (by omega) (by omega)).symm) e89
    have e117 := u2_j uI107 (by first | decide | exact ncne (by omega) (by omega) (by omega) | exact nckn (by omega) (by omega) | exact (nckn (by omega) (by omega)).symm) e91
    have e118 := u2_j uI107 (by first | decide | exact ncne (by omega) (by omega) (by omega) | exact nckn (by omega) (by omega) | exact (nckn (by omega) (by omega)).symm) e92
    have e119 := u2_j uI107 (by first | decide | exact ncne (by omega) (by omega) (by omega) | exact nckn (by omega) (by omega) | exact (nckn (by omega) (by omega)).symm) e97
    have e120 := u2_j uI107 (by first | decide | exact ncne (by omega) (by omega) (by omega) | exact nckn (by omega) (by omega) | exact (nckn (by omega) (by omega)).symm) e99
    have e121 := u2_j uI107 (by first | decide | exact ncne (by omega) (by omega) (by omega) | exact nckn (by omega) (by omega) | exact (nckn (by omega) (by omega)).symm) e101
    have e122 := u2_j uI107 (by first | decide | exact ncne (by omega) (by omega) (by omega) | exact nckn (by omega) (by omega) | exact (nckn (by omega) (by omega)).symm) e103
    have e123 := u2_j uI107 (by first | decide | exact ncne (by omega) (by omega) (by omega) | exact nckn (by omega) (by omega) | exact (nckn (by omega) (by omega)).symm) ex106
    have e124 := u2_e uI107
    have hg := (CM.j0 S108 R_r0_1 (by decide)).trans hg
    refine k_aload_n C rfl rfl rfl ?_
    refine k_iload_n C rfl rfl rfl ?_
    refine b_if_ne C (t := 74) rfl rfl rfl (fun c125 => by exfalso; omega) (fun c125 => ?_)
    refine z_iconst C (z := 1) rfl rfl rfl (fun x126 ex126 => ?_)
    refine k_goto C (pc2 := 75) rfl rfl ?_
    refine z_iconst C (z := 1) rfl rfl rfl (fun x127 ex127 => ?_)
    have q128 : x126.toNatClampNeg = 1 := nck (by omega)
    have q129 : x127.toNatClampNeg = 1 := nck (by omega)
    refine c_VI C (a_X12_throwsIf_e hI107 H_r0 (by omega) (by omega)) rfl rfl rfl rfl rfl ⟨_, rfl, rfl, T_r0, Nat.le_of_ble_eq_true rfl⟩ rfl rfl (Nat.le_of_ble_eq_true rfl) (Nat.le_of_ble_eq_true rfl) (Nat.le_of_ble_eq_true rfl) ?_
    rintro x130 I131 L132 ⟨o0x130, o1x130, p0x130, p1x130, hI131, S133⟩
    have e134 := CM.j S133 R_r0_1 (by decide) e109
    have e135 := CM.j S133 R_r0_1 (by decide) e110
    have e136 := CM.j S133 R_r0_1 (by decide) e111
    have e137 := CM.j S133 R_r0_1 (by decide) e112
    have e138 := CM.j S133 R_r0_1 (by decide) e113
    have e139 := CM.j S133 R_r0_1 (by decide) e114
    have e140 := CM.k S133 (by decide) e115
    have e141 := CM.k S133 (by decide) e116
    have e142 := CM.k S133 (by decide) e117
    have e144 := CM.k S133 (by decide) e119
    have e145 := CM.k S133 (by decide) e120
    have e146 := CM.k S133 (by decide) e121
    have e147 := CM.k S133 (by decide) e122
    have e148 := CM.k S133 (by decide) e123
    have e149 := CM.k S133 (by decide) e124
    have gx130 := rg x130
    obtain ⟨x150, e151⟩ : ∃ x, I131 r0 0 = x := ⟨_, rfl⟩
    have gx150 := rg x150
    have hg := (CM.j0 S133 R_r0_1 (by decide)).trans hg
    try simp only [q128, q129, e109, e110, e111, e112, e113, e114, e115, e116, e117, e118, e119, e120, e121, e122, e123, e124, e151] at p0x130
    try have q0x130 := congrArg Int32.toInt p0x130
    try simp only [q128, q129, e109, e110, e111, e112, e113, e114, e115, e116, e117, e118, e119, e120, e121, e122, e123, e124, e151] at p1x130
    try have q1x130 := congrArg Int32.toInt p1x130
    refine b_if_ne C (t := 106) rfl rfl rfl (fun c152 => ?_) (fun c152 => by exfalso; omega)
    refine z_iconst C (z := 0) rfl rfl rfl (fun x153 ex153 => ?_)
    exact k_iret C rfl (Or.inl rfl) (Nat.le_of_ble_eq_true rfl) (Nat.le_of_ble_eq_true rfl) ⟨_, _, _, rfl, rfl, by omega, by omega, fun a1 h1 => by cases (R_r0_1.symm.trans h1); first | omega | (simp only [e134, e135, e136, e137, e138, e139, e140, e141, e142, e144, e145, e146, e147, e148, e149, e151, k0_r0_1_0, k0_r0_1_1, k0_r0_1_2, k0_r0_1_3, k0_r0_1_4, k0_r0_1_5, k0_r0_3, k0_r0_11, k0_r0_12, k0_r0_13, k0_r0_16, k0_r0_19, and_true, true_and, or_true, true_or, and_false, false_and, or_false, false_or] <;> omega), by first | omega | (simp only [e134, e135, e136, e137, e138, e139, e140, e141, e142, e144, e145, e146, e147, e148, e149, e151, k0_r0_1_0, k0_r0_1_1, k0_r0_1_2, k0_r0_1_3, k0_r0_1_4, k0_r0_1_5, k0_r0_3, k0_r0_11, k0_r0_12, k0_r0_13, k0_r0_16, k0_r0_19, and_true, true_and, or_true, true_or, and_false, false_and, or_false, false_or] <;> omega), fun a1 h1 => by cases (R_r0_1.symm.trans h1); first | omega | (simp only [e134, e135, e136, e137, e138, e139, e140, e141, e142, e144, e145, e146, e147, e148, e149, e151, k0_r0_1_0, k0_r0_1_1, k0_r0_1_2, k0_r0_1_3, k0_r0_1_4, k0_r0_1_5, k0_r0_3, k0_r0_11, k0_r0_12, k0_r0_13, k0_r0_16, k0_r0_19, and_true, true_and, or_true, true_or, and_false, false_and, or_false, false_or] <;> omega), fun a1 h1 => by cases (R_r0_1.symm.trans h1); first | omega | (simp only [e134, e135, e136, e137, e138, e139, e140, e141, e142, e144, e145, e146, e147, e148, e149, e151, k0_r0_1_0, k0_r0_1_1, k0_r0_1_2, k0_r0_1_3, k0_r0_1_4, k0_r0_1_5, k0_r0_3, k0_r0_11, k0_r0_12, k0_r0_13, k0_r0_16, k0_r0_19, and_true, true_and, or_true, true_or, and_false, false_and, or_false, false_or] <;> omega), fun a1 h1 => by cases (R_r0_1.symm.trans h1); first | omega | (simp only [e134, e135, e136, e137, e138, e139, e140, e141, e142, e144, e145, e146, e147, e148, e149, e151, k0_r0_1_0, k0_r0_1_1, k0_r0_1_2, k0_r0_1_3, k0_r0_1_4, k0_r0_1_5, k0_r0_3, k0_r0_11, k0_r0_12, k0_r0_13, k0_r0_16, k0_r0_19, and_true, true_and, or_true, true_or, and_false, false_and, or_false, false_or] <;> omega), fun a1 a10 h1 h10 => by cases (R_r0_1.symm.trans h1); cases (R_r0_10.symm.trans h10); rw [k0_r0_11, hcc]; first | exact Or.inl ⟨by rw [e151]; omega, hZ, (fun r hr => (congrFun (hg.trans hg20.symm) r).trans ((hfr20 r hr).trans (congrFun w119 r)))⟩ | exact Or.inr (Or.inl ⟨by rw [e151]; omega, (by rw [hZ]; exact fun h9 => by cases h9), by simp only [k0_r0_1_3]; omega, (fun r hr => (congrFun (hg.trans hg20.symm) r).trans ((hfr20 r hr).trans (congrFun w119 r)))⟩), hI131, (CM.cons S4 (CM.cons S27 (CM.cons S44 (CM.cons S62 (CM.cons S81 (CM.cons S108 (CM.mono S133 (by decide) (by decide)) (by decide) (by decide)) (by decide) (by decide)) (by decide) (by decide)) (by decide) (by decide)) (by decide) (by decide)) (by decide) (by decide))⟩
  have hPD := hP1 (by omega)
  have hPq := hP0 (by omega)
  refine k_aload_n C rfl rfl rfl ?_
  have w29 := (CM.j0 (I := I) (L := L) (I' := I79) (L' := L80) (A := A) (W := [0, 11, 12, 13, 14, 15, 16, 17, 19]) (WA := [1]) (CM.cons S4 (CM.cons S27 (CM.cons S44 (CM.cons S62 (CM.mono S81 (by decide) (by decide)) (by decide) (by decide)) (by decide) (by decide)) (by decide) (by decide)) (by decide) (by decide)) R_r0_10 (by decide))
  refine c_VV C (a_X12_blanks_x hI79 H_r0 (fun a10 h10 => by cases (R_r0_10.symm.trans h10); rw [(CM.j0 (I := I) (L := L) (I' := I79) (L' := L80) (A := A) (W := [0, 11, 12, 13, 14, 15, 16, 17, 19]) (WA := [1]) (CM.cons S4 (CM.cons S27 (CM.cons S44 (CM.cons S62 (CM.mono S81 (by decide) (by decide)) (by decide) (by decide)) (by decide) (by decide)) (by decide) (by decide)) (by decide) (by decide)) R_r0_10 (by decide))]; exact hTB)) rfl rfl rfl rfl rfl ⟨_, rfl, rfl, T_r0, Nat.le_of_ble_eq_true rfl⟩ rfl rfl (Nat.le_of_ble_eq_true rfl) (Nat.le_of_ble_eq_true rfl) (Nat.le_of_ble_eq_true rfl) ?_
  rintro I155 L156 ⟨p0v154, p1v154, hI155, S157⟩
  have p0v154 := p0v154 r0_1 r0_10 R_r0_1 R_r0_10
  have e158 := CM.j S157 R_r0_1 (by decide) e82
  have e159 := CM.j S157 R_r0_1 (by decide) e83
  have e160 := CM.j S157 R_r0_1 (by decide) e84
  have e161 := CM.j S157 R_r0_1 (by decide) e85
  have e162 := CM.j S157 R_r0_1 (by decide) e86
  have e163 := CM.j S157 R_r0_1 (by decide) e87
  have e164 := CM.k S157 (by decide) e88
  have e165 := CM.k S157 (by decide) e89
  have e166 := CM.k S157 (by decide) e91
  have e167 := CM.k S157 (by decide) e92
  have e168 := CM.k S157 (by decide) e97
  have e169 := CM.k S157 (by decide) e99
  have e170 := CM.k S157 (by decide) e101
  obtain ⟨x172, e173⟩ : ∃ x, I155 r0 12 = x := ⟨_, rfl⟩
  have gx172 := rg x172
  have ox172 := IM.f12 hI155 e173
  obtain ⟨x174, e175⟩ : ∃ x, I155 r0 14 = x := ⟨_, rfl⟩
  have gx174 := rg x174
  have ox174 := IM.f14 hI155 e175
  have hg := (CM.j0 S157 R_r0_1 (by decide)).trans hg
  try simp only [e82, e83, e84, e85, e86, e87, e88, e89, e91, e92, e97, e99, e101, e103, e173, e175] at p0v154
  try have q0v154 := congrArg Int32.toInt p0v154
  try simp only [e82, e83, e84, e85, e86, e87, e88, e89, e91, e92, e97, e99, e101, e103, e173, e175] at p1v154
  try have q1v154 := congrArg Int32.toInt p1v154
  have h29 := p0v154
  (try rw [w29] at h29)
  (try rw [he20] at h29)
  rw [hcc, ht20] at h29
  have hq29 : x172.toInt = ((SKP cc t20.1 : Nat) : Int) := RDM.c1 h29 e173 (by omega)
  refine k_aload_n C rfl rfl rfl ?_
  refine g_I C rfl rfl rfl T_r0 rfl e173 ?_
  refine k_aload_n C rfl rfl rfl ?_
  refine g_I C rfl rfl rfl T_r0 rfl e165 ?_
  refine b_icmp_ne C (t := 47) rfl rfl rfl (fun c176 => ?_) (fun c176 => ?_)
  · skip
    have hZ : RDA 200 cc = none := RDA.g0 (h20.y (by omega)) rfl (fun e9 => by have b9 := BCM.ge (f := I r0_10) (m := w_r0_11.toInt) (j := SKP cc t20.1) (by have l9 := SKP.m (m := w_r0_11.toInt.toNat) (c := cc) (by rw [← hcc]; exact BCM.m9 (by omega)) (PB9.rsu (m := w_r0_11.toInt.toNat) (by rw [← hcc]; exact BCM.m9 (by omega)) (PB9.rpt (by rw [← hcc]; exact BCM.m9 (by omega)) 6) _ _ e9 (Nat.zero_le _)); omega); rw [hcc] at b9; exact b9)
    refine z_iconst C (z := 0) rfl rfl rfl (fun x177 ex177 => ?_)
    refine k_istore_n C (lw := [(1, .int x177), (0, .ref r0)]) rfl rfl (Nat.le_of_ble_eq_true rfl) rfl ?_
    refine k_aload_n C rfl rfl rfl ?_
    refine k_iload_n C rfl rfl rfl ?_
    refine b_if_eq C (t := 58) rfl rfl rfl (fun c178 => ?_) (fun c178 => by exfalso; omega)
    refine k_aload_n C rfl rfl rfl ?_
    refine g_I C rfl rfl rfl T_r0 rfl e175 ?_
    refine z_pI C rfl rfl rfl T_r0 (Or.inr rfl) rfl (fun I179 uI179 => ?_)
    have hI179 : IM R r0 I179 := IM.fld hI155 G_r0 ⟨(fun h => absurd h (by decide)), (fun h => absurd h (by decide)), (fun h => absurd h (by decide)), (fun h => absurd h (by decide)), (fun h => absurd h (by decide))⟩ uI179
    have S180 : CM A R r0 [17] [] I155 L156 I179 L156 := CM.f G_r0 A_r0 uI179
    have e181 := u2_n uI179 (mF.ne G_r0 R_r0_1) e158
    have e182 := u2_n uI179 (mF.ne G_r0 R_r0_1) e159
    have e183 := u2_n uI179 (mF.ne G_r0 R_r0_1) e160
    have e184 := u2_n uI179 (mF.ne G_r0 R_r0_1) e161
    have e185 := u2_n uI179 (mF.ne G_r0 R_r0_1) e162
    have e186 := u2_n uI179 (mF.ne G_r0 R_r0_1) e163
    have e187 := u2_j uI179 (by first | decide | exact ncne (by omega) (by omega) (by omega) | exact nckn (by omega) (by omega) | exact (nckn (by omega) (by omega)).symm) e164
    have e188 := u2_j uI179 (by first | decide | exact ncne (by omega) (by omega) (by omega) | exact nckn (by omega) (by omega) | exact (nckn (by omega) (by omega)).symm) e165
    have e189 := u2_j uI179 (by first | decide | exact ncne (by omega) (by omega) (by omega) | exact nckn (by omega) (by omega) | exact (nckn (by omega) (by omega)).symm) e166
    have e190 := u2_j uI179 (by first | decide | exact ncne (by omega) (by omega) (by omega) | exact nckn (by omega) (by omega) | exact (nckn (by omega) (by omega)).symm) e167
    have e191 := u2_j uI179 (by first | decide | exact ncne (by omega) (by omega) (by omega) | exact nckn (by omega) (by omega) | exact (nckn (by omega) (by omega)).symm) e168
    have e192 := u2_j uI179 (by first | decide | exact ncne (by omega) (by omega) (by omega) | exact nckn (by omega) (by omega) | exact (nckn (by omega) (by omega)).symm) e169
    have e193 := u2_j uI179 (by first | decide | exact ncne (by omega) (by omega) (by omega) | exact nckn (by omega) (by omega) | exact (nckn (by omega) (by omega)).symm) e170
    have e194 := u2_j uI179 (by first | decide | exact ncne (by omega) (by omega) (by omega) | exact nckn (by omega) (by omega) | exact (nckn (by omega) (by omega)).symm) e173
    have e195 := u2_j uI179 (by first | decide | exact ncne (by omega) (by omega) (by omega) | exact nckn (by omega) (by omega) | exact (nckn (by omega) (by omega)).symm) e175
    have e196 := u2_e uI179
    have hg := (CM.j0 S180 R_r0_1 (by decide)).trans hg
    refine k_aload_n C rfl rfl rfl ?_
    refine k_iload_n C rfl rfl rfl ?_
    refine b_if_ne C (t := 74) rfl rfl rfl (fun c197 => by exfalso; omega) (fun c197 => ?_)
    refine z_iconst C (z := 1) rfl rfl rfl (fun x198 ex198 => ?_)
    refine k_goto C (pc2 := 75) rfl rfl ?_
    refine z_iconst C (z := 1) rfl rfl rfl (fun x199 ex199 => ?_)
    have q200 : x198.toNatClampNeg = 1 := nck (by omega)
    have q201 : x199.toNatClampNeg = 1 := nck (by omega)
    refine c_VI C (a_X12_throwsIf_e hI179 H_r0 (by omega) (by omega)) rfl rfl rfl rfl rfl ⟨_, rfl, rfl, T_r0, Nat.le_of_ble_eq_true rfl⟩ rfl rfl (Nat.le_of_ble_eq_true rfl) (Nat.le_of_ble_eq_true rfl) (Nat.le_of_ble_eq_true rfl) ?_
    rintro x202 I203 L204 ⟨o0x202, o1x202, p0x202, p1x202, hI203, S205⟩
    have e206 := CM.j S205 R_r0_1 (by decide) e181
    have e207 := CM.j S205 R_r0_1 (by decide) e182
    have e208 := CM.j S205 R_r0_1 (by decide) e183
    have e209 := CM.j S205 R_r0_1 (by decide) e184
    have e210 := CM.j S205 R_r0_1 (by decide) e185
    have e211 := CM.j S205 R_r0_1 (by decide) e186
    have e212 := CM.k S205 (by decide) e187
    have e213 := CM.k S205 (by decide) e188
    have e214 := CM.k S205 (by decide) e189
    have e216 := CM.k S205 (by decide) e191
    have e217 := CM.k S205 (by decide) e192
    have e218 := CM.k S205 (by decide) e193
    have e219 := CM.k S205 (by decide) e194
    have e220 := CM.k S205 (by decide) e195
    have e221 := CM.k S205 (by decide) e196
    have gx202 := rg x202
    obtain ⟨x222, e223⟩ : ∃ x, I203 r0 0 = x := ⟨_, rfl⟩
    have gx222 := rg x222
    have hg := (CM.j0 S205 R_r0_1 (by decide)).trans hg
    try simp only [q200, q201, e181, e182, e183, e184, e185, e186, e187, e188, e189, e190, e191, e192, e193, e194, e195, e196, e223] at p0x202
    try have q0x202 := congrArg Int32.toInt p0x202
    try simp only [q200, q201, e181, e182, e183, e184, e185, e186, e187, e188, e189, e190, e191, e192, e193, e194, e195, e196, e223] at p1x202
    try have q1x202 := congrArg Int32.toInt p1x202
    refine b_if_ne C (t := 106) rfl rfl rfl (fun c224 => ?_) (fun c224 => by exfalso; omega)
    refine z_iconst C (z := 0) rfl rfl rfl (fun x225 ex225 => ?_)
    exact k_iret C rfl (Or.inl rfl) (Nat.le_of_ble_eq_true rfl) (Nat.le_of_ble_eq_true rfl) ⟨_, _, _, rfl, rfl, by omega, by omega, fun a1 h1 => by cases (R_r0_1.symm.trans h1); first | omega | (simp only [e206, e207, e208, e209, e210, e211, e212, e213, e214, e216, e217, e218, e219, e220, e221, e223, k0_r0_1_0, k0_r0_1_1, k0_r0_1_2, k0_r0_1_3, k0_r0_1_4, k0_r0_1_5, k0_r0_3, k0_r0_11, k0_r0_12, k0_r0_13, k0_r0_16, k0_r0_19, and_true, true_and, or_true, true_or, and_false, false_and, or_false, false_or] <;> omega), by first | omega | (simp only [e206, e207, e208, e209, e210, e211, e212, e213, e214, e216, e217, e218, e219, e220, e221, e223, k0_r0_1_0, k0_r0_1_1, k0_r0_1_2, k0_r0_1_3, k0_r0_1_4, k0_r0_1_5, k0_r0_3, k0_r0_11, k0_r0_12, k0_r0_13, k0_r0_16, k0_r0_19, and_true, true_and, or_true, true_or, and_false, false_and, or_false, false_or] <;> omega), fun a1 h1 => by cases (R_r0_1.symm.trans h1); first | omega | (simp only [e206, e207, e208, e209, e210, e211, e212, e213, e214, e216, e217, e218, e219, e220, e221, e223, k0_r0_1_0, k0_r0_1_1, k0_r0_1_2, k0_r0_1_3, k0_r0_1_4, k0_r0_1_5, k0_r0_3, k0_r0_11, k0_r0_12, k0_r0_13, k0_r0_16, k0_r0_19, and_true, true_and, or_true, true_or, and_false, false_and, or_false, false_or] <;> omega), fun a1 h1 => by cases (R_r0_1.symm.trans h1); first | omega | (simp only [e206, e207, e208, e209, e210, e211, e212, e213, e214, e216, e217, e218, e219, e220, e221, e223, k0_r0_1_0, k0_r0_1_1, k0_r0_1_2, k0_r0_1_3, k0_r0_1_4, k0_r0_1_5, k0_r0_3, k0_r0_11, k0_r0_12, k0_r0_13, k0_r0_16, k0_r0_19, and_true, true_and, or_true, true_or, and_false, false_and, or_false, false_or] <;> omega), fun a1 h1 => by cases (R_r0_1.symm.trans h1); first | omega | (simp only [e206, e207, e208, e209, e210, e211, e212, e213, e214, e216, e217, e218, e219, e220, e221, e223, k0_r0_1_0, k0_r0_1_1, k0_r0_1_2, k0_r0_1_3, k0_r0_1_4, k0_r0_1_5, k0_r0_3, k0_r0_11, k0_r0_12, k0_r0_13, k0_r0_16, k0_r0_19, and_true, true_and, or_true, true_or, and_false, false_and, or_false, false_or] <;> omega), fun a1 a10 h1 h10 => by cases (R_r0_1.symm.trans h1); cases (R_r0_10.symm.trans h10); rw [k0_r0_11, hcc]; first | exact Or.inl ⟨by rw [e223]; omega, hZ, (fun r hr => (congrFun (hg.trans hg20.symm) r).trans ((hfr20 r hr).trans (congrFun w119 r)))⟩ | exact Or.inr (Or.inl ⟨by rw [e223]; omega, (by rw [hZ]; exact fun h9 => by cases h9), by simp only [k0_r0_1_3]; omega, (fun r hr => (congrFun (hg.trans hg20.symm) r).trans ((hfr20 r hr).trans (congrFun w119 r)))⟩), hI203, (CM.cons S4 (CM.cons S27 (CM.cons S44 (CM.cons S62 (CM.cons S81 (CM.cons S157 (CM.cons S180 (CM.mono S205 (by decide) (by decide)) (by decide) (by decide)) (by decide) (by decide)) (by decide) (by decide)) (by decide) (by decide)) (by decide) (by decide)) (by decide) (by decide)) (by decide) (by decide))⟩
  have hZ : RDA 200 cc = some t20.2.2 := RDA.g1 (h20.y (by omega)) rfl (by have b9 := BCM.no (f := I r0_10) (m := w_r0_11.toInt) (j := SKP cc t20.1) (by omega); rw [hcc] at b9; exact b9)
  refine z_iconst C (z := 1) rfl rfl rfl (fun x226 ex226 => ?_)
  refine k_goto C (pc2 := 48) rfl rfl ?_
  refine k_istore_n C (lw := [(1, .int x226), (0, .ref r0)]) rfl rfl (Nat.le_of_ble_eq_true rfl) rfl ?_
  refine k_aload_n C rfl rfl rfl ?_
  refine k_iload_n C rfl rfl rfl ?_
  refine b_if_eq C (t := 58) rfl rfl rfl (fun c227 => by exfalso; omega) (fun c227 => ?_)
  refine z_iconst C (z := -1) rfl rfl rfl (fun x228 ex228 => ?_)
  refine k_goto C (pc2 := 62) rfl rfl ?_
  refine z_pI C rfl rfl rfl T_r0 (Or.inr rfl) rfl (fun I229 uI229 => ?_)
  have hI229 : IM R r0 I229 := IM.fld hI155 G_r0 ⟨(fun h => absurd h (by decide)), (fun h => absurd h (by decide)), (fun h => absurd h (by decide)), (fun h => absurd h (by decide)), (fun h => absurd h (by decide))⟩ uI229
  have S230 : CM A R r0 [17] [] I155 L156 I229 L156 := CM.f G_r0 A_r0 uI229
  have e231 := u2_n uI229 (mF.ne G_r0 R_r0_1) e158
  have e232 := u2_n uI229 (mF.ne G_r0 R_r0_1) e159
  have e233 := u2_n uI229 (mF.ne G_r0 R_r0_1) e160
  have e234 := u2_n uI229 (mF.ne G_r0 R_r0_1) e161
  have e235 := u2_n uI229 (mF.ne G_r0 R_r0_1) e162
  have e236 := u2_n uI229 (mF.ne G_r0 R_r0_1) e163
  have e237 := u2_j uI229 (by first | decide | exact ncne (by omega) (by omega) (by omega) | exact nckn (by omega) (by omega) | exact (nckn (by omega) (by omega)).symm) e164
  have e238 := u2_j uI229 (by first | decide | exact ncne (by omega) (by omega) (by omega) | exact nckn (by omega) (by omega) | exact (nckn (by omega) (by omega)).symm) e165
  have e239 := u2_j uI229 (by first | decide | exact ncne (by omega) (by omega) (by omega) | exact nckn (by omega) (by omega) | exact (nckn (by omega) (by omega)).symm) e166
  have e240 := u2_j uI229 (by first | decide | exact ncne (by omega) (by omega) (by omega) | exact nckn (by omega) (by omega) | exact (nckn (by omega) (by omega)).symm) e167
  have e241 := u2_j uI229 (by first | decide | exact ncne (by omega) (by omega) (by omega) | exact nckn (by omega) (by omega) | exact (nckn (by omega) (by omega)).symm) e168
  have e242 := u2_j uI229 (by first | decide | exact ncne (by omega) (by omega) (by omega) | exact nckn (by omega) (by omega) | exact (nckn (by omega) (by omega)).symm) e169
  have e243 := u2_j uI229 (by first | decide | exact ncne (by omega) (by omega) (by omega) | exact nckn (by omega) (by omega) | exact (nckn (by omega) (by omega)).symm) e170
  have e244 := u2_j uI229 (by first | decide | exact ncne (by omega) (by omega) (by omega) | exact nckn (by omega) (by omega) | exact (nckn (by omega) (by omega)).symm) e173
  have e245 := u2_j uI229 (by first | decide | exact ncne (by omega) (by omega) (by omega) | exact nckn (by omega) (by omega) | exact (nckn (by omega) (by omega)).symm) e175
  have e246 := u2_e uI229
  have hg := (CM.j0 S230 R_r0_1 (by decide)).trans hg
  refine k_aload_n C rfl rfl rfl ?_
  refine k_iload_n C rfl rfl rfl ?_
  refine b_if_ne C (t := 74) rfl rfl rfl (fun c247 => ?_) (fun c247 => by exfalso; omega)
  refine z_iconst C (z := 0) rfl rfl rfl (fun x248 ex248 => ?_)
  refine z_iconst C (z := 1) rfl rfl rfl (fun x249 ex249 => ?_)
  have q250 : x248.toNatClampNeg = 0 := nck (by omega)
  have q251 : x249.toNatClampNeg = 1 := nck (by omega)
  refine c_VI C (a_X12_throwsIf_e hI229 H_r0 (by omega) (by omega)) rfl rfl rfl rfl rfl ⟨_, rfl, rfl, T_r0, Nat.le_of_ble_eq_true rfl⟩ rfl rfl (Nat.le_of_ble_eq_true rfl) (Nat.le_of_ble_eq_true rfl) (Nat.le_of_ble_eq_true rfl) ?_
  rintro x252 I253 L254 ⟨o0x252, o1x252, p0x252, p1x252, hI253, S255⟩
  have e256 := CM.j S255 R_r0_1 (by decide) e231
  have e257 := CM.j S255 R_r0_1 (by decide) e232
  have e258 := CM.j S255 R_r0_1 (by decide) e233
  have e259 := CM.j S255 R_r0_1 (by decide) e234
  have e260 := CM.j S255 R_r0_1 (by decide) e235
  have e261 := CM.j S255 R_r0_1 (by decide) e236
  have e262 := CM.k S255 (by decide) e237
  have e263 := CM.k S255 (by decide) e238
  have e264 := CM.k S255 (by decide) e239
  have e266 := CM.k S255 (by decide) e241
  have e267 := CM.k S255 (by decide) e242
  have e268 := CM.k S255 (by decide) e243
  have e269 := CM.k S255 (by decide) e244
  have e270 := CM.k S255 (by decide) e245
  have e271 := CM.k S255 (by decide) e246
  have gx252 := rg x252
  obtain ⟨x272, e273⟩ : ∃ x, I253 r0 0 = x := ⟨_, rfl⟩
  have gx272 := rg x272
  have hg := (CM.j0 S255 R_r0_1 (by decide)).trans hg
  try simp only [q250, q251, e231, e232, e233, e234, e235, e236, e237, e238, e239, e240, e241, e242, e243, e244, e245, e246, e273] at p0x252
  try have q0x252 := congrArg Int32.toInt p0x252
  try simp only [q250, q251, e231, e232, e233, e234, e235, e236, e237, e238, e239, e240, e241, e242, e243, e244, e245, e246, e273] at p1x252
  try have q1x252 := congrArg Int32.toInt p1x252
  refine b_if_ne C (t := 106) rfl rfl rfl (fun c274 => by exfalso; omega) (fun c274 => ?_)
  refine k_aload_n C rfl rfl rfl ?_
  refine k_aload_n C rfl rfl rfl ?_
  refine g_R C rfl rfl rfl T_r0 rfl R_r0_1 ?_
  refine z_iconst C (z := 3) rfl rfl rfl (fun x275 ex275 => ?_)
  obtain ⟨T_r0_1, N_r0_1, A_r0_1⟩ := id H_r0_1
  refine a_I C rfl rfl T_r0_1 (by rw [N_r0_1]; exact vpi (by omega) (by omega)) ((congrArg (I253 r0_1) (nck (n := 3) (by omega))).trans e259) ?_
  refine z_bipush C (z := 8) rfl rfl rfl (fun x276 ex276 => ?_)
  refine b_icmp_ne C (t := 98) rfl rfl rfl (fun c277 => ?_) (fun c277 => ?_)
  · skip
    refine z_iconst C (z := 0) rfl rfl rfl (fun x278 ex278 => ?_)
    refine z_iconst C (z := 2) rfl rfl rfl (fun x279 ex279 => ?_)
    have q280 : x278.toNatClampNeg = 0 := nck (by omega)
    have q281 : x279.toNatClampNeg = 2 := nck (by omega)
    refine c_VI C (a_X12_throwsIf_e hI253 H_r0 (by omega) (by omega)) rfl rfl rfl rfl rfl ⟨_, rfl, rfl, T_r0, Nat.le_of_ble_eq_true rfl⟩ rfl rfl (Nat.le_of_ble_eq_true rfl) (Nat.le_of_ble_eq_true rfl) (Nat.le_of_ble_eq_true rfl) ?_
    rintro x282 I283 L284 ⟨o0x282, o1x282, p0x282, p1x282, hI283, S285⟩
    have e286 := CM.j S285 R_r0_1 (by decide) e256
    have e287 := CM.j S285 R_r0_1 (by decide) e257
    have e288 := CM.j S285 R_r0_1 (by decide) e258
    have e289 := CM.j S285 R_r0_1 (by decide) e259
    have e290 := CM.j S285 R_r0_1 (by decide) e260
    have e291 := CM.j S285 R_r0_1 (by decide) e261
    have e292 := CM.k S285 (by decide) e262
    have e293 := CM.k S285 (by decide) e263
    have e294 := CM.k S285 (by decide) e264
    have e295 := CM.k S285 (by decide) e266
    have e296 := CM.k S285 (by decide) e267
    have e297 := CM.k S285 (by decide) e268
    have e298 := CM.k S285 (by decide) e269
    have e299 := CM.k S285 (by decide) e270
    have e300 := CM.k S285 (by decide) e271
    have gx282 := rg x282
    obtain ⟨x302, e303⟩ : ∃ x, I283 r0 0 = x := ⟨_, rfl⟩
    have gx302 := rg x302
    have hg := (CM.j0 S285 R_r0_1 (by decide)).trans hg
    try simp only [q280, q281, e256, e257, e258, e259, e260, e261, e262, e263, e264, e266, e267, e268, e269, e270, e271, e273, e303] at p0x282
    try have q0x282 := congrArg Int32.toInt p0x282
    try simp only [q280, q281, e256, e257, e258, e259, e260, e261, e262, e263, e264, e266, e267, e268, e269, e270, e271, e273, e303] at p1x282
    try have q1x282 := congrArg Int32.toInt p1x282
    refine b_if_eq C (t := 108) rfl rfl rfl (fun c304 => ?_) (fun c304 => by exfalso; omega)
    refine k_aload_n C rfl rfl rfl ?_
    refine g_R C rfl rfl rfl T_r0 rfl R_r0_1 ?_
    refine z_iconst C (z := 3) rfl rfl rfl (fun x305 ex305 => ?_)
    refine a_I C rfl rfl T_r0_1 (by rw [N_r0_1]; exact vpi (by omega) (by omega)) ((congrArg (I283 r0_1) (nck (n := 3) (by omega))).trans e289) ?_
    refine k_istore_n C (lw := [(2, .int w_r0_1_3), (1, .int x226), (0, .ref r0)]) rfl rfl (Nat.le_of_ble_eq_true rfl) rfl ?_
    refine k_aload_n C rfl rfl rfl ?_
    refine g_R C rfl rfl rfl T_r0 rfl R_r0_1 ?_
    refine z_sipush C (z := 3606) rfl rfl rfl (fun x306 ex306 => ?_)
    refine k_aload_n C rfl rfl rfl ?_
    refine g_I C rfl rfl rfl T_r0 rfl e297 ?_
    refine z_sI C rfl rfl T_r0_1 N_r0_1 (by omega) (by omega) (fun I307 uI307 => ?_)
    have uI307 : I307 = u2 I283 r0_1 3606 (x100) := by rw [uI307, nck (n := 3606) (by omega)]
    have hI307 : IM R r0 I307 := IM.arr hI283 G_r0 R_r0_1 ⟨(fun h => absurd h (by decide)), (fun h => absurd h (by decide)), (fun h => absurd h (by decide))⟩ (fun _ => WOK.drn (IM.w hI283 R_r0_1) (by decide)) uI307
    have S308 : CM A R r0 [] [1] I283 L284 I307 L284 := CM.a G_r0 R_r0_1 A_r0_1 uI307
    have e309 := u2_j uI307 (by first | decide | exact ncne (by omega) (by omega) (by omega) | exact nckn (by omega) (by omega) | exact (nckn (by omega) (by omega)).symm) e286
    have e310 := u2_j uI307 (by first | decide | exact ncne (by omega) (by omega) (by omega) | exact nckn (by omega) (by omega) | exact (nckn (by omega) (by omega)).symm) e287
    have e311 := u2_j uI307 (by first | decide | exact ncne (by omega) (by omega) (by omega) | exact nckn (by omega) (by omega) | exact (nckn (by omega) (by omega)).symm) e288
    have e312 := u2_j uI307 (by first | decide | exact ncne (by omega) (by omega) (by omega) | exact nckn (by omega) (by omega) | exact (nckn (by omega) (by omega)).symm) e289
    have e313 := u2_j uI307 (by first | decide | exact ncne (by omega) (by omega) (by omega) | exact nckn (by omega) (by omega) | exact (nckn (by omega) (by omega)).symm) e290
    have e314 := u2_j uI307 (by first | decide | exact ncne (by omega) (by omega) (by omega) | exact nckn (by omega) (by omega) | exact (nckn (by omega) (by omega)).symm) e291
    have e315 := u2_n uI307 (fun e => (mF.ne G_r0 R_r0_1) e.symm) e292
    have e316 := u2_n uI307 (fun e => (mF.ne G_r0 R_r0_1) e.symm) e293
    have e317 := u2_n uI307 (fun e => (mF.ne G_r0 R_r0_1) e.symm) e294
    have e318 := u2_n uI307 (fun e => (mF.ne G_r0 R_r0_1) e.symm) e295
    have e319 := u2_n uI307 (fun e => (mF.ne G_r0 R_r0_1) e.symm) e296
    have e320 := u2_n uI307 (fun e => (mF.ne G_r0 R_r0_1) e.symm) e297
    have e321 := u2_n uI307 (fun e => (mF.ne G_r0 R_r0_1) e.symm) e298
    have e322 := u2_n uI307 (fun e => (mF.ne G_r0 R_r0_1) e.symm) e299
    have e323 := u2_n uI307 (fun e => (mF.ne G_r0 R_r0_1) e.symm) e300
    have e324 := u2_n uI307 (fun e => (mF.ne G_r0 R_r0_1) e.symm) e303
    have e325 := u2_e uI307
    have hSG := SGN.dr hPD hg uI307 (by omega) (by omega)
    have hu126 := uI307
    obtain ⟨g9, hg9⟩ : ∃ g, I307 r0_1 = g := ⟨_, rfl⟩
    have hp126 := hg
    refine z_iconst C (z := 0) rfl rfl rfl (fun x326 ex326 => ?_)
    have J327 : ∀ (nn328 : Nat) (I329 : IT) (L330 : LT) (x331 : Int32) (x336 : Int32) (x340 : Int32) (x344 : Int32) (x348 : Int32) (x352 : Int32) (x356 : Int32), (MN (401 - x331.toInt) nn328) → (IM R r0 I329) → (CM A R r0 [] [1] I307 L284 I329 L330) → (0 ≤ x331.toInt) → (x331.toInt ≤ 401) → (I329 r0_1 0 = x336) → (11 ≤ x336.toInt) → (x336.toInt ≤ 19) → (I329 r0_1 1 = x340) → (0 ≤ x340.toInt) → (x340.toInt ≤ 16) → (I329 r0_1 2 = x344) → (0 ≤ x344.toInt) → (x344.toInt ≤ 8) → (I329 r0_1 3 = x348) → (0 ≤ x348.toInt) → (x348.toInt ≤ 8) → (I329 r0_1 4 = x352) → (0 ≤ x352.toInt) → (x352.toInt ≤ 40) → (I329 r0_1 5 = x356) → (0 ≤ x356.toInt) → (x356.toInt ≤ 40) → (x336.toInt = w_r0_1_0.toInt) → (x340.toInt = w_r0_1_1.toInt) → (x344.toInt = w_r0_1_2.toInt) → (x348.toInt = w_r0_1_3.toInt) → (x352.toInt = w_r0_1_4.toInt) → (x356.toInt = w_r0_1_5.toInt) → (SGN (I329 r0_1) 3606) → (CPS (I329 r0_1) (198 + 401 * w_r0_1_3.toNatClampNeg) x331.toInt) → (SGF (I329 r0_1) g9 w_r0_1_3.toNatClampNeg x331.toInt) → (x331.toInt ≤ 401) → V 129 [(0, .ref r0), (2, .int w_r0_1_3), (3, .int x331)] [] (T, N, I329, L330, R) 0 0 := by
      intro nn328
      induction nn328 using Nat.strongRecOn with
      | _ nn328 ihJ327 =>
        intro I329 L330 x331 x336 x340 x344 x348 x352 x356 hmnn328 hI335 S334 b332 b333 e337 b338 b339 e341 b342 b343 e345 b346 b347 e349 b350 b351 e353 b354 b355 e357 b358 b359 ff129_0 ff129_1 ff129_2 ff129_3 ff129_4 ff129_5 ff129_6 ff129_7 ff129_8 ff129_9
        have gx331 := rg x331
        have gx336 := rg x336
        have gx340 := rg x340
        have gx344 := rg x344
        have gx348 := rg x348
        have gx352 := rg x352
        have gx356 := rg x356
        have e360 := CM.k S334 (by decide) e315
        have e361 := CM.k S334 (by decide) e316
        have e362 := CM.k S334 (by decide) e317
        have e363 := CM.k S334 (by decide) e318
        have e364 := CM.k S334 (by decide) e319
        have e365 := CM.k S334 (by decide) e320
        have e366 := CM.k S334 (by decide) e321
        have e367 := CM.k S334 (by decide) e322
        have e368 := CM.k S334 (by decide) e323
        have e369 := CM.k S334 (by decide) e324
        refine k_iload_n C rfl rfl rfl ?_
        refine z_sipush C (z := 401) rfl rfl rfl (fun x370 ex370 => ?_)
        refine b_icmp_ge C (t := 168) rfl rfl rfl (fun c371 => ?_) (fun c371 => ?_)
        · skip
          refine k_aload_n C rfl rfl rfl ?_
          refine g_R C rfl rfl rfl T_r0 rfl R_r0_1 ?_
          refine z_iconst C (z := 3) rfl rfl rfl (fun x372 ex372 => ?_)
          refine k_dup2 C rfl rfl rfl rfl ?_
          refine a_I C rfl rfl T_r0_1 (by rw [N_r0_1]; exact vpi (by omega) (by omega)) ((congrArg (I329 r0_1) (nck (n := 3) (by omega))).trans e349) ?_
          refine z_iconst C (z := 1) rfl rfl rfl (fun x373 ex373 => ?_)
          refine z_iadd C rfl rfl ⟨by omega, by omega⟩ (fun x374 ex374 => ?_)
          refine z_sI C rfl rfl T_r0_1 N_r0_1 (by omega) (by omega) (fun I375 uI375 => ?_)
          have uI375 : I375 = u2 I329 r0_1 3 (x374) := by rw [uI375, nck (n := 3) (by omega)]
          have hI375 : IM R r0 I375 := IM.arr hI335 G_r0 R_r0_1 ⟨(fun h => absurd h (by decide)), (fun h => absurd h (by decide)), (fun h => absurd h (by decide))⟩ (fun _ => WOK.c3 (IM.w hI335 R_r0_1) (s := w_r0_1_3) (by rw [e349]; omega) (by omega) (by omega) (SGN.cp ff129_6 ff129_7 (by omega))) uI375
          have S376 : CM A R r0 [] [1] I329 L330 I375 L330 := CM.a G_r0 R_r0_1 A_r0_1 uI375
          have e377 := u2_n uI375 (fun e => (mF.ne G_r0 R_r0_1) e.symm) e360
          have e378 := u2_n uI375 (fun e => (mF.ne G_r0 R_r0_1) e.symm) e361
          have e379 := u2_n uI375 (fun e => (mF.ne G_r0 R_r0_1) e.symm) e362
          have e380 := u2_n uI375 (fun e => (mF.ne G_r0 R_r0_1) e.symm) e363
          have e381 := u2_n uI375 (fun e => (mF.ne G_r0 R_r0_1) e.symm) e364
          have e382 := u2_n uI375 (fun e => (mF.ne G_r0 R_r0_1) e.symm) e365
          have e383 := u2_n uI375 (fun e => (mF.ne G_r0 R_r0_1) e.symm) e366
          have e384 := u2_n uI375 (fun e => (mF.ne G_r0 R_r0_1) e.symm) e367
          have e385 := u2_n uI375 (fun e => (mF.ne G_r0 R_r0_1) e.symm) e368
          have e386 := u2_n uI375 (fun e => (mF.ne G_r0 R_r0_1) e.symm) e369
          have e387 := u2_j uI375 (by first | decide | exact ncne (by omega) (by omega) (by omega) | exact nckn (by omega) (by omega) | exact (nckn (by omega) (by omega)).symm) e337
          have e388 := u2_j uI375 (by first | decide | exact ncne (by omega) (by omega) (by omega) | exact nckn (by omega) (by omega) | exact (nckn (by omega) (by omega)).symm) e341
          have e389 := u2_j uI375 (by first | decide | exact ncne (by omega) (by omega) (by omega) | exact nckn (by omega) (by omega) | exact (nckn (by omega) (by omega)).symm) e345
          have e391 := u2_j uI375 (by first | decide | exact ncne (by omega) (by omega) (by omega) | exact nckn (by omega) (by omega) | exact (nckn (by omega) (by omega)).symm) e353
          have e392 := u2_j uI375 (by first | decide | exact ncne (by omega) (by omega) (by omega) | exact nckn (by omega) (by omega) | exact (nckn (by omega) (by omega)).symm) e357
          have e393 := u2_e uI375
          have hu177 := uI375
          refine k_iload_n C rfl rfl rfl ?_
          exact k_iret C rfl (Or.inl rfl) (Nat.le_of_ble_eq_true rfl) (Nat.le_of_ble_eq_true rfl) ⟨_, _, _, rfl, rfl, by omega, by omega, fun a1 h1 => by cases (R_r0_1.symm.trans h1); first | omega | (simp only [e377, e378, e379, e380, e381, e382, e383, e384, e385, e386, e387, e388, e389, e391, e392, e393, k0_r0_1_0, k0_r0_1_1, k0_r0_1_2, k0_r0_1_3, k0_r0_1_4, k0_r0_1_5, k0_r0_3, k0_r0_11, k0_r0_12, k0_r0_13, k0_r0_16, k0_r0_19, and_true, true_and, or_true, true_or, and_false, false_and, or_false, false_or] <;> omega), by first | omega | (simp only [e377, e378, e379, e380, e381, e382, e383, e384, e385, e386, e387, e388, e389, e391, e392, e393, k0_r0_1_0, k0_r0_1_1, k0_r0_1_2, k0_r0_1_3, k0_r0_1_4, k0_r0_1_5, k0_r0_3, k0_r0_11, k0_r0_12, k0_r0_13, k0_r0_16, k0_r0_19, and_true, true_and, or_true, true_or, and_false, false_and, or_false, false_or] <;> omega), fun a1 h1 => by cases (R_r0_1.symm.trans h1); first | omega | (simp only [e377, e378, e379, e380, e381, e382, e383, e384, e385, e386, e387, e388, e389, e391, e392, e393, k0_r0_1_0, k0_r0_1_1, k0_r0_1_2, k0_r0_1_3, k0_r0_1_4, k0_r0_1_5, k0_r0_3, k0_r0_11, k0_r0_12, k0_r0_13, k0_r0_16, k0_r0_19, and_true, true_and, or_true, true_or, and_false, false_and, or_false, false_or] <;> omega), fun a1 h1 => by cases (R_r0_1.symm.trans h1); first | omega | (simp only [e377, e378, e379, e380, e381, e382, e383, e384, e385, e386, e387, e388, e389, e391, e392, e393, k0_r0_1_0, k0_r0_1_1, k0_r0_1_2, k0_r0_1_3, k0_r0_1_4, k0_r0_1_5, k0_r0_3, k0_r0_11, k0_r0_12, k0_r0_13, k0_r0_16, k0_r0_19, and_true, true_and, or_true, true_or, and_false, false_and, or_false, false_or] <;> omega), fun a1 h1 => by cases (R_r0_1.symm.trans h1); first | omega | (simp only [e377, e378, e379, e380, e381, e382, e383, e384, e385, e386, e387, e388, e389, e391, e392, e393, k0_r0_1_0, k0_r0_1_1, k0_r0_1_2, k0_r0_1_3, k0_r0_1_4, k0_r0_1_5, k0_r0_3, k0_r0_11, k0_r0_12, k0_r0_13, k0_r0_16, k0_r0_19, and_true, true_and, or_true, true_or, and_false, false_and, or_false, false_or] <;> omega), fun a1 a10 h1 h10 => by cases (R_r0_1.symm.trans h1); cases (R_r0_10.symm.trans h10); rw [k0_r0_11, hcc]; have h9n := ncz (x := w_r0_1_3) (by omega); have e93 := congrArg Int32.toInt k0_r0_1_3; have en9 : (I r0_1 3).toInt.toNat = w_r0_1_3.toNatClampNeg := (by rw [e93]; omega); have hws := SGF.w (W := I375 r0_1) ff129_8 (by omega) (fun r hr => by rw [hu177, u2_k hr]) (s := x100.toInt) (by rw [← hg9, hu126, u2_s]) (by omega) (by omega); exact Or.inr (Or.inr ⟨by rw [e386]; omega, by omega, by omega, by rw [e393]; omega, by (rw [hZ, en9]; exact congrArg some (hw20.symm.trans ((WTL.cg (fun r hr => by rw [← hg9, hu126, u2_k (by omega)]; exact congrFun (hp126.trans hg20.symm) r)).symm.trans hws.symm))), fun r h3 hb hr => by (rw [en9] at hb; rw [hu177, u2_k h3, ff129_8.2 r (by omega), ← hg9, hu126, u2_k (by omega)]; exact (congrFun (hp126.trans hg20.symm) r).trans ((hfr20 r hr).trans (congrFun w119 r)))⟩), hI375, (CM.cons S4 (CM.cons S27 (CM.cons S44 (CM.cons S62 (CM.cons S81 (CM.cons S157 (CM.cons S230 (CM.cons S255 (CM.cons S285 (CM.cons S308 (CM.cons S334 (CM.mono S376 (by decide) (by decide)) (by decide) (by decide)) (by decide) (by decide)) (by decide) (by decide)) (by decide) (by decide)) (by decide) (by decide)) (by decide) (by decide)) (by decide) (by decide)) (by decide) (by decide)) (by decide) (by decide)) (by decide) (by decide)) (by decide) (by decide))⟩
        refine k_aload_n C rfl rfl rfl ?_
        refine g_R C rfl rfl rfl T_r0 rfl R_r0_1 ?_
        refine z_sipush C (z := 198) rfl rfl rfl (fun x394 ex394 => ?_)
        refine z_sipush C (z := 401) rfl rfl rfl (fun x395 ex395 => ?_)
        refine k_iload_n C rfl rfl rfl ?_
        refine z_imulL C (c := 401) rfl rfl (by omega) ⟨by omega, by omega⟩ (fun x396 ex396 => ?_)
        refine z_iadd C rfl rfl ⟨by omega, by omega⟩ (fun x397 ex397 => ?_)
        refine k_iload_n C rfl rfl rfl ?_
        refine z_iadd C rfl rfl ⟨by omega, by omega⟩ (fun x398 ex398 => ?_)
        refine k_aload_n C rfl rfl rfl ?_
        refine g_R C rfl rfl rfl T_r0 rfl R_r0_1 ?_
        refine z_sipush C (z := 3606) rfl rfl rfl (fun x399 ex399 => ?_)
        refine k_iload_n C rfl rfl rfl ?_
        refine z_iadd C rfl rfl ⟨by omega, by omega⟩ (fun x400 ex400 => ?_)
        refine z_aI C rfl rfl T_r0_1 N_r0_1 (by omega) (by omega) (fun x401 ex401 => ?_)
        have gx401 := rg x401
        have hr := ex401
        refine z_sI C rfl rfl T_r0_1 N_r0_1 (by omega) (by omega) (fun I402 uI402 => ?_)
        have hI402 : IM R r0 I402 := IM.arr hI335 G_r0 R_r0_1 ⟨(fun h => absurd h (by decide)), (fun h => absurd h (by decide)), (fun h => absurd h (by decide))⟩ (fun _ => WOK.sg (IM.w hI335 R_r0_1) (s := w_r0_1_3) (by rw [e349]; omega) (by omega) ⟨by omega, by omega⟩) uI402
        have S403 : CM A R r0 [] [1] I329 L330 I402 L330 := CM.a G_r0 R_r0_1 A_r0_1 uI402
        have e404 := u2_n uI402 (fun e => (mF.ne G_r0 R_r0_1) e.symm) e360
        have e405 := u2_n uI402 (fun e => (mF.ne G_r0 R_r0_1) e.symm) e361
        have e406 := u2_n uI402 (fun e => (mF.ne G_r0 R_r0_1) e.symm) e362
        have e407 := u2_n uI402 (fun e => (mF.ne G_r0 R_r0_1) e.symm) e363
        have e408 := u2_n uI402 (fun e => (mF.ne G_r0 R_r0_1) e.symm) e364
        have e409 := u2_n uI402 (fun e => (mF.ne G_r0 R_r0_1) e.symm) e365
        have e410 := u2_n uI402 (fun e => (mF.ne G_r0 R_r0_1) e.symm) e366
        have e411 := u2_n uI402 (fun e => (mF.ne G_r0 R_r0_1) e.symm) e367
        have e412 := u2_n uI402 (fun e => (mF.ne G_r0 R_r0_1) e.symm) e368
        have e413 := u2_n uI402 (fun e => (mF.ne G_r0 R_r0_1) e.symm) e369
        have e414 := u2_j uI402 (by first | decide | exact ncne (by omega) (by omega) (by omega) | exact nckn (by omega) (by omega) | exact (nckn (by omega) (by omega)).symm) e337
        have e415 := u2_j uI402 (by first | decide | exact ncne (by omega) (by omega) (by omega) | exact nckn (by omega) (by omega) | exact (nckn (by omega) (by omega)).symm) e341
        have e416 := u2_j uI402 (by first | decide | exact ncne (by omega) (by omega) (by omega) | exact nckn (by omega) (by omega) | exact (nckn (by omega) (by omega)).symm) e345
        have e417 := u2_j uI402 (by first | decide | exact ncne (by omega) (by omega) (by omega) | exact nckn (by omega) (by omega) | exact (nckn (by omega) (by omega)).symm) e349
        have e418 := u2_j uI402 (by first | decide | exact ncne (by omega) (by omega) (by omega) | exact nckn (by omega) (by omega) | exact (nckn (by omega) (by omega)).symm) e353
        have e419 := u2_j uI402 (by first | decide | exact ncne (by omega) (by omega) (by omega) | exact nckn (by omega) (by omega) | exact (nckn (by omega) (by omega)).symm) e357
        have e420 := u2_j uI402 (by first | decide | exact ncne (by omega) (by omega) (by omega) | exact nckn (by omega) (by omega) | exact (nckn (by omega) (by omega)).symm) ex401
        have e421 := u2_e uI402
        have hu161 := uI402
        refine z_iinc C (z := 1) (lw := fun x422 => [(3, .int x422), (0, .ref r0), (2, .int w_r0_1_3)]) rfl rfl rfl (Nat.le_of_ble_eq_true rfl) rfl ⟨by omega, by omega⟩ (fun _ => rfl) (fun x422 ex422 => ?_)
        show V 165 [(3, .int x422), (0, .ref r0), (2, .int w_r0_1_3)] _ _ _ _
        refine k_goto C (pc2 := 129) rfl rfl ?_
        refine k_sub S [(0, .ref r0), (2, .int w_r0_1_3), (3, .int x422)] (List.forall_mem_cons.mpr ⟨List.mem_of_getElem? (i := 1) rfl, List.forall_mem_cons.mpr ⟨List.mem_of_getElem? (i := 2) rfl, List.forall_mem_cons.mpr ⟨List.mem_of_getElem? (i := 0) rfl, fun _ h => nomatch h⟩⟩⟩) ?_
        exact ihJ327 _ (MN.lt hmnn328 (by omega) (by omega)) I402 L330 x422 x336 x340 x344 x348 x352 x356 rfl hI402 (CM.cons S334 (CM.mono S403 (by decide) (by decide)) (by decide) (by decide)) (by omega) (by omega) e414 (by omega) (by omega) e415 (by omega) (by omega) e416 (by omega) (by omega) e417 (by omega) (by omega) e418 (by omega) (by omega) e419 (by omega) (by omega) (by omega) (by omega) (by omega) (by omega) (by omega) (by omega) (by exact SGN.w ff129_6 hu161 (by omega) (by omega)) (by exact CPS.s ff129_7 hu161 hr ⟨by omega, by omega⟩ ⟨by omega, by omega⟩ (by omega) (by omega) (by omega)) (by exact SGF.s ff129_8 hu161 hr (ncn (by omega) (by omega)) (by have h9 := ncz (x := w_r0_1_3) (by omega); omega) (by omega) (by omega) (by omega) (by omega)) (by omega)
    refine k_istore_n C (lw := [(3, .int x326), (2, .int w_r0_1_3), (1, .int x226), (0, .ref r0)]) rfl rfl (Nat.le_of_ble_eq_true rfl) rfl ?_
    refine k_sub S [(0, .ref r0), (2, .int w_r0_1_3), (3, .int x326)] (List.forall_mem_cons.mpr ⟨List.mem_of_getElem? (i := 3) rfl, List.forall_mem_cons.mpr ⟨List.mem_of_getElem? (i := 1) rfl, List.forall_mem_cons.mpr ⟨List.mem_of_getElem? (i := 0) rfl, fun _ h => nomatch h⟩⟩⟩) ?_
    exact J327 _ I307 L284 x326 w_r0_1_0 w_r0_1_1 w_r0_1_2 w_r0_1_3 w_r0_1_4 w_r0_1_5 rfl hI307 CM.rf (by omega) (by omega) e309 (by omega) (by omega) e310 (by omega) (by omega) e311 (by omega) (by omega) e312 (by omega) (by omega) e313 (by omega) (by omega) e314 (by omega) (by omega) (by omega) (by omega) (by omega) (by omega) (by omega) (by omega) (by exact hSG) (by exact CPS.z (by omega)) (by exact SGF.z hg9 (by omega)) (by omega)
  refine z_iconst C (z := 1) rfl rfl rfl (fun x423 ex423 => ?_)
  refine k_goto C (pc2 := 99) rfl rfl ?_
  refine z_iconst C (z := 2) rfl rfl rfl (fun x424 ex424 => ?_)
  have q425 : x423.toNatClampNeg = 1 := nck (by omega)
  have q426 : x424.toNatClampNeg = 2 := nck (by omega)
  refine c_VI C (a_X12_throwsIf_e hI253 H_r0 (by omega) (by omega)) rfl rfl rfl rfl rfl ⟨_, rfl, rfl, T_r0, Nat.le_of_ble_eq_true rfl⟩ rfl rfl (Nat.le_of_ble_eq_true rfl) (Nat.le_of_ble_eq_true rfl) (Nat.le_of_ble_eq_true rfl) ?_
  rintro x427 I428 L429 ⟨o0x427, o1x427, p0x427, p1x427, hI428, S430⟩
  have e431 := CM.j S430 R_r0_1 (by decide) e256
  have e432 := CM.j S430 R_r0_1 (by decide) e257
  have e433 := CM.j S430 R_r0_1 (by decide) e258
  have e434 := CM.j S430 R_r0_1 (by decide) e259
  have e435 := CM.j S430 R_r0_1 (by decide) e260
  have e436 := CM.j S430 R_r0_1 (by decide) e261
  have e437 := CM.k S430 (by decide) e262
  have e438 := CM.k S430 (by decide) e263
  have e439 := CM.k S430 (by decide) e264
  have e440 := CM.k S430 (by decide) e266
  have e441 := CM.k S430 (by decide) e267
  have e442 := CM.k S430 (by decide) e268
  have e443 := CM.k S430 (by decide) e269
  have e444 := CM.k S430 (by decide) e270
  have e445 := CM.k S430 (by decide) e271
  have gx427 := rg x427
  obtain ⟨x447, e448⟩ : ∃ x, I428 r0 0 = x := ⟨_, rfl⟩
  have gx447 := rg x447
  have hg := (CM.j0 S430 R_r0_1 (by decide)).trans hg
  try simp only [q425, q426, e256, e257, e258, e259, e260, e261, e262, e263, e264, e266, e267, e268, e269, e270, e271, e273, e448] at p0x427
  try have q0x427 := congrArg Int32.toInt p0x427
  try simp only [q425, q426, e256, e257, e258, e259, e260, e261, e262, e263, e264, e266, e267, e268, e269, e270, e271, e273, e448] at p1x427
  try have q1x427 := congrArg Int32.toInt p1x427
  refine b_if_eq C (t := 108) rfl rfl rfl (fun c449 => by exfalso; omega) (fun c449 => ?_)
  refine z_iconst C (z := 0) rfl rfl rfl (fun x450 ex450 => ?_)
  exact k_iret C rfl (Or.inl rfl) (Nat.le_of_ble_eq_true rfl) (Nat.le_of_ble_eq_true rfl) ⟨_, _, _, rfl, rfl, by omega, by omega, fun a1 h1 => by cases (R_r0_1.symm.trans h1); first | omega | (simp only [e431, e432, e433, e434, e435, e436, e437, e438, e439, e440, e441, e442, e443, e444, e445, e448, k0_r0_1_0, k0_r0_1_1, k0_r0_1_2, k0_r0_1_3, k0_r0_1_4, k0_r0_1_5, k0_r0_3, k0_r0_11, k0_r0_12, k0_r0_13, k0_r0_16, k0_r0_19, and_true, true_and, or_true, true_or, and_false, false_and, or_false, false_or] <;> omega), by first | omega | (simp only [e431, e432, e433, e434, e435, e436, e437, e438, e439, e440, e441, e442, e443, e444, e445, e448, k0_r0_1_0, k0_r0_1_1, k0_r0_1_2, k0_r0_1_3, k0_r0_1_4, k0_r0_1_5, k0_r0_3, k0_r0_11, k0_r0_12, k0_r0_13, k0_r0_16, k0_r0_19, and_true, true_and, or_true, true_or, and_false, false_and, or_false, false_or] <;> omega), fun a1 h1 => by cases (R_r0_1.symm.trans h1); first | omega | (simp only [e431, e432, e433, e434, e435, e436, e437, e438, e439, e440, e441, e442, e443, e444, e445, e448, k0_r0_1_0, k0_r0_1_1, k0_r0_1_2, k0_r0_1_3, k0_r0_1_4, k0_r0_1_5, k0_r0_3, k0_r0_11, k0_r0_12, k0_r0_13, k0_r0_16, k0_r0_19, and_true, true_and, or_true, true_or, and_false, false_and, or_false, false_or] <;> omega), fun a1 h1 => by cases (R_r0_1.symm.trans h1); first | omega | (simp only [e431, e432, e433, e434, e435, e436, e437, e438, e439, e440, e441, e442, e443, e444, e445, e448, k0_r0_1_0, k0_r0_1_1, k0_r0_1_2, k0_r0_1_3, k0_r0_1_4, k0_r0_1_5, k0_r0_3, k0_r0_11, k0_r0_12, k0_r0_13, k0_r0_16, k0_r0_19, and_true, true_and, or_true, true_or, and_false, false_and, or_false, false_or] <;> omega), fun a1 h1 => by cases (R_r0_1.symm.trans h1); first | omega | (simp only [e431, e432, e433, e434, e435, e436, e437, e438, e439, e440, e441, e442, e443, e444, e445, e448, k0_r0_1_0, k0_r0_1_1, k0_r0_1_2, k0_r0_1_3, k0_r0_1_4, k0_r0_1_5, k0_r0_3, k0_r0_11, k0_r0_12, k0_r0_13, k0_r0_16, k0_r0_19, and_true, true_and, or_true, true_or, and_false, false_and, or_false, false_or] <;> omega), fun a1 a10 h1 h10 => by cases (R_r0_1.symm.trans h1); cases (R_r0_10.symm.trans h10); rw [k0_r0_11, hcc]; first | exact Or.inl ⟨by rw [e448]; omega, hZ, (fun r hr => (congrFun (hg.trans hg20.symm) r).trans ((hfr20 r hr).trans (congrFun w119 r)))⟩ | exact Or.inr (Or.inl ⟨by rw [e448]; omega, (by rw [hZ]; exact fun h9 => by cases h9), by simp only [k0_r0_1_3]; omega, (fun r hr => (congrFun (hg.trans hg20.symm) r).trans ((hfr20 r hr).trans (congrFun w119 r)))⟩), hI428, (CM.cons S4 (CM.cons S27 (CM.cons S44 (CM.cons S62 (CM.cons S81 (CM.cons S157 (CM.cons S230 (CM.cons S255 (CM.mono S430 (by decide) (by decide)) (by decide) (by decide)) (by decide) (by decide)) (by decide) (by decide)) (by decide) (by decide)) (by decide) (by decide)) (by decide) (by decide)) (by decide) (by decide)) (by decide) (by decide))⟩

