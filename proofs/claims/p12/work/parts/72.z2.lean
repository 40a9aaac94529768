/-! the reference: signs told (what stays), look: exactly -/
set_option maxHeartbeats 8000000 in
theorem a_X12_signs_x {d : Nat} {T N : Nat → Nat} {I : IT} {L : LT} {R : RT} {A : Nat → Prop} {r0 : Nat} (hI : IM R r0 I) (H_r0 : (h_MD T N R A) r0) : Ex (d + 31) 231 [.ref r0] (T, N, I, L, R) 0 0 (pI T N R (fun x9 I9 L9 => (0 ≤ x9.toInt) ∧ (x9.toInt ≤ 8) ∧ (∀ a1, R r0 1 = some a1 → (I a1 4).toInt + (I a1 5).toInt ≤ 40 → (I9 a1 4).toInt + (I9 a1 5).toInt ≤ 40) ∧ ((I9 r0 11).toInt = 0) ∧ (∀ a1, R r0 1 = some a1 → (I9 a1 0).toInt = (I a1 0).toInt) ∧ (∀ a1, R r0 1 = some a1 → (I9 a1 1).toInt = (I a1 1).toInt) ∧ (∀ a1, R r0 1 = some a1 → (I9 a1 2).toInt = (I a1 2).toInt) ∧ (∀ a1, R r0 1 = some a1 → ∀ r : Nat, r ≠ 3 ∧ (r < 198 ∨ 3406 ≤ r) ∧ r < 3606 → I9 a1 r = I a1 r) ∧ (IM R r0 I9 ∧ CM A R r0 [0, 11, 12, 13, 14, 15, 16, 17, 19] [1] I L I9 L9))) := by
  refine ⟨_, rfl, Nat.le_of_ble_eq_true rfl, fun V C S => ?_⟩
  show V 0 [(0, .ref r0)] [] (T, N, I, L, R) 0 0
  obtain ⟨T_r0, A_r0, ⟨r0_1, R_r0_1, H_r0_1⟩, ⟨r0_2, R_r0_2, H_r0_2⟩, ⟨r0_4, R_r0_4, H_r0_4⟩, ⟨r0_5, R_r0_5, H_r0_5⟩, ⟨r0_10, R_r0_10, H_r0_10⟩, ⟨r0_18, R_r0_18, H_r0_18⟩, ⟨r0_20, R_r0_20, H_r0_20⟩, ⟨r0_21, R_r0_21, H_r0_21⟩, ⟨r0_22, R_r0_22, H_r0_22⟩, ⟨r0_23, R_r0_23, H_r0_23⟩, ⟨r0_25, R_r0_25, H_r0_25⟩, ⟨r0_26, R_r0_26, H_r0_26⟩, ⟨r0_27, R_r0_27, H_r0_27⟩, ⟨r0_28, R_r0_28, H_r0_28⟩, ⟨r0_34, R_r0_34, H_r0_34⟩, J_r0, Y_r0⟩ := id H_r0
  have G_r0 : mF T R r0 := ⟨J_r0, Y_r0, T_r0⟩
  obtain ⟨w_r0_1_0, k0_r0_1_0⟩ : ∃ x, I r0_1 0 = x := ⟨_, rfl⟩
  have gw_r0_1_0 := rg w_r0_1_0
  have ow_r0_1_0 := IM.pi hI R_r0_1 k0_r0_1_0
  obtain ⟨w_r0_1_1, k0_r0_1_1⟩ : ∃ x, I r0_1 1 = x := ⟨_, rfl⟩
  have gw_r0_1_1 := rg w_r0_1_1
  have ow_r0_1_1 := IM.c1 hI R_r0_1 k0_r0_1_1
  obtain ⟨w_r0_1_2, k0_r0_1_2⟩ : ∃ x, I r0_1 2 = x := ⟨_, rfl⟩
  have gw_r0_1_2 := rg w_r0_1_2
  have ow_r0_1_2 := IM.c2 hI R_r0_1 k0_r0_1_2
  obtain ⟨w_r0_1_3, k0_r0_1_3⟩ : ∃ x, I r0_1 3 = x := ⟨_, rfl⟩
  have gw_r0_1_3 := rg w_r0_1_3
  have ow_r0_1_3 := IM.c3 hI R_r0_1 k0_r0_1_3
  obtain ⟨w_r0_1_4, k0_r0_1_4⟩ : ∃ x, I r0_1 4 = x := ⟨_, rfl⟩
  have gw_r0_1_4 := rg w_r0_1_4
  have ow_r0_1_4 := IM.c4 hI R_r0_1 k0_r0_1_4
  obtain ⟨w_r0_1_5, k0_r0_1_5⟩ : ∃ x, I r0_1 5 = x := ⟨_, rfl⟩
  have gw_r0_1_5 := rg w_r0_1_5
  have ow_r0_1_5 := IM.c5 hI R_r0_1 k0_r0_1_5
  obtain ⟨w_r0_3, k0_r0_3⟩ : ∃ x, I r0 3 = x := ⟨_, rfl⟩
  have gw_r0_3 := rg w_r0_3
  obtain ⟨g0, hg0⟩ : ∃ g, I r0_1 = g := ⟨_, rfl⟩
  have hg := hg0
  refine k_aload_n C rfl rfl rfl ?_
  obtain ⟨x1, e2⟩ : ∃ x, I r0 11 = x := ⟨_, rfl⟩
  have gx1 := rg x1
  have ox1 := IM.f11 hI e2
  refine c_VV C (a_X12_uses_e hI H_r0) rfl rfl rfl rfl rfl ⟨_, rfl, rfl, T_r0, Nat.le_of_ble_eq_true rfl⟩ rfl rfl (Nat.le_of_ble_eq_true rfl) (Nat.le_of_ble_eq_true rfl) (Nat.le_of_ble_eq_true rfl) ?_
  rintro I4 L5 ⟨p0v3, p1v3, p2v3, hI4, S6⟩
  have e7 := CM.j S6 R_r0_1 (by decide) k0_r0_1_0
  have e8 := CM.j S6 R_r0_1 (by decide) k0_r0_1_1
  have e9 := CM.j S6 R_r0_1 (by decide) k0_r0_1_2
  have e10 := CM.j S6 R_r0_1 (by decide) k0_r0_1_3
  have e11 := CM.j S6 R_r0_1 (by decide) k0_r0_1_4
  have e12 := CM.j S6 R_r0_1 (by decide) k0_r0_1_5
  have e13 := CM.k S6 (by decide) k0_r0_3
  obtain ⟨x15, e16⟩ : ∃ x, I4 r0 13 = x := ⟨_, rfl⟩
  have gx15 := rg x15
  have ox15 := IM.f13 hI4 e16
  obtain ⟨x17, e18⟩ : ∃ x, I4 r0 11 = x := ⟨_, rfl⟩
  have gx17 := rg x17
  have ox17 := IM.f11 hI4 e18
  obtain ⟨x19, e20⟩ : ∃ x, I4 r0 0 = x := ⟨_, rfl⟩
  have gx19 := rg x19
  have hg := (CM.j0 S6 R_r0_1 (by decide)).trans hg
  try simp only [k0_r0_1_0, k0_r0_1_1, k0_r0_1_2, k0_r0_1_3, k0_r0_1_4, k0_r0_1_5, k0_r0_3, e2, e16, e18, e20] at p0v3
  try have q0v3 := congrArg Int32.toInt p0v3
  try simp only [k0_r0_1_0, k0_r0_1_1, k0_r0_1_2, k0_r0_1_3, k0_r0_1_4, k0_r0_1_5, k0_r0_3, e2, e16, e18, e20] at p1v3
  try have q1v3 := congrArg Int32.toInt p1v3
  try simp only [k0_r0_1_0, k0_r0_1_1, k0_r0_1_2, k0_r0_1_3, k0_r0_1_4, k0_r0_1_5, k0_r0_3, e2, e16, e18, e20] at p2v3
  try have q2v3 := congrArg Int32.toInt p2v3
  refine k_aload_n C rfl rfl rfl ?_
  refine z_iconst C (z := 0) rfl rfl rfl (fun x21 ex21 => ?_)
  refine z_pI C rfl rfl rfl T_r0 (Or.inr rfl) rfl (fun I22 uI22 => ?_)
  have hI22 : IM R r0 I22 := IM.fld hI4 G_r0 ⟨(fun h => absurd h (by decide)), (fun _ => ⟨by omega, by omega⟩), (fun h => absurd h (by decide)), (fun h => absurd h (by decide)), (fun h => absurd h (by decide))⟩ uI22
  have S23 : CM A R r0 [15] [] I4 L5 I22 L5 := CM.f G_r0 A_r0 uI22
  have e24 := u2_n uI22 (mF.ne G_r0 R_r0_1) e7
  have e25 := u2_n uI22 (mF.ne G_r0 R_r0_1) e8
  have e26 := u2_n uI22 (mF.ne G_r0 R_r0_1) e9
  have e27 := u2_n uI22 (mF.ne G_r0 R_r0_1) e10
  have e28 := u2_n uI22 (mF.ne G_r0 R_r0_1) e11
  have e29 := u2_n uI22 (mF.ne G_r0 R_r0_1) e12
  have e30 := u2_j uI22 (by first | decide | exact ncne (by omega) (by omega) (by omega) | exact nckn (by omega) (by omega) | exact (nckn (by omega) (by omega)).symm) e13
  have e31 := u2_j uI22 (by first | decide | exact ncne (by omega) (by omega) (by omega) | exact nckn (by omega) (by omega) | exact (nckn (by omega) (by omega)).symm) e16
  have e32 := u2_j uI22 (by first | decide | exact ncne (by omega) (by omega) (by omega) | exact nckn (by omega) (by omega) | exact (nckn (by omega) (by omega)).symm) e18
  have e33 := u2_j uI22 (by first | decide | exact ncne (by omega) (by omega) (by omega) | exact nckn (by omega) (by omega) | exact (nckn (by omega) (by omega)).symm) e20
  have e34 := u2_e uI22
  have hg := (CM.j0 S23 R_r0_1 (by decide)).trans hg
  refine k_aload_n C rfl rfl rfl ?_
  refine z_iconst C (z := 0) rfl rfl rfl (fun x35 ex35 => ?_)
  refine z_pI C rfl rfl rfl T_r0 (Or.inr rfl) rfl (fun I36 uI36 => ?_)
  have hI36 : IM R r0 I36 := IM.fld hI22 G_r0 ⟨(fun h => absurd h (by decide)), (fun h => absurd h (by decide)), (fun _ => ⟨by omega, by omega⟩), (fun h => absurd h (by decide)), (fun h => absurd h (by decide))⟩ uI36
  have S37 : CM A R r0 [16] [] I22 L5 I36 L5 := CM.f G_r0 A_r0 uI36
  have e38 := u2_n uI36 (mF.ne G_r0 R_r0_1) e24
  have e39 := u2_n uI36 (mF.ne G_r0 R_r0_1) e25
  have e40 := u2_n uI36 (mF.ne G_r0 R_r0_1) e26
  have e41 := u2_n uI36 (mF.ne G_r0 R_r0_1) e27
  have e42 := u2_n uI36 (mF.ne G_r0 R_r0_1) e28
  have e43 := u2_n uI36 (mF.ne G_r0 R_r0_1) e29
  have e44 := u2_j uI36 (by first | decide | exact ncne (by omega) (by omega) (by omega) | exact nckn (by omega) (by omega) | exact (nckn (by omega) (by omega)).symm) e30
  have e45 := u2_j uI36 (by first | decide | exact ncne (by omega) (by omega) (by omega) | exact nckn (by omega) (by omega) | exact (nckn (by omega) (by omega)).symm) e31
  have e46 := u2_j uI36 (by first | decide | exact ncne (by omega) (by omega) (by omega) | exact nckn (by omega) (by omega) | exact (nckn (by omega) (by omega)).symm) e32
  have e47 := u2_j uI36 (by first | decide | exact ncne (by omega) (by omega) (by omega) | exact nckn (by omega) (by omega) | exact (nckn (by omega) (by omega)).symm) e33
  have e48 := u2_j uI36 (by first | decide | exact ncne (by omega) (by omega) (by omega) | exact nckn (by omega) (by omega) | exact (nckn (by omega) (by omega)).symm) e34
  have e49 := u2_e uI36
  have hg := (CM.j0 S37 R_r0_1 (by decide)).trans hg
  refine k_aload_n C rfl rfl rfl ?_
  refine z_iconst C (z := 0) rfl rfl rfl (fun x50 ex50 => ?_)
  refine z_pI C rfl rfl rfl T_r0 (Or.inr rfl) rfl (fun I51 uI51 => ?_)
  have hI51 : IM R r0 I51 := IM.fld hI36 G_r0 ⟨(fun h => absurd h (by decide)), (fun h => absurd h (by decide)), (fun h => absurd h (by decide)), (fun h => absurd h (by decide)), (fun h => absurd h (by decide))⟩ uI51
  have S52 : CM A R r0 [19] [] I36 L5 I51 L5 := CM.f G_r0 A_r0 uI51
  have e53 := u2_n uI51 (mF.ne G_r0 R_r0_1) e38
  have e54 := u2_n uI51 (mF.ne G_r0 R_r0_1) e39
  have e55 := u2_n uI51 (mF.ne G_r0 R_r0_1) e40
  have e56 := u2_n uI51 (mF.ne G_r0 R_r0_1) e41
  have e57 := u2_n uI51 (mF.ne G_r0 R_r0_1) e42
  have e58 := u2_n uI51 (mF.ne G_r0 R_r0_1) e43
  have e59 := u2_j uI51 (by first | decide | exact ncne (by omega) (by omega) (by omega) | exact nckn (by omega) (by omega) | exact (nckn (by omega) (by omega)).symm) e44
  have e60 := u2_j uI51 (by first | decide | exact ncne (by omega) (by omega) (by omega) | exact nckn (by omega) (by omega) | exact (nckn (by omega) (by omega)).symm) e45
  have e61 := u2_j uI51 (by first | decide | exact ncne (by omega) (by omega) (by omega) | exact nckn (by omega) (by omega) | exact (nckn (by omega) (by omega)).symm) e46
  have e62 := u2_j uI51 (by first | decide | exact ncne (by omega) (by omega) (by omega) | exact nckn (by omega) (by omega) | exact (nckn (by omega) (by omega)).symm) e47
  have e63 := u2_j uI51 (by first | decide | exact ncne (by omega) (by omega) (by omega) | exact nckn (by omega) (by omega) | exact (nckn (by omega) (by omega)).symm) e48
  have e64 := u2_j uI51 (by first | decide | exact ncne (by omega) (by omega) (by omega) | exact nckn (by omega) (by omega) | exact (nckn (by omega) (by omega)).symm) e49
  have e65 := u2_e uI51
  have hg := (CM.j0 S52 R_r0_1 (by decide)).trans hg
  refine k_aload_n C rfl rfl rfl ?_
  refine c_VI C (a_X12_readSum_0 hI51 H_r0 (by first | omega | (simp only [hg, e53, e54, e55, e56, e57, e58, e59, e60, e61, e62, e63, e64, e65, and_true, true_and, or_true, true_or, and_false, false_and, or_false, false_or] <;> omega)) (fun a1 h1 => by cases (R_r0_1.symm.trans h1); simp only [hg, e53, e54, e55, e56, e57, e58, e59, e60, e61, e62, e63, e64, e65]; exact PD.z (by omega)) (fun a1 h1 => by cases (R_r0_1.symm.trans h1); simp only [hg, e53, e54, e55, e56, e57, e58, e59, e60, e61, e62, e63, e64, e65]; (have hz := Hgt.z (g := g0) (x := x50) (by omega)); omega)) rfl rfl rfl rfl rfl ⟨_, rfl, rfl, T_r0, Nat.le_of_ble_eq_true rfl⟩ rfl rfl (Nat.le_of_ble_eq_true rfl) (Nat.le_of_ble_eq_true rfl) (Nat.le_of_ble_eq_true rfl) ?_
  rintro x66 I67 L68 ⟨o0x66, o1x66, p0x66, p1x66, p2x66, hI67, S69⟩
  have p0x66 := p0x66 r0_1 R_r0_1
  have p1x66 := p1x66 r0_1 R_r0_1
  have p2x66 := p2x66 r0_1 R_r0_1
  have F70 : ∀ r : Nat, r ≠ 3 ∧ (r < 198 ∨ 3406 ≤ r) ∧ r < 3606 → I67 r0_1 r = I51 r0_1 r := fun r z0 => p2x66 r (z0.2.2)
  have e71 := (p2x66 0 (by decide)).trans e53
  have e72 := (p2x66 1 (by decide)).trans e54
  have e73 := (p2x66 2 (by decide)).trans e55
  have e74 := (p2x66 3 (by decide)).trans e56
  have e75 := (p2x66 4 (by decide)).trans e57
  have e76 := (p2x66 5 (by decide)).trans e58
  have e77 := CM.k S69 (by decide) e59
  have e78 := CM.k S69 (by decide) e60
  have e79 := CM.k S69 (by decide) e61
  have e80 := CM.k S69 (by decide) e62
  have gx66 := rg x66
  obtain ⟨x84, e85⟩ : ∃ x, I67 r0 15 = x := ⟨_, rfl⟩
  have gx84 := rg x84
  have ox84 := IM.f15 hI67 e85
  obtain ⟨x86, e87⟩ : ∃ x, I67 r0 16 = x := ⟨_, rfl⟩
  have gx86 := rg x86
  have ox86 := IM.f16 hI67 e87
  obtain ⟨x88, e89⟩ : ∃ x, I67 r0 19 = x := ⟨_, rfl⟩
  have gx88 := rg x88
  obtain ⟨x90, e91⟩ : ∃ x, I67 r0 12 = x := ⟨_, rfl⟩
  have gx90 := rg x90
  have ox90 := IM.f12 hI67 e91
  obtain ⟨gS69, hgS69⟩ : ∃ g, I67 r0_1 = g := ⟨_, rfl⟩
  try simp only [e53, e54, e55, e56, e57, e58, e59, e60, e61, e62, e63, e64, e65, e85, e87, e89, e91, hg, hgS69] at p0x66
  try have q0x66 := congrArg Int32.toInt p0x66
  try simp only [e53, e54, e55, e56, e57, e58, e59, e60, e61, e62, e63, e64, e65, e85, e87, e89, e91, hg, hgS69] at p1x66
  try have q1x66 := congrArg Int32.toInt p1x66
  have hgo := hg
  have hg := hgS69
  have hP0 := p0x66
  have hP1 := p1x66
  refine k_istore_n C (lw := [(1, .int x66), (0, .ref r0)]) rfl rfl (Nat.le_of_ble_eq_true rfl) rfl ?_
  refine k_iload_n C rfl rfl rfl ?_
  refine b_if_eq C (t := 49) rfl rfl rfl (fun c92 => ?_) (fun c92 => ?_)
  · skip
    refine k_aload_n C rfl rfl rfl ?_
    refine k_iload_n C rfl rfl rfl ?_
    refine b_if_eq C (t := 58) rfl rfl rfl (fun c93 => ?_) (fun c93 => by exfalso; omega)
    refine k_aload_n C rfl rfl rfl ?_
    refine z_gI C rfl rfl rfl T_r0 rfl (fun x94 ex94 => ?_)
    have gx94 := rg x94
    have ox94 := IM.f14 hI67 ex94
    refine z_pI C rfl rfl rfl T_r0 (Or.inr rfl) rfl (fun I95 uI95 => ?_)
    have hI95 : IM R r0 I95 := IM.fld hI67 G_r0 ⟨(fun h => absurd h (by decide)), (fun h => absurd h (by decide)), (fun h => absurd h (by decide)), (fun h => absurd h (by decide)), (fun h => absurd h (by decide))⟩ uI95
    have S96 : CM A R r0 [17] [] I67 L68 I95 L68 := CM.f G_r0 A_r0 uI95
    have e97 := u2_n uI95 (mF.ne G_r0 R_r0_1) e71
    have e98 := u2_n uI95 (mF.ne G_r0 R_r0_1) e72
    have e99 := u2_n uI95 (mF.ne G_r0 R_r0_1) e73
    have e100 := u2_n uI95 (mF.ne G_r0 R_r0_1) e74
    have e101 := u2_n uI95 (mF.ne G_r0 R_r0_1) e75
    have e102 := u2_n uI95 (mF.ne G_r0 R_r0_1) e76
    have e103 := u2_j uI95 (by first | decide | exact ncne (by omega) (by omega) (by omega) | exact nckn (by omega) (by omega) | exact (nckn (by omega) (by omega)).symm) e77
    have e104 := u2_j uI95 (by first | decide | exact ncne (by omega) (by omega) (by omega) | exact nckn (by omega) (by omega) | exact (nckn (by omega) (by omega)).symm) e78
    have e105 := u2_j uI95 (by first | decide | exact ncne (by omega) (by omega) (by omega) | exact nckn (by omega) (by omega) | exact (nckn (by omega) (by omega)).symm) e79
    have e106 := u2_j uI95 (by first | decide | exact ncne (by omega) (by omega) (by omega) | exact nckn (by omega) (by omega) | exact (nckn (by omega) (by omega)).symm) e80
    have e107 := u2_j uI95 (by first | decide | exact ncne (by omega) (by omega) (by omega) | exact nckn (by omega) (by omega) | exact (nckn (by omega) (by omega)).symm) e85
    have e108 := u2_j uI95 (by first | decide | exact ncne (by omega) (by omega) (by omega) | exact nckn (by omega) (by omega) | exact (nckn (by omega) (by omega)).symm) e87
    have e109 := u2_j uI95 (by first | decide | exact ncne (by omega) (by omega) (by omega) | exact nckn (by omega) (by omega) | exact (nckn (by omega) (by omega)).symm) e89
    have e110 := u2_j uI95 (by first | decide | exact ncne (by omega) (by omega) (by omega) | exact nckn (by omega) (by omega) | exact (nckn (by omega) (by omega)).symm) e91
    have e111 := u2_j uI95 (by first | decide | exact ncne (by omega) (by omega) (by omega) | exact nckn (by omega) (by omega) | exact (nckn (by omega) (by omega)).symm) ex94
    have e112 := u2_e uI95
    have hg := (CM.j0 S96 R_r0_1 (by decide)).trans hg
    refine k_aload_n C rfl rfl rfl ?_
    refine k_iload_n C rfl rfl rfl ?_
    refine b_if_ne C (t := 74) rfl rfl rfl (fun c113 => by exfalso; omega) (fun c113 => ?_)
    refine z_iconst C (z := 1) rfl rfl rfl (fun x114 ex114 => ?_)
    refine k_goto C (pc2 := 75) rfl rfl ?_
    refine z_iconst C (z := 1) rfl rfl rfl (fun x115 ex115 => ?_)
    have q116 : x114.toNatClampNeg = 1 := nck (by omega)
    have q117 : x115.toNatClampNeg = 1 := nck (by omega)
    refine c_VI C (a_X12_throwsIf_e hI95 H_r0 (by omega) (by omega)) rfl rfl rfl rfl rfl ⟨_, rfl, rfl, T_r0, Nat.le_of_ble_eq_true rfl⟩ rfl rfl (Nat.le_of_ble_eq_true rfl) (Nat.le_of_ble_eq_true rfl) (Nat.le_of_ble_eq_true rfl) ?_
    rintro x118 I119 L120 ⟨o0x118, o1x118, p0x118, p1x118, hI119, S121⟩
    have e122 := CM.j S121 R_r0_1 (by decide) e97
    have e123 := CM.j S121 R_r0_1 (by decide) e98
    have e124 := CM.j S121 R_r0_1 (by decide) e99
    have e125 := CM.j S121 R_r0_1 (by decide) e100
    have e126 := CM.j S121 R_r0_1 (by decide) e101
    have e127 := CM.j S121 R_r0_1 (by decide) e102
    have e128 := CM.k S121 (by decide) e103
    have e129 := CM.k S121 (by decide) e104
    have e130 := CM.k S121 (by decide) e105
    have e132 := CM.k S121 (by decide) e107
    have e133 := CM.k S121 (by decide) e108
    have e134 := CM.k S121 (by decide) e109
    have e135 := CM.k S121 (by decide) e110
    have e136 := CM.k S121 (by decide) e111
    have e137 := CM.k S121 (by decide) e112
    have gx118 := rg x118
    obtain ⟨x138, e139⟩ : ∃ x, I119 r0 0 = x := ⟨_, rfl⟩
    have gx138 := rg x138
    have hg := (CM.j0 S121 R_r0_1 (by decide)).trans hg
    try simp only [q116, q117, e97, e98, e99, e100, e101, e102, e103, e104, e105, e106, e107, e108, e109, e110, e111, e112, e139] at p0x118
    try have q0x118 := congrArg Int32.toInt p0x118
    try simp only [q116, q117, e97, e98, e99, e100, e101, e102, e103, e104, e105, e106, e107, e108, e109, e110, e111, e112, e139] at p1x118
    try have q1x118 := congrArg Int32.toInt p1x118
    refine b_if_ne C (t := 106) rfl rfl rfl (fun c140 => ?_) (fun c140 => by exfalso; omega)
    refine z_iconst C (z := 0) rfl rfl rfl (fun x141 ex141 => ?_)
    exact k_iret C rfl (Or.inl rfl) (Nat.le_of_ble_eq_true rfl) (Nat.le_of_ble_eq_true rfl) ⟨_, _, _, rfl, rfl, by omega, by omega, fun a1 h1 => by cases (R_r0_1.symm.trans h1); first | omega | (simp only [e122, e123, e124, e125, e126, e127, e128, e129, e130, e132, e133, e134, e135, e136, e137, e139, k0_r0_1_0, k0_r0_1_1, k0_r0_1_2, k0_r0_1_3, k0_r0_1_4, k0_r0_1_5, k0_r0_3, and_true, true_and, or_true, true_or, and_false, false_and, or_false, false_or] <;> omega), by first | omega | (simp only [e122, e123, e124, e125, e126, e127, e128, e129, e130, e132, e133, e134, e135, e136, e137, e139, k0_r0_1_0, k0_r0_1_1, k0_r0_1_2, k0_r0_1_3, k0_r0_1_4, k0_r0_1_5, k0_r0_3, and_true, true_and, or_true, true_or, and_false, false_and, or_false, false_or] <;> omega), fun a1 h1 => by cases (R_r0_1.symm.trans h1); first | omega | (simp only [e122, e123, e124, e125, e126, e127, e128, e129, e130, e132, e133, e134, e135, e136, e137, e139, k0_r0_1_0, k0_r0_1_1, k0_r0_1_2, k0_r0_1_3, k0_r0_1_4, k0_r0_1_5, k0_r0_3, and_true, true_and, or_true, true_or, and_false, false_and, or_false, false_or] <;> omega), fun a1 h1 => by cases (R_r0_1.symm.trans h1); first | omega | (simp only [e122, e123, e124, e125, e126, e127, e128, e129, e130, e132, e133, e134, e135, e136, e137, e139, k0_r0_1_0, k0_r0_1_1, k0_r0_1_2, k0_r0_1_3, k0_r0_1_4, k0_r0_1_5, k0_r0_3, and_true, true_and, or_true, true_or, and_false, false_and, or_false, false_or] <;> omega), fun a1 h1 => by cases (R_r0_1.symm.trans h1); first | omega | (simp only [e122, e123, e124, e125, e126, e127, e128, e129, e130, e132, e133, e134, e135, e136, e137, e139, k0_r0_1_0, k0_r0_1_1, k0_r0_1_2, k0_r0_1_3, k0_r0_1_4, k0_r0_1_5, k0_r0_3, and_true, true_and, or_true, true_or, and_false, false_and, or_false, false_or] <;> omega), fun a1 h1 => by cases (R_r0_1.symm.trans h1); exact (fun r z0 => ((congrFun (CM.j0 S121 R_r0_1 (by decide)) r).trans ((congrFun (CM.j0 S96 R_r0_1 (by decide)) r).trans ((F70 r z0).trans ((congrFun (CM.j0 S52 R_r0_1 (by decide)) r).trans ((congrFun (CM.j0 S37 R_r0_1 (by decide)) r).trans ((congrFun (CM.j0 S23 R_r0_1 (by decide)) r).trans (congrFun (CM.j0 S6 R_r0_1 (by decide)) r)))))))), hI119, (CM.cons S6 (CM.cons S23 (CM.cons S37 (CM.cons S52 (CM.cons S69 (CM.cons S96 (CM.mono S121 (by decide) (by decide)) (by decide) (by decide)) (by decide) (by decide)) (by decide) (by decide)) (by decide) (by decide)) (by decide) (by decide)) (by decide) (by decide))⟩
  have hPD := hP1 (by omega)
  have hPq := hP0 (by omega)
  refine k_aload_n C rfl rfl rfl ?_
  refine c_VV C (a_X12_blanks hI67 H_r0) rfl rfl rfl rfl rfl ⟨_, rfl, rfl, T_r0, Nat.le_of_ble_eq_true rfl⟩ rfl rfl (Nat.le_of_ble_eq_true rfl) (Nat.le_of_ble_eq_true rfl) (Nat.le_of_ble_eq_true rfl) ?_
  rintro I143 L144 ⟨hI143, S145⟩
  have e146 := CM.j S145 R_r0_1 (by decide) e71
  have e147 := CM.j S145 R_r0_1 (by decide) e72
  have e148 := CM.j S145 R_r0_1 (by decide) e73
  have e149 := CM.j S145 R_r0_1 (by decide) e74
  have e150 := CM.j S145 R_r0_1 (by decide) e75
  have e151 := CM.j S145 R_r0_1 (by decide) e76
  have e152 := CM.k S145 (by decide) e77
  have e153 := CM.k S145 (by decide) e78
  have e154 := CM.k S145 (by decide) e79
  have e155 := CM.k S145 (by decide) e80
  have e156 := CM.k S145 (by decide) e85
  have e157 := CM.k S145 (by decide) e87
  have e158 := CM.k S145 (by decide) e89
  obtain ⟨x160, e161⟩ : ∃ x, I143 r0 12 = x := ⟨_, rfl⟩
  have gx160 := rg x160
  have ox160 := IM.f12 hI143 e161
  have hg := (CM.j0 S145 R_r0_1 (by decide)).trans hg
  refine k_aload_n C rfl rfl rfl ?_
  refine g_I C rfl rfl rfl T_r0 rfl e161 ?_
  refine k_aload_n C rfl rfl rfl ?_
  refine g_I C rfl rfl rfl T_r0 rfl e153 ?_
  refine b_icmp_ne C (t := 47) rfl rfl rfl (fun c162 => ?_) (fun c162 => ?_)
  · skip
    refine z_iconst C (z := 0) rfl rfl rfl (fun x163 ex163 => ?_)
    refine k_istore_n C (lw := [(1, .int x163), (0, .ref r0)]) rfl rfl (Nat.le_of_ble_eq_true rfl) rfl ?_
    refine k_aload_n C rfl rfl rfl ?_
    refine k_iload_n C rfl rfl rfl ?_
    refine b_if_eq C (t := 58) rfl rfl rfl (fun c164 => ?_) (fun c164 => by exfalso; omega)
    refine k_aload_n C rfl rfl rfl ?_
    refine z_gI C rfl rfl rfl T_r0 rfl (fun x165 ex165 => ?_)
    have gx165 := rg x165
    have ox165 := IM.f14 hI143 ex165
    refine z_pI C rfl rfl rfl T_r0 (Or.inr rfl) rfl (fun I166 uI166 => ?_)
    have hI166 : IM R r0 I166 := IM.fld hI143 G_r0 ⟨(fun h => absurd h (by decide)), (fun h => absurd h (by decide)), (fun h => absurd h (by decide)), (fun h => absurd h (by decide)), (fun h => absurd h (by decide))⟩ uI166
    have S167 : CM A R r0 [17] [] I143 L144 I166 L144 := CM.f G_r0 A_r0 uI166
    have e168 := u2_n uI166 (mF.ne G_r0 R_r0_1) e146
    have e169 := u2_n uI166 (mF.ne G_r0 R_r0_1) e147
    have e170 := u2_n uI166 (mF.ne G_r0 R_r0_1) e148
    have e171 := u2_n uI166 (mF.ne G_r0 R_r0_1) e149
    have e172 := u2_n uI166 (mF.ne G_r0 R_r0_1) e150
    have e173 := u2_n uI166 (mF.ne G_r0 R_r0_1) e151
    have e174 := u2_j uI166 (by first | decide | exact ncne (by omega) (by omega) (by omega) | exact nckn (by omega) (by omega) | exact (nckn (by omega) (by omega)).symm) e152
    have e175 := u2_j uI166 (by first | decide | exact ncne (by omega) (by omega) (by omega) | exact nckn (by omega) (by omega) | exact (nckn (by omega) (by omega)).symm) e153
    have e176 := u2_j uI166 (by first | decide | exact ncne (by omega) (by omega) (by omega) | exact nckn (by omega) (by omega) | exact (nckn (by omega) (by omega)).symm) e154
    have e177 := u2_j uI166 (by first | decide | exact ncne (by omega) (by omega) (by omega) | exact nckn (by omega) (by omega) | exact (nckn (by omega) (by omega)).symm) e155
    have e178 := u2_j uI166 (by first | decide | exact ncne (by omega) (by omega) (by omega) | exact nckn (by omega) (by omega) | exact (nckn (by omega) (by omega)).symm) e156
    have e179 := u2_j uI166 (by first | decide | exact ncne (by omega) (by omega) (by omega) | exact nckn (by omega) (by omega) | exact (nckn (by omega) (by omega)).symm) e157
    have e180 := u2_j uI166 (by first | decide | exact ncne (by omega) (by omega) (by omega) | exact nckn (by omega) (by omega) | exact (nckn (by omega) (by omega)).symm) e158
    have e181 := u2_j uI166 (by first | decide | exact ncne (by omega) (by omega) (by omega) | exact nckn (by omega) (by omega) | exact (nckn (by omega) (by omega)).symm) e161
    have e182 := u2_j uI166 (by first | decide | exact ncne (by omega) (by omega) (by omega) | exact nckn (by omega) (by omega) | exact (nckn (by omega) (by omega)).symm) ex165
    have e183 := u2_e uI166
    have hg := (CM.j0 S167 R_r0_1 (by decide)).trans hg
    refine k_aload_n C rfl rfl rfl ?_
    refine k_iload_n C rfl rfl rfl ?_
    refine b_if_ne C (t := 74) rfl rfl rfl (fun c184 => by exfalso; omega) (fun c184 => ?_)
    refine z_iconst C (z := 1) rfl rfl rfl (fun x185 ex185 => ?_)
    refine k_goto C (pc2 := 75) rfl rfl ?_
    refine z_iconst C (z := 1) rfl rfl rfl (fun x186 ex186 => ?_)
    have q187 : x185.toNatClampNeg = 1 := nck (by omega)
    have q188 : x186.toNatClampNeg = 1 := nck (by omega)
    refine c_VI C (a_X12_throwsIf_e hI166 H_r0 (by omega) (by omega)) rfl rfl rfl rfl rfl ⟨_, rfl, rfl, T_r0, Nat.le_of_ble_eq_true rfl⟩ rfl rfl (Nat.le_of_ble_eq_true rfl) (Nat.le_of_ble_eq_true rfl) (Nat.le_of_ble_eq_true rfl) ?_
    rintro x189 I190 L191 ⟨o0x189, o1x189, p0x189, p1x189, hI190, S192⟩
    have e193 := CM.j S192 R_r0_1 (by decide) e168
    have e194 := CM.j S192 R_r0_1 (by decide) e169
    have e195 := CM.j S192 R_r0_1 (by decide) e170
    have e196 := CM.j S192 R_r0_1 (by decide) e171
    have e197 := CM.j S192 R_r0_1 (by decide) e172
    have e198 := CM.j S192 R_r0_1 (by decide) e173
    have e199 := CM.k S192 (by decide) e174
    have e200 := CM.k S192 (by decide) e175
    have e201 := CM.k S192 (by decide) e176
    have e203 := CM.k S192 (by decide) e178
    have e204 := CM.k S192 (by decide) e179
    have e205 := CM.k S192 (by decide) e180
    have e206 := CM.k S192 (by decide) e181
    have e207 := CM.k S192 (by decide) e182
    have e208 := CM.k S192 (by decide) e183
    have gx189 := rg x189
    obtain ⟨x209, e210⟩ : ∃ x, I190 r0 0 = x := ⟨_, rfl⟩
    have gx209 := rg x209
    have hg := (CM.j0 S192 R_r0_1 (by decide)).trans hg
    try simp only [q187, q188, e168, e169, e170, e171, e172, e173, e174, e175, e176, e177, e178, e179, e180, e181, e182, e183, e210] at p0x189
    try have q0x189 := congrArg Int32.toInt p0x189
    try simp only [q187, q188, e168, e169, e170, e171, e172, e173, e174, e175, e176, e177, e178, e179, e180, e181, e182, e183, e210] at p1x189
    try have q1x189 := congrArg Int32.toInt p1x189
    refine b_if_ne C (t := 106) rfl rfl rfl (fun c211 => ?_) (fun c211 => by exfalso; omega)
    refine z_iconst C (z := 0) rfl rfl rfl (fun x212 ex212 => ?_)
    exact k_iret C rfl (Or.inl rfl) (Nat.le_of_ble_eq_true rfl) (Nat.le_of_ble_eq_true rfl) ⟨_, _, _, rfl, rfl, by omega, by omega, fun a1 h1 => by cases (R_r0_1.symm.trans h1); first | omega | (simp only [e193, e194, e195, e196, e197, e198, e199, e200, e201, e203, e204, e205, e206, e207, e208, e210, k0_r0_1_0, k0_r0_1_1, k0_r0_1_2, k0_r0_1_3, k0_r0_1_4, k0_r0_1_5, k0_r0_3, and_true, true_and, or_true, true_or, and_false, false_and, or_false, false_or] <;> omega), by first | omega | (simp only [e193, e194, e195, e196, e197, e198, e199, e200, e201, e203, e204, e205, e206, e207, e208, e210, k0_r0_1_0, k0_r0_1_1, k0_r0_1_2, k0_r0_1_3, k0_r0_1_4, k0_r0_1_5, k0_r0_3, and_true, true_and, or_true, true_or, and_false, false_and, or_false, false_or] <;> omega), fun a1 h1 => by cases (R_r0_1.symm.trans h1); first | omega | (simp only [e193, e194, e195, e196, e197, e198, e199, e200, e201, e203, e204, e205, e206, e207, e208, e210, k0_r0_1_0, k0_r0_1_1, k0_r0_1_2, k0_r0_1_3, k0_r0_1_4, k0_r0_1_5, k0_r0_3, and_true, true_and, or_true, true_or, and_false, false_and, or_false, false_or] <;> omega), fun a1 h1 => by cases (R_r0_1.symm.trans h1); first | omega | (simp only [e193, e194, e195, e196, e197, e198, e199, e200, e201, e203, e204, e205, e206, e207, e208, e210, k0_r0_1_0, k0_r0_1_1, k0_r0_1_2, k0_r0_1_3, k0_r0_1_4, k0_r0_1_5, k0_r0_3, and_true, true_and, or_true, true_or, and_false, false_and, or_false, false_or] <;> omega), fun a1 h1 => by cases (R_r0_1.symm.trans h1); first | omega | (simp only [e193, e194, e195, e196, e197, e198, e199, e200, e201, e203, e204, e205, e206, e207, e208, e210, k0_r0_1_0, k0_r0_1_1, k0_r0_1_2, k0_r0_1_3, k0_r0_1_4, k0_r0_1_5, k0_r0_3, and_true, true_and, or_true, true_or, and_false, false_and, or_false, false_or] <;> omega), fun a1 h1 => by cases (R_r0_1.symm.trans h1); exact (fun r z0 => ((congrFun (CM.j0 S192 R_r0_1 (by decide)) r).trans ((congrFun (CM.j0 S167 R_r0_1 (by decide)) r).trans ((congrFun (CM.j0 S145 R_r0_1 (by decide)) r).trans ((F70 r z0).trans ((congrFun (CM.j0 S52 R_r0_1 (by decide)) r).trans ((congrFun (CM.j0 S37 R_r0_1 (by decide)) r).trans ((congrFun (CM.j0 S23 R_r0_1 (by decide)) r).trans (congrFun (CM.j0 S6 R_r0_1 (by decide)) r))))))))), hI190, (CM.cons S6 (CM.cons S23 (CM.cons S37 (CM.cons S52 (CM.cons S69 (CM.cons S145 (CM.cons S167 (CM.mono S192 (by decide) (by decide)) (by decide) (by decide)) (by decide) (by decide)) (by decide) (by decide)) (by decide) (by decide)) (by decide) (by decide)) (by decide) (by decide)) (by decide) (by decide))⟩
  refine z_iconst C (z := 1) rfl rfl rfl (fun x213 ex213 => ?_)
  refine k_goto C (pc2 := 48) rfl rfl ?_
  refine k_istore_n C (lw := [(1, .int x213), (0, .ref r0)]) rfl rfl (Nat.le_of_ble_eq_true rfl) rfl ?_
  refine k_aload_n C rfl rfl rfl ?_
  refine k_iload_n C rfl rfl rfl ?_
  refine b_if_eq C (t := 58) rfl rfl rfl (fun c214 => by exfalso; omega) (fun c214 => ?_)
  refine z_iconst C (z := -1) rfl rfl rfl (fun x215 ex215 => ?_)
  refine k_goto C (pc2 := 62) rfl rfl ?_
  refine z_pI C rfl rfl rfl T_r0 (Or.inr rfl) rfl (fun I216 uI216 => ?_)
  have hI216 : IM R r0 I216 := IM.fld hI143 G_r0 ⟨(fun h => absurd h (by decide)), (fun h => absurd h (by decide)), (fun h => absurd h (by decide)), (fun h => absurd h (by decide)), (fun h => absurd h (by decide))⟩ uI216
  have S217 : CM A R r0 [17] [] I143 L144 I216 L144 := CM.f G_r0 A_r0 uI216
  have e218 := u2_n uI216 (mF.ne G_r0 R_r0_1) e146
  have e219 := u2_n uI216 (mF.ne G_r0 R_r0_1) e147
  have e220 := u2_n uI216 (mF.ne G_r0 R_r0_1) e148
  have e221 := u2_n uI216 (mF.ne G_r0 R_r0_1) e149
  have e222 := u2_n uI216 (mF.ne G_r0 R_r0_1) e150
  have e223 := u2_n uI216 (mF.ne G_r0 R_r0_1) e151
  have e224 := u2_j uI216 (by first | decide | exact ncne (by omega) (by omega) (by omega) | exact nckn (by omega) (by omega) | exact (nckn (by omega) (by omega)).symm) e152
  have e225 := u2_j uI216 (by first | decide | exact ncne (by omega) (by omega) (by omega) | exact nckn (by omega) (by omega) | exact (nckn (by omega) (by omega)).symm) e153
  have e226 := u2_j uI216 (by first | decide | exact ncne (by omega) (by omega) (by omega) | exact nckn (by omega) (by omega) | exact (nckn (by omega) (by omega)).symm) e154
  have e227 := u2_j uI216 (by first | decide | exact ncne (by omega) (by omega) (by omega) | exact nckn (by omega) (by omega) | exact (nckn (by omega) (by omega)).symm) e155
  have e228 := u2_j uI216 (by first | decide | exact ncne (by omega) (by omega) (by omega) | exact nckn (by omega) (by omega) | exact (nckn (by omega) (by omega)).symm) e156
  have e229 := u2_j uI216 (by first | decide | exact ncne (by omega) (by omega) (by omega) | exact nckn (by omega) (by omega) | exact (nckn (by omega) (by omega)).symm) e157
  have e230 := u2_j uI216 (by first | decide | exact ncne (by omega) (by omega) (by omega) | exact nckn (by omega) (by omega) | exact (nckn (by omega) (by omega)).symm) e158
  have e231 := u2_j uI216 (by first | decide | exact ncne (by omega) (by omega) (by omega) | exact nckn (by omega) (by omega) | exact (nckn (by omega) (by omega)).symm) e161
  have e232 := u2_e uI216
  have hg := (CM.j0 S217 R_r0_1 (by decide)).trans hg
  refine k_aload_n C rfl rfl rfl ?_
  refine k_iload_n C rfl rfl rfl ?_
  refine b_if_ne C (t := 74) rfl rfl rfl (fun c233 => ?_) (fun c233 => by exfalso; omega)
  refine z_iconst C (z := 0) rfl rfl rfl (fun x234 ex234 => ?_)
  refine z_iconst C (z := 1) rfl rfl rfl (fun x235 ex235 => ?_)
  have q236 : x234.toNatClampNeg = 0 := nck (by omega)
  have q237 : x235.toNatClampNeg = 1 := nck (by omega)
  refine c_VI C (a_X12_throwsIf_e hI216 H_r0 (by omega) (by omega)) rfl rfl rfl rfl rfl ⟨_, rfl, rfl, T_r0, Nat.le_of_ble_eq_true rfl⟩ rfl rfl (Nat.le_of_ble_eq_true rfl) (Nat.le_of_ble_eq_true rfl) (Nat.le_of_ble_eq_true rfl) ?_
  rintro x238 I239 L240 ⟨o0x238, o1x238, p0x238, p1x238, hI239, S241⟩
  have e242 := CM.j S241 R_r0_1 (by decide) e218
  have e243 := CM.j S241 R_r0_1 (by decide) e219
  have e244 := CM.j S241 R_r0_1 (by decide) e220
  have e245 := CM.j S241 R_r0_1 (by decide) e221
  have e246 := CM.j S241 R_r0_1 (by decide) e222
  have e247 := CM.j S241 R_r0_1 (by decide) e223
  have e248 := CM.k S241 (by decide) e224
  have e249 := CM.k S241 (by decide) e225
  have e250 := CM.k S241 (by decide) e226
  have e252 := CM.k S241 (by decide) e228
  have e253 := CM.k S241 (by decide) e229
  have e254 := CM.k S241 (by decide) e230
  have e255 := CM.k S241 (by decide) e231
  have e256 := CM.k S241 (by decide) e232
  have gx238 := rg x238
  obtain ⟨x257, e258⟩ : ∃ x, I239 r0 0 = x := ⟨_, rfl⟩
  have gx257 := rg x257
  have hg := (CM.j0 S241 R_r0_1 (by decide)).trans hg
  try simp only [q236, q237, e218, e219, e220, e221, e222, e223, e224, e225, e226, e227, e228, e229, e230, e231, e232, e258] at p0x238
  try have q0x238 := congrArg Int32.toInt p0x238
  try simp only [q236, q237, e218, e219, e220, e221, e222, e223, e224, e225, e226, e227, e228, e229, e230, e231, e232, e258] at p1x238
  try have q1x238 := congrArg Int32.toInt p1x238
  refine b_if_ne C (t := 106) rfl rfl rfl (fun c259 => by exfalso; omega) (fun c259 => ?_)
  refine k_aload_n C rfl rfl rfl ?_
  refine k_aload_n C rfl rfl rfl ?_
  refine g_R C rfl rfl rfl T_r0 rfl R_r0_1 ?_
  refine z_iconst C (z := 3) rfl rfl rfl (fun x260 ex260 => ?_)
  obtain ⟨T_r0_1, N_r0_1, A_r0_1⟩ := id H_r0_1
  refine a_I C rfl rfl T_r0_1 (by rw [N_r0_1]; exact vpi (by omega) (by omega)) ((congrArg (I239 r0_1) (nck (n := 3) (by omega))).trans e245) ?_
  refine z_bipush C (z := 8) rfl rfl rfl (fun x261 ex261 => ?_)
  refine b_icmp_ne C (t := 98) rfl rfl rfl (fun c262 => ?_) (fun c262 => ?_)
  · skip
    refine z_iconst C (z := 0) rfl rfl rfl (fun x263 ex263 => ?_)
    refine z_iconst C (z := 2) rfl rfl rfl (fun x264 ex264 => ?_)
    have q265 : x263.toNatClampNeg = 0 := nck (by omega)
    have q266 : x264.toNatClampNeg = 2 := nck (by omega)
    refine c_VI C (a_X12_throwsIf_e hI239 H_r0 (by omega) (by omega)) rfl rfl rfl rfl rfl ⟨_, rfl, rfl, T_r0, Nat.le_of_ble_eq_true rfl⟩ rfl rfl (Nat.le_of_ble_eq_true rfl) (Nat.le_of_ble_eq_true rfl) (Nat.le_of_ble_eq_true rfl) ?_
    rintro x267 I268 L269 ⟨o0x267, o1x267, p0x267, p1x267, hI268, S270⟩
    have e271 := CM.j S270 R_r0_1 (by decide) e242
    have e272 := CM.j S270 R_r0_1 (by decide) e243
    have e273 := CM.j S270 R_r0_1 (by decide) e244
    have e274 := CM.j S270 R_r0_1 (by decide) e245
    have e275 := CM.j S270 R_r0_1 (by decide) e246
    have e276 := CM.j S270 R_r0_1 (by decide) e247
    have e277 := CM.k S270 (by decide) e248
    have e278 := CM.k S270 (by decide) e249
    have e279 := CM.k S270 (by decide) e250
    have e280 := CM.k S270 (by decide) e252
    have e281 := CM.k S270 (by decide) e253
    have e282 := CM.k S270 (by decide) e254
    have e283 := CM.k S270 (by decide) e255
    have e284 := CM.k S270 (by decide) e256
    have gx267 := rg x267
    obtain ⟨x286, e287⟩ : ∃ x, I268 r0 0 = x := ⟨_, rfl⟩
    have gx286 := rg x286
    have hg := (CM.j0 S270 R_r0_1 (by decide)).trans hg
    try simp only [q265, q266, e242, e243, e244, e245, e246, e247, e248, e249, e250, e252, e253, e254, e255, e256, e258, e287] at p0x267
    try have q0x267 := congrArg Int32.toInt p0x267
    try simp only [q265, q266, e242, e243, e244, e245, e246, e247, e248, e249, e250, e252, e253, e254, e255, e256, e258, e287] at p1x267
    try have q1x267 := congrArg Int32.toInt p1x267
    refine b_if_eq C (t := 108) rfl rfl rfl (fun c288 => ?_) (fun c288 => by exfalso; omega)
    refine k_aload_n C rfl rfl rfl ?_
    refine g_R C rfl rfl rfl T_r0 rfl R_r0_1 ?_
    refine z_iconst C (z := 3) rfl rfl rfl (fun x289 ex289 => ?_)
    refine a_I C rfl rfl T_r0_1 (by rw [N_r0_1]; exact vpi (by omega) (by omega)) ((congrArg (I268 r0_1) (nck (n := 3) (by omega))).trans e274) ?_
    refine k_istore_n C (lw := [(2, .int w_r0_1_3), (1, .int x213), (0, .ref r0)]) rfl rfl (Nat.le_of_ble_eq_true rfl) rfl ?_
    refine k_aload_n C rfl rfl rfl ?_
    refine g_R C rfl rfl rfl T_r0 rfl R_r0_1 ?_
    refine z_sipush C (z := 3606) rfl rfl rfl (fun x290 ex290 => ?_)
    refine k_aload_n C rfl rfl rfl ?_
    refine g_I C rfl rfl rfl T_r0 rfl e282 ?_
    refine z_sI C rfl rfl T_r0_1 N_r0_1 (by omega) (by omega) (fun I291 uI291 => ?_)
    have uI291 : I291 = u2 I268 r0_1 3606 (x88) := by rw [uI291, nck (n := 3606) (by omega)]
    have hI291 : IM R r0 I291 := IM.arr hI268 G_r0 R_r0_1 ⟨(fun h => absurd h (by decide)), (fun h => absurd h (by decide)), (fun h => absurd h (by decide))⟩ (fun _ => WOK.drn (IM.w hI268 R_r0_1) (by decide)) uI291
    have S292 : CM A R r0 [] [1] I268 L269 I291 L269 := CM.a G_r0 R_r0_1 A_r0_1 uI291
    have F293 : ∀ r : Nat, r ≠ 3 ∧ (r < 198 ∨ 3406 ≤ r) ∧ r < 3606 → I291 r0_1 r = I268 r0_1 r := fun r z0 => by rw [uI291]; exact u2_k (by have h9 := ncz (x := x290) (by omega); omega)
    have e294 := u2_j uI291 (by first | decide | exact ncne (by omega) (by omega) (by omega) | exact nckn (by omega) (by omega) | exact (nckn (by omega) (by omega)).symm) e271
    have e295 := u2_j uI291 (by first | decide | exact ncne (by omega) (by omega) (by omega) | exact nckn (by omega) (by omega) | exact (nckn (by omega) (by omega)).symm) e272
    have e296 := u2_j uI291 (by first | decide | exact ncne (by omega) (by omega) (by omega) | exact nckn (by omega) (by omega) | exact (nckn (by omega) (by omega)).symm) e273
    have e297 := u2_j uI291 (by first | decide | exact ncne (by omega) (by omega) (by omega) | exact nckn (by omega) (by omega) | exact (nckn (by omega) (by omega)).symm) e274
    have e298 := u2_j uI291 (by first | decide | exact ncne (by omega) (by omega) (by omega) | exact nckn (by omega) (by omega) | exact (nckn (by omega) (by omega)).symm) e275
    have e299 := u2_j uI291 (by first | decide | exact ncne (by omega) (by omega) (by omega) | exact nckn (by omega) (by omega) | exact (nckn (by omega) (by omega)).symm) e276
    have e300 := u2_n uI291 (fun e => (mF.ne G_r0 R_r0_1) e.symm) e277
    have e301 := u2_n uI291 (fun e => (mF.ne G_r0 R_r0_1) e.symm) e278
    have e302 := u2_n uI291 (fun e => (mF.ne G_r0 R_r0_1) e.symm) e279
    have e303 := u2_n uI291 (fun e => (mF.ne G_r0 R_r0_1) e.symm) e280
    have e304 := u2_n uI291 (fun e => (mF.ne G_r0 R_r0_1) e.symm) e281
    have e305 := u2_n uI291 (fun e => (mF.ne G_r0 R_r0_1) e.symm) e282
    have e306 := u2_n uI291 (fun e => (mF.ne G_r0 R_r0_1) e.symm) e283
    have e307 := u2_n uI291 (fun e => (mF.ne G_r0 R_r0_1) e.symm) e284
    have e308 := u2_n uI291 (fun e => (mF.ne G_r0 R_r0_1) e.symm) e287
    have e309 := u2_e uI291
    have hSG := SGN.dr hPD hg uI291 (by omega) (by omega)
    refine z_iconst C (z := 0) rfl rfl rfl (fun x310 ex310 => ?_)
    have J311 : ∀ (nn312 : Nat) (I313 : IT) (L314 : LT) (x315 : Int32) (x321 : Int32) (x325 : Int32) (x329 : Int32) (x333 : Int32) (x337 : Int32) (x341 : Int32), (MN (401 - x315.toInt) nn312) → (IM R r0 I313) → (CM A R r0 [] [1] I291 L269 I313 L314) → (∀ r : Nat, r ≠ 3 ∧ (r < 198 ∨ 3406 ≤ r) ∧ r < 3606 → I313 r0_1 r = I291 r0_1 r) → (0 ≤ x315.toInt) → (x315.toInt ≤ 401) → (I313 r0_1 0 = x321) → (11 ≤ x321.toInt) → (x321.toInt ≤ 19) → (I313 r0_1 1 = x325) → (0 ≤ x325.toInt) → (x325.toInt ≤ 16) → (I313 r0_1 2 = x329) → (0 ≤ x329.toInt) → (x329.toInt ≤ 8) → (I313 r0_1 3 = x333) → (0 ≤ x333.toInt) → (x333.toInt ≤ 8) → (I313 r0_1 4 = x337) → (0 ≤ x337.toInt) → (x337.toInt ≤ 40) → (I313 r0_1 5 = x341) → (0 ≤ x341.toInt) → (x341.toInt ≤ 40) → (x321.toInt = w_r0_1_0.toInt) → (x325.toInt = w_r0_1_1.toInt) → (x329.toInt = w_r0_1_2.toInt) → (x333.toInt = w_r0_1_3.toInt) → (x337.toInt = w_r0_1_4.toInt) → (x341.toInt = w_r0_1_5.toInt) → (SGN (I313 r0_1) 3606) → (CPS (I313 r0_1) (198 + 401 * w_r0_1_3.toNatClampNeg) x315.toInt) → V 129 [(0, .ref r0), (2, .int w_r0_1_3), (3, .int x315)] [] (T, N, I313, L314, R) 0 0 := by
      intro nn312
      induction nn312 using Nat.strongRecOn with
      | _ nn312 ihJ311 =>
        intro I313 L314 x315 x321 x325 x329 x333 x337 x341 hmnn312 hI319 S318 F320 b316 b317 e322 b323 b324 e326 b327 b328 e330 b331 b332 e334 b335 b336 e338 b339 b340 e342 b343 b344 ff129_0 ff129_1 ff129_2 ff129_3 ff129_4 ff129_5 ff129_6 ff129_7
        have gx315 := rg x315
        have gx321 := rg x321
        have gx325 := rg x325
        have gx329 := rg x329
        have gx333 := rg x333
        have gx337 := rg x337
        have gx341 := rg x341
        have e345 := CM.k S318 (by decide) e300
        have e346 := CM.k S318 (by decide) e301
        have e347 := CM.k S318 (by decide) e302
        have e348 := CM.k S318 (by decide) e303
        have e349 := CM.k S318 (by decide) e304
        have e350 := CM.k S318 (by decide) e305
        have e351 := CM.k S318 (by decide) e306
        have e352 := CM.k S318 (by decide) e307
        have e353 := CM.k S318 (by decide) e308
        refine k_iload_n C rfl rfl rfl ?_
        refine z_sipush C (z := 401) rfl rfl rfl (fun x354 ex354 => ?_)
        refine b_icmp_ge C (t := 168) rfl rfl rfl (fun c355 => ?_) (fun c355 => ?_)
        · skip
          refine k_aload_n C rfl rfl rfl ?_
          refine g_R C rfl rfl rfl T_r0 rfl R_r0_1 ?_
          refine z_iconst C (z := 3) rfl rfl rfl (fun x356 ex356 => ?_)
          refine k_dup2 C rfl rfl rfl rfl ?_
          refine a_I C rfl rfl T_r0_1 (by rw [N_r0_1]; exact vpi (by omega) (by omega)) ((congrArg (I313 r0_1) (nck (n := 3) (by omega))).trans e334) ?_
          refine z_iconst C (z := 1) rfl rfl rfl (fun x357 ex357 => ?_)
          refine z_iadd C rfl rfl ⟨by omega, by omega⟩ (fun x358 ex358 => ?_)
          refine z_sI C rfl rfl T_r0_1 N_r0_1 (by omega) (by omega) (fun I359 uI359 => ?_)
          have uI359 : I359 = u2 I313 r0_1 3 (x358) := by rw [uI359, nck (n := 3) (by omega)]
          have hI359 : IM R r0 I359 := IM.arr hI319 G_r0 R_r0_1 ⟨(fun h => absurd h (by decide)), (fun h => absurd h (by decide)), (fun h => absurd h (by decide))⟩ (fun _ => WOK.c3 (IM.w hI319 R_r0_1) (s := w_r0_1_3) (by rw [e334]; omega) (by omega) (by omega) (SGN.cp ff129_6 ff129_7 (by omega))) uI359
          have S360 : CM A R r0 [] [1] I313 L314 I359 L314 := CM.a G_r0 R_r0_1 A_r0_1 uI359
          have F361 : ∀ r : Nat, r ≠ 3 ∧ (r < 198 ∨ 3406 ≤ r) ∧ r < 3606 → I359 r0_1 r = I313 r0_1 r := fun r z0 => by rw [uI359]; exact u2_k (by have h9 := ncz (x := x356) (by omega); omega)
          have e362 := u2_n uI359 (fun e => (mF.ne G_r0 R_r0_1) e.symm) e345
          have e363 := u2_n uI359 (fun e => (mF.ne G_r0 R_r0_1) e.symm) e346
          have e364 := u2_n uI359 (fun e => (mF.ne G_r0 R_r0_1) e.symm) e347
          have e365 := u2_n uI359 (fun e => (mF.ne G_r0 R_r0_1) e.symm) e348
          have e366 := u2_n uI359 (fun e => (mF.ne G_r0 R_r0_1) e.symm) e349
          have e367 := u2_n uI359 (fun e => (mF.ne G_r0 R_r0_1) e.symm) e350
          have e368 := u2_n uI359 (fun e => (mF.ne G_r0 R_r0_1) e.symm) e351
          have e369 := u2_n uI359 (fun e => (mF.ne G_r0 R_r0_1) e.symm) e352
          have e370 := u2_n uI359 (fun e => (mF.ne G_r0 R_r0_1) e.symm) e353
          have e371 := u2_j uI359 (by first | decide | exact ncne (by omega) (by omega) (by omega) | exact nckn (by omega) (by omega) | exact (nckn (by omega) (by omega)).symm) e322
          have e372 := u2_j uI359 (by first | decide | exact ncne (by omega) (by omega) (by omega) | exact nckn (by omega) (by omega) | exact (nckn (by omega) (by omega)).symm) e326
          have e373 := u2_j uI359 (by first | decide | exact ncne (by omega) (by omega) (by omega) | exact nckn (by omega) (by omega) | exact (nckn (by omega) (by omega)).symm) e330
          have e375 := u2_j uI359 (by first | decide | exact ncne (by omega) (by omega) (by omega) | exact nckn (by omega) (by omega) | exact (nckn (by omega) (by omega)).symm) e338
          have e376 := u2_j uI359 (by first | decide | exact ncne (by omega) (by omega) (by omega) | exact nckn (by omega) (by omega) | exact (nckn (by omega) (by omega)).symm) e342
          have e377 := u2_e uI359
          refine k_iload_n C rfl rfl rfl ?_
          exact k_iret C rfl (Or.inl rfl) (Nat.le_of_ble_eq_true rfl) (Nat.le_of_ble_eq_true rfl) ⟨_, _, _, rfl, rfl, by omega, by omega, fun a1 h1 => by cases (R_r0_1.symm.trans h1); first | omega | (simp only [e362, e363, e364, e365, e366, e367, e368, e369, e370, e371, e372, e373, e375, e376, e377, k0_r0_1_0, k0_r0_1_1, k0_r0_1_2, k0_r0_1_3, k0_r0_1_4, k0_r0_1_5, k0_r0_3, and_true, true_and, or_true, true_or, and_false, false_and, or_false, false_or] <;> omega), by first | omega | (simp only [e362, e363, e364, e365, e366, e367, e368, e369, e370, e371, e372, e373, e375, e376, e377, k0_r0_1_0, k0_r0_1_1, k0_r0_1_2, k0_r0_1_3, k0_r0_1_4, k0_r0_1_5, k0_r0_3, and_true, true_and, or_true, true_or, and_false, false_and, or_false, false_or] <;> omega), fun a1 h1 => by cases (R_r0_1.symm.trans h1); first | omega | (simp only [e362, e363, e364, e365, e366, e367, e368, e369, e370, e371, e372, e373, e375, e376, e377, k0_r0_1_0, k0_r0_1_1, k0_r0_1_2, k0_r0_1_3, k0_r0_1_4, k0_r0_1_5, k0_r0_3, and_true, true_and, or_true, true_or, and_false, false_and, or_false, false_or] <;> omega), fun a1 h1 => by cases (R_r0_1.symm.trans h1); first | omega | (simp only [e362, e363, e364, e365, e366, e367, e368, e369, e370, e371, e372, e373, e375, e376, e377, k0_r0_1_0, k0_r0_1_1, k0_r0_1_2, k0_r0_1_3, k0_r0_1_4, k0_r0_1_5, k0_r0_3, and_true, true_and, or_true, true_or, and_false, false_and, or_false, false_or] <;> omega), fun a1 h1 => by cases (R_r0_1.symm.trans h1); first | omega | (simp only [e362, e363, e364, e365, e366, e367, e368, e369, e370, e371, e372, e373, e375, e376, e377, k0_r0_1_0, k0_r0_1_1, k0_r0_1_2, k0_r0_1_3, k0_r0_1_4, k0_r0_1_5, k0_r0_3, and_true, true_and, or_true, true_or, and_false, false_and, or_false, false_or] <;> omega), fun a1 h1 => by cases (R_r0_1.symm.trans h1); exact (fun r z0 => ((F361 r z0).trans ((F320 r z0).trans ((F293 r z0).trans ((congrFun (CM.j0 S270 R_r0_1 (by decide)) r).trans ((congrFun (CM.j0 S241 R_r0_1 (by decide)) r).trans ((congrFun (CM.j0 S217 R_r0_1 (by decide)) r).trans ((congrFun (CM.j0 S145 R_r0_1 (by decide)) r).trans ((F70 r z0).trans ((congrFun (CM.j0 S52 R_r0_1 (by decide)) r).trans ((congrFun (CM.j0 S37 R_r0_1 (by decide)) r).trans ((congrFun (CM.j0 S23 R_r0_1 (by decide)) r).trans (congrFun (CM.j0 S6 R_r0_1 (by decide)) r))))))))))))), hI359, (CM.cons S6 (CM.cons S23 (CM.cons S37 (CM.cons S52 (CM.cons S69 (CM.cons S145 (CM.cons S217 (CM.cons S241 (CM.cons S270 (CM.cons S292 (CM.cons S318 (CM.mono S360 (by decide) (by decide)) (by decide) (by decide)) (by decide) (by decide)) (by decide) (by decide)) (by decide) (by decide)) (by decide) (by decide)) (by decide) (by decide)) (by decide) (by decide)) (by decide) (by decide)) (by decide) (by decide)) (by decide) (by decide)) (by decide) (by decide))⟩
        refine k_aload_n C rfl rfl rfl ?_
        refine g_R C rfl rfl rfl T_r0 rfl R_r0_1 ?_
        refine z_sipush C (z := 198) rfl rfl rfl (fun x378 ex378 => ?_)
        refine z_sipush C (z := 401) rfl rfl rfl (fun x379 ex379 => ?_)
        refine k_iload_n C rfl rfl rfl ?_
        refine z_imulL C (c := 401) rfl rfl (by omega) ⟨by omega, by omega⟩ (fun x380 ex380 => ?_)
        refine z_iadd C rfl rfl ⟨by omega, by omega⟩ (fun x381 ex381 => ?_)
        refine k_iload_n C rfl rfl rfl ?_
        refine z_iadd C rfl rfl ⟨by omega, by omega⟩ (fun x382 ex382 => ?_)
        refine k_aload_n C rfl rfl rfl ?_
        refine g_R C rfl rfl rfl T_r0 rfl R_r0_1 ?_
        refine z_sipush C (z := 3606) rfl rfl rfl (fun x383 ex383 => ?_)
        refine k_iload_n C rfl rfl rfl ?_
        refine z_iadd C rfl rfl ⟨by omega, by omega⟩ (fun x384 ex384 => ?_)
        refine z_aI C rfl rfl T_r0_1 N_r0_1 (by omega) (by omega) (fun x385 ex385 => ?_)
        have gx385 := rg x385
        have hr := ex385
        refine z_sI C rfl rfl T_r0_1 N_r0_1 (by omega) (by omega) (fun I386 uI386 => ?_)
        have hI386 : IM R r0 I386 := IM.arr hI319 G_r0 R_r0_1 ⟨(fun h => absurd h (by decide)), (fun h => absurd h (by decide)), (fun h => absurd h (by decide))⟩ (fun _ => WOK.sg (IM.w hI319 R_r0_1) (s := w_r0_1_3) (by rw [e334]; omega) (by omega) ⟨by omega, by omega⟩) uI386
        have S387 : CM A R r0 [] [1] I313 L314 I386 L314 := CM.a G_r0 R_r0_1 A_r0_1 uI386
        have F388 : ∀ r : Nat, r ≠ 3 ∧ (r < 198 ∨ 3406 ≤ r) ∧ r < 3606 → I386 r0_1 r = I313 r0_1 r := fun r z0 => by rw [uI386]; exact u2_k (by have h9 := ncz (x := x382) (by omega); omega)
        have e389 := u2_n uI386 (fun e => (mF.ne G_r0 R_r0_1) e.symm) e345
        have e390 := u2_n uI386 (fun e => (mF.ne G_r0 R_r0_1) e.symm) e346
        have e391 := u2_n uI386 (fun e => (mF.ne G_r0 R_r0_1) e.symm) e347
        have e392 := u2_n uI386 (fun e => (mF.ne G_r0 R_r0_1) e.symm) e348
        have e393 := u2_n uI386 (fun e => (mF.ne G_r0 R_r0_1) e.symm) e349
        have e394 := u2_n uI386 (fun e => (mF.ne G_r0 R_r0_1) e.symm) e350
        have e395 := u2_n uI386 (fun e => (mF.ne G_r0 R_r0_1) e.symm) e351
        have e396 := u2_n uI386 (fun e => (mF.ne G_r0 R_r0_1) e.symm) e352
        have e397 := u2_n uI386 (fun e => (mF.ne G_r0 R_r0_1) e.symm) e353
        have e398 := u2_j uI386 (by first | decide | exact ncne (by omega) (by omega) (by omega) | exact nckn (by omega) (by omega) | exact (nckn (by omega) (by omega)).symm) e322
        have e399 := u2_j uI386 (by first | decide | exact ncne (by omega) (by omega) (by omega) | exact nckn (by omega) (by omega) | exact (nckn (by omega) (by omega)).symm) e326
        have e400 := u2_j uI386 (by first | decide | exact ncne (by omega) (by omega) (by omega) | exact nckn (by omega) (by omega) | exact (nckn (by omega) (by omega)).symm) e330
        have e401 := u2_j uI386 (by first | decide | exact ncne (by omega) (by omega) (by omega) | exact nckn (by omega) (by omega) | exact (nckn (by omega) (by omega)).symm) e334
        have e402 := u2_j uI386 (by first | decide | exact ncne (by omega) (by omega) (by omega) | exact nckn (by omega) (by omega) | exact (nckn (by omega) (by omega)).symm) e338
        have e403 := u2_j uI386 (by first | decide | exact ncne (by omega) (by omega) (by omega) | exact nckn (by omega) (by omega) | exact (nckn (by omega) (by omega)).symm) e342
        have e404 := u2_j uI386 (by first | decide | exact ncne (by omega) (by omega) (by omega) | exact nckn (by omega) (by omega) | exact (nckn (by omega) (by omega)).symm) ex385
        have e405 := u2_e uI386
        have hu161 := uI386
        refine z_iinc C (z := 1) (lw := fun x406 => [(3, .int x406), (0, .ref r0), (2, .int w_r0_1_3)]) rfl rfl rfl (Nat.le_of_ble_eq_true rfl) rfl ⟨by omega, by omega⟩ (fun _ => rfl) (fun x406 ex406 => ?_)
        show V 165 [(3, .int x406), (0, .ref r0), (2, .int w_r0_1_3)] _ _ _ _
        refine k_goto C (pc2 := 129) rfl rfl ?_
        refine k_sub S [(0, .ref r0), (2, .int w_r0_1_3), (3, .int x406)] (List.forall_mem_cons.mpr ⟨List.mem_of_getElem? (i := 1) rfl, List.forall_mem_cons.mpr ⟨List.mem_of_getElem? (i := 2) rfl, List.forall_mem_cons.mpr ⟨List.mem_of_getElem? (i := 0) rfl, fun _ h => nomatch h⟩⟩⟩) ?_
        exact ihJ311 _ (MN.lt hmnn312 (by omega) (by omega)) I386 L314 x406 x321 x325 x329 x333 x337 x341 rfl hI386 (CM.cons S318 (CM.mono S387 (by decide) (by decide)) (by decide) (by decide)) (fun r z0 => ((F388 r z0).trans (F320 r z0))) (by omega) (by omega) e398 (by omega) (by omega) e399 (by omega) (by omega) e400 (by omega) (by omega) e401 (by omega) (by omega) e402 (by omega) (by omega) e403 (by omega) (by omega) (by omega) (by omega) (by omega) (by omega) (by omega) (by omega) (by exact SGN.w ff129_6 hu161 (by omega) (by omega)) (by exact CPS.s ff129_7 hu161 hr ⟨by omega, by omega⟩ ⟨by omega, by omega⟩ (by omega) (by omega) (by omega))
    refine k_istore_n C (lw := [(3, .int x310), (2, .int w_r0_1_3), (1, .int x213), (0, .ref r0)]) rfl rfl (Nat.le_of_ble_eq_true rfl) rfl ?_
    refine k_sub S [(0, .ref r0), (2, .int w_r0_1_3), (3, .int x310)] (List.forall_mem_cons.mpr ⟨List.mem_of_getElem? (i := 3) rfl, List.forall_mem_cons.mpr ⟨List.mem_of_getElem? (i := 1) rfl, List.forall_mem_cons.mpr ⟨List.mem_of_getElem? (i := 0) rfl, fun _ h => nomatch h⟩⟩⟩) ?_
    exact J311 _ I291 L269 x310 w_r0_1_0 w_r0_1_1 w_r0_1_2 w_r0_1_3 w_r0_1_4 w_r0_1_5 rfl hI291 CM.rf (fun r z0 => rfl) (by omega) (by omega) e294 (by omega) (by omega) e295 (by omega) (by omega) e296 (by omega) (by omega) e297 (by omega) (by omega) e298 (by omega) (by omega) e299 (by omega) (by omega) (by omega) (by omega) (by omega) (by omega) (by omega) (by omega) (by exact hSG) (by exact CPS.z (by omega))
  refine z_iconst C (z := 1) rfl rfl rfl (fun x407 ex407 => ?_)
  refine k_goto C (pc2 := 99) rfl rfl ?_
  refine z_iconst C (z := 2) rfl rfl rfl (fun x408 ex408 => ?_)
  have q409 : x407.toNatClampNeg = 1 := nck (by omega)
  have q410 : x408.toNatClampNeg = 2 := nck (by omega)
  refine c_VI C (a_X12_throwsIf_e hI239 H_r0 (by omega) (by omega)) rfl rfl rfl rfl rfl ⟨_, rfl, rfl, T_r0, Nat.le_of_ble_eq_true rfl⟩ rfl rfl (Nat.le_of_ble_eq_true rfl) (Nat.le_of_ble_eq_true rfl) (Nat.le_of_ble_eq_true rfl) ?_
  rintro x411 I412 L413 ⟨o0x411, o1x411, p0x411, p1x411, hI412, S414⟩
  have e415 := CM.j S414 R_r0_1 (by decide) e242
  have e416 := CM.j S414 R_r0_1 (by decide) e243
  have e417 := CM.j S414 R_r0_1 (by decide) e244
  have e418 := CM.j S414 R_r0_1 (by decide) e245
  have e419 := CM.j S414 R_r0_1 (by decide) e246
  have e420 := CM.j S414 R_r0_1 (by decide) e247
  have e421 := CM.k S414 (by decide) e248
  have e422 := CM.k S414 (by decide) e249
  have e423 := CM.k S414 (by decide) e250
  have e424 := CM.k S414 (by decide) e252
  have e425 := CM.k S414 (by decide) e253
  have e426 := CM.k S414 (by decide) e254
  have e427 := CM.k S414 (by decide) e255
  have e428 := CM.k S414 (by decide) e256
  have gx411 := rg x411
  obtain ⟨x430, e431⟩ : ∃ x, I412 r0 0 = x := ⟨_, rfl⟩
  have gx430 := rg x430
  have hg := (CM.j0 S414 R_r0_1 (by decide)).trans hg
  try simp only [q409, q410, e242, e243, e244, e245, e246, e247, e248, e249, e250, e252, e253, e254, e255, e256, e258, e431] at p0x411
  try have q0x411 := congrArg Int32.toInt p0x411
  try simp only [q409, q410, e242, e243, e244, e245, e246, e247, e248, e249, e250, e252, e253, e254, e255, e256, e258, e431] at p1x411
  try have q1x411 := congrArg Int32.toInt p1x411
  refine b_if_eq C (t := 108) rfl rfl rfl (fun c432 => by exfalso; omega) (fun c432 => ?_)
  refine z_iconst C (z := 0) rfl rfl rfl (fun x433 ex433 => ?_)
  exact k_iret C rfl (Or.inl rfl) (Nat.le_of_ble_eq_true rfl) (Nat.le_of_ble_eq_true rfl) ⟨_, _, _, rfl, rfl, by omega, by omega, fun a1 h1 => by cases (R_r0_1.symm.trans h1); first | omega | (simp only [e415, e416, e417, e418, e419, e420, e421, e422, e423, e424, e425, e426, e427, e428, e431, k0_r0_1_0, k0_r0_1_1, k0_r0_1_2, k0_r0_1_3, k0_r0_1_4, k0_r0_1_5, k0_r0_3, and_true, true_and, or_true, true_or, and_false, false_and, or_false, false_or] <;> omega), by first | omega | (simp only [e415, e416, e417, e418, e419, e420, e421, e422, e423, e424, e425, e426, e427, e428, e431, k0_r0_1_0, k0_r0_1_1, k0_r0_1_2, k0_r0_1_3, k0_r0_1_4, k0_r0_1_5, k0_r0_3, and_true, true_and, or_true, true_or, and_false, false_and, or_false, false_or] <;> omega), fun a1 h1 => by cases (R_r0_1.symm.trans h1); first | omega | (simp only [e415, e416, e417, e418, e419, e420, e421, e422, e423, e424, e425, e426, e427, e428, e431, k0_r0_1_0, k0_r0_1_1, k0_r0_1_2, k0_r0_1_3, k0_r0_1_4, k0_r0_1_5, k0_r0_3, and_true, true_and, or_true, true_or, and_false, false_and, or_false, false_or] <;> omega), fun a1 h1 => by cases (R_r0_1.symm.trans h1); first | omega | (simp only [e415, e416, e417, e418, e419, e420, e421, e422, e423, e424, e425, e426, e427, e428, e431, k0_r0_1_0, k0_r0_1_1, k0_r0_1_2, k0_r0_1_3, k0_r0_1_4, k0_r0_1_5, k0_r0_3, and_true, true_and, or_true, true_or, and_false, false_and, or_false, false_or] <;> omega), fun a1 h1 => by cases (R_r0_1.symm.trans h1); first | omega | (simp only [e415, e416, e417, e418, e419, e420, e421, e422, e423, e424, e425, e426, e427, e428, e431, k0_r0_1_0, k0_r0_1_1, k0_r0_1_2, k0_r0_1_3, k0_r0_1_4, k0_r0_1_5, k0_r0_3, and_true, true_and, or_true, true_or, and_false, false_and, or_false, false_or] <;> omega), fun a1 h1 => by cases (R_r0_1.symm.trans h1); exact (fun r z0 => ((congrFun (CM.j0 S414 R_r0_1 (by decide)) r).trans ((congrFun (CM.j0 S241 R_r0_1 (by decide)) r).trans ((congrFun (CM.j0 S217 R_r0_1 (by decide)) r).trans ((congrFun (CM.j0 S145 R_r0_1 (by decide)) r).trans ((F70 r z0).trans ((congrFun (CM.j0 S52 R_r0_1 (by decide)) r).trans ((congrFun (CM.j0 S37 R_r0_1 (by decide)) r).trans ((congrFun (CM.j0 S23 R_r0_1 (by decide)) r).trans (congrFun (CM.j0 S6 R_r0_1 (by decide)) r)))))))))), hI412, (CM.cons S6 (CM.cons S23 (CM.cons S37 (CM.cons S52 (CM.cons S69 (CM.cons S145 (CM.cons S217 (CM.cons S241 (CM.mono S414 (by decide) (by decide)) (by decide) (by decide)) (by decide) (by decide)) (by decide) (by decide)) (by decide) (by decide)) (by decide) (by decide)) (by decide) (by decide)) (by decide) (by decide)) (by decide) (by decide))⟩

