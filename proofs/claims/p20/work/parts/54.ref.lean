/-! the reference: a row mixed -/
set_option maxHeartbeats 4000000 in
theorem a_X12_mixes_e {d : Nat} {T N : Nat → Nat} {I : IT} {L : LT} {R : RT} {A : Nat → Prop} {r0 : Nat} {n1 n2 : Int32} (hI : IM R r0 I) (H_r0 : (h_MD T N R A) r0) (b0_n1 : 0 ≤ n1.toInt) (b1_n1 : n1.toInt ≤ 43) (b0_n2 : 0 ≤ n2.toInt) (b1_n2 : n2.toInt ≤ 44) (hp0 : n1.toInt ≠ n2.toInt) : Ex (d + 4) 214 [.ref r0, .int n1, .int n2] (T, N, I, L, R) 0 0 (pV T N R (fun I9 L9 => (∀ a4, R r0 4 = some a4 → (I9 a4 n2.toNatClampNeg).toInt = (I a4 n1.toNatClampNeg).toInt) ∧ (∀ a1 a4 a5, R r0 1 = some a1 → R r0 4 = some a4 → R r0 5 = some a5 → QN I9 a5 n2.toNatClampNeg ((I9 a4 n2.toNatClampNeg).toInt + 1) (I a1 0).toInt) ∧ (∀ a1 a4 a5, R r0 1 = some a1 → R r0 4 = some a4 → R r0 5 = some a5 → MXE I I9 a5 n1.toNatClampNeg n2.toNatClampNeg (I a4 n1.toNatClampNeg).toInt (I r0 6).toInt (I r0 7).toInt (I r0 8).toInt (I r0 9).toInt (I a1 0).toInt) ∧ (∀ a4, R r0 4 = some a4 → ∀ r : Nat, r ≠ n2.toNatClampNeg → r ≠ 45 → I9 a4 r = I a4 r) ∧ (∀ a5, R r0 5 = some a5 → ∀ r : Nat, (r < 41 * n2.toNatClampNeg ∨ 41 * n2.toNatClampNeg + 41 ≤ r) → (r < 41 * 45 ∨ 41 * 45 + 41 ≤ r) → I9 a5 r = I a5 r) ∧ (IM R r0 I9 ∧ CM A R r0 [] [4, 5] I L I9 L9))) := by
  refine ⟨_, rfl, Nat.le_of_ble_eq_true rfl, fun V C S => ?_⟩
  show V 0 [(0, .ref r0), (1, .int n1), (2, .int n2)] [] (T, N, I, L, R) 0 0
  have gn1 := rg n1
  have gn2 := rg n2
  obtain ⟨T_r0, A_r0, ⟨r0_1, R_r0_1, H_r0_1⟩, ⟨r0_2, R_r0_2, H_r0_2⟩, ⟨r0_4, R_r0_4, H_r0_4⟩, ⟨r0_5, R_r0_5, H_r0_5⟩, ⟨r0_10, R_r0_10, H_r0_10⟩, ⟨r0_18, R_r0_18, H_r0_18⟩, ⟨r0_20, R_r0_20, H_r0_20⟩, ⟨r0_21, R_r0_21, H_r0_21⟩, ⟨r0_22, R_r0_22, H_r0_22⟩, ⟨r0_23, R_r0_23, H_r0_23⟩, ⟨r0_25, R_r0_25, H_r0_25⟩, ⟨r0_26, R_r0_26, H_r0_26⟩, ⟨r0_27, R_r0_27, H_r0_27⟩, ⟨r0_28, R_r0_28, H_r0_28⟩, ⟨r0_34, R_r0_34, H_r0_34⟩, J_r0, Y_r0⟩ := id H_r0
  have G_r0 : mF T R r0 := ⟨J_r0, Y_r0, T_r0⟩
  obtain ⟨w_r0_4_n1, k0_r0_4_n1⟩ : ∃ x, I r0_4 n1.toNatClampNeg = x := ⟨_, rfl⟩
  have gw_r0_4_n1 := rg w_r0_4_n1
  have ow_r0_4_n1 := IM.dgR hI R_r0_4 k0_r0_4_n1
  obtain ⟨w_r0_1_0, k0_r0_1_0⟩ : ∃ x, I r0_1 0 = x := ⟨_, rfl⟩
  have gw_r0_1_0 := rg w_r0_1_0
  have ow_r0_1_0 := IM.pi hI R_r0_1 k0_r0_1_0
  obtain ⟨w_r0_6, k0_r0_6⟩ : ∃ x, I r0 6 = x := ⟨_, rfl⟩
  have gw_r0_6 := rg w_r0_6
  have ow_r0_6 := IM.f6 hI k0_r0_6
  obtain ⟨w_r0_7, k0_r0_7⟩ : ∃ x, I r0 7 = x := ⟨_, rfl⟩
  have gw_r0_7 := rg w_r0_7
  have ow_r0_7 := IM.f7 hI k0_r0_7
  obtain ⟨w_r0_8, k0_r0_8⟩ : ∃ x, I r0 8 = x := ⟨_, rfl⟩
  have gw_r0_8 := rg w_r0_8
  have ow_r0_8 := IM.f8 hI k0_r0_8
  obtain ⟨w_r0_9, k0_r0_9⟩ : ∃ x, I r0 9 = x := ⟨_, rfl⟩
  have gw_r0_9 := rg w_r0_9
  have ow_r0_9 := IM.f9 hI k0_r0_9
  try simp only [k0_r0_4_n1, k0_r0_1_0, k0_r0_6, k0_r0_7, k0_r0_8, k0_r0_9] at hp0
  have hn2 := ncz (x := n2) (by omega)
  have hn1 := ncz (x := n1) (by omega)
  refine k_aload_n C rfl rfl rfl ?_
  refine g_R C rfl rfl rfl T_r0 rfl R_r0_4 ?_
  refine k_iload_n C rfl rfl rfl ?_
  obtain ⟨T_r0_4, N_r0_4, A_r0_4⟩ := id H_r0_4
  refine a_I C rfl rfl T_r0_4 (by rw [N_r0_4]; exact vpi (by omega) (by omega)) k0_r0_4_n1 ?_
  refine k_istore_n C (lw := [(3, .int w_r0_4_n1), (0, .ref r0), (1, .int n1), (2, .int n2)]) rfl rfl (Nat.le_of_ble_eq_true rfl) rfl ?_
  refine k_aload_n C rfl rfl rfl ?_
  refine k_iload_n C rfl rfl rfl ?_
  refine k_iload_n C rfl rfl rfl ?_
  refine c_VV C (a_X12_clears hI H_r0 (by omega) (by omega) (by omega) (by omega)) rfl rfl rfl rfl rfl ⟨_, rfl, rfl, T_r0, Nat.le_of_ble_eq_true rfl⟩ rfl rfl (Nat.le_of_ble_eq_true rfl) (Nat.le_of_ble_eq_true rfl) (Nat.le_of_ble_eq_true rfl) ?_
  rintro I2 L3 ⟨p0v1, p1v1, p2v1, p3v1, hI2, S4⟩
  have p0v1 := p0v1 r0_4 R_r0_4
  have p1v1 := p1v1 r0_5 R_r0_5
  have p2v1 := p2v1 r0_4 R_r0_4
  have p3v1 := p3v1 r0_5 R_r0_5
  have F5 : ∀ r : Nat, r ≠ n2.toNatClampNeg → r ≠ 45 → I2 r0_4 r = I r0_4 r := fun r z0 z1 => p2v1 r (by first | exact z0 | exact z1)
  have F6 : ∀ r : Nat, (r < 41 * n2.toNatClampNeg ∨ 41 * n2.toNatClampNeg + 41 ≤ r) → (r < 41 * 45 ∨ 41 * 45 + 41 ≤ r) → I2 r0_5 r = I r0_5 r := fun r z0 z1 => p3v1 r (by first | exact z0 | exact z1)
  have e7 := (p2v1 n1.toNatClampNeg (by first | decide | exact ncne (by omega) (by omega) (by omega) | exact nckn (by omega) (by omega) | exact (nckn (by omega) (by omega)).symm)).trans k0_r0_4_n1
  have e8 := CM.j S4 R_r0_1 (by decide) k0_r0_1_0
  have e9 := CM.k S4 (by decide) k0_r0_6
  have e10 := CM.k S4 (by decide) k0_r0_7
  have e11 := CM.k S4 (by decide) k0_r0_8
  have e12 := CM.k S4 (by decide) k0_r0_9
  obtain ⟨x13, e14⟩ : ∃ x, I2 r0_4 n2.toNatClampNeg = x := ⟨_, rfl⟩
  have gx13 := rg x13
  have ox13 := IM.dgR hI2 R_r0_4 e14
  try simp only [k0_r0_4_n1, k0_r0_1_0, k0_r0_6, k0_r0_7, k0_r0_8, k0_r0_9, e14] at p0v1
  try have q0v1 := congrArg Int32.toInt p0v1
  try simp only [k0_r0_4_n1, k0_r0_1_0, k0_r0_6, k0_r0_7, k0_r0_8, k0_r0_9, e14] at p1v1
  try have q1v1 := congrArg Int32.toInt p1v1
  have hQ := QN.le (n' := w_r0_4_n1.toInt + 1) (QN.az (p := w_r0_1_0.toInt) p1v1 (by omega)) (by omega)
  have hM : SMR I I2 r0_5 n1.toNatClampNeg := (fun k hk => p3v1 _ (by omega))
  have hW : RWF I2 r0_5 n2.toNatClampNeg w_r0_4_n1.toInt (mxS w_r0_1_0.toInt w_r0_6.toInt w_r0_7.toInt w_r0_8.toInt w_r0_9.toInt w_r0_4_n1.toInt.toNat (RI I r0_5 n1.toNatClampNeg) 0) := RWF.az p1v1 (by omega) (fun _ => rfl)
  refine z_iconst C (z := 0) rfl rfl rfl (fun x15 ex15 => ?_)
  have J16 : ∀ (nn17 : Nat) (I18 : IT) (L19 : LT) (x20 : Int32) (x27 : Int32), (MN (41 - x20.toInt) nn17) → (IM R r0 I18) → (CM A R r0 [] [4, 5] I2 L3 I18 L19) → (∀ r : Nat, r ≠ n2.toNatClampNeg → r ≠ 45 → I18 r0_4 r = I2 r0_4 r) → (∀ r : Nat, (r < 41 * n2.toNatClampNeg ∨ 41 * n2.toNatClampNeg + 41 ≤ r) → (r < 41 * 45 ∨ 41 * 45 + 41 ≤ r) → I18 r0_5 r = I2 r0_5 r) → (0 ≤ x20.toInt) → (x20.toInt ≤ 41) → (I18 r0_4 n2.toNatClampNeg = x27) → (0 ≤ x27.toInt) → (x27.toInt ≤ 40) → (x27.toInt = w_r0_4_n1.toInt) → (QN I18 r0_5 n2.toNatClampNeg (w_r0_4_n1.toInt + 1) w_r0_1_0.toInt) → (SMR I I18 r0_5 n1.toNatClampNeg) → (RWF I18 r0_5 n2.toNatClampNeg w_r0_4_n1.toInt (mxS w_r0_1_0.toInt w_r0_6.toInt w_r0_7.toInt w_r0_8.toInt w_r0_9.toInt w_r0_4_n1.toInt.toNat (RI I r0_5 n1.toNatClampNeg) x20.toNatClampNeg)) → (x20.toInt ≤ w_r0_4_n1.toInt + 1) → V 16 [(0, .ref r0), (1, .int n1), (2, .int n2), (3, .int w_r0_4_n1), (4, .int x20)] [] (T, N, I18, L19, R) 0 0 := by
    intro nn17
    induction nn17 using Nat.strongRecOn with
    | _ nn17 ihJ16 =>
      intro I18 L19 x20 x27 hmnn17 hI24 S23 F25 F26 b21 b22 e28 b29 b30 ff16_0 ff16_1 ff16_2 ff16_3 ff16_4
      have gx20 := rg x20
      have gx27 := rg x27
      have e31 := (F25 n1.toNatClampNeg (by first | decide | exact ncne (by omega) (by omega) (by omega) | exact nckn (by omega) (by omega) | exact (nckn (by omega) (by omega)).symm) (by first | decide | exact ncne (by omega) (by omega) (by omega) | exact nckn (by omega) (by omega) | exact (nckn (by omega) (by omega)).symm)).trans e7
      have e32 := CM.j S23 R_r0_1 (by decide) e8
      have e33 := CM.k S23 (by decide) e9
      have e34 := CM.k S23 (by decide) e10
      have e35 := CM.k S23 (by decide) e11
      have e36 := CM.k S23 (by decide) e12
      refine k_iload C rfl rfl rfl ?_
      refine k_iload_n C rfl rfl rfl ?_
      refine b_icmp_gt C (t := 152) rfl rfl rfl (fun c37 => ?_) (fun c37 => ?_)
      · skip
        exact k_vret C rfl rfl (Nat.le_of_ble_eq_true rfl) (Nat.le_of_ble_eq_true rfl) ⟨_, _, rfl, rfl, fun a4 h4 => by cases (R_r0_4.symm.trans h4); first | omega | (simp only [e31, e32, e33, e34, e35, e36, e28, k0_r0_4_n1, k0_r0_1_0, k0_r0_6, k0_r0_7, k0_r0_8, k0_r0_9] <;> omega), fun a1 a4 a5 h1 h4 h5 => by cases (R_r0_1.symm.trans h1); cases (R_r0_4.symm.trans h4); cases (R_r0_5.symm.trans h5); simp only [e28, k0_r0_1_0]; exact QN.le ff16_1 (by omega), fun a1 a4 a5 h1 h4 h5 => by cases (R_r0_1.symm.trans h1); cases (R_r0_4.symm.trans h4); cases (R_r0_5.symm.trans h5); simp only [k0_r0_4_n1, k0_r0_6, k0_r0_7, k0_r0_8, k0_r0_9, k0_r0_1_0]; exact RWF.cg ff16_3 (by rw [show x20.toNatClampNeg = w_r0_4_n1.toInt.toNat + 1 from by (have := ncz (x := x20) (by omega)); omega]) rfl, fun a4 h4 => by cases (R_r0_4.symm.trans h4); exact (fun r z0 z1 => ((F25 r z0 z1).trans (F5 r z0 z1))), fun a5 h5 => by cases (R_r0_5.symm.trans h5); exact (fun r z0 z1 => ((F26 r z0 z1).trans (F6 r z0 z1))), hI24, (CM.cons S4 (CM.mono S23 (by decide) (by decide)) (by decide) (by decide))⟩
      refine k_aload_n C rfl rfl rfl ?_
      refine z_bipush C (z := 45) rfl rfl rfl (fun x38 ex38 => ?_)
      refine z_iconst C (z := 0) rfl rfl rfl (fun x39 ex39 => ?_)
      have q40 : x38.toNatClampNeg = 45 := nck (by omega)
      have q41 : x39.toNatClampNeg = 0 := nck (by omega)
      refine c_VV C (a_X12_clears hI24 H_r0 (by omega) (by omega) (by omega) (by omega)) rfl rfl rfl rfl rfl ⟨_, rfl, rfl, T_r0, Nat.le_of_ble_eq_true rfl⟩ rfl rfl (Nat.le_of_ble_eq_true rfl) (Nat.le_of_ble_eq_true rfl) (Nat.le_of_ble_eq_true rfl) ?_
      rintro I43 L44 ⟨p0v42, p1v42, p2v42, p3v42, hI43, S45⟩
      have p0v42 := p0v42 r0_4 R_r0_4
      have p1v42 := p1v42 r0_5 R_r0_5
      have p2v42 := p2v42 r0_4 R_r0_4
      have p3v42 := p3v42 r0_5 R_r0_5
      try simp only [q40, q41] at p2v42
      have F46 : ∀ r : Nat, r ≠ n2.toNatClampNeg → r ≠ 45 → I43 r0_4 r = I18 r0_4 r := fun r z0 z1 => p2v42 r (by first | exact z0 | exact z1)
      try simp only [q40, q41] at p3v42
      have F47 : ∀ r : Nat, (r < 41 * n2.toNatClampNeg ∨ 41 * n2.toNatClampNeg + 41 ≤ r) → (r < 41 * 45 ∨ 41 * 45 + 41 ≤ r) → I43 r0_5 r = I18 r0_5 r := fun r z0 z1 => p3v42 r (by first | exact z0 | exact z1)
      have e48 := (p2v42 n1.toNatClampNeg (by first | decide | exact ncne (by omega) (by omega) (by omega) | exact nckn (by omega) (by omega) | exact (nckn (by omega) (by omega)).symm)).trans e31
      have e49 := CM.j S45 R_r0_1 (by decide) e32
      have e50 := CM.k S45 (by decide) e33
      have e51 := CM.k S45 (by decide) e34
      have e52 := CM.k S45 (by decide) e35
      have e53 := CM.k S45 (by decide) e36
      have e54 := (p2v42 n2.toNatClampNeg (by first | decide | exact ncne (by omega) (by omega) (by omega) | exact nckn (by omega) (by omega) | exact (nckn (by omega) (by omega)).symm)).trans e28
      obtain ⟨x55, e56⟩ : ∃ x, I43 r0_4 45 = x := ⟨_, rfl⟩
      have gx55 := rg x55
      have ox55 := IM.dgR hI43 R_r0_4 e56
      try simp only [q40, q41, e31, e32, e33, e34, e35, e36, e28, e56] at p0v42
      try have q0v42 := congrArg Int32.toInt p0v42
      try simp only [q40, q41, e31, e32, e33, e34, e35, e36, e28, e56] at p1v42
      try have q1v42 := congrArg Int32.toInt p1v42
      have hQ := ff16_1
      have hQ := QN.sm hQ (fun k hk => p3v42 (41 * n2.toNatClampNeg + k) (by omega)) (by omega)
      have hM := SMR.cs ff16_2 (fun k hk => p3v42 _ (by omega))
      have hW := RWF.sm ff16_3 (fun k hk => p3v42 _ (by omega)) (by omega)
      refine k_aload_n C rfl rfl rfl ?_
      refine z_bipush C (z := 45) rfl rfl rfl (fun x57 ex57 => ?_)
      refine z_iconst C (z := 0) rfl rfl rfl (fun x58 ex58 => ?_)
      refine k_aload_n C rfl rfl rfl ?_
      refine k_iload_n C rfl rfl rfl ?_
      refine k_iload C rfl rfl rfl ?_
      refine c_VI C (a_X12_of hI43 H_r0 (by omega) (by omega) (by omega) (by omega)) rfl rfl rfl rfl rfl ⟨_, rfl, rfl, T_r0, Nat.le_of_ble_eq_true rfl⟩ rfl rfl (Nat.le_of_ble_eq_true rfl) (Nat.le_of_ble_eq_true rfl) (Nat.le_of_ble_eq_true rfl) ?_
      rintro x59 _ _ ⟨o0x59, o1x59, p0x59, rfl, rfl⟩
      have p0x59 := p0x59 r0_5 R_r0_5
      have gx59 := rg x59
      try simp only [e48, e49, e50, e51, e52, e53, e54, e56] at p0x59
      try have q0x59 := congrArg Int32.toInt p0x59
      have hO : x59.toInt = RI I r0_5 n1.toNatClampNeg x20.toNatClampNeg := by (rw [p0x59, hM _ (nclt (by omega) (by omega))]; rfl)
      have q60 : x57.toNatClampNeg = 45 := nck (by omega)
      have q61 : x58.toNatClampNeg = 0 := nck (by omega)
      refine c_VV C (a_X12_put hI43 H_r0 (by omega) (by omega) (by omega) (by omega) (by omega) (by omega)) rfl rfl rfl rfl rfl ⟨_, rfl, rfl, T_r0, Nat.le_of_ble_eq_true rfl⟩ rfl rfl (Nat.le_of_ble_eq_true rfl) (Nat.le_of_ble_eq_true rfl) (Nat.le_of_ble_eq_true rfl) ?_
      rintro I63 L64 ⟨p0v62, p1v62, hI63, S65⟩
      have p0v62 := p0v62 r0_5 R_r0_5
      have p1v62 := p1v62 r0_5 R_r0_5
      try simp only [q60, q61] at p1v62
      have F66 : ∀ r : Nat, (r < 41 * n2.toNatClampNeg ∨ 41 * n2.toNatClampNeg + 41 ≤ r) → (r < 41 * 45 ∨ 41 * 45 + 41 ≤ r) → I63 r0_5 r = I43 r0_5 r := fun r z0 z1 => p1v62 r (by first | exact z0 | exact z1)
      have e67 := CM.j S65 R_r0_4 (by decide) e48
      have e68 := CM.j S65 R_r0_1 (by decide) e49
      have e69 := CM.k S65 (by decide) e50
      have e70 := CM.k S65 (by decide) e51
      have e71 := CM.k S65 (by decide) e52
      have e72 := CM.k S65 (by decide) e53
      have e73 := CM.j S65 R_r0_4 (by decide) e54
      have e74 := CM.j S65 R_r0_4 (by decide) e56
      try simp only [q60, q61, e48, e49, e50, e51, e52, e53, e54, e56] at p0v62
      try have q0v62 := congrArg Int32.toInt p0v62
      have hQ := QN.sm hQ (fun k hk => p1v62 (41 * n2.toNatClampNeg + k) (by omega)) (by omega)
      have hM := SMR.cs hM (fun k hk => p1v62 _ (by omega))
      have hW := RWF.sm hW (fun k hk => p1v62 _ (by omega)) (by omega)
      have hP := p0v62
      refine z_iconst C (z := 0) rfl rfl rfl (fun x75 ex75 => ?_)
      have J76 : ∀ (nn77 : Nat) (I78 : IT) (L79 : LT) (x80 : Int32) (x87 : Int32) (x91 : Int32), (MN (40 - x80.toInt) nn77) → (IM R r0 I78) → (CM A R r0 [] [4, 5] I63 L64 I78 L79) → (∀ r : Nat, r ≠ n2.toNatClampNeg → r ≠ 45 → I78 r0_4 r = I63 r0_4 r) → (∀ r : Nat, (r < 41 * n2.toNatClampNeg ∨ 41 * n2.toNatClampNeg + 41 ≤ r) → (r < 41 * 45 ∨ 41 * 45 + 41 ≤ r) → I78 r0_5 r = I63 r0_5 r) → (0 ≤ x80.toInt) → (x80.toInt ≤ 40) → (I78 r0_4 n2.toNatClampNeg = x87) → (0 ≤ x87.toInt) → (x87.toInt ≤ 40) → (I78 r0_4 45 = x91) → (0 ≤ x91.toInt) → (x91.toInt ≤ 40) → (x87.toInt = w_r0_4_n1.toInt) → (x91.toInt = x80.toInt) → (x80.toInt ≤ w_r0_4_n1.toInt - x20.toInt) → (QN I78 r0_5 n2.toNatClampNeg (w_r0_4_n1.toInt + 1) w_r0_1_0.toInt) → (SMR I I78 r0_5 n1.toNatClampNeg) → (RWF I78 r0_5 n2.toNatClampNeg w_r0_4_n1.toInt (mxS w_r0_1_0.toInt w_r0_6.toInt w_r0_7.toInt w_r0_8.toInt w_r0_9.toInt w_r0_4_n1.toInt.toNat (RI I r0_5 n1.toNatClampNeg) x20.toNatClampNeg)) → (RWF I78 r0_5 45 x80.toInt (wdN w_r0_1_0.toInt w_r0_6.toInt w_r0_7.toInt x80.toNatClampNeg 0 (fun _ => RI I r0_5 n1.toNatClampNeg x20.toNatClampNeg))) → V 46 [(0, .ref r0), (1, .int n1), (2, .int n2), (3, .int w_r0_4_n1), (4, .int x20), (5, .int x80)] [] (T, N, I78, L79, R) 0 0 := by
        intro nn77
        induction nn77 using Nat.strongRecOn with
        | _ nn77 ihJ76 =>
          intro I78 L79 x80 x87 x91 hmnn77 hI84 S83 F85 F86 b81 b82 e88 b89 b90 e92 b93 b94 ff46_0 ff46_1 ff46_2 ff46_3 ff46_4 ff46_5 ff46_6
          have gx80 := rg x80
          have gx87 := rg x87
          have gx91 := rg x91
          have e95 := (F85 n1.toNatClampNeg (by first | decide | exact ncne (by omega) (by omega) (by omega) | exact nckn (by omega) (by omega) | exact (nckn (by omega) (by omega)).symm) (by first | decide | exact ncne (by omega) (by omega) (by omega) | exact nckn (by omega) (by omega) | exact (nckn (by omega) (by omega)).symm)).trans e67
          have e96 := CM.j S83 R_r0_1 (by decide) e68
          have e97 := CM.k S83 (by decide) e69
          have e98 := CM.k S83 (by decide) e70
          have e99 := CM.k S83 (by decide) e71
          have e100 := CM.k S83 (by decide) e72
          refine k_iload C rfl rfl rfl ?_
          refine k_iload_n C rfl rfl rfl ?_
          refine k_iload C rfl rfl rfl ?_
          refine z_isub C rfl rfl ⟨by omega, by omega⟩ (fun x101 ex101 => ?_)
          refine b_icmp_ge C (t := 75) rfl rfl rfl (fun c102 => ?_) (fun c102 => ?_)
          · skip
            have hG := ff46_6
            have hG5 : x80.toNatClampNeg = (w_r0_4_n1.toInt - x20.toInt).toNat := by (have := ncz (x := x80) (by omega)); omega
            have hG7 : x80.toInt = w_r0_4_n1.toInt - x20.toInt := by omega
            rw [hG5] at hG
            refine z_iconst C (z := 0) rfl rfl rfl (fun x103 ex103 => ?_)
            have J104 : ∀ (nn105 : Nat) (I106 : IT) (L107 : LT) (x108 : Int32) (x115 : Int32) (x119 : Int32), (MN (40 - x108.toInt) nn105) → (IM R r0 I106) → (CM A R r0 [] [4, 5] I78 L79 I106 L107) → (∀ r : Nat, r ≠ n2.toNatClampNeg → r ≠ 45 → I106 r0_4 r = I78 r0_4 r) → (∀ r : Nat, (r < 41 * n2.toNatClampNeg ∨ 41 * n2.toNatClampNeg + 41 ≤ r) → (r < 41 * 45 ∨ 41 * 45 + 41 ≤ r) → I106 r0_5 r = I78 r0_5 r) → (0 ≤ x108.toInt) → (x108.toInt ≤ 40) → (I106 r0_4 n2.toNatClampNeg = x115) → (0 ≤ x115.toInt) → (x115.toInt ≤ 40) → (I106 r0_4 45 = x119) → (0 ≤ x119.toInt) → (x119.toInt ≤ 40) → (x115.toInt = w_r0_4_n1.toInt) → (x119.toInt = w_r0_4_n1.toInt - x20.toInt + x108.toInt) → (QN I106 r0_5 n2.toNatClampNeg (w_r0_4_n1.toInt + 1) w_r0_1_0.toInt) → (SMR I I106 r0_5 n1.toNatClampNeg) → (RWF I106 r0_5 n2.toNatClampNeg w_r0_4_n1.toInt (mxS w_r0_1_0.toInt w_r0_6.toInt w_r0_7.toInt w_r0_8.toInt w_r0_9.toInt w_r0_4_n1.toInt.toNat (RI I r0_5 n1.toNatClampNeg) x20.toNatClampNeg)) → (RWF I106 r0_5 45 (w_r0_4_n1.toInt - x20.toInt + x108.toInt) (wdN w_r0_1_0.toInt w_r0_8.toInt w_r0_9.toInt x108.toNatClampNeg (w_r0_4_n1.toInt - x20.toInt).toNat (wdN w_r0_1_0.toInt w_r0_6.toInt w_r0_7.toInt (w_r0_4_n1.toInt - x20.toInt).toNat 0 (fun _ => RI I r0_5 n1.toNatClampNeg x20.toNatClampNeg)))) → (x108.toInt ≤ x20.toInt) → V 78 [(0, .ref r0), (1, .int n1), (2, .int n2), (3, .int w_r0_4_n1), (4, .int x20), (5, .int x108)] [] (T, N, I106, L107, R) 0 0 := by
              intro nn105
              induction nn105 using Nat.strongRecOn with
              | _ nn105 ihJ104 =>
                intro I106 L107 x108 x115 x119 hmnn105 hI112 S111 F113 F114 b109 b110 e116 b117 b118 e120 b121 b122 ff78_0 ff78_1 ff78_2 ff78_3 ff78_4 ff78_5 ff78_6
                have gx108 := rg x108
                have gx115 := rg x115
                have gx119 := rg x119
                have e123 := (F113 n1.toNatClampNeg (by first | decide | exact ncne (by omega) (by omega) (by omega) | exact nckn (by omega) (by omega) | exact (nckn (by omega) (by omega)).symm) (by first | decide | exact ncne (by omega) (by omega) (by omega) | exact nckn (by omega) (by omega) | exact (nckn (by omega) (by omega)).symm)).trans e95
                have e124 := CM.j S111 R_r0_1 (by decide) e96
                have e125 := CM.k S111 (by decide) e97
                have e126 := CM.k S111 (by decide) e98
                have e127 := CM.k S111 (by decide) e99
                have e128 := CM.k S111 (by decide) e100
                refine k_iload C rfl rfl rfl ?_
                refine k_iload C rfl rfl rfl ?_
                refine b_icmp_ge C (t := 105) rfl rfl rfl (fun c129 => ?_) (fun c129 => ?_)
                · skip
                  have hG := ff78_5
                  have hG5 : x108.toNatClampNeg = x20.toNatClampNeg := by (have := ncz (x := x108) (by omega)); (have := ncz (x := x20) (by omega)); omega
                  have hG6 : (w_r0_4_n1.toInt - x20.toInt).toNat = w_r0_4_n1.toInt.toNat - x20.toNatClampNeg := by (have := ncz (x := x20) (by omega)); omega
                  have hG7 : x108.toInt = x20.toInt := by omega
                  rw [hG5, hG6] at hG
                  refine z_iconst C (z := 0) rfl rfl rfl (fun x130 ex130 => ?_)
                  have J131 : ∀ (nn132 : Nat) (I133 : IT) (L134 : LT) (x135 : Int32) (x141 : Int32), (MN (41 - x135.toInt) nn132) → (IM R r0 I133) → (CM A R r0 [] [5] I106 L107 I133 L134) → (∀ r : Nat, (r < 41 * n2.toNatClampNeg ∨ 41 * n2.toNatClampNeg + 41 ≤ r) → (r < 41 * 45 ∨ 41 * 45 + 41 ≤ r) → I133 r0_5 r = I106 r0_5 r) → (0 ≤ x135.toInt) → (x135.toInt ≤ 41) → (I133 r0_4 n2.toNatClampNeg = x141) → (0 ≤ x141.toInt) → (x141.toInt ≤ 40) → (x141.toInt = w_r0_4_n1.toInt) → (QN I133 r0_5 n2.toNatClampNeg (w_r0_4_n1.toInt + 1) w_r0_1_0.toInt) → (SMR I I133 r0_5 n1.toNatClampNeg) → (MXL I133 r0_5 n2.toNatClampNeg w_r0_4_n1.toInt (mxS w_r0_1_0.toInt w_r0_6.toInt w_r0_7.toInt w_r0_8.toInt w_r0_9.toInt w_r0_4_n1.toInt.toNat (RI I r0_5 n1.toNatClampNeg) x20.toNatClampNeg) (mxS w_r0_1_0.toInt w_r0_6.toInt w_r0_7.toInt w_r0_8.toInt w_r0_9.toInt w_r0_4_n1.toInt.toNat (RI I r0_5 n1.toNatClampNeg) (x20.toNatClampNeg + 1)) x135.toInt) → (RWF I133 r0_5 45 w_r0_4_n1.toInt (mxG w_r0_1_0.toInt w_r0_6.toInt w_r0_7.toInt w_r0_8.toInt w_r0_9.toInt w_r0_4_n1.toInt.toNat (RI I r0_5 n1.toNatClampNeg) x20.toNatClampNeg)) → V 108 [(0, .ref r0), (1, .int n1), (2, .int n2), (3, .int w_r0_4_n1), (4, .int x20), (5, .int x135)] [] (T, N, I133, L134, R) 0 0 := by
                    intro nn132
                    induction nn132 using Nat.strongRecOn with
                    | _ nn132 ihJ131 =>
                      intro I133 L134 x135 x141 hmnn132 hI139 S138 F140 b136 b137 e142 b143 b144 ff108_0 ff108_1 ff108_2 ff108_3 ff108_4
                      have gx135 := rg x135
                      have gx141 := rg x141
                      have e145 := CM.j S138 R_r0_4 (by decide) e123
                      have e146 := CM.j S138 R_r0_1 (by decide) e124
                      have e147 := CM.k S138 (by decide) e125
                      have e148 := CM.k S138 (by decide) e126
                      have e149 := CM.k S138 (by decide) e127
                      have e150 := CM.k S138 (by decide) e128
                      have e151 := CM.j S138 R_r0_4 (by decide) e116
                      have e152 := CM.j S138 R_r0_4 (by decide) e120
                      refine k_iload C rfl rfl rfl ?_
                      refine k_iload_n C rfl rfl rfl ?_
                      refine b_icmp_gt C (t := 146) rfl rfl rfl (fun c153 => ?_) (fun c153 => ?_)
                      · skip
                        refine z_iinc C (z := 1) (lw := fun x154 => [(4, .int x154), (0, .ref r0), (1, .int n1), (2, .int n2), (3, .int w_r0_4_n1), (5, .int x135)]) rfl rfl rfl (Nat.le_of_ble_eq_true rfl) rfl ⟨by omega, by omega⟩ (fun _ => rfl) (fun x154 ex154 => ?_)
                        show V 149 [(4, .int x154), (0, .ref r0), (1, .int n1), (2, .int n2), (3, .int w_r0_4_n1), (5, .int x135)] _ _ _ _
                        refine k_goto C (pc2 := 16) rfl rfl ?_
                        refine k_sub S [(0, .ref r0), (1, .int n1), (2, .int n2), (3, .int w_r0_4_n1), (4, .int x154)] (List.forall_mem_cons.mpr ⟨List.mem_of_getElem? (i := 1) rfl, List.forall_mem_cons.mpr ⟨List.mem_of_getElem? (i := 2) rfl, List.forall_mem_cons.mpr ⟨List.mem_of_getElem? (i := 3) rfl, List.forall_mem_cons.mpr ⟨List.mem_of_getElem? (i := 4) rfl, List.forall_mem_cons.mpr ⟨List.mem_of_getElem? (i := 0) rfl, fun _ h => nomatch h⟩⟩⟩⟩⟩) ?_
                        exact ihJ16 _ (MN.lt hmnn17 (by omega) (by omega)) I133 L134 x154 x141 rfl hI139 (CM.cons S23 (CM.cons S45 (CM.cons S65 (CM.cons S83 (CM.cons S111 (CM.mono S138 (by decide) (by decide)) (by decide) (by decide)) (by decide) (by decide)) (by decide) (by decide)) (by decide) (by decide)) (by decide) (by decide)) (fun r z0 z1 => ((congrFun (CM.j0 S138 R_r0_4 (by decide)) r).trans ((F113 r z0 z1).trans ((F85 r z0 z1).trans ((congrFun (CM.j0 S65 R_r0_4 (by decide)) r).trans ((F46 r z0 z1).trans (F25 r z0 z1))))))) (fun r z0 z1 => ((F140 r z0 z1).trans ((F114 r z0 z1).trans ((F86 r z0 z1).trans ((F66 r z0 z1).trans ((F47 r z0 z1).trans (F26 r z0 z1))))))) (by omega) (by omega) e142 (by omega) (by omega) (by omega) (by exact ff108_1) (by exact ff108_2) (by exact RWF.cg (MXL.e ff108_3 (by omega)) (by rw [show x154.toNatClampNeg = x20.toNatClampNeg + 1 from by (have := ncz (x := x154) (by omega)); (have := ncz (x := x20) (by omega)); omega]) rfl) (by omega)
                      refine k_aload_n C rfl rfl rfl ?_
                      refine k_iload_n C rfl rfl rfl ?_
                      refine k_iload C rfl rfl rfl ?_
                      refine k_aload_n C rfl rfl rfl ?_
                      refine k_aload_n C rfl rfl rfl ?_
                      refine k_iload_n C rfl rfl rfl ?_
                      refine k_iload C rfl rfl rfl ?_
                      refine c_VI C (a_X12_of hI139 H_r0 (by omega) (by omega) (by omega) (by omega)) rfl rfl rfl rfl rfl ⟨_, rfl, rfl, T_r0, Nat.le_of_ble_eq_true rfl⟩ rfl rfl (Nat.le_of_ble_eq_true rfl) (Nat.le_of_ble_eq_true rfl) (Nat.le_of_ble_eq_true rfl) ?_
                      rintro x155 _ _ ⟨o0x155, o1x155, p0x155, rfl, rfl⟩
                      have p0x155 := p0x155 r0_5 R_r0_5
                      have gx155 := rg x155
                      try simp only [e145, e146, e147, e148, e149, e150, e142, e152] at p0x155
                      try have q0x155 := congrArg Int32.toInt p0x155
                      have hA := p0x155
                      refine k_aload_n C rfl rfl rfl ?_
                      refine z_bipush C (z := 45) rfl rfl rfl (fun x156 ex156 => ?_)
                      refine k_iload C rfl rfl rfl ?_
                      have q157 : x156.toNatClampNeg = 45 := nck (by omega)
                      refine c_VI C (a_X12_of hI139 H_r0 (by omega) (by omega) (by omega) (by omega)) rfl rfl rfl rfl rfl ⟨_, rfl, rfl, T_r0, Nat.le_of_ble_eq_true rfl⟩ rfl rfl (Nat.le_of_ble_eq_true rfl) (Nat.le_of_ble_eq_true rfl) (Nat.le_of_ble_eq_true rfl) ?_
                      rintro x158 _ _ ⟨o0x158, o1x158, p0x158, rfl, rfl⟩
                      have p0x158 := p0x158 r0_5 R_r0_5
                      have gx158 := rg x158
                      try simp only [q157, e145, e146, e147, e148, e149, e150, e142, e152] at p0x158
                      try have q0x158 := congrArg Int32.toInt p0x158
                      have hB := p0x158
                      refine c_VI C (a_X12_plus_e hI139 H_r0 (by omega) (by omega) (by omega) (by omega)) rfl rfl rfl rfl rfl ⟨_, rfl, rfl, T_r0, Nat.le_of_ble_eq_true rfl⟩ rfl rfl (Nat.le_of_ble_eq_true rfl) (Nat.le_of_ble_eq_true rfl) (Nat.le_of_ble_eq_true rfl) ?_
                      rintro x159 _ _ ⟨o0x159, o1x159, p0x159, p1x159, p2x159, p3x159, rfl, rfl⟩
                      have p0x159 := p0x159 r0_1 R_r0_1
                      have p2x159 := p2x159 r0_1 R_r0_1
                      have p3x159 := p3x159 r0_1 R_r0_1
                      have gx159 := rg x159
                      try simp only [e145, e146, e147, e148, e149, e150, e142, e152] at p0x159
                      try have q0x159 := congrArg Int32.toInt p0x159
                      try simp only [e145, e146, e147, e148, e149, e150, e142, e152] at p1x159
                      try have q1x159 := congrArg Int32.toInt p1x159
                      try simp only [e145, e146, e147, e148, e149, e150, e142, e152] at p2x159
                      try have q2x159 := congrArg Int32.toInt p2x159
                      try simp only [e145, e146, e147, e148, e149, e150, e142, e152] at p3x159
                      try have q3x159 := congrArg Int32.toInt p3x159
                      have hS := p3x159
                      refine c_VV C (a_X12_put hI139 H_r0 (by omega) (by omega) (by omega) (by omega) (by omega) (by omega)) rfl rfl rfl rfl rfl ⟨_, rfl, rfl, T_r0, Nat.le_of_ble_eq_true rfl⟩ rfl rfl (Nat.le_of_ble_eq_true rfl) (Nat.le_of_ble_eq_true rfl) (Nat.le_of_ble_eq_true rfl) ?_
                      rintro I161 L162 ⟨p0v160, p1v160, hI161, S163⟩
                      have p0v160 := p0v160 r0_5 R_r0_5
                      have p1v160 := p1v160 r0_5 R_r0_5
                      have F164 : ∀ r : Nat, (r < 41 * n2.toNatClampNeg ∨ 41 * n2.toNatClampNeg + 41 ≤ r) → (r < 41 * 45 ∨ 41 * 45 + 41 ≤ r) → I161 r0_5 r = I133 r0_5 r := fun r z0 z1 => p1v160 r (by first | exact z0 | exact z1)
                      have e165 := CM.j S163 R_r0_4 (by decide) e145
                      have e166 := CM.j S163 R_r0_1 (by decide) e146
                      have e167 := CM.k S163 (by decide) e147
                      have e168 := CM.k S163 (by decide) e148
                      have e169 := CM.k S163 (by decide) e149
                      have e170 := CM.k S163 (by decide) e150
                      have e171 := CM.j S163 R_r0_4 (by decide) e142
                      have e172 := CM.j S163 R_r0_4 (by decide) e152
                      try simp only [e145, e146, e147, e148, e149, e150, e142, e152] at p0v160
                      try have q0v160 := congrArg Int32.toInt p0v160
                      have hP := p0v160
                      refine z_iinc C (z := 1) (lw := fun x173 => [(5, .int x173), (0, .ref r0), (1, .int n1), (2, .int n2), (3, .int w_r0_4_n1), (4, .int x20)]) rfl rfl rfl (Nat.le_of_ble_eq_true rfl) rfl ⟨by omega, by omega⟩ (fun _ => rfl) (fun x173 ex173 => ?_)
                      show V 143 [(5, .int x173), (0, .ref r0), (1, .int n1), (2, .int n2), (3, .int w_r0_4_n1), (4, .int x20)] _ _ _ _
                      refine k_goto C (pc2 := 108) rfl rfl ?_
                      refine k_sub S [(0, .ref r0), (1, .int n1), (2, .int n2), (3, .int w_r0_4_n1), (4, .int x20), (5, .int x173)] (List.forall_mem_cons.mpr ⟨List.mem_of_getElem? (i := 1) rfl, List.forall_mem_cons.mpr ⟨List.mem_of_getElem? (i := 2) rfl, List.forall_mem_cons.mpr ⟨List.mem_of_getElem? (i := 3) rfl, List.forall_mem_cons.mpr ⟨List.mem_of_getElem? (i := 4) rfl, List.forall_mem_cons.mpr ⟨List.mem_of_getElem? (i := 5) rfl, List.forall_mem_cons.mpr ⟨List.mem_of_getElem? (i := 0) rfl, fun _ h => nomatch h⟩⟩⟩⟩⟩⟩) ?_
                      exact ihJ131 _ (MN.lt hmnn132 (by omega) (by omega)) I161 L162 x173 x141 rfl hI161 (CM.cons S138 (CM.mono S163 (by decide) (by decide)) (by decide) (by decide)) (fun r z0 z1 => ((F164 r z0 z1).trans (F140 r z0 z1))) (by omega) (by omega) e171 (by omega) (by omega) (by omega) (by exact QN.put ff108_1 hP (by omega) (by omega)) (by exact SMR.put ff108_2 hP (nclt (by omega) (by omega)) (by omega)) (by exact MXL.s ff108_3 ff108_4 hA hB hS hP (by omega) (by omega) (by omega) (fun _ => mxS.s)) (by exact RWF.put ff108_4 hP (nclt (by omega) (by omega)) (by omega) (by omega))
                  refine k_istore C (lw := [(5, .int x130), (0, .ref r0), (1, .int n1), (2, .int n2), (3, .int w_r0_4_n1), (4, .int x20)]) rfl rfl (Nat.le_of_ble_eq_true rfl) rfl ?_
                  refine k_sub S [(0, .ref r0), (1, .int n1), (2, .int n2), (3, .int w_r0_4_n1), (4, .int x20), (5, .int x130)] (List.forall_mem_cons.mpr ⟨List.mem_of_getElem? (i := 1) rfl, List.forall_mem_cons.mpr ⟨List.mem_of_getElem? (i := 2) rfl, List.forall_mem_cons.mpr ⟨List.mem_of_getElem? (i := 3) rfl, List.forall_mem_cons.mpr ⟨List.mem_of_getElem? (i := 4) rfl, List.forall_mem_cons.mpr ⟨List.mem_of_getElem? (i := 5) rfl, List.forall_mem_cons.mpr ⟨List.mem_of_getElem? (i := 0) rfl, fun _ h => nomatch h⟩⟩⟩⟩⟩⟩) ?_
                  exact J131 _ I106 L107 x130 x115 rfl hI112 CM.rf (fun r z0 z1 => rfl) (by omega) (by omega) e116 (by omega) (by omega) (by omega) (by exact ff78_2) (by exact ff78_3) (by exact MXL.z ff78_4 (by omega)) (by exact RWF.cg hG rfl (by omega))
                refine k_aload_n C rfl rfl rfl ?_
                refine z_bipush C (z := 45) rfl rfl rfl (fun x174 ex174 => ?_)
                refine k_aload_n C rfl rfl rfl ?_
                refine g_I C rfl rfl rfl T_r0 rfl e127 ?_
                refine k_aload_n C rfl rfl rfl ?_
                refine g_I C rfl rfl rfl T_r0 rfl e128 ?_
                have q175 : x174.toNatClampNeg = 45 := nck (by omega)
                refine c_VV C (a_X12_widens_e hI112 H_r0 (by omega) (by omega) (by omega) (by omega) (by omega) (by omega) (fun a4 h4 => by cases (R_r0_4.symm.trans h4); first | omega | (simp only [q175, e123, e124, e125, e126, e127, e128, e116, e120] <;> omega))) rfl rfl rfl rfl rfl ⟨_, rfl, rfl, T_r0, Nat.le_of_ble_eq_true rfl⟩ rfl rfl (Nat.le_of_ble_eq_true rfl) (Nat.le_of_ble_eq_true rfl) (Nat.le_of_ble_eq_true rfl) ?_
                rintro I177 L178 ⟨p0v176, p1v176, p2v176, p3v176, hI177, S179⟩
                have p0v176 := p0v176 r0_4 R_r0_4
                have p1v176 := p1v176 r0_1 r0_4 r0_5 R_r0_1 R_r0_4 R_r0_5
                have p2v176 := p2v176 r0_4 R_r0_4
                have p3v176 := p3v176 r0_5 R_r0_5
                try simp only [q175] at p2v176
                have F180 : ∀ r : Nat, r ≠ n2.toNatClampNeg → r ≠ 45 → I177 r0_4 r = I106 r0_4 r := fun r z0 z1 => p2v176 r (by first | exact z0 | exact z1)
                try simp only [q175] at p3v176
                have F181 : ∀ r : Nat, (r < 41 * n2.toNatClampNeg ∨ 41 * n2.toNatClampNeg + 41 ≤ r) → (r < 41 * 45 ∨ 41 * 45 + 41 ≤ r) → I177 r0_5 r = I106 r0_5 r := fun r z0 z1 => p3v176 r (by first | exact z0 | exact z1)
                have e182 := (p2v176 n1.toNatClampNeg (by first | decide | exact ncne (by omega) (by omega) (by omega) | exact nckn (by omega) (by omega) | exact (nckn (by omega) (by omega)).symm)).trans e123
                have e183 := CM.j S179 R_r0_1 (by decide) e124
                have e184 := CM.k S179 (by decide) e125
                have e185 := CM.k S179 (by decide) e126
                have e186 := CM.k S179 (by decide) e127
                have e187 := CM.k S179 (by decide) e128
                have e188 := (p2v176 n2.toNatClampNeg (by first | decide | exact ncne (by omega) (by omega) (by omega) | exact nckn (by omega) (by omega) | exact (nckn (by omega) (by omega)).symm)).trans e116
                obtain ⟨x190, e191⟩ : ∃ x, I177 r0_4 45 = x := ⟨_, rfl⟩
                have gx190 := rg x190
                have ox190 := IM.dgR hI177 R_r0_4 e191
                try simp only [q175, e123, e124, e125, e126, e127, e128, e116, e120, e191] at p0v176
                try have q0v176 := congrArg Int32.toInt p0v176
                try simp only [q175, e123, e124, e125, e126, e127, e128, e116, e120, e191] at p1v176
                try have q1v176 := congrArg Int32.toInt p1v176
                have hQ := ff78_2
                have hQ := QN.sm hQ (fun k hk => p3v176 (41 * n2.toNatClampNeg + k) (by omega)) (by omega)
                have hM := SMR.cs ff78_3 (fun k hk => p3v176 _ (by omega))
                have hW := RWF.sm ff78_4 (fun k hk => p3v176 _ (by omega)) (by omega)
                have hG := RWF.wd ff78_5 p1v176 (by omega) (by have := ncz (x := x108) (by omega); omega)
                refine z_iinc C (z := 1) (lw := fun x192 => [(5, .int x192), (0, .ref r0), (1, .int n1), (2, .int n2), (3, .int w_r0_4_n1), (4, .int x20)]) rfl rfl rfl (Nat.le_of_ble_eq_true rfl) rfl ⟨by omega, by omega⟩ (fun _ => rfl) (fun x192 ex192 => ?_)
                show V 102 [(5, .int x192), (0, .ref r0), (1, .int n1), (2, .int n2), (3, .int w_r0_4_n1), (4, .int x20)] _ _ _ _
                refine k_goto C (pc2 := 78) rfl rfl ?_
                refine k_sub S [(0, .ref r0), (1, .int n1), (2, .int n2), (3, .int w_r0_4_n1), (4, .int x20), (5, .int x192)] (List.forall_mem_cons.mpr ⟨List.mem_of_getElem? (i := 1) rfl, List.forall_mem_cons.mpr ⟨List.mem_of_getElem? (i := 2) rfl, List.forall_mem_cons.mpr ⟨List.mem_of_getElem? (i := 3) rfl, List.forall_mem_cons.mpr ⟨List.mem_of_getElem? (i := 4) rfl, List.forall_mem_cons.mpr ⟨List.mem_of_getElem? (i := 5) rfl, List.forall_mem_cons.mpr ⟨List.mem_of_getElem? (i := 0) rfl, fun _ h => nomatch h⟩⟩⟩⟩⟩⟩) ?_
                exact ihJ104 _ (MN.lt hmnn105 (by omega) (by omega)) I177 L178 x192 x115 x190 rfl hI177 (CM.cons S111 (CM.mono S179 (by decide) (by decide)) (by decide) (by decide)) (fun r z0 z1 => ((F180 r z0 z1).trans (F113 r z0 z1))) (fun r z0 z1 => ((F181 r z0 z1).trans (F114 r z0 z1))) (by omega) (by omega) e188 (by omega) (by omega) e191 (by omega) (by omega) (by omega) (by omega) (by exact hQ) (by exact hM) (by exact hW) (by exact RWF.cg hG (by rw [show x192.toNatClampNeg = x108.toNatClampNeg + 1 from by (have := ncz (x := x192) (by omega)); (have := ncz (x := x108) (by omega)); omega]) (by omega)) (by omega)
            refine k_istore C (lw := [(5, .int x103), (0, .ref r0), (1, .int n1), (2, .int n2), (3, .int w_r0_4_n1), (4, .int x20)]) rfl rfl (Nat.le_of_ble_eq_true rfl) rfl ?_
            refine k_sub S [(0, .ref r0), (1, .int n1), (2, .int n2), (3, .int w_r0_4_n1), (4, .int x20), (5, .int x103)] (List.forall_mem_cons.mpr ⟨List.mem_of_getElem? (i := 1) rfl, List.forall_mem_cons.mpr ⟨List.mem_of_getElem? (i := 2) rfl, List.forall_mem_cons.mpr ⟨List.mem_of_getElem? (i := 3) rfl, List.forall_mem_cons.mpr ⟨List.mem_of_getElem? (i := 4) rfl, List.forall_mem_cons.mpr ⟨List.mem_of_getElem? (i := 5) rfl, List.forall_mem_cons.mpr ⟨List.mem_of_getElem? (i := 0) rfl, fun _ h => nomatch h⟩⟩⟩⟩⟩⟩) ?_
            exact J104 _ I78 L79 x103 x87 x91 rfl hI84 CM.rf (fun r z0 z1 => rfl) (fun r z0 z1 => rfl) (by omega) (by omega) e88 (by omega) (by omega) e92 (by omega) (by omega) (by omega) (by omega) (by exact ff46_3) (by exact ff46_4) (by exact ff46_5) (by exact RWF.cg hG (by rw [nck (x := x103) (n := 0) (by omega)]; rfl) (by omega)) (by omega)
          refine k_aload_n C rfl rfl rfl ?_
          refine z_bipush C (z := 45) rfl rfl rfl (fun x193 ex193 => ?_)
          refine k_aload_n C rfl rfl rfl ?_
          refine g_I C rfl rfl rfl T_r0 rfl e97 ?_
          refine k_aload_n C rfl rfl rfl ?_
          refine g_I C rfl rfl rfl T_r0 rfl e98 ?_
          have q194 : x193.toNatClampNeg = 45 := nck (by omega)
          refine c_VV C (a_X12_widens_e hI84 H_r0 (by omega) (by omega) (by omega) (by omega) (by omega) (by omega) (fun a4 h4 => by cases (R_r0_4.symm.trans h4); first | omega | (simp only [q194, e95, e96, e97, e98, e99, e100, e88, e92] <;> omega))) rfl rfl rfl rfl rfl ⟨_, rfl, rfl, T_r0, Nat.le_of_ble_eq_true rfl⟩ rfl rfl (Nat.le_of_ble_eq_true rfl) (Nat.le_of_ble_eq_true rfl) (Nat.le_of_ble_eq_true rfl) ?_
          rintro I196 L197 ⟨p0v195, p1v195, p2v195, p3v195, hI196, S198⟩
          have p0v195 := p0v195 r0_4 R_r0_4
          have p1v195 := p1v195 r0_1 r0_4 r0_5 R_r0_1 R_r0_4 R_r0_5
          have p2v195 := p2v195 r0_4 R_r0_4
          have p3v195 := p3v195 r0_5 R_r0_5
          try simp only [q194] at p2v195
          have F199 : ∀ r : Nat, r ≠ n2.toNatClampNeg → r ≠ 45 → I196 r0_4 r = I78 r0_4 r := fun r z0 z1 => p2v195 r (by first | exact z0 | exact z1)
          try simp only [q194] at p3v195
          have F200 : ∀ r : Nat, (r < 41 * n2.toNatClampNeg ∨ 41 * n2.toNatClampNeg + 41 ≤ r) → (r < 41 * 45 ∨ 41 * 45 + 41 ≤ r) → I196 r0_5 r = I78 r0_5 r := fun r z0 z1 => p3v195 r (by first | exact z0 | exact z1)
          have e201 := (p2v195 n1.toNatClampNeg (by first | decide | exact ncne (by omega) (by omega) (by omega) | exact nckn (by omega) (by omega) | exact (nckn (by omega) (by omega)).symm)).trans e95
          have e202 := CM.j S198 R_r0_1 (by decide) e96
          have e203 := CM.k S198 (by decide) e97
          have e204 := CM.k S198 (by decide) e98
          have e205 := CM.k S198 (by decide) e99
          have e206 := CM.k S198 (by decide) e100
          have e207 := (p2v195 n2.toNatClampNeg (by first | decide | exact ncne (by omega) (by omega) (by omega) | exact nckn (by omega) (by omega) | exact (nckn (by omega) (by omega)).symm)).trans e88
          obtain ⟨x209, e210⟩ : ∃ x, I196 r0_4 45 = x := ⟨_, rfl⟩
          have gx209 := rg x209
          have ox209 := IM.dgR hI196 R_r0_4 e210
          try simp only [q194, e95, e96, e97, e98, e99, e100, e88, e92, e210] at p0v195
          try have q0v195 := congrArg Int32.toInt p0v195
          try simp only [q194, e95, e96, e97, e98, e99, e100, e88, e92, e210] at p1v195
          try have q1v195 := congrArg Int32.toInt p1v195
          have hQ := ff46_3
          have hQ := QN.sm hQ (fun k hk => p3v195 (41 * n2.toNatClampNeg + k) (by omega)) (by omega)
          have hM := SMR.cs ff46_4 (fun k hk => p3v195 _ (by omega))
          have hW := RWF.sm ff46_5 (fun k hk => p3v195 _ (by omega)) (by omega)
          have hG := RWF.wd ff46_6 p1v195 (by omega) (by have := ncz (x := x80) (by omega); omega)
          refine z_iinc C (z := 1) (lw := fun x211 => [(5, .int x211), (0, .ref r0), (1, .int n1), (2, .int n2), (3, .int w_r0_4_n1), (4, .int x20)]) rfl rfl rfl (Nat.le_of_ble_eq_true rfl) rfl ⟨by omega, by omega⟩ (fun _ => rfl) (fun x211 ex211 => ?_)
          show V 72 [(5, .int x211), (0, .ref r0), (1, .int n1), (2, .int n2), (3, .int w_r0_4_n1), (4, .int x20)] _ _ _ _
          refine k_goto C (pc2 := 46) rfl rfl ?_
          refine k_sub S [(0, .ref r0), (1, .int n1), (2, .int n2), (3, .int w_r0_4_n1), (4, .int x20), (5, .int x211)] (List.forall_mem_cons.mpr ⟨List.mem_of_getElem? (i := 1) rfl, List.forall_mem_cons.mpr ⟨List.mem_of_getElem? (i := 2) rfl, List.forall_mem_cons.mpr ⟨List.mem_of_getElem? (i := 3) rfl, List.forall_mem_cons.mpr ⟨List.mem_of_getElem? (i := 4) rfl, List.forall_mem_cons.mpr ⟨List.mem_of_getElem? (i := 5) rfl, List.forall_mem_cons.mpr ⟨List.mem_of_getElem? (i := 0) rfl, fun _ h => nomatch h⟩⟩⟩⟩⟩⟩) ?_
          exact ihJ76 _ (MN.lt hmnn77 (by omega) (by omega)) I196 L197 x211 x87 x209 rfl hI196 (CM.cons S83 (CM.mono S198 (by decide) (by decide)) (by decide) (by decide)) (fun r z0 z1 => ((F199 r z0 z1).trans (F85 r z0 z1))) (fun r z0 z1 => ((F200 r z0 z1).trans (F86 r z0 z1))) (by omega) (by omega) e207 (by omega) (by omega) e210 (by omega) (by omega) (by omega) (by omega) (by omega) (by exact hQ) (by exact hM) (by exact hW) (by exact RWF.cg hG (by rw [show x211.toNatClampNeg = x80.toNatClampNeg + 1 from by (have := ncz (x := x211) (by omega)); (have := ncz (x := x80) (by omega)); omega]) (by omega))
      refine k_istore C (lw := [(5, .int x75), (0, .ref r0), (1, .int n1), (2, .int n2), (3, .int w_r0_4_n1), (4, .int x20)]) rfl rfl (Nat.le_of_ble_eq_true rfl) rfl ?_
      refine k_sub S [(0, .ref r0), (1, .int n1), (2, .int n2), (3, .int w_r0_4_n1), (4, .int x20), (5, .int x75)] (List.forall_mem_cons.mpr ⟨List.mem_of_getElem? (i := 1) rfl, List.forall_mem_cons.mpr ⟨List.mem_of_getElem? (i := 2) rfl, List.forall_mem_cons.mpr ⟨List.mem_of_getElem? (i := 3) rfl, List.forall_mem_cons.mpr ⟨List.mem_of_getElem? (i := 4) rfl, List.forall_mem_cons.mpr ⟨List.mem_of_getElem? (i := 5) rfl, List.forall_mem_cons.mpr ⟨List.mem_of_getElem? (i := 0) rfl, fun _ h => nomatch h⟩⟩⟩⟩⟩⟩) ?_
      exact J76 _ I63 L64 x75 x27 x55 rfl hI63 CM.rf (fun r z0 z1 => rfl) (fun r z0 z1 => rfl) (by omega) (by omega) e73 (by omega) (by omega) e74 (by omega) (by omega) (by omega) (by omega) (by omega) (by exact hQ) (by exact hM) (by exact hW) (by exact RWF.cg (RWF.p0 (g := (fun _ => RI I r0_5 n1.toNatClampNeg x20.toNatClampNeg)) hP hO) (by rw [nck (x := x75) (n := 0) (by omega)]; rfl) (by omega))
  refine k_istore C (lw := [(4, .int x15), (3, .int w_r0_4_n1), (0, .ref r0), (1, .int n1), (2, .int n2)]) rfl rfl (Nat.le_of_ble_eq_true rfl) rfl ?_
  refine k_sub S [(0, .ref r0), (1, .int n1), (2, .int n2), (3, .int w_r0_4_n1), (4, .int x15)] (List.forall_mem_cons.mpr ⟨List.mem_of_getElem? (i := 2) rfl, List.forall_mem_cons.mpr ⟨List.mem_of_getElem? (i := 3) rfl, List.forall_mem_cons.mpr ⟨List.mem_of_getElem? (i := 4) rfl, List.forall_mem_cons.mpr ⟨List.mem_of_getElem? (i := 1) rfl, List.forall_mem_cons.mpr ⟨List.mem_of_getElem? (i := 0) rfl, fun _ h => nomatch h⟩⟩⟩⟩⟩) ?_
  exact J16 _ I2 L3 x15 x13 rfl hI2 CM.rf (fun r z0 z1 => rfl) (fun r z0 z1 => rfl) (by omega) (by omega) e14 (by omega) (by omega) (by omega) (by exact hQ) (by exact hM) (by exact RWF.cg hW (by rw [nck (x := x15) (n := 0) (by omega)]) rfl) (by omega)

