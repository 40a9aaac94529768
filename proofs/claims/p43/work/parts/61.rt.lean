/-! the reference: the stock, exactly -/
theorem NQA.z {I : IT} {dg nu r : Nat} {D : Int} (h : NQA I dg nu r) (e : (I dg r).toInt = D) : ZRL (RI I nu r) (D + 1) := fun j hj => h j (by omega)
theorem NQA.n {I : IT} {dg nu r : Nat} {D : Int} (h : ¬ NQA I dg nu r) (e : (I dg r).toInt = D) : ¬ ZRL (RI I nu r) (D + 1) := fun z => h (fun j hj => z j (by omega))
theorem NQI9 {I : IT} {dg nu r : Nat} {x D : Int} (h : IFF x (NQA I dg nu r)) (e : (I dg r).toInt = D) : IFF x (ZRL (RI I nu r) (D + 1)) := ⟨fun q => NQA.z (h.1 q) e, fun q => NQA.n (h.2 q) e⟩
theorem NQI.w {I : IT} {dg nu r : Nat} {x D : Int} {g : Nat → Int} (h : IFF x (NQA I dg nu r)) (e : (I dg r).toInt = D) (w : RWF I nu r D g) : IFF x (ZRL g (D + 1)) := ⟨fun q => ((NQI9 h e).1 q).cg (fun k hk => w k (by omega)), fun q z => (NQI9 h e).2 q (z.cg (fun k hk => (w k (by omega)).symm))⟩
theorem a_X12_stock_x {d : Nat} {T N : Nat → Nat} {I : IT} {L : LT} {R : RT} {A : Nat → Prop} {r0 : Nat} {n1 : Int32} (hI : IM R r0 I) (H_r0 : (h_MD T N R A) r0) : Ex (d + 4) 312 [.ref r0, .int n1] (T, N, I, L, R) 0 0 (pI T N R (fun x9 I9 L9 => ((I9 r0 0).toInt = 0) ∧ (∀ a1, R r0 1 = some a1 → STV (I a1 0).toInt (I a1 1).toInt (I a1 2).toInt (I a1 3).toInt (I a1 4).toInt (I a1 5).toInt n1.toInt x9.toInt) ∧ (∀ a1, R r0 1 = some a1 → n1.toInt = 6 → CNI (fun j => ZRL (fun k => (I a1 (7 + 10 * j + k)).toInt) ((I a1 (6 + 10 * j)).toInt + 1)) (I a1 1).toInt.toNat x9.toInt) ∧ (IM R r0 I9 ∧ CM A R r0 [0] [4, 5] I L I9 L9))) := by
  refine ⟨_, rfl, Nat.le_of_ble_eq_true rfl, fun V C S => ?_⟩
  show V 0 [(0, .ref r0), (1, .int n1)] [] (T, N, I, L, R) 0 0
  have gn1 := rg n1
  obtain ⟨T_r0, A_r0, ⟨r0_1, R_r0_1, H_r0_1⟩, ⟨r0_2, R_r0_2, H_r0_2⟩, ⟨r0_4, R_r0_4, H_r0_4⟩, ⟨r0_5, R_r0_5, H_r0_5⟩, ⟨r0_10, R_r0_10, H_r0_10⟩, ⟨r0_18, R_r0_18, H_r0_18⟩, ⟨r0_20, R_r0_20, H_r0_20⟩, ⟨r0_21, R_r0_21, H_r0_21⟩, ⟨r0_22, R_r0_22, H_r0_22⟩, ⟨r0_23, R_r0_23, H_r0_23⟩, ⟨r0_25, R_r0_25, H_r0_25⟩, ⟨r0_26, R_r0_26, H_r0_26⟩, ⟨r0_27, R_r0_27, H_r0_27⟩, ⟨r0_28, R_r0_28, H_r0_28⟩, ⟨r0_34, R_r0_34, H_r0_34⟩, J_r0, Y_r0⟩ := id H_r0
  have G_r0 : mF T R r0 := ⟨J_r0, Y_r0, T_r0⟩
  obtain ⟨w_r0_1_0, k0_r0_1_0⟩ : ∃ x, I r0_1 0 = x := ⟨_, rfl⟩
  have gw_r0_1_0 := rg w_r0_1_0
  have ow_r0_1_0 := IM.pi hI R_r0_1 k0_r0_1_0
  obtain ⟨w_r0_1_1, k0_r0_1_1⟩ : ∃ x, I r0_1 1 = x := ⟨_, rfl⟩
  have gw_r0_1_1 := rg w_r0_1_1
  have ow_r0_1_1 := IM.c1 hI R_r0_1 k0_r0_1_1
  obtain ⟨w_r0_1_2, k0_r0_1_2⟩ : ∃ x, I r0_1 2 = x := ⟨_, rfl⟩
  have gw_r0_1_2 := rg w_r0_1_2
  have ow_r0_1_2 := IM.c2 hI R_r0_1 k0_r0_1_2
  obtain ⟨w_r0_1_3, k0_r0_1_3⟩ : ∃ x, I r0_1 3 = x := ⟨_, rfl⟩
  have gw_r0_1_3 := rg w_r0_1_3
  have ow_r0_1_3 := IM.c3 hI R_r0_1 k0_r0_1_3
  obtain ⟨w_r0_1_4, k0_r0_1_4⟩ : ∃ x, I r0_1 4 = x := ⟨_, rfl⟩
  have gw_r0_1_4 := rg w_r0_1_4
  have ow_r0_1_4 := IM.c4 hI R_r0_1 k0_r0_1_4
  obtain ⟨w_r0_1_5, k0_r0_1_5⟩ : ∃ x, I r0_1 5 = x := ⟨_, rfl⟩
  have gw_r0_1_5 := rg w_r0_1_5
  have ow_r0_1_5 := IM.c5 hI R_r0_1 k0_r0_1_5
  refine k_aload_n C rfl rfl rfl ?_
  refine z_iconst C (z := 0) rfl rfl rfl (fun x1 ex1 => ?_)
  refine z_pI C rfl rfl rfl T_r0 (Or.inr rfl) rfl (fun I2 uI2 => ?_)
  have hI2 : IM R r0 I2 := IM.fld hI G_r0 ⟨(fun h => absurd h (by decide)), (fun h => absurd h (by decide)), (fun h => absurd h (by decide)), (fun h => absurd h (by decide)), (fun h => absurd h (by decide))⟩ uI2
  have S3 : CM A R r0 [0] [] I L I2 L := CM.f G_r0 A_r0 uI2
  have e4 := u2_n uI2 (mF.ne G_r0 R_r0_1) k0_r0_1_0
  have e5 := u2_n uI2 (mF.ne G_r0 R_r0_1) k0_r0_1_1
  have e6 := u2_n uI2 (mF.ne G_r0 R_r0_1) k0_r0_1_2
  have e7 := u2_n uI2 (mF.ne G_r0 R_r0_1) k0_r0_1_3
  have e8 := u2_n uI2 (mF.ne G_r0 R_r0_1) k0_r0_1_4
  have e9 := u2_n uI2 (mF.ne G_r0 R_r0_1) k0_r0_1_5
  have e10 := u2_e uI2
  refine z_iconst C (z := 0) rfl rfl rfl (fun x11 ex11 => ?_)
  refine k_istore_n C (lw := [(2, .int x11), (0, .ref r0), (1, .int n1)]) rfl rfl (Nat.le_of_ble_eq_true rfl) rfl ?_
  refine k_iload_n C rfl rfl rfl ?_
  refine k_table C rfl (by decide) (fun c12 => ?_) (fun c12 c13 => ?_)
  · skip
    show V 136 _ _ _ _ _
    refine z_iconst C (z := -1) rfl rfl rfl (fun x14 ex14 => ?_)
    exact k_iret C rfl (Or.inl rfl) (Nat.le_of_ble_eq_true rfl) (Nat.le_of_ble_eq_true rfl) ⟨_, _, _, rfl, rfl, by rw [e10]; omega, fun a1 h1 => by cases (R_r0_1.symm.trans h1); (try simp only [k0_r0_1_0, k0_r0_1_1, k0_r0_1_2, k0_r0_1_3, k0_r0_1_4, k0_r0_1_5]); exact STV.mk (by omega), fun a1 h1 => by cases (R_r0_1.symm.trans h1); intro h9; exfalso; omega, hI2, (CM.mono S3 (by decide) (by decide))⟩
  have h15 : n1.toInt = 0 ∨ n1.toInt = 1 ∨ n1.toInt = 2 ∨ n1.toInt = 3 ∨ n1.toInt = 4 ∨ n1.toInt = 5 ∨ n1.toInt = 6 := by omega
  rcases h15 with h15 | h15 | h15 | h15 | h15 | h15 | h15
  · skip
    refine ⟨44, by rw [h15]; rfl, by decide, ?_⟩
    show V 52 _ _ _ _ _
    refine k_aload_n C rfl rfl rfl ?_
    refine c_VI C (a_X12_p hI2 H_r0) rfl rfl rfl rfl rfl ⟨_, rfl, rfl, T_r0, Nat.le_of_ble_eq_true rfl⟩ rfl rfl (Nat.le_of_ble_eq_true rfl) (Nat.le_of_ble_eq_true rfl) (Nat.le_of_ble_eq_true rfl) ?_
    rintro x16 _ _ ⟨o0x16, o1x16, p0x16, rfl, rfl⟩
    have p0x16 := p0x16 r0_1 R_r0_1
    have gx16 := rg x16
    try simp only [e4, e5, e6, e7, e8, e9, e10, e4] at p0x16
    try have q0x16 := congrArg Int32.toInt p0x16
    exact k_iret C rfl (Or.inl rfl) (Nat.le_of_ble_eq_true rfl) (Nat.le_of_ble_eq_true rfl) ⟨_, _, _, rfl, rfl, by rw [e10]; omega, fun a1 h1 => by cases (R_r0_1.symm.trans h1); (try simp only [k0_r0_1_0, k0_r0_1_1, k0_r0_1_2, k0_r0_1_3, k0_r0_1_4, k0_r0_1_5]); exact STV.mk (by omega), fun a1 h1 => by cases (R_r0_1.symm.trans h1); intro h9; exfalso; omega, hI2, (CM.mono S3 (by decide) (by decide))⟩
  · skip
    refine ⟨49, by rw [h15]; rfl, by decide, ?_⟩
    show V 57 _ _ _ _ _
    refine k_aload_n C rfl rfl rfl ?_
    refine g_R C rfl rfl rfl T_r0 rfl R_r0_1 ?_
    refine z_iconst C (z := 1) rfl rfl rfl (fun x17 ex17 => ?_)
    obtain ⟨T_r0_1, N_r0_1, A_r0_1⟩ := id H_r0_1
    refine a_I C rfl rfl T_r0_1 (by rw [N_r0_1]; exact vpi (by omega) (by omega)) ((congrArg (I2 r0_1) (nck (n := 1) (by omega))).trans e5) ?_
    exact k_iret C rfl (Or.inl rfl) (Nat.le_of_ble_eq_true rfl) (Nat.le_of_ble_eq_true rfl) ⟨_, _, _, rfl, rfl, by rw [e10]; omega, fun a1 h1 => by cases (R_r0_1.symm.trans h1); (try simp only [k0_r0_1_0, k0_r0_1_1, k0_r0_1_2, k0_r0_1_3, k0_r0_1_4, k0_r0_1_5]); exact STV.mk (by omega), fun a1 h1 => by cases (R_r0_1.symm.trans h1); intro h9; exfalso; omega, hI2, (CM.mono S3 (by decide) (by decide))⟩
  · skip
    refine ⟨56, by rw [h15]; rfl, by decide, ?_⟩
    show V 64 _ _ _ _ _
    refine k_aload_n C rfl rfl rfl ?_
    refine g_R C rfl rfl rfl T_r0 rfl R_r0_1 ?_
    refine z_iconst C (z := 2) rfl rfl rfl (fun x18 ex18 => ?_)
    obtain ⟨T_r0_1, N_r0_1, A_r0_1⟩ := id H_r0_1
    refine a_I C rfl rfl T_r0_1 (by rw [N_r0_1]; exact vpi (by omega) (by omega)) ((congrArg (I2 r0_1) (nck (n := 2) (by omega))).trans e6) ?_
    exact k_iret C rfl (Or.inl rfl) (Nat.le_of_ble_eq_true rfl) (Nat.le_of_ble_eq_true rfl) ⟨_, _, _, rfl, rfl, by rw [e10]; omega, fun a1 h1 => by cases (R_r0_1.symm.trans h1); (try simp only [k0_r0_1_0, k0_r0_1_1, k0_r0_1_2, k0_r0_1_3, k0_r0_1_4, k0_r0_1_5]); exact STV.mk (by omega), fun a1 h1 => by cases (R_r0_1.symm.trans h1); intro h9; exfalso; omega, hI2, (CM.mono S3 (by decide) (by decide))⟩
  · skip
    refine ⟨63, by rw [h15]; rfl, by decide, ?_⟩
    show V 71 _ _ _ _ _
    refine k_aload_n C rfl rfl rfl ?_
    refine g_R C rfl rfl rfl T_r0 rfl R_r0_1 ?_
    refine z_iconst C (z := 3) rfl rfl rfl (fun x19 ex19 => ?_)
    obtain ⟨T_r0_1, N_r0_1, A_r0_1⟩ := id H_r0_1
    refine a_I C rfl rfl T_r0_1 (by rw [N_r0_1]; exact vpi (by omega) (by omega)) ((congrArg (I2 r0_1) (nck (n := 3) (by omega))).trans e7) ?_
    exact k_iret C rfl (Or.inl rfl) (Nat.le_of_ble_eq_true rfl) (Nat.le_of_ble_eq_true rfl) ⟨_, _, _, rfl, rfl, by rw [e10]; omega, fun a1 h1 => by cases (R_r0_1.symm.trans h1); (try simp only [k0_r0_1_0, k0_r0_1_1, k0_r0_1_2, k0_r0_1_3, k0_r0_1_4, k0_r0_1_5]); exact STV.mk (by omega), fun a1 h1 => by cases (R_r0_1.symm.trans h1); intro h9; exfalso; omega, hI2, (CM.mono S3 (by decide) (by decide))⟩
  · skip
    refine ⟨70, by rw [h15]; rfl, by decide, ?_⟩
    show V 78 _ _ _ _ _
    refine k_aload_n C rfl rfl rfl ?_
    refine g_R C rfl rfl rfl T_r0 rfl R_r0_1 ?_
    refine z_iconst C (z := 4) rfl rfl rfl (fun x20 ex20 => ?_)
    obtain ⟨T_r0_1, N_r0_1, A_r0_1⟩ := id H_r0_1
    refine a_I C rfl rfl T_r0_1 (by rw [N_r0_1]; exact vpi (by omega) (by omega)) ((congrArg (I2 r0_1) (nck (n := 4) (by omega))).trans e8) ?_
    exact k_iret C rfl (Or.inl rfl) (Nat.le_of_ble_eq_true rfl) (Nat.le_of_ble_eq_true rfl) ⟨_, _, _, rfl, rfl, by rw [e10]; omega, fun a1 h1 => by cases (R_r0_1.symm.trans h1); (try simp only [k0_r0_1_0, k0_r0_1_1, k0_r0_1_2, k0_r0_1_3, k0_r0_1_4, k0_r0_1_5]); exact STV.mk (by omega), fun a1 h1 => by cases (R_r0_1.symm.trans h1); intro h9; exfalso; omega, hI2, (CM.mono S3 (by decide) (by decide))⟩
  · skip
    refine ⟨77, by rw [h15]; rfl, by decide, ?_⟩
    show V 85 _ _ _ _ _
    refine k_aload_n C rfl rfl rfl ?_
    refine g_R C rfl rfl rfl T_r0 rfl R_r0_1 ?_
    refine z_iconst C (z := 5) rfl rfl rfl (fun x21 ex21 => ?_)
    obtain ⟨T_r0_1, N_r0_1, A_r0_1⟩ := id H_r0_1
    refine a_I C rfl rfl T_r0_1 (by rw [N_r0_1]; exact vpi (by omega) (by omega)) ((congrArg (I2 r0_1) (nck (n := 5) (by omega))).trans e9) ?_
    exact k_iret C rfl (Or.inl rfl) (Nat.le_of_ble_eq_true rfl) (Nat.le_of_ble_eq_true rfl) ⟨_, _, _, rfl, rfl, by rw [e10]; omega, fun a1 h1 => by cases (R_r0_1.symm.trans h1); (try simp only [k0_r0_1_0, k0_r0_1_1, k0_r0_1_2, k0_r0_1_3, k0_r0_1_4, k0_r0_1_5]); exact STV.mk (by omega), fun a1 h1 => by cases (R_r0_1.symm.trans h1); intro h9; exfalso; omega, hI2, (CM.mono S3 (by decide) (by decide))⟩
  · skip
    refine ⟨84, by rw [h15]; rfl, by decide, ?_⟩
    show V 92 _ _ _ _ _
    refine z_iconst C (z := 0) rfl rfl rfl (fun x22 ex22 => ?_)
    have J23 : ∀ (nn24 : Nat) (I25 : IT) (L26 : LT) (x27 : Int32) (x28 : Int32), (MN (16 - x28.toInt) nn24) → (IM R r0 I25) → (CM A R r0 [] [4, 5] I2 L I25 L26) → (0 ≤ x28.toInt) → (x28.toInt ≤ 16) → (CNI (fun j => ZRL (fun k => (I r0_1 (7 + 10 * j + k)).toInt) ((I r0_1 (6 + 10 * j)).toInt + 1)) x28.toNatClampNeg x27.toInt) → (x28.toInt ≤ w_r0_1_1.toInt) → (0 ≤ x27.toInt ∧ x27.toInt ≤ x28.toInt) → V 94 [(0, .ref r0), (2, .int x27), (3, .int x28)] [] (T, N, I25, L26, R) 0 0 := by
      intro nn24
      induction nn24 using Nat.strongRecOn with
      | _ nn24 ihJ23 =>
        intro I25 L26 x27 x28 hmnn24 hI32 S31 b29 b30 ff94_0 ff94_1 ff94_2
        have gx27 := rg x27
        have gx28 := rg x28
        have e33 := CM.j S31 R_r0_1 (by decide) e4
        have e34 := CM.j S31 R_r0_1 (by decide) e5
        have e35 := CM.j S31 R_r0_1 (by decide) e6
        have e36 := CM.j S31 R_r0_1 (by decide) e7
        have e37 := CM.j S31 R_r0_1 (by decide) e8
        have e38 := CM.j S31 R_r0_1 (by decide) e9
        have e39 := CM.k S31 (by decide) e10
        refine k_iload_n C rfl rfl rfl ?_
        refine k_aload_n C rfl rfl rfl ?_
        refine g_R C rfl rfl rfl T_r0 rfl R_r0_1 ?_
        refine z_iconst C (z := 1) rfl rfl rfl (fun x40 ex40 => ?_)
        obtain ⟨T_r0_1, N_r0_1, A_r0_1⟩ := id H_r0_1
        refine a_I C rfl rfl T_r0_1 (by rw [N_r0_1]; exact vpi (by omega) (by omega)) ((congrArg (I25 r0_1) (nck (n := 1) (by omega))).trans e34) ?_
        refine b_icmp_ge C (t := 134) rfl rfl rfl (fun c41 => ?_) (fun c41 => ?_)
        · skip
          refine k_iload_n C rfl rfl rfl ?_
          exact k_iret C rfl (Or.inl rfl) (Nat.le_of_ble_eq_true rfl) (Nat.le_of_ble_eq_true rfl) ⟨_, _, _, rfl, rfl, by rw [e39]; omega, fun a1 h1 => by cases (R_r0_1.symm.trans h1); exact STV.mk (by omega), fun a1 h1 => by cases (R_r0_1.symm.trans h1); intro _; rw [k0_r0_1_1]; have h9 : x28.toNatClampNeg = w_r0_1_1.toInt.toNat := (by have n9 := ncz (x := x28) (by omega); omega); rw [← h9]; exact ff94_0, hI32, (CM.cons S3 (CM.mono S31 (by decide) (by decide)) (by decide) (by decide))⟩
        refine k_aload_n C rfl rfl rfl ?_
        refine z_bipush C (z := 40) rfl rfl rfl (fun x42 ex42 => ?_)
        refine k_iload_n C rfl rfl rfl ?_
        have hw108 := CM.j0 (W := [0]) (WA := [4, 5]) (CM.cons S3 (CM.mono S31 (by decide) (by decide)) (by decide) (by decide)) R_r0_1 (by decide)
        have hq108 : ∀ z, I25 r0_1 (6 + 10 * x28.toNatClampNeg) = z → (I r0_1 (6 + 10 * x28.toNatClampNeg)).toInt = z.toInt := fun z hz => by rw [← hw108, hz]
        obtain ⟨x43, e44⟩ : ∃ x, I25 r0_1 (6 + 10 * x28.toNatClampNeg) = x := ⟨_, rfl⟩
        have gx43 := rg x43
        have q45 : x42.toNatClampNeg = 40 := nck (by omega)
        refine c_VV C (a_X12_takes_e hI32 H_r0 (by omega) (by omega) (by omega) (by omega)) rfl rfl rfl rfl rfl ⟨_, rfl, rfl, T_r0, Nat.le_of_ble_eq_true rfl⟩ rfl rfl (Nat.le_of_ble_eq_true rfl) (Nat.le_of_ble_eq_true rfl) (Nat.le_of_ble_eq_true rfl) ?_
        rintro I47 L48 ⟨p0v46, p1v46, p2v46, p3v46, p4v46, p5v46, hI47, S49⟩
        have p0v46 := p0v46 r0_4 R_r0_4
        have p1v46 := p1v46 r0_1 r0_4 R_r0_1 R_r0_4
        have p2v46 := p2v46 r0_1 r0_4 r0_5 R_r0_1 R_r0_4 R_r0_5
        have p3v46 := p3v46 r0_1 r0_4 r0_5 R_r0_1 R_r0_4 R_r0_5
        have p4v46 := p4v46 r0_4 R_r0_4
        have p5v46 := p5v46 r0_5 R_r0_5
        try simp only [q45] at p4v46
        try simp only [q45] at p5v46
        have e50 := CM.j S49 R_r0_1 (by decide) e33
        have e51 := CM.j S49 R_r0_1 (by decide) e34
        have e52 := CM.j S49 R_r0_1 (by decide) e35
        have e53 := CM.j S49 R_r0_1 (by decide) e36
        have e54 := CM.j S49 R_r0_1 (by decide) e37
        have e55 := CM.j S49 R_r0_1 (by decide) e38
        have e56 := CM.k S49 (by decide) e39
        have e57 := CM.j S49 R_r0_1 (by decide) e44
        obtain ⟨x58, e59⟩ : ∃ x, I47 r0_4 40 = x := ⟨_, rfl⟩
        have gx58 := rg x58
        have ox58 := IM.dgR hI47 R_r0_4 e59
        try simp only [q45, e33, e34, e35, e36, e37, e38, e39, e44, e59] at p0v46
        try have q0v46 := congrArg Int32.toInt p0v46
        try simp only [q45, e33, e34, e35, e36, e37, e38, e39, e44, e59] at p1v46
        try have q1v46 := congrArg Int32.toInt p1v46
        try simp only [q45, e33, e34, e35, e36, e37, e38, e39, e44, e59] at p2v46
        try have q2v46 := congrArg Int32.toInt p2v46
        try simp only [q45, e33, e34, e35, e36, e37, e38, e39, e44, e59] at p3v46
        try have q3v46 := congrArg Int32.toInt p3v46
        have hT9 := TKE.w p3v46 hw108
        have hRW : RWF I47 r0_5 40 (I r0_1 (6 + 10 * x28.toNatClampNeg)).toInt (fun k => (I r0_1 (7 + 10 * x28.toNatClampNeg + k)).toInt) := fun k hk => by (rw [hT9 k (by rw [hq108 _ (by assumption)] at hk; omega), show 6 + 10 * x28.toNatClampNeg + 1 + k = 7 + 10 * x28.toNatClampNeg + k from by omega])
        refine k_iload_n C rfl rfl rfl ?_
        refine k_aload_n C rfl rfl rfl ?_
        refine z_bipush C (z := 40) rfl rfl rfl (fun x60 ex60 => ?_)
        have q61 : x60.toNatClampNeg = 40 := nck (by omega)
        refine c_VI C (a_X12_isNought_e hI47 H_r0 (by omega) (by omega)) rfl rfl rfl rfl rfl ⟨_, rfl, rfl, T_r0, Nat.le_of_ble_eq_true rfl⟩ rfl rfl (Nat.le_of_ble_eq_true rfl) (Nat.le_of_ble_eq_true rfl) (Nat.le_of_ble_eq_true rfl) ?_
        rintro x62 _ _ ⟨o0x62, o1x62, p0x62, p1x62, rfl, rfl⟩
        have p0x62 := p0x62 r0_4 r0_5 R_r0_4 R_r0_5
        have p1x62 := p1x62 r0_4 r0_5 R_r0_4 R_r0_5
        have gx62 := rg x62
        try simp only [q61, e50, e51, e52, e53, e54, e55, e56, e57, e59] at p0x62
        try have q0x62 := congrArg Int32.toInt p0x62
        try simp only [q61, e50, e51, e52, e53, e54, e55, e56, e57, e59] at p1x62
        try have q1x62 := congrArg Int32.toInt p1x62
        have hNQ := NQI.w (D := (I r0_1 (6 + 10 * x28.toNatClampNeg)).toInt) p1x62 (by rw [e59, hq108 _ (by assumption)]; omega) hRW
        refine b_if_eq C (t := 125) rfl rfl rfl (fun c63 => ?_) (fun c63 => ?_)
        · skip
          refine z_iconst C (z := 0) rfl rfl rfl (fun x64 ex64 => ?_)
          refine z_iadd C rfl rfl ⟨by omega, by omega⟩ (fun x65 ex65 => ?_)
          have gx65 := rg x65
          have m126 := ex65
          refine k_istore_n C (lw := [(2, .int x65), (0, .ref r0), (3, .int x28)]) rfl rfl (Nat.le_of_ble_eq_true rfl) rfl ?_
          refine z_iinc C (z := 1) (lw := fun x66 => [(3, .int x66), (2, .int x65), (0, .ref r0)]) rfl rfl rfl (Nat.le_of_ble_eq_true rfl) rfl ⟨by omega, by omega⟩ (fun _ => rfl) (fun x66 ex66 => ?_)
          show V 131 [(3, .int x66), (2, .int x65), (0, .ref r0)] _ _ _ _
          refine k_goto C (pc2 := 94) rfl rfl ?_
          refine k_sub S [(0, .ref r0), (2, .int x65), (3, .int x66)] (List.forall_mem_cons.mpr ⟨List.mem_of_getElem? (i := 2) rfl, List.forall_mem_cons.mpr ⟨List.mem_of_getElem? (i := 1) rfl, List.forall_mem_cons.mpr ⟨List.mem_of_getElem? (i := 0) rfl, fun _ h => nomatch h⟩⟩⟩) ?_
          exact ihJ23 _ (MN.lt hmnn24 (by omega) (by omega)) I47 L48 x65 x66 rfl hI47 (CM.cons S31 (CM.mono S49 (by decide) (by decide)) (by decide) (by decide)) (by omega) (by omega) (by first | exact CNI.s1 ff94_0 (hNQ.1 (by omega)) (by omega) (by omega) (by omega) | exact CNI.s0 ff94_0 (hNQ.2 (by omega)) (by omega) (by omega) (by omega)) (by omega) (by omega)
        refine z_iconst C (z := 1) rfl rfl rfl (fun x67 ex67 => ?_)
        refine k_goto C (pc2 := 126) rfl rfl ?_
        refine z_iadd C rfl rfl ⟨by omega, by omega⟩ (fun x68 ex68 => ?_)
        have gx68 := rg x68
        have m126 := ex68
        refine k_istore_n C (lw := [(2, .int x68), (0, .ref r0), (3, .int x28)]) rfl rfl (Nat.le_of_ble_eq_true rfl) rfl ?_
        refine z_iinc C (z := 1) (lw := fun x69 => [(3, .int x69), (2, .int x68), (0, .ref r0)]) rfl rfl rfl (Nat.le_of_ble_eq_true rfl) rfl ⟨by omega, by omega⟩ (fun _ => rfl) (fun x69 ex69 => ?_)
        show V 131 [(3, .int x69), (2, .int x68), (0, .ref r0)] _ _ _ _
        refine k_goto C (pc2 := 94) rfl rfl ?_
        refine k_sub S [(0, .ref r0), (2, .int x68), (3, .int x69)] (List.forall_mem_cons.mpr ⟨List.mem_of_getElem? (i := 2) rfl, List.forall_mem_cons.mpr ⟨List.mem_of_getElem? (i := 1) rfl, List.forall_mem_cons.mpr ⟨List.mem_of_getElem? (i := 0) rfl, fun _ h => nomatch h⟩⟩⟩) ?_
        exact ihJ23 _ (MN.lt hmnn24 (by omega) (by omega)) I47 L48 x68 x69 rfl hI47 (CM.cons S31 (CM.mono S49 (by decide) (by decide)) (by decide) (by decide)) (by omega) (by omega) (by first | exact CNI.s1 ff94_0 (hNQ.1 (by omega)) (by omega) (by omega) (by omega) | exact CNI.s0 ff94_0 (hNQ.2 (by omega)) (by omega) (by omega) (by omega)) (by omega) (by omega)
    refine k_istore_n C (lw := [(3, .int x22), (2, .int x11), (0, .ref r0), (1, .int n1)]) rfl rfl (Nat.le_of_ble_eq_true rfl) rfl ?_
    refine k_sub S [(0, .ref r0), (2, .int x11), (3, .int x22)] (List.forall_mem_cons.mpr ⟨List.mem_of_getElem? (i := 2) rfl, List.forall_mem_cons.mpr ⟨List.mem_of_getElem? (i := 1) rfl, List.forall_mem_cons.mpr ⟨List.mem_of_getElem? (i := 0) rfl, fun _ h => nomatch h⟩⟩⟩) ?_
    exact J23 _ I2 L x11 x22 rfl hI2 CM.rf (by omega) (by omega) (by exact CNI.z (by omega) (by omega)) (by omega) (by omega)

