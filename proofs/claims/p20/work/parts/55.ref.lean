/-! the reference: values -/
theorem a_X12_valueAt_e {d : Nat} {T N : Nat → Nat} {I : IT} {L : LT} {R : RT} {A : Nat → Prop} {r0 : Nat} {n1 n2 n3 : Int32} (hI : IM R r0 I) (H_r0 : (h_MD T N R A) r0) (b0_n1 : 0 ≤ n1.toInt) (b1_n1 : n1.toInt ≤ 47) (b0_n2 : -18 ≤ n2.toInt) (b1_n2 : n2.toInt ≤ 18) (b0_n3 : -18 ≤ n3.toInt) (b1_n3 : n3.toInt ≤ 18) : Ex (d + 4) 215 [.ref r0, .int n1, .int n2, .int n3] (T, N, I, L, R) 0 0 (pI T N R (fun x9 I9 L9 => (-18 ≤ x9.toInt) ∧ (x9.toInt ≤ 18) ∧ (∀ a1 a4 a5, R r0 1 = some a1 → R r0 4 = some a4 → R r0 5 = some a5 → VAD x9.toInt (I a1 0).toInt (RI I a5 n1.toNatClampNeg) n2.toInt n3.toInt (I a4 n1.toNatClampNeg).toInt) ∧ (I = I9 ∧ L = L9))) := by
  refine ⟨_, rfl, Nat.le_of_ble_eq_true rfl, fun V C S => ?_⟩
  show V 0 [(0, .ref r0), (1, .int n1), (2, .int n2), (3, .int n3)] [] (T, N, I, L, R) 0 0
  have gn1 := rg n1
  have gn2 := rg n2
  have gn3 := rg n3
  obtain ⟨T_r0, A_r0, ⟨r0_1, R_r0_1, H_r0_1⟩, ⟨r0_2, R_r0_2, H_r0_2⟩, ⟨r0_4, R_r0_4, H_r0_4⟩, ⟨r0_5, R_r0_5, H_r0_5⟩, ⟨r0_10, R_r0_10, H_r0_10⟩, ⟨r0_18, R_r0_18, H_r0_18⟩, ⟨r0_20, R_r0_20, H_r0_20⟩, ⟨r0_21, R_r0_21, H_r0_21⟩, ⟨r0_22, R_r0_22, H_r0_22⟩, ⟨r0_23, R_r0_23, H_r0_23⟩, ⟨r0_25, R_r0_25, H_r0_25⟩, ⟨r0_26, R_r0_26, H_r0_26⟩, ⟨r0_27, R_r0_27, H_r0_27⟩, ⟨r0_28, R_r0_28, H_r0_28⟩, ⟨r0_34, R_r0_34, H_r0_34⟩, J_r0, Y_r0⟩ := id H_r0
  have G_r0 : mF T R r0 := ⟨J_r0, Y_r0, T_r0⟩
  obtain ⟨w_r0_4_n1, k0_r0_4_n1⟩ : ∃ x, I r0_4 n1.toNatClampNeg = x := ⟨_, rfl⟩
  have gw_r0_4_n1 := rg w_r0_4_n1
  have ow_r0_4_n1 := IM.dgR hI R_r0_4 k0_r0_4_n1
  obtain ⟨w_r0_1_0, k0_r0_1_0⟩ : ∃ x, I r0_1 0 = x := ⟨_, rfl⟩
  have gw_r0_1_0 := rg w_r0_1_0
  have ow_r0_1_0 := IM.pi hI R_r0_1 k0_r0_1_0
  refine z_iconst C (z := 0) rfl rfl rfl (fun x1 ex1 => ?_)
  refine k_istore C (lw := [(4, .int x1), (0, .ref r0), (1, .int n1), (2, .int n2), (3, .int n3)]) rfl rfl (Nat.le_of_ble_eq_true rfl) rfl ?_
  refine z_iconst C (z := 0) rfl rfl rfl (fun x2 ex2 => ?_)
  have J3 : ∀ (nn4 : Nat) (x5 : Int32) (x8 : Int32), (MN (41 - x8.toInt) nn4) → (-18 ≤ x5.toInt) → (x5.toInt ≤ 18) → (0 ≤ x8.toInt) → (x8.toInt ≤ 41) → (VAL x5.toInt w_r0_1_0.toInt (RI I r0_5 n1.toNatClampNeg) n2.toInt n3.toInt w_r0_4_n1.toInt x8.toInt) → (x8.toInt ≤ w_r0_4_n1.toInt + 1) → V 6 [(0, .ref r0), (1, .int n1), (2, .int n2), (3, .int n3), (4, .int x5), (5, .int x8)] [] (T, N, I, L, R) 0 0 := by
    intro nn4
    induction nn4 using Nat.strongRecOn with
    | _ nn4 ihJ3 =>
      intro x5 x8 hmnn4 b6 b7 b9 b10 ff6_0 ff6_1
      have gx5 := rg x5
      have gx8 := rg x8
      refine k_iload C rfl rfl rfl ?_
      refine k_aload_n C rfl rfl rfl ?_
      refine g_R C rfl rfl rfl T_r0 rfl R_r0_4 ?_
      refine k_iload_n C rfl rfl rfl ?_
      obtain ⟨T_r0_4, N_r0_4, A_r0_4⟩ := id H_r0_4
      refine a_I C rfl rfl T_r0_4 (by rw [N_r0_4]; exact vpi (by omega) (by omega)) k0_r0_4_n1 ?_
      refine b_icmp_gt C (t := 67) rfl rfl rfl (fun c11 => ?_) (fun c11 => ?_)
      · skip
        refine k_iload C rfl rfl rfl ?_
        exact k_iret C rfl (Or.inl rfl) (Nat.le_of_ble_eq_true rfl) (Nat.le_of_ble_eq_true rfl) ⟨_, _, _, rfl, rfl, by omega, by omega, fun a1 a4 a5 h1 h4 h5 => by cases (R_r0_1.symm.trans h1); cases (R_r0_4.symm.trans h4); cases (R_r0_5.symm.trans h5); simp only [k0_r0_1_0, k0_r0_4_n1]; exact VAL.e ff6_0 (by omega) (by omega), rfl, rfl⟩
      refine k_aload_n C rfl rfl rfl ?_
      refine k_iload C rfl rfl rfl ?_
      refine k_aload_n C rfl rfl rfl ?_
      refine k_aload_n C rfl rfl rfl ?_
      refine k_iload_n C rfl rfl rfl ?_
      refine k_iload C rfl rfl rfl ?_
      refine c_VI C (a_X12_of hI H_r0 (by omega) (by omega) (by omega) (by omega)) rfl rfl rfl rfl rfl ⟨_, rfl, rfl, T_r0, Nat.le_of_ble_eq_true rfl⟩ rfl rfl (Nat.le_of_ble_eq_true rfl) (Nat.le_of_ble_eq_true rfl) (Nat.le_of_ble_eq_true rfl) ?_
      rintro x12 _ _ ⟨o0x12, o1x12, p0x12, rfl, rfl⟩
      have p0x12 := p0x12 r0_5 R_r0_5
      have gx12 := rg x12
      try simp only [k0_r0_4_n1, k0_r0_1_0] at p0x12
      try have q0x12 := congrArg Int32.toInt p0x12
      have hA := p0x12
      refine k_aload_n C rfl rfl rfl ?_
      refine k_aload_n C rfl rfl rfl ?_
      refine k_iload_n C rfl rfl rfl ?_
      refine k_aload_n C rfl rfl rfl ?_
      refine g_R C rfl rfl rfl T_r0 rfl R_r0_4 ?_
      refine k_iload_n C rfl rfl rfl ?_
      refine a_I C rfl rfl T_r0_4 (by rw [N_r0_4]; exact vpi (by omega) (by omega)) k0_r0_4_n1 ?_
      refine k_iload C rfl rfl rfl ?_
      refine z_isub C rfl rfl ⟨by omega, by omega⟩ (fun x13 ex13 => ?_)
      refine c_VI C (a_X12_power hI H_r0 (by omega) (by omega)) rfl rfl rfl rfl rfl ⟨_, rfl, rfl, T_r0, Nat.le_of_ble_eq_true rfl⟩ rfl rfl (Nat.le_of_ble_eq_true rfl) (Nat.le_of_ble_eq_true rfl) (Nat.le_of_ble_eq_true rfl) ?_
      rintro x14 _ _ ⟨o0x14, o1x14, p0x14, rfl, rfl⟩
      have p0x14 := p0x14 r0_1 R_r0_1
      have gx14 := rg x14
      try simp only [k0_r0_4_n1, k0_r0_1_0] at p0x14
      try have q0x14 := congrArg Int32.toInt p0x14
      have hU := p0x14
      refine k_aload_n C rfl rfl rfl ?_
      refine k_iload_n C rfl rfl rfl ?_
      refine k_iload C rfl rfl rfl ?_
      refine c_VI C (a_X12_power hI H_r0 (by omega) (by omega)) rfl rfl rfl rfl rfl ⟨_, rfl, rfl, T_r0, Nat.le_of_ble_eq_true rfl⟩ rfl rfl (Nat.le_of_ble_eq_true rfl) (Nat.le_of_ble_eq_true rfl) (Nat.le_of_ble_eq_true rfl) ?_
      rintro x15 _ _ ⟨o0x15, o1x15, p0x15, rfl, rfl⟩
      have p0x15 := p0x15 r0_1 R_r0_1
      have gx15 := rg x15
      try simp only [k0_r0_4_n1, k0_r0_1_0] at p0x15
      try have q0x15 := congrArg Int32.toInt p0x15
      have hV := p0x15
      refine c_VI C (a_X12_times hI H_r0 (by omega) (by omega) (by omega) (by omega)) rfl rfl rfl rfl rfl ⟨_, rfl, rfl, T_r0, Nat.le_of_ble_eq_true rfl⟩ rfl rfl (Nat.le_of_ble_eq_true rfl) (Nat.le_of_ble_eq_true rfl) (Nat.le_of_ble_eq_true rfl) ?_
      rintro x16 _ _ ⟨o0x16, o1x16, p0x16, p1x16, p2x16, p3x16, rfl, rfl⟩
      have p0x16 := p0x16 r0_1 R_r0_1
      have p2x16 := p2x16 r0_1 R_r0_1
      have p3x16 := p3x16 r0_1 R_r0_1
      have gx16 := rg x16
      try simp only [k0_r0_4_n1, k0_r0_1_0] at p0x16
      try have q0x16 := congrArg Int32.toInt p0x16
      try simp only [k0_r0_4_n1, k0_r0_1_0] at p1x16
      try have q1x16 := congrArg Int32.toInt p1x16
      try simp only [k0_r0_4_n1, k0_r0_1_0] at p2x16
      try have q2x16 := congrArg Int32.toInt p2x16
      try simp only [k0_r0_4_n1, k0_r0_1_0] at p3x16
      try have q3x16 := congrArg Int32.toInt p3x16
      have hT := p3x16
      refine c_VI C (a_X12_times hI H_r0 (by omega) (by omega) (by omega) (by omega)) rfl rfl rfl rfl rfl ⟨_, rfl, rfl, T_r0, Nat.le_of_ble_eq_true rfl⟩ rfl rfl (Nat.le_of_ble_eq_true rfl) (Nat.le_of_ble_eq_true rfl) (Nat.le_of_ble_eq_true rfl) ?_
      rintro x17 _ _ ⟨o0x17, o1x17, p0x17, p1x17, p2x17, p3x17, rfl, rfl⟩
      have p0x17 := p0x17 r0_1 R_r0_1
      have p2x17 := p2x17 r0_1 R_r0_1
      have p3x17 := p3x17 r0_1 R_r0_1
      have gx17 := rg x17
      try simp only [k0_r0_4_n1, k0_r0_1_0] at p0x17
      try have q0x17 := congrArg Int32.toInt p0x17
      try simp only [k0_r0_4_n1, k0_r0_1_0] at p1x17
      try have q1x17 := congrArg Int32.toInt p1x17
      try simp only [k0_r0_4_n1, k0_r0_1_0] at p2x17
      try have q2x17 := congrArg Int32.toInt p2x17
      try simp only [k0_r0_4_n1, k0_r0_1_0] at p3x17
      try have q3x17 := congrArg Int32.toInt p3x17
      have hT2 := p3x17
      refine c_VI C (a_X12_plus_e hI H_r0 (by omega) (by omega) (by omega) (by omega)) rfl rfl rfl rfl rfl ⟨_, rfl, rfl, T_r0, Nat.le_of_ble_eq_true rfl⟩ rfl rfl (Nat.le_of_ble_eq_true rfl) (Nat.le_of_ble_eq_true rfl) (Nat.le_of_ble_eq_true rfl) ?_
      rintro x18 _ _ ⟨o0x18, o1x18, p0x18, p1x18, p2x18, p3x18, rfl, rfl⟩
      have p0x18 := p0x18 r0_1 R_r0_1
      have p2x18 := p2x18 r0_1 R_r0_1
      have p3x18 := p3x18 r0_1 R_r0_1
      have gx18 := rg x18
      try simp only [k0_r0_4_n1, k0_r0_1_0] at p0x18
      try have q0x18 := congrArg Int32.toInt p0x18
      try simp only [k0_r0_4_n1, k0_r0_1_0] at p1x18
      try have q1x18 := congrArg Int32.toInt p1x18
      try simp only [k0_r0_4_n1, k0_r0_1_0] at p2x18
      try have q2x18 := congrArg Int32.toInt p2x18
      try simp only [k0_r0_4_n1, k0_r0_1_0] at p3x18
      try have q3x18 := congrArg Int32.toInt p3x18
      have hS := p3x18
      refine k_istore C (lw := [(4, .int x18), (0, .ref r0), (1, .int n1), (2, .int n2), (3, .int n3), (5, .int x8)]) rfl rfl (Nat.le_of_ble_eq_true rfl) rfl ?_
      refine z_iinc C (z := 1) (lw := fun x19 => [(5, .int x19), (4, .int x18), (0, .ref r0), (1, .int n1), (2, .int n2), (3, .int n3)]) rfl rfl rfl (Nat.le_of_ble_eq_true rfl) rfl ⟨by omega, by omega⟩ (fun _ => rfl) (fun x19 ex19 => ?_)
      show V 64 [(5, .int x19), (4, .int x18), (0, .ref r0), (1, .int n1), (2, .int n2), (3, .int n3)] _ _ _ _
      refine k_goto C (pc2 := 6) rfl rfl ?_
      refine k_sub S [(0, .ref r0), (1, .int n1), (2, .int n2), (3, .int n3), (4, .int x18), (5, .int x19)] (List.forall_mem_cons.mpr ⟨List.mem_of_getElem? (i := 2) rfl, List.forall_mem_cons.mpr ⟨List.mem_of_getElem? (i := 3) rfl, List.forall_mem_cons.mpr ⟨List.mem_of_getElem? (i := 4) rfl, List.forall_mem_cons.mpr ⟨List.mem_of_getElem? (i := 5) rfl, List.forall_mem_cons.mpr ⟨List.mem_of_getElem? (i := 1) rfl, List.forall_mem_cons.mpr ⟨List.mem_of_getElem? (i := 0) rfl, fun _ h => nomatch h⟩⟩⟩⟩⟩⟩) ?_
      exact ihJ3 _ (MN.lt hmnn4 (by omega) (by omega)) x18 x19 rfl (by omega) (by omega) (by omega) (by omega) (by exact VAL.s ff6_0 hA hU (by omega) hV hT hT2 hS (by omega) (by omega) (by omega)) (by omega)
  refine k_istore C (lw := [(5, .int x2), (4, .int x1), (0, .ref r0), (1, .int n1), (2, .int n2), (3, .int n3)]) rfl rfl (Nat.le_of_ble_eq_true rfl) rfl ?_
  refine k_sub S [(0, .ref r0), (1, .int n1), (2, .int n2), (3, .int n3), (4, .int x1), (5, .int x2)] (List.forall_mem_cons.mpr ⟨List.mem_of_getElem? (i := 2) rfl, List.forall_mem_cons.mpr ⟨List.mem_of_getElem? (i := 3) rfl, List.forall_mem_cons.mpr ⟨List.mem_of_getElem? (i := 4) rfl, List.forall_mem_cons.mpr ⟨List.mem_of_getElem? (i := 5) rfl, List.forall_mem_cons.mpr ⟨List.mem_of_getElem? (i := 1) rfl, List.forall_mem_cons.mpr ⟨List.mem_of_getElem? (i := 0) rfl, fun _ h => nomatch h⟩⟩⟩⟩⟩⟩) ?_
  exact J3 _ x1 x2 rfl (by omega) (by omega) (by omega) (by omega) (by exact VAL.z (by omega) (by omega)) (by omega)

theorem a_X12_values_e {d : Nat} {T N : Nat → Nat} {I : IT} {L : LT} {R : RT} {A : Nat → Prop} {r0 : Nat} {n1 : Int32} (hI : IM R r0 I) (H_r0 : (h_MD T N R A) r0) (b0_n1 : 0 ≤ n1.toInt) (b1_n1 : n1.toInt ≤ 47) : Ex (d + 5) 272 [.ref r0, .int n1] (T, N, I, L, R) 0 0 (pV T N R (fun I9 L9 => (∀ a1 a4 a5 a25, R r0 1 = some a1 → R r0 4 = some a4 → R r0 5 = some a5 → R r0 25 = some a25 → VLE I9 a25 (I a1 0).toInt (RI I a5 n1.toNatClampNeg) (I a4 n1.toNatClampNeg).toInt) ∧ (IM R r0 I9 ∧ CM A R r0 [] [25] I L I9 L9))) := by
  refine ⟨_, rfl, Nat.le_of_ble_eq_true rfl, fun V C S => ?_⟩
  show V 0 [(0, .ref r0), (1, .int n1)] [] (T, N, I, L, R) 0 0
  have gn1 := rg n1
  obtain ⟨T_r0, A_r0, ⟨r0_1, R_r0_1, H_r0_1⟩, ⟨r0_2, R_r0_2, H_r0_2⟩, ⟨r0_4, R_r0_4, H_r0_4⟩, ⟨r0_5, R_r0_5, H_r0_5⟩, ⟨r0_10, R_r0_10, H_r0_10⟩, ⟨r0_18, R_r0_18, H_r0_18⟩, ⟨r0_20, R_r0_20, H_r0_20⟩, ⟨r0_21, R_r0_21, H_r0_21⟩, ⟨r0_22, R_r0_22, H_r0_22⟩, ⟨r0_23, R_r0_23, H_r0_23⟩, ⟨r0_25, R_r0_25, H_r0_25⟩, ⟨r0_26, R_r0_26, H_r0_26⟩, ⟨r0_27, R_r0_27, H_r0_27⟩, ⟨r0_28, R_r0_28, H_r0_28⟩, ⟨r0_34, R_r0_34, H_r0_34⟩, J_r0, Y_r0⟩ := id H_r0
  have G_r0 : mF T R r0 := ⟨J_r0, Y_r0, T_r0⟩
  obtain ⟨w_r0_4_n1, k0_r0_4_n1⟩ : ∃ x, I r0_4 n1.toNatClampNeg = x := ⟨_, rfl⟩
  have gw_r0_4_n1 := rg w_r0_4_n1
  have ow_r0_4_n1 := IM.dgR hI R_r0_4 k0_r0_4_n1
  obtain ⟨w_r0_1_0, k0_r0_1_0⟩ : ∃ x, I r0_1 0 = x := ⟨_, rfl⟩
  have gw_r0_1_0 := rg w_r0_1_0
  have ow_r0_1_0 := IM.pi hI R_r0_1 k0_r0_1_0
  refine z_iconst C (z := 0) rfl rfl rfl (fun x1 ex1 => ?_)
  have J2 : ∀ (nn3 : Nat) (I4 : IT) (L5 : LT) (x6 : Int32), (MN (19 - x6.toInt) nn3) → (IM R r0 I4) → (CM A R r0 [] [25] I L I4 L5) → (0 ≤ x6.toInt) → (x6.toInt ≤ 19) → (VLF I4 r0_25 w_r0_1_0.toInt (RI I r0_5 n1.toNatClampNeg) w_r0_4_n1.toInt x6.toInt 0) → V 2 [(0, .ref r0), (1, .int n1), (2, .int x6)] [] (T, N, I4, L5, R) 0 0 := by
    intro nn3
    induction nn3 using Nat.strongRecOn with
    | _ nn3 ihJ2 =>
      intro I4 L5 x6 hmnn3 hI10 S9 b7 b8 ff2_0
      have gx6 := rg x6
      have e11 := CM.j S9 R_r0_4 (by decide) k0_r0_4_n1
      have e12 := CM.j S9 R_r0_1 (by decide) k0_r0_1_0
      refine k_iload_n C rfl rfl rfl ?_
      refine k_aload_n C rfl rfl rfl ?_
      refine c_VI C (a_X12_p hI10 H_r0) rfl rfl rfl rfl rfl ⟨_, rfl, rfl, T_r0, Nat.le_of_ble_eq_true rfl⟩ rfl rfl (Nat.le_of_ble_eq_true rfl) (Nat.le_of_ble_eq_true rfl) (Nat.le_of_ble_eq_true rfl) ?_
      rintro x13 _ _ ⟨o0x13, o1x13, p0x13, rfl, rfl⟩
      have p0x13 := p0x13 r0_1 R_r0_1
      have gx13 := rg x13
      try simp only [e11, e12, e12] at p0x13
      try have q0x13 := congrArg Int32.toInt p0x13
      refine b_icmp_ge C (t := 50) rfl rfl rfl (fun c14 => ?_) (fun c14 => ?_)
      · skip
        exact k_vret C rfl rfl (Nat.le_of_ble_eq_true rfl) (Nat.le_of_ble_eq_true rfl) ⟨_, _, rfl, rfl, fun a1 a4 a5 a25 h1 h4 h5 h25 => by cases (R_r0_1.symm.trans h1); cases (R_r0_4.symm.trans h4); cases (R_r0_5.symm.trans h5); cases (R_r0_25.symm.trans h25); simp only [k0_r0_1_0, k0_r0_4_n1]; exact VLF.e ff2_0 (by omega), hI10, (CM.mono S9 (by decide) (by decide))⟩
      refine z_iconst C (z := 0) rfl rfl rfl (fun x15 ex15 => ?_)
      have J16 : ∀ (nn17 : Nat) (I18 : IT) (L19 : LT) (x20 : Int32), (MN (19 - x20.toInt) nn17) → (IM R r0 I18) → (CM A R r0 [] [25] I4 L5 I18 L19) → (0 ≤ x20.toInt) → (x20.toInt ≤ 19) → (VLF I18 r0_25 w_r0_1_0.toInt (RI I r0_5 n1.toNatClampNeg) w_r0_4_n1.toInt x6.toInt x20.toInt) → V 12 [(0, .ref r0), (1, .int n1), (2, .int x6), (3, .int x20)] [] (T, N, I18, L19, R) 0 0 := by
        intro nn17
        induction nn17 using Nat.strongRecOn with
        | _ nn17 ihJ16 =>
          intro I18 L19 x20 hmnn17 hI24 S23 b21 b22 ff12_0
          have gx20 := rg x20
          have e25 := CM.j S23 R_r0_4 (by decide) e11
          have e26 := CM.j S23 R_r0_1 (by decide) e12
          refine k_iload_n C rfl rfl rfl ?_
          refine k_aload_n C rfl rfl rfl ?_
          refine c_VI C (a_X12_p hI24 H_r0) rfl rfl rfl rfl rfl ⟨_, rfl, rfl, T_r0, Nat.le_of_ble_eq_true rfl⟩ rfl rfl (Nat.le_of_ble_eq_true rfl) (Nat.le_of_ble_eq_true rfl) (Nat.le_of_ble_eq_true rfl) ?_
          rintro x27 _ _ ⟨o0x27, o1x27, p0x27, rfl, rfl⟩
          have p0x27 := p0x27 r0_1 R_r0_1
          have gx27 := rg x27
          try simp only [e25, e26, e26] at p0x27
          try have q0x27 := congrArg Int32.toInt p0x27
          refine b_icmp_ge C (t := 44) rfl rfl rfl (fun c28 => ?_) (fun c28 => ?_)
          · skip
            refine z_iinc C (z := 1) (lw := fun x29 => [(2, .int x29), (0, .ref r0), (1, .int n1), (3, .int x20)]) rfl rfl rfl (Nat.le_of_ble_eq_true rfl) rfl ⟨by omega, by omega⟩ (fun _ => rfl) (fun x29 ex29 => ?_)
            show V 47 [(2, .int x29), (0, .ref r0), (1, .int n1), (3, .int x20)] _ _ _ _
            refine k_goto C (pc2 := 2) rfl rfl ?_
            refine k_sub S [(0, .ref r0), (1, .int n1), (2, .int x29)] (List.forall_mem_cons.mpr ⟨List.mem_of_getElem? (i := 1) rfl, List.forall_mem_cons.mpr ⟨List.mem_of_getElem? (i := 2) rfl, List.forall_mem_cons.mpr ⟨List.mem_of_getElem? (i := 0) rfl, fun _ h => nomatch h⟩⟩⟩) ?_
            exact ihJ2 _ (MN.lt hmnn3 (by omega) (by omega)) I18 L19 x29 rfl hI24 (CM.cons S9 (CM.mono S23 (by decide) (by decide)) (by decide) (by decide)) (by omega) (by omega) (by exact VLF.n ff12_0 (by omega) (by omega) rfl)
          refine k_aload_n C rfl rfl rfl ?_
          refine g_R C rfl rfl rfl T_r0 rfl R_r0_25 ?_
          refine z_bipush C (z := 19) rfl rfl rfl (fun x30 ex30 => ?_)
          refine k_iload_n C rfl rfl rfl ?_
          refine z_imulL C (c := 19) rfl rfl (by omega) ⟨by omega, by omega⟩ (fun x31 ex31 => ?_)
          refine k_iload_n C rfl rfl rfl ?_
          refine z_iadd C rfl rfl ⟨by omega, by omega⟩ (fun x32 ex32 => ?_)
          refine k_aload_n C rfl rfl rfl ?_
          refine k_iload_n C rfl rfl rfl ?_
          refine k_iload_n C rfl rfl rfl ?_
          refine k_iload_n C rfl rfl rfl ?_
          refine c_VI C (a_X12_valueAt_e hI24 H_r0 (by omega) (by omega) (by omega) (by omega) (by omega) (by omega)) rfl rfl rfl rfl rfl ⟨_, rfl, rfl, T_r0, Nat.le_of_ble_eq_true rfl⟩ rfl rfl (Nat.le_of_ble_eq_true rfl) (Nat.le_of_ble_eq_true rfl) (Nat.le_of_ble_eq_true rfl) ?_
          rintro x33 _ _ ⟨o0x33, o1x33, p0x33, rfl, rfl⟩
          have p0x33 := p0x33 r0_1 r0_4 r0_5 R_r0_1 R_r0_4 R_r0_5
          have gx33 := rg x33
          try simp only [e25, e26] at p0x33
          try have q0x33 := congrArg Int32.toInt p0x33
          have hV := VAD.eq p0x33 (CM.j0 (I := I) (L := L) (I' := I18) (L' := L19) (A := A) (W := []) (WA := [25]) (CM.cons S9 (CM.mono S23 (by decide) (by decide)) (by decide) (by decide)) R_r0_5 (by decide))
          obtain ⟨T_r0_25, N_r0_25, A_r0_25⟩ := id H_r0_25
          refine z_sI C rfl rfl T_r0_25 N_r0_25 (by omega) (by omega) (fun I34 uI34 => ?_)
          have hI34 : IM R r0 I34 := IM.arr hI24 G_r0 R_r0_25 ⟨(fun h => absurd h (by decide)), (fun h => absurd h (by decide)), (fun h => absurd h (by decide))⟩ (fun h => absurd h (by decide)) uI34
          have S35 : CM A R r0 [] [25] I18 L19 I34 L19 := CM.a G_r0 R_r0_25 A_r0_25 uI34
          have e36 := u2_n uI34 (mF.nq G_r0 R_r0_4 R_r0_25 (by decide)) e25
          have e37 := u2_n uI34 (mF.nq G_r0 R_r0_1 R_r0_25 (by decide)) e26
          have e38 := u2_e uI34
          have hu := uI34
          refine z_iinc C (z := 1) (lw := fun x39 => [(3, .int x39), (0, .ref r0), (1, .int n1), (2, .int x6)]) rfl rfl rfl (Nat.le_of_ble_eq_true rfl) rfl ⟨by omega, by omega⟩ (fun _ => rfl) (fun x39 ex39 => ?_)
          show V 41 [(3, .int x39), (0, .ref r0), (1, .int n1), (2, .int x6)] _ _ _ _
          refine k_goto C (pc2 := 12) rfl rfl ?_
          refine k_sub S [(0, .ref r0), (1, .int n1), (2, .int x6), (3, .int x39)] (List.forall_mem_cons.mpr ⟨List.mem_of_getElem? (i := 1) rfl, List.forall_mem_cons.mpr ⟨List.mem_of_getElem? (i := 2) rfl, List.forall_mem_cons.mpr ⟨List.mem_of_getElem? (i := 3) rfl, List.forall_mem_cons.mpr ⟨List.mem_of_getElem? (i := 0) rfl, fun _ h => nomatch h⟩⟩⟩⟩) ?_
          exact ihJ16 _ (MN.lt hmnn17 (by omega) (by omega)) I34 L19 x39 rfl hI34 (CM.cons S23 (CM.mono S35 (by decide) (by decide)) (by decide) (by decide)) (by omega) (by omega) (by exact VLF.s ff12_0 hu hV (by omega) (by omega) (by omega) (by omega) (by omega) (by omega))
      refine k_istore_n C (lw := [(3, .int x15), (0, .ref r0), (1, .int n1), (2, .int x6)]) rfl rfl (Nat.le_of_ble_eq_true rfl) rfl ?_
      refine k_sub S [(0, .ref r0), (1, .int n1), (2, .int x6), (3, .int x15)] (List.forall_mem_cons.mpr ⟨List.mem_of_getElem? (i := 1) rfl, List.forall_mem_cons.mpr ⟨List.mem_of_getElem? (i := 2) rfl, List.forall_mem_cons.mpr ⟨List.mem_of_getElem? (i := 3) rfl, List.forall_mem_cons.mpr ⟨List.mem_of_getElem? (i := 0) rfl, fun _ h => nomatch h⟩⟩⟩⟩) ?_
      exact J16 _ I4 L5 x15 rfl hI10 CM.rf (by omega) (by omega) (by exact VLF.c ff2_0 rfl (by omega))
  refine k_istore_n C (lw := [(2, .int x1), (0, .ref r0), (1, .int n1)]) rfl rfl (Nat.le_of_ble_eq_true rfl) rfl ?_
  refine k_sub S [(0, .ref r0), (1, .int n1), (2, .int x1)] (List.forall_mem_cons.mpr ⟨List.mem_of_getElem? (i := 1) rfl, List.forall_mem_cons.mpr ⟨List.mem_of_getElem? (i := 2) rfl, List.forall_mem_cons.mpr ⟨List.mem_of_getElem? (i := 0) rfl, fun _ h => nomatch h⟩⟩⟩) ?_
  exact J2 _ I L x1 rfl hI CM.rf (by omega) (by omega) (by exact VLF.z (by omega) rfl)

