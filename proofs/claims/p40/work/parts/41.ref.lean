/-! the reference in any state: rows -/
theorem a_X12_thrown {d : Nat} {T N : Nat → Nat} {I : IT} {L : LT} {R : RT} {A : Nat → Prop} {r0 : Nat} (hI : IM R r0 I) (H_r0 : (h_MD T N R A) r0) : Ex (d + 1) 177 [.ref r0] (T, N, I, L, R) 0 0 (pI T N R (fun x9 I9 L9 => (I = I9 ∧ L = L9))) := by
  refine ⟨_, rfl, Nat.le_of_ble_eq_true rfl, fun V C S => ?_⟩
  show V 0 [(0, .ref r0)] [] (T, N, I, L, R) 0 0
  obtain ⟨T_r0, A_r0, ⟨r0_1, R_r0_1, H_r0_1⟩, ⟨r0_2, R_r0_2, H_r0_2⟩, ⟨r0_4, R_r0_4, H_r0_4⟩, ⟨r0_5, R_r0_5, H_r0_5⟩, ⟨r0_10, R_r0_10, H_r0_10⟩, ⟨r0_18, R_r0_18, H_r0_18⟩, ⟨r0_20, R_r0_20, H_r0_20⟩, ⟨r0_21, R_r0_21, H_r0_21⟩, ⟨r0_22, R_r0_22, H_r0_22⟩, ⟨r0_23, R_r0_23, H_r0_23⟩, ⟨r0_25, R_r0_25, H_r0_25⟩, ⟨r0_26, R_r0_26, H_r0_26⟩, ⟨r0_27, R_r0_27, H_r0_27⟩, ⟨r0_28, R_r0_28, H_r0_28⟩, ⟨r0_34, R_r0_34, H_r0_34⟩, J_r0, Y_r0⟩ := id H_r0
  have G_r0 : mF T R r0 := ⟨J_r0, Y_r0, T_r0⟩
  refine k_aload_n C rfl rfl rfl ?_
  refine z_gI C rfl rfl rfl T_r0 rfl (fun x1 ex1 => ?_)
  have gx1 := rg x1
  exact k_iret C rfl (Or.inl rfl) (Nat.le_of_ble_eq_true rfl) (Nat.le_of_ble_eq_true rfl) ⟨_, _, _, rfl, rfl, rfl, rfl⟩

theorem a_X12_throwsIf {d : Nat} {T N : Nat → Nat} {I : IT} {L : LT} {R : RT} {A : Nat → Prop} {r0 : Nat} {n1 n2 : Int32} (hI : IM R r0 I) (H_r0 : (h_MD T N R A) r0) (b0_n1 : 0 ≤ n1.toInt) (b1_n1 : n1.toInt ≤ 1) : Ex (d + 1) 178 [.ref r0, .int n1, .int n2] (T, N, I, L, R) 0 0 (pI T N R (fun x9 I9 L9 => (0 ≤ x9.toInt) ∧ (x9.toInt ≤ 1) ∧ (x9.toInt = n1.toInt) ∧ (IM R r0 I9 ∧ CM A R r0 [0] [] I L I9 L9))) := by
  refine ⟨_, rfl, Nat.le_of_ble_eq_true rfl, fun V C S => ?_⟩
  show V 0 [(0, .ref r0), (1, .int n1), (2, .int n2)] [] (T, N, I, L, R) 0 0
  have gn1 := rg n1
  have gn2 := rg n2
  obtain ⟨T_r0, A_r0, ⟨r0_1, R_r0_1, H_r0_1⟩, ⟨r0_2, R_r0_2, H_r0_2⟩, ⟨r0_4, R_r0_4, H_r0_4⟩, ⟨r0_5, R_r0_5, H_r0_5⟩, ⟨r0_10, R_r0_10, H_r0_10⟩, ⟨r0_18, R_r0_18, H_r0_18⟩, ⟨r0_20, R_r0_20, H_r0_20⟩, ⟨r0_21, R_r0_21, H_r0_21⟩, ⟨r0_22, R_r0_22, H_r0_22⟩, ⟨r0_23, R_r0_23, H_r0_23⟩, ⟨r0_25, R_r0_25, H_r0_25⟩, ⟨r0_26, R_r0_26, H_r0_26⟩, ⟨r0_27, R_r0_27, H_r0_27⟩, ⟨r0_28, R_r0_28, H_r0_28⟩, ⟨r0_34, R_r0_34, H_r0_34⟩, J_r0, Y_r0⟩ := id H_r0
  have G_r0 : mF T R r0 := ⟨J_r0, Y_r0, T_r0⟩
  refine k_iload_n C rfl rfl rfl ?_
  refine b_if_eq C (t := 9) rfl rfl rfl (fun c1 => ?_) (fun c1 => ?_)
  · skip
    refine k_iload_n C rfl rfl rfl ?_
    exact k_iret C rfl (Or.inr ⟨rfl, z01 (by omega) (by omega)⟩) (Nat.le_of_ble_eq_true rfl) (Nat.le_of_ble_eq_true rfl) ⟨_, _, _, rfl, rfl, by omega, by omega, by omega, hI, CM.rf⟩
  refine k_aload_n C rfl rfl rfl ?_
  refine k_iload_n C rfl rfl rfl ?_
  refine z_pI C rfl rfl rfl T_r0 (Or.inr rfl) rfl (fun I2 uI2 => ?_)
  have hI2 : IM R r0 I2 := IM.fld hI G_r0 (by decide) (fun h => absurd h (by decide)) uI2
  have S3 : CM A R r0 [0] [] I L I2 L := CM.f G_r0 A_r0 uI2
  have e4 := u2_e uI2
  refine k_iload_n C rfl rfl rfl ?_
  exact k_iret C rfl (Or.inr ⟨rfl, z01 (by omega) (by omega)⟩) (Nat.le_of_ble_eq_true rfl) (Nat.le_of_ble_eq_true rfl) ⟨_, _, _, rfl, rfl, by omega, by omega, by first | omega | (simp only [e4] <;> omega), hI2, (CM.mono S3 (by decide) (by decide))⟩

theorem a_X12_in {d : Nat} {T N : Nat → Nat} {I : IT} {L : LT} {R : RT} {n0 n1 n2 : Int32}   : Ex (d + 1) 179 [.int n0, .int n1, .int n2] (T, N, I, L, R) 0 0 (pI T N R (fun x9 I9 L9 => (0 ≤ x9.toInt) ∧ (x9.toInt ≤ 1) ∧ (x9.toInt = 1 ∧ n1.toInt ≤ n0.toInt ∧ n0.toInt ≤ n2.toInt ∨ x9.toInt = 0 ∧ (n0.toInt < n1.toInt ∨ n2.toInt < n0.toInt)) ∧ (I = I9 ∧ L = L9))) := by
  refine ⟨_, rfl, Nat.le_of_ble_eq_true rfl, fun V C S => ?_⟩
  show V 0 [(0, .int n0), (1, .int n1), (2, .int n2)] [] (T, N, I, L, R) 0 0
  have gn0 := rg n0
  have gn1 := rg n1
  have gn2 := rg n2
  refine k_iload_n C rfl rfl rfl ?_
  refine k_iload_n C rfl rfl rfl ?_
  refine b_icmp_lt C (t := 14) rfl rfl rfl (fun c1 => ?_) (fun c1 => ?_)
  · skip
    refine z_iconst C (z := 0) rfl rfl rfl (fun x2 ex2 => ?_)
    exact k_iret C rfl (Or.inr ⟨rfl, z01 (by omega) (by omega)⟩) (Nat.le_of_ble_eq_true rfl) (Nat.le_of_ble_eq_true rfl) ⟨_, _, _, rfl, rfl, by omega, by omega, by omega, rfl, rfl⟩
  refine k_iload_n C rfl rfl rfl ?_
  refine k_iload_n C rfl rfl rfl ?_
  refine b_icmp_gt C (t := 14) rfl rfl rfl (fun c3 => ?_) (fun c3 => ?_)
  · skip
    refine z_iconst C (z := 0) rfl rfl rfl (fun x4 ex4 => ?_)
    exact k_iret C rfl (Or.inr ⟨rfl, z01 (by omega) (by omega)⟩) (Nat.le_of_ble_eq_true rfl) (Nat.le_of_ble_eq_true rfl) ⟨_, _, _, rfl, rfl, by omega, by omega, by omega, rfl, rfl⟩
  refine z_iconst C (z := 1) rfl rfl rfl (fun x5 ex5 => ?_)
  refine k_goto C (pc2 := 15) rfl rfl ?_
  exact k_iret C rfl (Or.inr ⟨rfl, z01 (by omega) (by omega)⟩) (Nat.le_of_ble_eq_true rfl) (Nat.le_of_ble_eq_true rfl) ⟨_, _, _, rfl, rfl, by omega, by omega, by omega, rfl, rfl⟩

theorem a_X12_p {d : Nat} {T N : Nat → Nat} {I : IT} {L : LT} {R : RT} {A : Nat → Prop} {r0 : Nat} (hI : IM R r0 I) (H_r0 : (h_MD T N R A) r0) : Ex (d + 1) 183 [.ref r0] (T, N, I, L, R) 0 0 (pI T N R (fun x9 I9 L9 => (11 ≤ x9.toInt) ∧ (x9.toInt ≤ 19) ∧ (∀ a1, R r0 1 = some a1 → x9 = I a1 0) ∧ (I = I9 ∧ L = L9))) := by
  refine ⟨_, rfl, Nat.le_of_ble_eq_true rfl, fun V C S => ?_⟩
  show V 0 [(0, .ref r0)] [] (T, N, I, L, R) 0 0
  obtain ⟨T_r0, A_r0, ⟨r0_1, R_r0_1, H_r0_1⟩, ⟨r0_2, R_r0_2, H_r0_2⟩, ⟨r0_4, R_r0_4, H_r0_4⟩, ⟨r0_5, R_r0_5, H_r0_5⟩, ⟨r0_10, R_r0_10, H_r0_10⟩, ⟨r0_18, R_r0_18, H_r0_18⟩, ⟨r0_20, R_r0_20, H_r0_20⟩, ⟨r0_21, R_r0_21, H_r0_21⟩, ⟨r0_22, R_r0_22, H_r0_22⟩, ⟨r0_23, R_r0_23, H_r0_23⟩, ⟨r0_25, R_r0_25, H_r0_25⟩, ⟨r0_26, R_r0_26, H_r0_26⟩, ⟨r0_27, R_r0_27, H_r0_27⟩, ⟨r0_28, R_r0_28, H_r0_28⟩, ⟨r0_34, R_r0_34, H_r0_34⟩, J_r0, Y_r0⟩ := id H_r0
  have G_r0 : mF T R r0 := ⟨J_r0, Y_r0, T_r0⟩
  obtain ⟨w_r0_1_0, k0_r0_1_0⟩ : ∃ x, I r0_1 0 = x := ⟨_, rfl⟩
  have gw_r0_1_0 := rg w_r0_1_0
  have ow_r0_1_0 := IM.pi hI R_r0_1 k0_r0_1_0
  refine k_aload_n C rfl rfl rfl ?_
  refine g_R C rfl rfl rfl T_r0 rfl R_r0_1 ?_
  refine z_iconst C (z := 0) rfl rfl rfl (fun x1 ex1 => ?_)
  obtain ⟨T_r0_1, N_r0_1, A_r0_1⟩ := id H_r0_1
  refine a_I C rfl rfl T_r0_1 (by rw [N_r0_1]; exact vpi (by omega) (by omega)) ((congrArg (I r0_1) (nck (n := 0) (by omega))).trans k0_r0_1_0) ?_
  exact k_iret C rfl (Or.inl rfl) (Nat.le_of_ble_eq_true rfl) (Nat.le_of_ble_eq_true rfl) ⟨_, _, _, rfl, rfl, by omega, by omega, fun a1 h1 => by cases (R_r0_1.symm.trans h1); first | omega | (simp only [k0_r0_1_0] <;> omega), rfl, rfl⟩

theorem a_X12_noForm {d : Nat} {T N : Nat → Nat} {I : IT} {L : LT} {R : RT} {A : Nat → Prop} {r0 : Nat} {n1 : Int32} (hI : IM R r0 I) (H_r0 : (h_MD T N R A) r0) : Ex (d + 2) 184 [.ref r0, .int n1] (T, N, I, L, R) 0 0 (pI T N R (fun x9 I9 L9 => (0 ≤ x9.toInt) ∧ (x9.toInt ≤ 1) ∧ (∀ a1, R r0 1 = some a1 → x9.toInt = 1 ∨ x9.toInt = 0 ∧ 0 ≤ n1.toInt ∧ n1.toInt < (I a1 1).toInt) ∧ (I = I9 ∧ L = L9))) := by
  refine ⟨_, rfl, Nat.le_of_ble_eq_true rfl, fun V C S => ?_⟩
  show V 0 [(0, .ref r0), (1, .int n1)] [] (T, N, I, L, R) 0 0
  have gn1 := rg n1
  obtain ⟨T_r0, A_r0, ⟨r0_1, R_r0_1, H_r0_1⟩, ⟨r0_2, R_r0_2, H_r0_2⟩, ⟨r0_4, R_r0_4, H_r0_4⟩, ⟨r0_5, R_r0_5, H_r0_5⟩, ⟨r0_10, R_r0_10, H_r0_10⟩, ⟨r0_18, R_r0_18, H_r0_18⟩, ⟨r0_20, R_r0_20, H_r0_20⟩, ⟨r0_21, R_r0_21, H_r0_21⟩, ⟨r0_22, R_r0_22, H_r0_22⟩, ⟨r0_23, R_r0_23, H_r0_23⟩, ⟨r0_25, R_r0_25, H_r0_25⟩, ⟨r0_26, R_r0_26, H_r0_26⟩, ⟨r0_27, R_r0_27, H_r0_27⟩, ⟨r0_28, R_r0_28, H_r0_28⟩, ⟨r0_34, R_r0_34, H_r0_34⟩, J_r0, Y_r0⟩ := id H_r0
  have G_r0 : mF T R r0 := ⟨J_r0, Y_r0, T_r0⟩
  obtain ⟨w_r0_1_1, k0_r0_1_1⟩ : ∃ x, I r0_1 1 = x := ⟨_, rfl⟩
  have gw_r0_1_1 := rg w_r0_1_1
  have ow_r0_1_1 := IM.c1 hI R_r0_1 k0_r0_1_1
  refine k_iload_n C rfl rfl rfl ?_
  refine z_iconst C (z := 0) rfl rfl rfl (fun x1 ex1 => ?_)
  refine k_aload_n C rfl rfl rfl ?_
  refine g_R C rfl rfl rfl T_r0 rfl R_r0_1 ?_
  refine z_iconst C (z := 1) rfl rfl rfl (fun x2 ex2 => ?_)
  obtain ⟨T_r0_1, N_r0_1, A_r0_1⟩ := id H_r0_1
  refine a_I C rfl rfl T_r0_1 (by rw [N_r0_1]; exact vpi (by omega) (by omega)) ((congrArg (I r0_1) (nck (n := 1) (by omega))).trans k0_r0_1_1) ?_
  refine z_iconst C (z := 1) rfl rfl rfl (fun x3 ex3 => ?_)
  refine z_isub C rfl rfl ⟨by omega, by omega⟩ (fun x4 ex4 => ?_)
  have q5 : x1.toNatClampNeg = 0 := nck (by omega)
  refine c_SI C a_X12_in rfl rfl rfl rfl rfl rfl rfl (Nat.le_of_ble_eq_true rfl) (Nat.le_of_ble_eq_true rfl) (Nat.le_of_ble_eq_true rfl) ?_
  rintro x6 _ _ ⟨o0x6, o1x6, p0x6, rfl, rfl⟩
  have gx6 := rg x6
  try simp only [q5, k0_r0_1_1] at p0x6
  try have q0x6 := congrArg Int32.toInt p0x6
  refine b_if_ne C (t := 20) rfl rfl rfl (fun c7 => ?_) (fun c7 => ?_)
  · skip
    refine z_iconst C (z := 0) rfl rfl rfl (fun x8 ex8 => ?_)
    exact k_iret C rfl (Or.inr ⟨rfl, z01 (by omega) (by omega)⟩) (Nat.le_of_ble_eq_true rfl) (Nat.le_of_ble_eq_true rfl) ⟨_, _, _, rfl, rfl, by omega, by omega, fun a1 h1 => by cases (R_r0_1.symm.trans h1); first | omega | (simp only [k0_r0_1_1] <;> omega), rfl, rfl⟩
  refine z_iconst C (z := 1) rfl rfl rfl (fun x9 ex9 => ?_)
  refine k_goto C (pc2 := 21) rfl rfl ?_
  exact k_iret C rfl (Or.inr ⟨rfl, z01 (by omega) (by omega)⟩) (Nat.le_of_ble_eq_true rfl) (Nat.le_of_ble_eq_true rfl) ⟨_, _, _, rfl, rfl, by omega, by omega, fun a1 h1 => by cases (R_r0_1.symm.trans h1); first | omega | (simp only [k0_r0_1_1] <;> omega), rfl, rfl⟩

theorem a_X12_noTable {d : Nat} {T N : Nat → Nat} {I : IT} {L : LT} {R : RT} {A : Nat → Prop} {r0 : Nat} {n1 : Int32} (hI : IM R r0 I) (H_r0 : (h_MD T N R A) r0) : Ex (d + 2) 185 [.ref r0, .int n1] (T, N, I, L, R) 0 0 (pI T N R (fun x9 I9 L9 => (0 ≤ x9.toInt) ∧ (x9.toInt ≤ 1) ∧ (∀ a1, R r0 1 = some a1 → x9.toInt = 1 ∨ x9.toInt = 0 ∧ 0 ≤ n1.toInt ∧ n1.toInt < (I a1 2).toInt) ∧ (I = I9 ∧ L = L9))) := by
  refine ⟨_, rfl, Nat.le_of_ble_eq_true rfl, fun V C S => ?_⟩
  show V 0 [(0, .ref r0), (1, .int n1)] [] (T, N, I, L, R) 0 0
  have gn1 := rg n1
  obtain ⟨T_r0, A_r0, ⟨r0_1, R_r0_1, H_r0_1⟩, ⟨r0_2, R_r0_2, H_r0_2⟩, ⟨r0_4, R_r0_4, H_r0_4⟩, ⟨r0_5, R_r0_5, H_r0_5⟩, ⟨r0_10, R_r0_10, H_r0_10⟩, ⟨r0_18, R_r0_18, H_r0_18⟩, ⟨r0_20, R_r0_20, H_r0_20⟩, ⟨r0_21, R_r0_21, H_r0_21⟩, ⟨r0_22, R_r0_22, H_r0_22⟩, ⟨r0_23, R_r0_23, H_r0_23⟩, ⟨r0_25, R_r0_25, H_r0_25⟩, ⟨r0_26, R_r0_26, H_r0_26⟩, ⟨r0_27, R_r0_27, H_r0_27⟩, ⟨r0_28, R_r0_28, H_r0_28⟩, ⟨r0_34, R_r0_34, H_r0_34⟩, J_r0, Y_r0⟩ := id H_r0
  have G_r0 : mF T R r0 := ⟨J_r0, Y_r0, T_r0⟩
  obtain ⟨w_r0_1_2, k0_r0_1_2⟩ : ∃ x, I r0_1 2 = x := ⟨_, rfl⟩
  have gw_r0_1_2 := rg w_r0_1_2
  have ow_r0_1_2 := IM.c2 hI R_r0_1 k0_r0_1_2
  refine k_iload_n C rfl rfl rfl ?_
  refine z_iconst C (z := 0) rfl rfl rfl (fun x1 ex1 => ?_)
  refine k_aload_n C rfl rfl rfl ?_
  refine g_R C rfl rfl rfl T_r0 rfl R_r0_1 ?_
  refine z_iconst C (z := 2) rfl rfl rfl (fun x2 ex2 => ?_)
  obtain ⟨T_r0_1, N_r0_1, A_r0_1⟩ := id H_r0_1
  refine a_I C rfl rfl T_r0_1 (by rw [N_r0_1]; exact vpi (by omega) (by omega)) ((congrArg (I r0_1) (nck (n := 2) (by omega))).trans k0_r0_1_2) ?_
  refine z_iconst C (z := 1) rfl rfl rfl (fun x3 ex3 => ?_)
  refine z_isub C rfl rfl ⟨by omega, by omega⟩ (fun x4 ex4 => ?_)
  have q5 : x1.toNatClampNeg = 0 := nck (by omega)
  refine c_SI C a_X12_in rfl rfl rfl rfl rfl rfl rfl (Nat.le_of_ble_eq_true rfl) (Nat.le_of_ble_eq_true rfl) (Nat.le_of_ble_eq_true rfl) ?_
  rintro x6 _ _ ⟨o0x6, o1x6, p0x6, rfl, rfl⟩
  have gx6 := rg x6
  try simp only [q5, k0_r0_1_2] at p0x6
  try have q0x6 := congrArg Int32.toInt p0x6
  refine b_if_ne C (t := 20) rfl rfl rfl (fun c7 => ?_) (fun c7 => ?_)
  · skip
    refine z_iconst C (z := 0) rfl rfl rfl (fun x8 ex8 => ?_)
    exact k_iret C rfl (Or.inr ⟨rfl, z01 (by omega) (by omega)⟩) (Nat.le_of_ble_eq_true rfl) (Nat.le_of_ble_eq_true rfl) ⟨_, _, _, rfl, rfl, by omega, by omega, fun a1 h1 => by cases (R_r0_1.symm.trans h1); first | omega | (simp only [k0_r0_1_2] <;> omega), rfl, rfl⟩
  refine z_iconst C (z := 1) rfl rfl rfl (fun x9 ex9 => ?_)
  refine k_goto C (pc2 := 21) rfl rfl ?_
  exact k_iret C rfl (Or.inr ⟨rfl, z01 (by omega) (by omega)⟩) (Nat.le_of_ble_eq_true rfl) (Nat.le_of_ble_eq_true rfl) ⟨_, _, _, rfl, rfl, by omega, by omega, fun a1 h1 => by cases (R_r0_1.symm.trans h1); first | omega | (simp only [k0_r0_1_2] <;> omega), rfl, rfl⟩

theorem a_X12_noSigns {d : Nat} {T N : Nat → Nat} {I : IT} {L : LT} {R : RT} {A : Nat → Prop} {r0 : Nat} {n1 : Int32} (hI : IM R r0 I) (H_r0 : (h_MD T N R A) r0) : Ex (d + 2) 186 [.ref r0, .int n1] (T, N, I, L, R) 0 0 (pI T N R (fun x9 I9 L9 => (0 ≤ x9.toInt) ∧ (x9.toInt ≤ 1) ∧ (∀ a1, R r0 1 = some a1 → x9.toInt = 1 ∨ x9.toInt = 0 ∧ 0 ≤ n1.toInt ∧ n1.toInt < (I a1 3).toInt) ∧ (I = I9 ∧ L = L9))) := by
  refine ⟨_, rfl, Nat.le_of_ble_eq_true rfl, fun V C S => ?_⟩
  show V 0 [(0, .ref r0), (1, .int n1)] [] (T, N, I, L, R) 0 0
  have gn1 := rg n1
  obtain ⟨T_r0, A_r0, ⟨r0_1, R_r0_1, H_r0_1⟩, ⟨r0_2, R_r0_2, H_r0_2⟩, ⟨r0_4, R_r0_4, H_r0_4⟩, ⟨r0_5, R_r0_5, H_r0_5⟩, ⟨r0_10, R_r0_10, H_r0_10⟩, ⟨r0_18, R_r0_18, H_r0_18⟩, ⟨r0_20, R_r0_20, H_r0_20⟩, ⟨r0_21, R_r0_21, H_r0_21⟩, ⟨r0_22, R_r0_22, H_r0_22⟩, ⟨r0_23, R_r0_23, H_r0_23⟩, ⟨r0_25, R_r0_25, H_r0_25⟩, ⟨r0_26, R_r0_26, H_r0_26⟩, ⟨r0_27, R_r0_27, H_r0_27⟩, ⟨r0_28, R_r0_28, H_r0_28⟩, ⟨r0_34, R_r0_34, H_r0_34⟩, J_r0, Y_r0⟩ := id H_r0
  have G_r0 : mF T R r0 := ⟨J_r0, Y_r0, T_r0⟩
  obtain ⟨w_r0_1_3, k0_r0_1_3⟩ : ∃ x, I r0_1 3 = x := ⟨_, rfl⟩
  have gw_r0_1_3 := rg w_r0_1_3
  have ow_r0_1_3 := IM.c3 hI R_r0_1 k0_r0_1_3
  refine k_iload_n C rfl rfl rfl ?_
  refine z_iconst C (z := 0) rfl rfl rfl (fun x1 ex1 => ?_)
  refine k_aload_n C rfl rfl rfl ?_
  refine g_R C rfl rfl rfl T_r0 rfl R_r0_1 ?_
  refine z_iconst C (z := 3) rfl rfl rfl (fun x2 ex2 => ?_)
  obtain ⟨T_r0_1, N_r0_1, A_r0_1⟩ := id H_r0_1
  refine a_I C rfl rfl T_r0_1 (by rw [N_r0_1]; exact vpi (by omega) (by omega)) ((congrArg (I r0_1) (nck (n := 3) (by omega))).trans k0_r0_1_3) ?_
  refine z_iconst C (z := 1) rfl rfl rfl (fun x3 ex3 => ?_)
  refine z_isub C rfl rfl ⟨by omega, by omega⟩ (fun x4 ex4 => ?_)
  have q5 : x1.toNatClampNeg = 0 := nck (by omega)
  refine c_SI C a_X12_in rfl rfl rfl rfl rfl rfl rfl (Nat.le_of_ble_eq_true rfl) (Nat.le_of_ble_eq_true rfl) (Nat.le_of_ble_eq_true rfl) ?_
  rintro x6 _ _ ⟨o0x6, o1x6, p0x6, rfl, rfl⟩
  have gx6 := rg x6
  try simp only [q5, k0_r0_1_3] at p0x6
  try have q0x6 := congrArg Int32.toInt p0x6
  refine b_if_ne C (t := 20) rfl rfl rfl (fun c7 => ?_) (fun c7 => ?_)
  · skip
    refine z_iconst C (z := 0) rfl rfl rfl (fun x8 ex8 => ?_)
    exact k_iret C rfl (Or.inr ⟨rfl, z01 (by omega) (by omega)⟩) (Nat.le_of_ble_eq_true rfl) (Nat.le_of_ble_eq_true rfl) ⟨_, _, _, rfl, rfl, by omega, by omega, fun a1 h1 => by cases (R_r0_1.symm.trans h1); first | omega | (simp only [k0_r0_1_3] <;> omega), rfl, rfl⟩
  refine z_iconst C (z := 1) rfl rfl rfl (fun x9 ex9 => ?_)
  refine k_goto C (pc2 := 21) rfl rfl ?_
  exact k_iret C rfl (Or.inr ⟨rfl, z01 (by omega) (by omega)⟩) (Nat.le_of_ble_eq_true rfl) (Nat.le_of_ble_eq_true rfl) ⟨_, _, _, rfl, rfl, by omega, by omega, fun a1 h1 => by cases (R_r0_1.symm.trans h1); first | omega | (simp only [k0_r0_1_3] <;> omega), rfl, rfl⟩

theorem a_X12_formAt {d : Nat} {T N : Nat → Nat} {I : IT} {L : LT} {R : RT} {n0 : Int32}  (b0_n0 : 0 ≤ n0.toInt) (b1_n0 : n0.toInt ≤ 15) : Ex (d + 1) 187 [.int n0] (T, N, I, L, R) 0 0 (pI T N R (fun x9 I9 L9 => (6 ≤ x9.toInt) ∧ (x9.toInt ≤ 156) ∧ (x9.toInt = 6 + 10 * n0.toInt) ∧ (I = I9 ∧ L = L9))) := by
  refine ⟨_, rfl, Nat.le_of_ble_eq_true rfl, fun V C S => ?_⟩
  show V 0 [(0, .int n0)] [] (T, N, I, L, R) 0 0
  have gn0 := rg n0
  refine z_bipush C (z := 6) rfl rfl rfl (fun x1 ex1 => ?_)
  refine z_bipush C (z := 10) rfl rfl rfl (fun x2 ex2 => ?_)
  refine k_iload_n C rfl rfl rfl ?_
  refine z_imulL C (c := 10) rfl rfl (by omega) ⟨by omega, by omega⟩ (fun x3 ex3 => ?_)
  refine z_iadd C rfl rfl ⟨by omega, by omega⟩ (fun x4 ex4 => ?_)
  exact k_iret C rfl (Or.inl rfl) (Nat.le_of_ble_eq_true rfl) (Nat.le_of_ble_eq_true rfl) ⟨_, _, _, rfl, rfl, by omega, by omega, by omega, rfl, rfl⟩

theorem a_X12_degreeOf {d : Nat} {T N : Nat → Nat} {I : IT} {L : LT} {R : RT} {A : Nat → Prop} {r0 : Nat} {n1 : Int32} (hI : IM R r0 I) (H_r0 : (h_MD T N R A) r0) (b0_n1 : 0 ≤ n1.toInt) (b1_n1 : n1.toInt ≤ 15) : Ex (d + 2) 188 [.ref r0, .int n1] (T, N, I, L, R) 0 0 (pI T N R (fun x9 I9 L9 => (0 ≤ x9.toInt) ∧ (x9.toInt ≤ 8) ∧ (I = I9 ∧ L = L9))) := by
  refine ⟨_, rfl, Nat.le_of_ble_eq_true rfl, fun V C S => ?_⟩
  show V 0 [(0, .ref r0), (1, .int n1)] [] (T, N, I, L, R) 0 0
  have gn1 := rg n1
  obtain ⟨T_r0, A_r0, ⟨r0_1, R_r0_1, H_r0_1⟩, ⟨r0_2, R_r0_2, H_r0_2⟩, ⟨r0_4, R_r0_4, H_r0_4⟩, ⟨r0_5, R_r0_5, H_r0_5⟩, ⟨r0_10, R_r0_10, H_r0_10⟩, ⟨r0_18, R_r0_18, H_r0_18⟩, ⟨r0_20, R_r0_20, H_r0_20⟩, ⟨r0_21, R_r0_21, H_r0_21⟩, ⟨r0_22, R_r0_22, H_r0_22⟩, ⟨r0_23, R_r0_23, H_r0_23⟩, ⟨r0_25, R_r0_25, H_r0_25⟩, ⟨r0_26, R_r0_26, H_r0_26⟩, ⟨r0_27, R_r0_27, H_r0_27⟩, ⟨r0_28, R_r0_28, H_r0_28⟩, ⟨r0_34, R_r0_34, H_r0_34⟩, J_r0, Y_r0⟩ := id H_r0
  have G_r0 : mF T R r0 := ⟨J_r0, Y_r0, T_r0⟩
  refine k_aload_n C rfl rfl rfl ?_
  refine g_R C rfl rfl rfl T_r0 rfl R_r0_1 ?_
  refine k_iload_n C rfl rfl rfl ?_
  refine c_SI C (a_X12_formAt (by omega) (by omega)) rfl rfl rfl rfl rfl rfl rfl (Nat.le_of_ble_eq_true rfl) (Nat.le_of_ble_eq_true rfl) (Nat.le_of_ble_eq_true rfl) ?_
  rintro x1 _ _ ⟨o0x1, o1x1, p0x1, rfl, rfl⟩
  have gx1 := rg x1
  obtain ⟨T_r0_1, N_r0_1, A_r0_1⟩ := id H_r0_1
  refine z_aI C rfl rfl T_r0_1 N_r0_1 (by omega) (by omega) (fun x2 ex2 => ?_)
  have gx2 := rg x2
  have dx2 := IM.deg hI R_r0_1 (f := n1) ⟨by omega, by omega⟩ (by omega) ex2
  exact k_iret C rfl (Or.inl rfl) (Nat.le_of_ble_eq_true rfl) (Nat.le_of_ble_eq_true rfl) ⟨_, _, _, rfl, rfl, by omega, by omega, rfl, rfl⟩

theorem a_X12_numberOf {d : Nat} {T N : Nat → Nat} {I : IT} {L : LT} {R : RT} {A : Nat → Prop} {r0 : Nat} {n1 n2 : Int32} (hI : IM R r0 I) (H_r0 : (h_MD T N R A) r0) (b0_n1 : 0 ≤ n1.toInt) (b1_n1 : n1.toInt ≤ 15) (b0_n2 : 0 ≤ n2.toInt) (b1_n2 : n2.toInt ≤ 8) : Ex (d + 2) 189 [.ref r0, .int n1, .int n2] (T, N, I, L, R) 0 0 (pI T N R (fun x9 I9 L9 => (-18 ≤ x9.toInt) ∧ (x9.toInt ≤ 18) ∧ (I = I9 ∧ L = L9))) := by
  refine ⟨_, rfl, Nat.le_of_ble_eq_true rfl, fun V C S => ?_⟩
  show V 0 [(0, .ref r0), (1, .int n1), (2, .int n2)] [] (T, N, I, L, R) 0 0
  have gn1 := rg n1
  have gn2 := rg n2
  obtain ⟨T_r0, A_r0, ⟨r0_1, R_r0_1, H_r0_1⟩, ⟨r0_2, R_r0_2, H_r0_2⟩, ⟨r0_4, R_r0_4, H_r0_4⟩, ⟨r0_5, R_r0_5, H_r0_5⟩, ⟨r0_10, R_r0_10, H_r0_10⟩, ⟨r0_18, R_r0_18, H_r0_18⟩, ⟨r0_20, R_r0_20, H_r0_20⟩, ⟨r0_21, R_r0_21, H_r0_21⟩, ⟨r0_22, R_r0_22, H_r0_22⟩, ⟨r0_23, R_r0_23, H_r0_23⟩, ⟨r0_25, R_r0_25, H_r0_25⟩, ⟨r0_26, R_r0_26, H_r0_26⟩, ⟨r0_27, R_r0_27, H_r0_27⟩, ⟨r0_28, R_r0_28, H_r0_28⟩, ⟨r0_34, R_r0_34, H_r0_34⟩, J_r0, Y_r0⟩ := id H_r0
  have G_r0 : mF T R r0 := ⟨J_r0, Y_r0, T_r0⟩
  refine k_aload_n C rfl rfl rfl ?_
  refine g_R C rfl rfl rfl T_r0 rfl R_r0_1 ?_
  refine k_iload_n C rfl rfl rfl ?_
  refine c_SI C (a_X12_formAt (by omega) (by omega)) rfl rfl rfl rfl rfl rfl rfl (Nat.le_of_ble_eq_true rfl) (Nat.le_of_ble_eq_true rfl) (Nat.le_of_ble_eq_true rfl) ?_
  rintro x1 _ _ ⟨o0x1, o1x1, p0x1, rfl, rfl⟩
  have gx1 := rg x1
  refine z_iconst C (z := 1) rfl rfl rfl (fun x2 ex2 => ?_)
  refine z_iadd C rfl rfl ⟨by omega, by omega⟩ (fun x3 ex3 => ?_)
  refine k_iload_n C rfl rfl rfl ?_
  refine z_iadd C rfl rfl ⟨by omega, by omega⟩ (fun x4 ex4 => ?_)
  obtain ⟨T_r0_1, N_r0_1, A_r0_1⟩ := id H_r0_1
  refine z_aI C rfl rfl T_r0_1 N_r0_1 (by omega) (by omega) (fun x5 ex5 => ?_)
  have gx5 := rg x5
  have dx5 := IM.num hI R_r0_1 (f := n1) (k := n2) ⟨by omega, by omega⟩ ⟨by omega, by omega⟩ (by omega) ex5
  exact k_iret C rfl (Or.inl rfl) (Nat.le_of_ble_eq_true rfl) (Nat.le_of_ble_eq_true rfl) ⟨_, _, _, rfl, rfl, by omega, by omega, rfl, rfl⟩

theorem a_X12_ofTable {d : Nat} {T N : Nat → Nat} {I : IT} {L : LT} {R : RT} {A : Nat → Prop} {r0 : Nat} {n1 n2 : Int32} (hI : IM R r0 I) (H_r0 : (h_MD T N R A) r0) (b0_n1 : 0 ≤ n1.toInt) (b1_n1 : n1.toInt ≤ 7) (b0_n2 : 0 ≤ n2.toInt) (b1_n2 : n2.toInt ≤ 3) : Ex (d + 1) 190 [.ref r0, .int n1, .int n2] (T, N, I, L, R) 0 0 (pI T N R (fun x9 I9 L9 => (-18 ≤ x9.toInt) ∧ (x9.toInt ≤ 18) ∧ (I = I9 ∧ L = L9))) := by
  refine ⟨_, rfl, Nat.le_of_ble_eq_true rfl, fun V C S => ?_⟩
  show V 0 [(0, .ref r0), (1, .int n1), (2, .int n2)] [] (T, N, I, L, R) 0 0
  have gn1 := rg n1
  have gn2 := rg n2
  obtain ⟨T_r0, A_r0, ⟨r0_1, R_r0_1, H_r0_1⟩, ⟨r0_2, R_r0_2, H_r0_2⟩, ⟨r0_4, R_r0_4, H_r0_4⟩, ⟨r0_5, R_r0_5, H_r0_5⟩, ⟨r0_10, R_r0_10, H_r0_10⟩, ⟨r0_18, R_r0_18, H_r0_18⟩, ⟨r0_20, R_r0_20, H_r0_20⟩, ⟨r0_21, R_r0_21, H_r0_21⟩, ⟨r0_22, R_r0_22, H_r0_22⟩, ⟨r0_23, R_r0_23, H_r0_23⟩, ⟨r0_25, R_r0_25, H_r0_25⟩, ⟨r0_26, R_r0_26, H_r0_26⟩, ⟨r0_27, R_r0_27, H_r0_27⟩, ⟨r0_28, R_r0_28, H_r0_28⟩, ⟨r0_34, R_r0_34, H_r0_34⟩, J_r0, Y_r0⟩ := id H_r0
  have G_r0 : mF T R r0 := ⟨J_r0, Y_r0, T_r0⟩
  refine k_aload_n C rfl rfl rfl ?_
  refine g_R C rfl rfl rfl T_r0 rfl R_r0_1 ?_
  refine z_sipush C (z := 166) rfl rfl rfl (fun x1 ex1 => ?_)
  refine z_iconst C (z := 4) rfl rfl rfl (fun x2 ex2 => ?_)
  refine k_iload_n C rfl rfl rfl ?_
  refine z_imulL C (c := 4) rfl rfl (by omega) ⟨by omega, by omega⟩ (fun x3 ex3 => ?_)
  refine z_iadd C rfl rfl ⟨by omega, by omega⟩ (fun x4 ex4 => ?_)
  refine k_iload_n C rfl rfl rfl ?_
  refine z_iadd C rfl rfl ⟨by omega, by omega⟩ (fun x5 ex5 => ?_)
  obtain ⟨T_r0_1, N_r0_1, A_r0_1⟩ := id H_r0_1
  refine z_aI C rfl rfl T_r0_1 N_r0_1 (by omega) (by omega) (fun x6 ex6 => ?_)
  have gx6 := rg x6
  have dx6 := IM.tab hI R_r0_1 ⟨by omega, by omega⟩ ex6
  exact k_iret C rfl (Or.inl rfl) (Nat.le_of_ble_eq_true rfl) (Nat.le_of_ble_eq_true rfl) ⟨_, _, _, rfl, rfl, by omega, by omega, rfl, rfl⟩

theorem a_X12_mod {d : Nat} {T N : Nat → Nat} {I : IT} {L : LT} {R : RT} {A : Nat → Prop} {r0 : Nat} {l1 : Int64} (hI : IM R r0 I) (H_r0 : (h_MD T N R A) r0) : Ex (d + 3) 192 [.ref r0, .long l1] (T, N, I, L, R) 0 0 (pI T N R (fun x9 I9 L9 => (0 ≤ x9.toInt) ∧ (x9.toInt ≤ 18) ∧ (I = I9 ∧ L = L9))) := by
  refine ⟨_, rfl, Nat.le_of_ble_eq_true rfl, fun V C S => ?_⟩
  show V 0 [(0, .ref r0), (1, .long l1)] [] (T, N, I, L, R) 0 0
  have T_r0 := H_r0.1
  refine k_lload_n C rfl rfl rfl ?_
  refine k_aload_n C rfl rfl rfl ?_
  refine c_VI C (a_X12_p hI H_r0) rfl rfl rfl rfl rfl ⟨_, rfl, rfl, T_r0, Nat.le_of_ble_eq_true rfl⟩ rfl rfl (Nat.le_of_ble_eq_true rfl) (Nat.le_of_ble_eq_true rfl) (Nat.le_of_ble_eq_true rfl) ?_
  rintro x1 _ _ ⟨b0, b1, -, rfl, rfl⟩
  refine z_i2l C rfl rfl (fun w e => ?_)
  refine c_SL C (e_fmL (by omega)) rfl rfl rfl rfl rfl rfl rfl (Nat.le_of_ble_eq_true rfl) (Nat.le_of_ble_eq_true rfl) (Nat.le_of_ble_eq_true rfl) ?_
  rintro y _ _ ⟨hI8, hL9, h⟩
  have hI8 := hI8.symm; subst hI8; have hL9 := hL9.symm; subst hL9
  have h2 := md_lt h (by omega)
  refine k_l2i C rfl rfl ?_
  have h3 := l2i_eq (x := y) ⟨by omega, by omega⟩
  exact k_iret C rfl (Or.inl rfl) (Nat.le_of_ble_eq_true rfl) (Nat.le_of_ble_eq_true rfl) ⟨_, _, _, rfl, rfl, by omega, by omega, rfl, rfl⟩

theorem a_X12_times {d : Nat} {T N : Nat → Nat} {I : IT} {L : LT} {R : RT} {A : Nat → Prop} {r0 : Nat} {n1 n2 : Int32} (hI : IM R r0 I) (H_r0 : (h_MD T N R A) r0) : Ex (d + 2) 193 [.ref r0, .int n1, .int n2] (T, N, I, L, R) 0 0 (pI T N R (fun x9 I9 L9 => (-18 ≤ x9.toInt) ∧ (x9.toInt ≤ 18) ∧ (I = I9 ∧ L = L9))) := by
  refine ⟨_, rfl, Nat.le_of_ble_eq_true rfl, fun V C S => ?_⟩
  show V 0 [(0, .ref r0), (1, .int n1), (2, .int n2)] [] (T, N, I, L, R) 0 0
  have gn1 := rg n1
  have gn2 := rg n2
  obtain ⟨T_r0, A_r0, ⟨r0_1, R_r0_1, H_r0_1⟩, ⟨r0_2, R_r0_2, H_r0_2⟩, ⟨r0_4, R_r0_4, H_r0_4⟩, ⟨r0_5, R_r0_5, H_r0_5⟩, ⟨r0_10, R_r0_10, H_r0_10⟩, ⟨r0_18, R_r0_18, H_r0_18⟩, ⟨r0_20, R_r0_20, H_r0_20⟩, ⟨r0_21, R_r0_21, H_r0_21⟩, ⟨r0_22, R_r0_22, H_r0_22⟩, ⟨r0_23, R_r0_23, H_r0_23⟩, ⟨r0_25, R_r0_25, H_r0_25⟩, ⟨r0_26, R_r0_26, H_r0_26⟩, ⟨r0_27, R_r0_27, H_r0_27⟩, ⟨r0_28, R_r0_28, H_r0_28⟩, ⟨r0_34, R_r0_34, H_r0_34⟩, J_r0, Y_r0⟩ := id H_r0
  have G_r0 : mF T R r0 := ⟨J_r0, Y_r0, T_r0⟩
  refine k_iload_n C rfl rfl rfl ?_
  refine k_iload_n C rfl rfl rfl ?_
  refine zt_imul C rfl rfl (fun x1 => ?_)
  have gx1 := rg x1
  refine k_aload_n C rfl rfl rfl ?_
  refine c_VI C (a_X12_p hI H_r0) rfl rfl rfl rfl rfl ⟨_, rfl, rfl, T_r0, Nat.le_of_ble_eq_true rfl⟩ rfl rfl (Nat.le_of_ble_eq_true rfl) (Nat.le_of_ble_eq_true rfl) (Nat.le_of_ble_eq_true rfl) ?_
  rintro x2 _ _ ⟨o0x2, o1x2, p0x2, rfl, rfl⟩
  have p0x2 := p0x2 r0_1 R_r0_1
  have gx2 := rg x2
  refine z_iremB C rfl rfl (by omega) (fun x3 ex3 => ?_)
  have bx3 : -18 ≤ x3.toInt ∧ x3.toInt ≤ 18 := by omega
  clear ex3
  exact k_iret C rfl (Or.inl rfl) (Nat.le_of_ble_eq_true rfl) (Nat.le_of_ble_eq_true rfl) ⟨_, _, _, rfl, rfl, by omega, by omega, rfl, rfl⟩

theorem a_X12_plus {d : Nat} {T N : Nat → Nat} {I : IT} {L : LT} {R : RT} {A : Nat → Prop} {r0 : Nat} {n1 n2 : Int32} (hI : IM R r0 I) (H_r0 : (h_MD T N R A) r0) : Ex (d + 2) 194 [.ref r0, .int n1, .int n2] (T, N, I, L, R) 0 0 (pI T N R (fun x9 I9 L9 => (-18 ≤ x9.toInt) ∧ (x9.toInt ≤ 18) ∧ (I = I9 ∧ L = L9))) := by
  refine ⟨_, rfl, Nat.le_of_ble_eq_true rfl, fun V C S => ?_⟩
  show V 0 [(0, .ref r0), (1, .int n1), (2, .int n2)] [] (T, N, I, L, R) 0 0
  have gn1 := rg n1
  have gn2 := rg n2
  obtain ⟨T_r0, A_r0, ⟨r0_1, R_r0_1, H_r0_1⟩, ⟨r0_2, R_r0_2, H_r0_2⟩, ⟨r0_4, R_r0_4, H_r0_4⟩, ⟨r0_5, R_r0_5, H_r0_5⟩, ⟨r0_10, R_r0_10, H_r0_10⟩, ⟨r0_18, R_r0_18, H_r0_18⟩, ⟨r0_20, R_r0_20, H_r0_20⟩, ⟨r0_21, R_r0_21, H_r0_21⟩, ⟨r0_22, R_r0_22, H_r0_22⟩, ⟨r0_23, R_r0_23, H_r0_23⟩, ⟨r0_25, R_r0_25, H_r0_25⟩, ⟨r0_26, R_r0_26, H_r0_26⟩, ⟨r0_27, R_r0_27, H_r0_27⟩, ⟨r0_28, R_r0_28, H_r0_28⟩, ⟨r0_34, R_r0_34, H_r0_34⟩, J_r0, Y_r0⟩ := id H_r0
  have G_r0 : mF T R r0 := ⟨J_r0, Y_r0, T_r0⟩
  refine k_iload_n C rfl rfl rfl ?_
  refine k_iload_n C rfl rfl rfl ?_
  refine zt_iadd C rfl rfl (fun x1 => ?_)
  have gx1 := rg x1
  refine k_aload_n C rfl rfl rfl ?_
  refine c_VI C (a_X12_p hI H_r0) rfl rfl rfl rfl rfl ⟨_, rfl, rfl, T_r0, Nat.le_of_ble_eq_true rfl⟩ rfl rfl (Nat.le_of_ble_eq_true rfl) (Nat.le_of_ble_eq_true rfl) (Nat.le_of_ble_eq_true rfl) ?_
  rintro x2 _ _ ⟨o0x2, o1x2, p0x2, rfl, rfl⟩
  have p0x2 := p0x2 r0_1 R_r0_1
  have gx2 := rg x2
  refine z_iremB C rfl rfl (by omega) (fun x3 ex3 => ?_)
  have bx3 : -18 ≤ x3.toInt ∧ x3.toInt ≤ 18 := by omega
  clear ex3
  exact k_iret C rfl (Or.inl rfl) (Nat.le_of_ble_eq_true rfl) (Nat.le_of_ble_eq_true rfl) ⟨_, _, _, rfl, rfl, by omega, by omega, rfl, rfl⟩

theorem a_X12_less {d : Nat} {T N : Nat → Nat} {I : IT} {L : LT} {R : RT} {A : Nat → Prop} {r0 : Nat} {n1 n2 : Int32} (hI : IM R r0 I) (H_r0 : (h_MD T N R A) r0) : Ex (d + 2) 195 [.ref r0, .int n1, .int n2] (T, N, I, L, R) 0 0 (pI T N R (fun x9 I9 L9 => (-18 ≤ x9.toInt) ∧ (x9.toInt ≤ 18) ∧ (I = I9 ∧ L = L9))) := by
  refine ⟨_, rfl, Nat.le_of_ble_eq_true rfl, fun V C S => ?_⟩
  show V 0 [(0, .ref r0), (1, .int n1), (2, .int n2)] [] (T, N, I, L, R) 0 0
  have gn1 := rg n1
  have gn2 := rg n2
  obtain ⟨T_r0, A_r0, ⟨r0_1, R_r0_1, H_r0_1⟩, ⟨r0_2, R_r0_2, H_r0_2⟩, ⟨r0_4, R_r0_4, H_r0_4⟩, ⟨r0_5, R_r0_5, H_r0_5⟩, ⟨r0_10, R_r0_10, H_r0_10⟩, ⟨r0_18, R_r0_18, H_r0_18⟩, ⟨r0_20, R_r0_20, H_r0_20⟩, ⟨r0_21, R_r0_21, H_r0_21⟩, ⟨r0_22, R_r0_22, H_r0_22⟩, ⟨r0_23, R_r0_23, H_r0_23⟩, ⟨r0_25, R_r0_25, H_r0_25⟩, ⟨r0_26, R_r0_26, H_r0_26⟩, ⟨r0_27, R_r0_27, H_r0_27⟩, ⟨r0_28, R_r0_28, H_r0_28⟩, ⟨r0_34, R_r0_34, H_r0_34⟩, J_r0, Y_r0⟩ := id H_r0
  have G_r0 : mF T R r0 := ⟨J_r0, Y_r0, T_r0⟩
  refine k_iload_n C rfl rfl rfl ?_
  refine k_iload_n C rfl rfl rfl ?_
  refine zt_isub C rfl rfl (fun x1 => ?_)
  have gx1 := rg x1
  refine k_aload_n C rfl rfl rfl ?_
  refine c_VI C (a_X12_p hI H_r0) rfl rfl rfl rfl rfl ⟨_, rfl, rfl, T_r0, Nat.le_of_ble_eq_true rfl⟩ rfl rfl (Nat.le_of_ble_eq_true rfl) (Nat.le_of_ble_eq_true rfl) (Nat.le_of_ble_eq_true rfl) ?_
  rintro x2 _ _ ⟨o0x2, o1x2, p0x2, rfl, rfl⟩
  have p0x2 := p0x2 r0_1 R_r0_1
  have gx2 := rg x2
  refine zt_iadd C rfl rfl (fun x3 => ?_)
  have gx3 := rg x3
  refine k_aload_n C rfl rfl rfl ?_
  refine c_VI C (a_X12_p hI H_r0) rfl rfl rfl rfl rfl ⟨_, rfl, rfl, T_r0, Nat.le_of_ble_eq_true rfl⟩ rfl rfl (Nat.le_of_ble_eq_true rfl) (Nat.le_of_ble_eq_true rfl) (Nat.le_of_ble_eq_true rfl) ?_
  rintro x4 _ _ ⟨o0x4, o1x4, p0x4, rfl, rfl⟩
  have p0x4 := p0x4 r0_1 R_r0_1
  have gx4 := rg x4
  refine z_iremB C rfl rfl (by omega) (fun x5 ex5 => ?_)
  have bx5 : -18 ≤ x5.toInt ∧ x5.toInt ≤ 18 := by omega
  clear ex5
  exact k_iret C rfl (Or.inl rfl) (Nat.le_of_ble_eq_true rfl) (Nat.le_of_ble_eq_true rfl) ⟨_, _, _, rfl, rfl, by omega, by omega, rfl, rfl⟩

theorem a_X12_power {d : Nat} {T N : Nat → Nat} {I : IT} {L : LT} {R : RT} {A : Nat → Prop} {r0 : Nat} {n1 n2 : Int32} (hI : IM R r0 I) (H_r0 : (h_MD T N R A) r0) : Ex (d + 3) 196 [.ref r0, .int n1, .int n2] (T, N, I, L, R) 0 0 (pI T N R (fun x9 I9 L9 => (-18 ≤ x9.toInt) ∧ (x9.toInt ≤ 18) ∧ (I = I9 ∧ L = L9))) := by
  refine ⟨_, rfl, Nat.le_of_ble_eq_true rfl, fun V C S => ?_⟩
  show V 0 [(0, .ref r0), (1, .int n1), (2, .int n2)] [] (T, N, I, L, R) 0 0
  have gn1 := rg n1
  have gn2 := rg n2
  obtain ⟨T_r0, A_r0, ⟨r0_1, R_r0_1, H_r0_1⟩, ⟨r0_2, R_r0_2, H_r0_2⟩, ⟨r0_4, R_r0_4, H_r0_4⟩, ⟨r0_5, R_r0_5, H_r0_5⟩, ⟨r0_10, R_r0_10, H_r0_10⟩, ⟨r0_18, R_r0_18, H_r0_18⟩, ⟨r0_20, R_r0_20, H_r0_20⟩, ⟨r0_21, R_r0_21, H_r0_21⟩, ⟨r0_22, R_r0_22, H_r0_22⟩, ⟨r0_23, R_r0_23, H_r0_23⟩, ⟨r0_25, R_r0_25, H_r0_25⟩, ⟨r0_26, R_r0_26, H_r0_26⟩, ⟨r0_27, R_r0_27, H_r0_27⟩, ⟨r0_28, R_r0_28, H_r0_28⟩, ⟨r0_34, R_r0_34, H_r0_34⟩, J_r0, Y_r0⟩ := id H_r0
  have G_r0 : mF T R r0 := ⟨J_r0, Y_r0, T_r0⟩
  refine z_iconst C (z := 1) rfl rfl rfl (fun x1 ex1 => ?_)
  refine k_istore_n C (lw := [(3, .int x1), (0, .ref r0), (1, .int n1), (2, .int n2)]) rfl rfl (Nat.le_of_ble_eq_true rfl) rfl ?_
  refine z_iconst C (z := 0) rfl rfl rfl (fun x2 ex2 => ?_)
  have J3 : ∀ (nn4 : Nat) (x5 : Int32) (x8 : Int32), ((2147483647 - x8.toInt).toNat = nn4) → (-18 ≤ x5.toInt) → (x5.toInt ≤ 18) → (0 ≤ x8.toInt) → V 5 [(0, .ref r0), (1, .int n1), (2, .int n2), (3, .int x5), (4, .int x8)] [] (T, N, I, L, R) 0 0 := by
    intro nn4
    induction nn4 using Nat.strongRecOn with
    | _ nn4 ihJ3 =>
      intro x5 x8 hmnn4 b6 b7 b9
      have gx5 := rg x5
      have gx8 := rg x8
      refine k_iload C rfl rfl rfl ?_
      refine k_iload_n C rfl rfl rfl ?_
      refine b_icmp_ge C (t := 24) rfl rfl rfl (fun c10 => ?_) (fun c10 => ?_)
      · skip
        refine k_iload_n C rfl rfl rfl ?_
        exact k_iret C rfl (Or.inl rfl) (Nat.le_of_ble_eq_true rfl) (Nat.le_of_ble_eq_true rfl) ⟨_, _, _, rfl, rfl, by omega, by omega, rfl, rfl⟩
      refine k_aload_n C rfl rfl rfl ?_
      refine k_iload_n C rfl rfl rfl ?_
      refine k_iload_n C rfl rfl rfl ?_
      refine c_VI C (a_X12_times hI H_r0) rfl rfl rfl rfl rfl ⟨_, rfl, rfl, T_r0, Nat.le_of_ble_eq_true rfl⟩ rfl rfl (Nat.le_of_ble_eq_true rfl) (Nat.le_of_ble_eq_true rfl) (Nat.le_of_ble_eq_true rfl) ?_
      rintro x11 _ _ ⟨o0x11, o1x11, rfl, rfl⟩
      have gx11 := rg x11
      refine k_istore_n C (lw := [(3, .int x11), (0, .ref r0), (1, .int n1), (2, .int n2), (4, .int x8)]) rfl rfl (Nat.le_of_ble_eq_true rfl) rfl ?_
      refine z_iinc C (z := 1) (lw := fun x12 => [(4, .int x12), (3, .int x11), (0, .ref r0), (1, .int n1), (2, .int n2)]) rfl rfl rfl (Nat.le_of_ble_eq_true rfl) rfl ⟨by omega, by omega⟩ (fun _ => rfl) (fun x12 ex12 => ?_)
      show V 21 [(4, .int x12), (3, .int x11), (0, .ref r0), (1, .int n1), (2, .int n2)] _ _ _ _
      refine k_goto C (pc2 := 5) rfl rfl ?_
      refine k_sub S [(0, .ref r0), (1, .int n1), (2, .int n2), (3, .int x11), (4, .int x12)] (List.forall_mem_cons.mpr ⟨List.mem_of_getElem? (i := 2) rfl, List.forall_mem_cons.mpr ⟨List.mem_of_getElem? (i := 3) rfl, List.forall_mem_cons.mpr ⟨List.mem_of_getElem? (i := 4) rfl, List.forall_mem_cons.mpr ⟨List.mem_of_getElem? (i := 1) rfl, List.forall_mem_cons.mpr ⟨List.mem_of_getElem? (i := 0) rfl, fun _ h => nomatch h⟩⟩⟩⟩⟩) ?_
      exact ihJ3 _ (by omega) x11 x12 rfl (by omega) (by omega) (by omega)
  refine k_istore C (lw := [(4, .int x2), (3, .int x1), (0, .ref r0), (1, .int n1), (2, .int n2)]) rfl rfl (Nat.le_of_ble_eq_true rfl) rfl ?_
  refine k_sub S [(0, .ref r0), (1, .int n1), (2, .int n2), (3, .int x1), (4, .int x2)] (List.forall_mem_cons.mpr ⟨List.mem_of_getElem? (i := 2) rfl, List.forall_mem_cons.mpr ⟨List.mem_of_getElem? (i := 3) rfl, List.forall_mem_cons.mpr ⟨List.mem_of_getElem? (i := 4) rfl, List.forall_mem_cons.mpr ⟨List.mem_of_getElem? (i := 1) rfl, List.forall_mem_cons.mpr ⟨List.mem_of_getElem? (i := 0) rfl, fun _ h => nomatch h⟩⟩⟩⟩⟩) ?_
  exact J3 _ x1 x2 rfl (by omega) (by omega) (by omega)

theorem a_X12_inverse {d : Nat} {T N : Nat → Nat} {I : IT} {L : LT} {R : RT} {A : Nat → Prop} {r0 : Nat} {n1 : Int32} (hI : IM R r0 I) (H_r0 : (h_MD T N R A) r0) : Ex (d + 4) 197 [.ref r0, .int n1] (T, N, I, L, R) 0 0 (pI T N R (fun x9 I9 L9 => (-18 ≤ x9.toInt) ∧ (x9.toInt ≤ 18) ∧ (I = I9 ∧ L = L9))) := by
  refine ⟨_, rfl, Nat.le_of_ble_eq_true rfl, fun V C S => ?_⟩
  show V 0 [(0, .ref r0), (1, .int n1)] [] (T, N, I, L, R) 0 0
  have gn1 := rg n1
  obtain ⟨T_r0, A_r0, ⟨r0_1, R_r0_1, H_r0_1⟩, ⟨r0_2, R_r0_2, H_r0_2⟩, ⟨r0_4, R_r0_4, H_r0_4⟩, ⟨r0_5, R_r0_5, H_r0_5⟩, ⟨r0_10, R_r0_10, H_r0_10⟩, ⟨r0_18, R_r0_18, H_r0_18⟩, ⟨r0_20, R_r0_20, H_r0_20⟩, ⟨r0_21, R_r0_21, H_r0_21⟩, ⟨r0_22, R_r0_22, H_r0_22⟩, ⟨r0_23, R_r0_23, H_r0_23⟩, ⟨r0_25, R_r0_25, H_r0_25⟩, ⟨r0_26, R_r0_26, H_r0_26⟩, ⟨r0_27, R_r0_27, H_r0_27⟩, ⟨r0_28, R_r0_28, H_r0_28⟩, ⟨r0_34, R_r0_34, H_r0_34⟩, J_r0, Y_r0⟩ := id H_r0
  have G_r0 : mF T R r0 := ⟨J_r0, Y_r0, T_r0⟩
  refine k_aload_n C rfl rfl rfl ?_
  refine k_iload_n C rfl rfl rfl ?_
  refine k_aload_n C rfl rfl rfl ?_
  refine c_VI C (a_X12_p hI H_r0) rfl rfl rfl rfl rfl ⟨_, rfl, rfl, T_r0, Nat.le_of_ble_eq_true rfl⟩ rfl rfl (Nat.le_of_ble_eq_true rfl) (Nat.le_of_ble_eq_true rfl) (Nat.le_of_ble_eq_true rfl) ?_
  rintro x1 _ _ ⟨o0x1, o1x1, p0x1, rfl, rfl⟩
  have p0x1 := p0x1 r0_1 R_r0_1
  have gx1 := rg x1
  refine z_iconst C (z := 2) rfl rfl rfl (fun x2 ex2 => ?_)
  refine z_isub C rfl rfl ⟨by omega, by omega⟩ (fun x3 ex3 => ?_)
  refine c_VI C (a_X12_power hI H_r0) rfl rfl rfl rfl rfl ⟨_, rfl, rfl, T_r0, Nat.le_of_ble_eq_true rfl⟩ rfl rfl (Nat.le_of_ble_eq_true rfl) (Nat.le_of_ble_eq_true rfl) (Nat.le_of_ble_eq_true rfl) ?_
  rintro x4 _ _ ⟨o0x4, o1x4, rfl, rfl⟩
  have gx4 := rg x4
  exact k_iret C rfl (Or.inl rfl) (Nat.le_of_ble_eq_true rfl) (Nat.le_of_ble_eq_true rfl) ⟨_, _, _, rfl, rfl, by omega, by omega, rfl, rfl⟩

theorem a_X12_of {d : Nat} {T N : Nat → Nat} {I : IT} {L : LT} {R : RT} {A : Nat → Prop} {r0 : Nat} {n1 n2 : Int32} (hI : IM R r0 I) (H_r0 : (h_MD T N R A) r0) (b0_n1 : 0 ≤ n1.toInt) (b1_n1 : n1.toInt ≤ 47) (b0_n2 : 0 ≤ n2.toInt) (b1_n2 : n2.toInt ≤ 40) : Ex (d + 1) 198 [.ref r0, .int n1, .int n2] (T, N, I, L, R) 0 0 (pI T N R (fun x9 I9 L9 => (-18 ≤ x9.toInt) ∧ (x9.toInt ≤ 18) ∧ (I = I9 ∧ L = L9))) := by
  refine ⟨_, rfl, Nat.le_of_ble_eq_true rfl, fun V C S => ?_⟩
  show V 0 [(0, .ref r0), (1, .int n1), (2, .int n2)] [] (T, N, I, L, R) 0 0
  have gn1 := rg n1
  have gn2 := rg n2
  obtain ⟨T_r0, A_r0, ⟨r0_1, R_r0_1, H_r0_1⟩, ⟨r0_2, R_r0_2, H_r0_2⟩, ⟨r0_4, R_r0_4, H_r0_4⟩, ⟨r0_5, R_r0_5, H_r0_5⟩, ⟨r0_10, R_r0_10, H_r0_10⟩, ⟨r0_18, R_r0_18, H_r0_18⟩, ⟨r0_20, R_r0_20, H_r0_20⟩, ⟨r0_21, R_r0_21, H_r0_21⟩, ⟨r0_22, R_r0_22, H_r0_22⟩, ⟨r0_23, R_r0_23, H_r0_23⟩, ⟨r0_25, R_r0_25, H_r0_25⟩, ⟨r0_26, R_r0_26, H_r0_26⟩, ⟨r0_27, R_r0_27, H_r0_27⟩, ⟨r0_28, R_r0_28, H_r0_28⟩, ⟨r0_34, R_r0_34, H_r0_34⟩, J_r0, Y_r0⟩ := id H_r0
  have G_r0 : mF T R r0 := ⟨J_r0, Y_r0, T_r0⟩
  refine k_aload_n C rfl rfl rfl ?_
  refine g_R C rfl rfl rfl T_r0 rfl R_r0_5 ?_
  refine z_bipush C (z := 41) rfl rfl rfl (fun x1 ex1 => ?_)
  refine k_iload_n C rfl rfl rfl ?_
  refine z_imulL C (c := 41) rfl rfl (by omega) ⟨by omega, by omega⟩ (fun x2 ex2 => ?_)
  refine k_iload_n C rfl rfl rfl ?_
  refine z_iadd C rfl rfl ⟨by omega, by omega⟩ (fun x3 ex3 => ?_)
  obtain ⟨T_r0_5, N_r0_5, A_r0_5⟩ := id H_r0_5
  refine z_aI C rfl rfl T_r0_5 N_r0_5 (by omega) (by omega) (fun x4 ex4 => ?_)
  have gx4 := rg x4
  have ox4 := IM.nuR hI R_r0_5 ex4
  exact k_iret C rfl (Or.inl rfl) (Nat.le_of_ble_eq_true rfl) (Nat.le_of_ble_eq_true rfl) ⟨_, _, _, rfl, rfl, by omega, by omega, rfl, rfl⟩

theorem a_X12_put {d : Nat} {T N : Nat → Nat} {I : IT} {L : LT} {R : RT} {A : Nat → Prop} {r0 : Nat} {n1 n2 n3 : Int32} (hI : IM R r0 I) (H_r0 : (h_MD T N R A) r0) (b0_n1 : 0 ≤ n1.toInt) (b1_n1 : n1.toInt ≤ 47) (b0_n2 : 0 ≤ n2.toInt) (b1_n2 : n2.toInt ≤ 40) (b0_n3 : -18 ≤ n3.toInt) (b1_n3 : n3.toInt ≤ 18) : Ex (d + 1) 199 [.ref r0, .int n1, .int n2, .int n3] (T, N, I, L, R) 0 0 (pV T N R (fun I9 L9 => (IM R r0 I9 ∧ CM A R r0 [] [5] I L I9 L9))) := by
  refine ⟨_, rfl, Nat.le_of_ble_eq_true rfl, fun V C S => ?_⟩
  show V 0 [(0, .ref r0), (1, .int n1), (2, .int n2), (3, .int n3)] [] (T, N, I, L, R) 0 0
  have gn1 := rg n1
  have gn2 := rg n2
  have gn3 := rg n3
  obtain ⟨T_r0, A_r0, ⟨r0_1, R_r0_1, H_r0_1⟩, ⟨r0_2, R_r0_2, H_r0_2⟩, ⟨r0_4, R_r0_4, H_r0_4⟩, ⟨r0_5, R_r0_5, H_r0_5⟩, ⟨r0_10, R_r0_10, H_r0_10⟩, ⟨r0_18, R_r0_18, H_r0_18⟩, ⟨r0_20, R_r0_20, H_r0_20⟩, ⟨r0_21, R_r0_21, H_r0_21⟩, ⟨r0_22, R_r0_22, H_r0_22⟩, ⟨r0_23, R_r0_23, H_r0_23⟩, ⟨r0_25, R_r0_25, H_r0_25⟩, ⟨r0_26, R_r0_26, H_r0_26⟩, ⟨r0_27, R_r0_27, H_r0_27⟩, ⟨r0_28, R_r0_28, H_r0_28⟩, ⟨r0_34, R_r0_34, H_r0_34⟩, J_r0, Y_r0⟩ := id H_r0
  have G_r0 : mF T R r0 := ⟨J_r0, Y_r0, T_r0⟩
  refine k_aload_n C rfl rfl rfl ?_
  refine g_R C rfl rfl rfl T_r0 rfl R_r0_5 ?_
  refine z_bipush C (z := 41) rfl rfl rfl (fun x1 ex1 => ?_)
  refine k_iload_n C rfl rfl rfl ?_
  refine z_imulL C (c := 41) rfl rfl (by omega) ⟨by omega, by omega⟩ (fun x2 ex2 => ?_)
  refine k_iload_n C rfl rfl rfl ?_
  refine z_iadd C rfl rfl ⟨by omega, by omega⟩ (fun x3 ex3 => ?_)
  refine k_iload_n C rfl rfl rfl ?_
  obtain ⟨T_r0_5, N_r0_5, A_r0_5⟩ := id H_r0_5
  refine z_sI C rfl rfl T_r0_5 N_r0_5 (by omega) (by omega) (fun I4 uI4 => ?_)
  have hI4 : IM R r0 I4 := IM.arr hI G_r0 R_r0_5 ⟨(fun h => absurd h (by decide)), (fun _ => ⟨by omega, by omega⟩), (fun h => absurd h (by decide)), (fun h => absurd h (by decide))⟩ (fun h => absurd h (by decide)) (by decide) uI4
  have S5 : CM A R r0 [] [5] I L I4 L := CM.a G_r0 R_r0_5 A_r0_5 uI4
  have e6 := u2_e uI4
  exact k_vret C rfl rfl (Nat.le_of_ble_eq_true rfl) (Nat.le_of_ble_eq_true rfl) ⟨_, _, rfl, rfl, hI4, (CM.mono S5 (by decide) (by decide))⟩

theorem a_X12_takes {d : Nat} {T N : Nat → Nat} {I : IT} {L : LT} {R : RT} {A : Nat → Prop} {r0 : Nat} {n1 n2 : Int32} (hI : IM R r0 I) (H_r0 : (h_MD T N R A) r0) (b0_n1 : 0 ≤ n1.toInt) (b1_n1 : n1.toInt ≤ 47) (b0_n2 : 0 ≤ n2.toInt) (b1_n2 : n2.toInt ≤ 15) : Ex (d + 3) 200 [.ref r0, .int n1, .int n2] (T, N, I, L, R) 0 0 (pV T N R (fun I9 L9 => (∀ a4, R r0 4 = some a4 → 0 ≤ (I9 a4 n1.toNatClampNeg).toInt ∧ (I9 a4 n1.toNatClampNeg).toInt ≤ 8) ∧ (∀ a4, R r0 4 = some a4 → ∀ r : Nat, r ≠ n1.toNatClampNeg → I9 a4 r = I a4 r) ∧ (IM R r0 I9 ∧ CM A R r0 [] [4, 5] I L I9 L9))) := by
  refine ⟨_, rfl, Nat.le_of_ble_eq_true rfl, fun V C S => ?_⟩
  show V 0 [(0, .ref r0), (1, .int n1), (2, .int n2)] [] (T, N, I, L, R) 0 0
  have gn1 := rg n1
  have gn2 := rg n2
  obtain ⟨T_r0, A_r0, ⟨r0_1, R_r0_1, H_r0_1⟩, ⟨r0_2, R_r0_2, H_r0_2⟩, ⟨r0_4, R_r0_4, H_r0_4⟩, ⟨r0_5, R_r0_5, H_r0_5⟩, ⟨r0_10, R_r0_10, H_r0_10⟩, ⟨r0_18, R_r0_18, H_r0_18⟩, ⟨r0_20, R_r0_20, H_r0_20⟩, ⟨r0_21, R_r0_21, H_r0_21⟩, ⟨r0_22, R_r0_22, H_r0_22⟩, ⟨r0_23, R_r0_23, H_r0_23⟩, ⟨r0_25, R_r0_25, H_r0_25⟩, ⟨r0_26, R_r0_26, H_r0_26⟩, ⟨r0_27, R_r0_27, H_r0_27⟩, ⟨r0_28, R_r0_28, H_r0_28⟩, ⟨r0_34, R_r0_34, H_r0_34⟩, J_r0, Y_r0⟩ := id H_r0
  have G_r0 : mF T R r0 := ⟨J_r0, Y_r0, T_r0⟩
  refine k_aload_n C rfl rfl rfl ?_
  refine g_R C rfl rfl rfl T_r0 rfl R_r0_4 ?_
  refine k_iload_n C rfl rfl rfl ?_
  refine k_aload_n C rfl rfl rfl ?_
  refine k_iload_n C rfl rfl rfl ?_
  refine c_VI C (a_X12_degreeOf hI H_r0 (by omega) (by omega)) rfl rfl rfl rfl rfl ⟨_, rfl, rfl, T_r0, Nat.le_of_ble_eq_true rfl⟩ rfl rfl (Nat.le_of_ble_eq_true rfl) (Nat.le_of_ble_eq_true rfl) (Nat.le_of_ble_eq_true rfl) ?_
  rintro x1 _ _ ⟨o0x1, o1x1, rfl, rfl⟩
  have gx1 := rg x1
  obtain ⟨T_r0_4, N_r0_4, A_r0_4⟩ := id H_r0_4
  refine z_sI C rfl rfl T_r0_4 N_r0_4 (by omega) (by omega) (fun I2 uI2 => ?_)
  have hI2 : IM R r0 I2 := IM.arr hI G_r0 R_r0_4 ⟨(fun _ => ⟨by omega, by omega⟩), (fun h => absurd h (by decide)), (fun h => absurd h (by decide)), (fun h => absurd h (by decide))⟩ (fun h => absurd h (by decide)) (by decide) uI2
  have S3 : CM A R r0 [] [4] I L I2 L := CM.a G_r0 R_r0_4 A_r0_4 uI2
  have F4 : ∀ r : Nat, r ≠ n1.toNatClampNeg → I2 r0_4 r = I r0_4 r := fun r z0 => by rw [uI2]; first | exact u2_k z0
  have e5 := u2_e uI2
  refine z_iconst C (z := 0) rfl rfl rfl (fun x6 ex6 => ?_)
  have J7 : ∀ (nn8 : Nat) (I9 : IT) (L10 : LT) (x11 : Int32), ((41 - x11.toInt).toNat = nn8) → (IM R r0 I9) → (CM A R r0 [] [5] I2 L I9 L10) → (0 ≤ x11.toInt) → (x11.toInt ≤ 41) → V 13 [(0, .ref r0), (1, .int n1), (2, .int n2), (3, .int x11)] [] (T, N, I9, L10, R) 0 0 := by
    intro nn8
    induction nn8 using Nat.strongRecOn with
    | _ nn8 ihJ7 =>
      intro I9 L10 x11 hmnn8 hI15 S14 b12 b13
      have gx11 := rg x11
      have e16 := CM.j S14 R_r0_4 (by decide) e5
      refine k_iload_n C rfl rfl rfl ?_
      refine k_aload_n C rfl rfl rfl ?_
      refine g_R C rfl rfl rfl T_r0 rfl R_r0_4 ?_
      refine k_iload_n C rfl rfl rfl ?_
      refine a_I C rfl rfl T_r0_4 (by rw [N_r0_4]; exact vpi (by omega) (by omega)) e16 ?_
      refine b_icmp_gt C (t := 41) rfl rfl rfl (fun c17 => ?_) (fun c17 => ?_)
      · skip
        exact k_vret C rfl rfl (Nat.le_of_ble_eq_true rfl) (Nat.le_of_ble_eq_true rfl) ⟨_, _, rfl, rfl, fun a4 h4 => by cases (R_r0_4.symm.trans h4); first | omega | (simp only [e16] <;> omega), fun a4 h4 => by cases (R_r0_4.symm.trans h4); exact (fun r z0 => ((congrFun (CM.j0 S14 R_r0_4 (by decide)) r).trans (F4 r z0))), hI15, (CM.cons S3 (CM.mono S14 (by decide) (by decide)) (by decide) (by decide))⟩
      refine k_aload_n C rfl rfl rfl ?_
      refine k_iload_n C rfl rfl rfl ?_
      refine k_iload_n C rfl rfl rfl ?_
      refine k_aload_n C rfl rfl rfl ?_
      refine k_iload_n C rfl rfl rfl ?_
      refine k_iload_n C rfl rfl rfl ?_
      refine c_VI C (a_X12_numberOf hI15 H_r0 (by omega) (by omega) (by omega) (by omega)) rfl rfl rfl rfl rfl ⟨_, rfl, rfl, T_r0, Nat.le_of_ble_eq_true rfl⟩ rfl rfl (Nat.le_of_ble_eq_true rfl) (Nat.le_of_ble_eq_true rfl) (Nat.le_of_ble_eq_true rfl) ?_
      rintro x18 _ _ ⟨o0x18, o1x18, rfl, rfl⟩
      have gx18 := rg x18
      refine c_VV C (a_X12_put hI15 H_r0 (by omega) (by omega) (by omega) (by omega) (by omega) (by omega)) rfl rfl rfl rfl rfl ⟨_, rfl, rfl, T_r0, Nat.le_of_ble_eq_true rfl⟩ rfl rfl (Nat.le_of_ble_eq_true rfl) (Nat.le_of_ble_eq_true rfl) (Nat.le_of_ble_eq_true rfl) ?_
      rintro I20 L21 ⟨hI20, S22⟩
      have e23 := CM.j S22 R_r0_4 (by decide) e16
      refine z_iinc C (z := 1) (lw := fun x24 => [(3, .int x24), (0, .ref r0), (1, .int n1), (2, .int n2)]) rfl rfl rfl (Nat.le_of_ble_eq_true rfl) rfl ⟨by omega, by omega⟩ (fun _ => rfl) (fun x24 ex24 => ?_)
      show V 38 [(3, .int x24), (0, .ref r0), (1, .int n1), (2, .int n2)] _ _ _ _
      refine k_goto C (pc2 := 13) rfl rfl ?_
      refine k_sub S [(0, .ref r0), (1, .int n1), (2, .int n2), (3, .int x24)] (List.forall_mem_cons.mpr ⟨List.mem_of_getElem? (i := 1) rfl, List.forall_mem_cons.mpr ⟨List.mem_of_getElem? (i := 2) rfl, List.forall_mem_cons.mpr ⟨List.mem_of_getElem? (i := 3) rfl, List.forall_mem_cons.mpr ⟨List.mem_of_getElem? (i := 0) rfl, fun _ h => nomatch h⟩⟩⟩⟩) ?_
      exact ihJ7 _ (by omega) I20 L21 x24 rfl hI20 (CM.cons S14 (CM.mono S22 (by decide) (by decide)) (by decide) (by decide)) (by omega) (by omega)
  refine k_istore_n C (lw := [(3, .int x6), (0, .ref r0), (1, .int n1), (2, .int n2)]) rfl rfl (Nat.le_of_ble_eq_true rfl) rfl ?_
  refine k_sub S [(0, .ref r0), (1, .int n1), (2, .int n2), (3, .int x6)] (List.forall_mem_cons.mpr ⟨List.mem_of_getElem? (i := 1) rfl, List.forall_mem_cons.mpr ⟨List.mem_of_getElem? (i := 2) rfl, List.forall_mem_cons.mpr ⟨List.mem_of_getElem? (i := 3) rfl, List.forall_mem_cons.mpr ⟨List.mem_of_getElem? (i := 0) rfl, fun _ h => nomatch h⟩⟩⟩⟩) ?_
  exact J7 _ I2 L x6 rfl hI2 CM.rf (by omega) (by omega)

theorem a_X12_copies {d : Nat} {T N : Nat → Nat} {I : IT} {L : LT} {R : RT} {A : Nat → Prop} {r0 : Nat} {n1 n2 : Int32} (hI : IM R r0 I) (H_r0 : (h_MD T N R A) r0) (b0_n1 : 0 ≤ n1.toInt) (b1_n1 : n1.toInt ≤ 47) (b0_n2 : 0 ≤ n2.toInt) (b1_n2 : n2.toInt ≤ 47) : Ex (d + 2) 201 [.ref r0, .int n1, .int n2] (T, N, I, L, R) 0 0 (pV T N R (fun I9 L9 => (∀ a4, R r0 4 = some a4 → I9 a4 n2.toNatClampNeg = I a4 n1.toNatClampNeg) ∧ (∀ a4, R r0 4 = some a4 → ∀ r : Nat, r ≠ n2.toNatClampNeg → I9 a4 r = I a4 r) ∧ (IM R r0 I9 ∧ CM A R r0 [] [4, 5] I L I9 L9))) := by
  refine ⟨_, rfl, Nat.le_of_ble_eq_true rfl, fun V C S => ?_⟩
  show V 0 [(0, .ref r0), (1, .int n1), (2, .int n2)] [] (T, N, I, L, R) 0 0
  have gn1 := rg n1
  have gn2 := rg n2
  obtain ⟨T_r0, A_r0, ⟨r0_1, R_r0_1, H_r0_1⟩, ⟨r0_2, R_r0_2, H_r0_2⟩, ⟨r0_4, R_r0_4, H_r0_4⟩, ⟨r0_5, R_r0_5, H_r0_5⟩, ⟨r0_10, R_r0_10, H_r0_10⟩, ⟨r0_18, R_r0_18, H_r0_18⟩, ⟨r0_20, R_r0_20, H_r0_20⟩, ⟨r0_21, R_r0_21, H_r0_21⟩, ⟨r0_22, R_r0_22, H_r0_22⟩, ⟨r0_23, R_r0_23, H_r0_23⟩, ⟨r0_25, R_r0_25, H_r0_25⟩, ⟨r0_26, R_r0_26, H_r0_26⟩, ⟨r0_27, R_r0_27, H_r0_27⟩, ⟨r0_28, R_r0_28, H_r0_28⟩, ⟨r0_34, R_r0_34, H_r0_34⟩, J_r0, Y_r0⟩ := id H_r0
  have G_r0 : mF T R r0 := ⟨J_r0, Y_r0, T_r0⟩
  obtain ⟨w_r0_4_n1, k0_r0_4_n1⟩ : ∃ x, I r0_4 n1.toNatClampNeg = x := ⟨_, rfl⟩
  have gw_r0_4_n1 := rg w_r0_4_n1
  have ow_r0_4_n1 := IM.dgR hI R_r0_4 k0_r0_4_n1
  refine k_aload_n C rfl rfl rfl ?_
  refine g_R C rfl rfl rfl T_r0 rfl R_r0_4 ?_
  refine k_iload_n C rfl rfl rfl ?_
  refine k_aload_n C rfl rfl rfl ?_
  refine g_R C rfl rfl rfl T_r0 rfl R_r0_4 ?_
  refine k_iload_n C rfl rfl rfl ?_
  obtain ⟨T_r0_4, N_r0_4, A_r0_4⟩ := id H_r0_4
  refine a_I C rfl rfl T_r0_4 (by rw [N_r0_4]; exact vpi (by omega) (by omega)) k0_r0_4_n1 ?_
  refine z_sI C rfl rfl T_r0_4 N_r0_4 (by omega) (by omega) (fun I1 uI1 => ?_)
  have hI1 : IM R r0 I1 := IM.arr hI G_r0 R_r0_4 ⟨(fun _ => ⟨by omega, by omega⟩), (fun h => absurd h (by decide)), (fun h => absurd h (by decide)), (fun h => absurd h (by decide))⟩ (fun h => absurd h (by decide)) (by decide) uI1
  have S2 : CM A R r0 [] [4] I L I1 L := CM.a G_r0 R_r0_4 A_r0_4 uI1
  have F3 : ∀ r : Nat, r ≠ n2.toNatClampNeg → I1 r0_4 r = I r0_4 r := fun r z0 => by rw [uI1]; first | exact u2_k z0
  have e5 := u2_e uI1
  refine z_iconst C (z := 0) rfl rfl rfl (fun x6 ex6 => ?_)
  have J7 : ∀ (nn8 : Nat) (I9 : IT) (L10 : LT) (x11 : Int32), ((41 - x11.toInt).toNat = nn8) → (IM R r0 I9) → (CM A R r0 [] [5] I1 L I9 L10) → (0 ≤ x11.toInt) → (x11.toInt ≤ 41) → V 14 [(0, .ref r0), (1, .int n1), (2, .int n2), (3, .int x11)] [] (T, N, I9, L10, R) 0 0 := by
    intro nn8
    induction nn8 using Nat.strongRecOn with
    | _ nn8 ihJ7 =>
      intro I9 L10 x11 hmnn8 hI15 S14 b12 b13
      have gx11 := rg x11
      have e16 := CM.j S14 R_r0_4 (by decide) e5
      refine k_iload_n C rfl rfl rfl ?_
      refine k_aload_n C rfl rfl rfl ?_
      refine g_R C rfl rfl rfl T_r0 rfl R_r0_4 ?_
      refine k_iload_n C rfl rfl rfl ?_
      refine z_aI C rfl rfl T_r0_4 N_r0_4 (by omega) (by omega) (fun x17 ex17 => ?_)
      have gx17 := rg x17
      have ox17 := IM.dgR hI15 R_r0_4 ex17
      refine b_icmp_gt C (t := 42) rfl rfl rfl (fun c18 => ?_) (fun c18 => ?_)
      · skip
        exact k_vret C rfl rfl (Nat.le_of_ble_eq_true rfl) (Nat.le_of_ble_eq_true rfl) ⟨_, _, rfl, rfl, fun a4 h4 => by cases (R_r0_4.symm.trans h4); first | omega | (simp only [e16, ex17, k0_r0_4_n1] <;> omega), fun a4 h4 => by cases (R_r0_4.symm.trans h4); exact (fun r z0 => ((congrFun (CM.j0 S14 R_r0_4 (by decide)) r).trans (F3 r z0))), hI15, (CM.cons S2 (CM.mono S14 (by decide) (by decide)) (by decide) (by decide))⟩
      refine k_aload_n C rfl rfl rfl ?_
      refine k_iload_n C rfl rfl rfl ?_
      refine k_iload_n C rfl rfl rfl ?_
      refine k_aload_n C rfl rfl rfl ?_
      refine k_iload_n C rfl rfl rfl ?_
      refine k_iload_n C rfl rfl rfl ?_
      refine c_VI C (a_X12_of hI15 H_r0 (by omega) (by omega) (by omega) (by omega)) rfl rfl rfl rfl rfl ⟨_, rfl, rfl, T_r0, Nat.le_of_ble_eq_true rfl⟩ rfl rfl (Nat.le_of_ble_eq_true rfl) (Nat.le_of_ble_eq_true rfl) (Nat.le_of_ble_eq_true rfl) ?_
      rintro x19 _ _ ⟨o0x19, o1x19, rfl, rfl⟩
      have gx19 := rg x19
      refine c_VV C (a_X12_put hI15 H_r0 (by omega) (by omega) (by omega) (by omega) (by omega) (by omega)) rfl rfl rfl rfl rfl ⟨_, rfl, rfl, T_r0, Nat.le_of_ble_eq_true rfl⟩ rfl rfl (Nat.le_of_ble_eq_true rfl) (Nat.le_of_ble_eq_true rfl) (Nat.le_of_ble_eq_true rfl) ?_
      rintro I21 L22 ⟨hI21, S23⟩
      have e24 := CM.j S23 R_r0_4 (by decide) e16
      have e25 := CM.j S23 R_r0_4 (by decide) ex17
      refine z_iinc C (z := 1) (lw := fun x26 => [(3, .int x26), (0, .ref r0), (1, .int n1), (2, .int n2)]) rfl rfl rfl (Nat.le_of_ble_eq_true rfl) rfl ⟨by omega, by omega⟩ (fun _ => rfl) (fun x26 ex26 => ?_)
      show V 39 [(3, .int x26), (0, .ref r0), (1, .int n1), (2, .int n2)] _ _ _ _
      refine k_goto C (pc2 := 14) rfl rfl ?_
      refine k_sub S [(0, .ref r0), (1, .int n1), (2, .int n2), (3, .int x26)] (List.forall_mem_cons.mpr ⟨List.mem_of_getElem? (i := 1) rfl, List.forall_mem_cons.mpr ⟨List.mem_of_getElem? (i := 2) rfl, List.forall_mem_cons.mpr ⟨List.mem_of_getElem? (i := 3) rfl, List.forall_mem_cons.mpr ⟨List.mem_of_getElem? (i := 0) rfl, fun _ h => nomatch h⟩⟩⟩⟩) ?_
      exact ihJ7 _ (by omega) I21 L22 x26 rfl hI21 (CM.cons S14 (CM.mono S23 (by decide) (by decide)) (by decide) (by decide)) (by omega) (by omega)
  refine k_istore_n C (lw := [(3, .int x6), (0, .ref r0), (1, .int n1), (2, .int n2)]) rfl rfl (Nat.le_of_ble_eq_true rfl) rfl ?_
  refine k_sub S [(0, .ref r0), (1, .int n1), (2, .int n2), (3, .int x6)] (List.forall_mem_cons.mpr ⟨List.mem_of_getElem? (i := 1) rfl, List.forall_mem_cons.mpr ⟨List.mem_of_getElem? (i := 2) rfl, List.forall_mem_cons.mpr ⟨List.mem_of_getElem? (i := 3) rfl, List.forall_mem_cons.mpr ⟨List.mem_of_getElem? (i := 0) rfl, fun _ h => nomatch h⟩⟩⟩⟩) ?_
  exact J7 _ I1 L x6 rfl hI1 CM.rf (by omega) (by omega)

theorem a_X12_clears {d : Nat} {T N : Nat → Nat} {I : IT} {L : LT} {R : RT} {A : Nat → Prop} {r0 : Nat} {n1 n2 : Int32} (hI : IM R r0 I) (H_r0 : (h_MD T N R A) r0) (b0_n1 : 0 ≤ n1.toInt) (b1_n1 : n1.toInt ≤ 47) (b0_n2 : 0 ≤ n2.toInt) (b1_n2 : n2.toInt ≤ 40) : Ex (d + 2) 202 [.ref r0, .int n1, .int n2] (T, N, I, L, R) 0 0 (pV T N R (fun I9 L9 => (∀ a4, R r0 4 = some a4 → I9 a4 n1.toNatClampNeg = n2) ∧ (∀ a4, R r0 4 = some a4 → ∀ r : Nat, r ≠ n1.toNatClampNeg → I9 a4 r = I a4 r) ∧ (IM R r0 I9 ∧ CM A R r0 [] [4, 5] I L I9 L9))) := by
  refine ⟨_, rfl, Nat.le_of_ble_eq_true rfl, fun V C S => ?_⟩
  show V 0 [(0, .ref r0), (1, .int n1), (2, .int n2)] [] (T, N, I, L, R) 0 0
  have gn1 := rg n1
  have gn2 := rg n2
  obtain ⟨T_r0, A_r0, ⟨r0_1, R_r0_1, H_r0_1⟩, ⟨r0_2, R_r0_2, H_r0_2⟩, ⟨r0_4, R_r0_4, H_r0_4⟩, ⟨r0_5, R_r0_5, H_r0_5⟩, ⟨r0_10, R_r0_10, H_r0_10⟩, ⟨r0_18, R_r0_18, H_r0_18⟩, ⟨r0_20, R_r0_20, H_r0_20⟩, ⟨r0_21, R_r0_21, H_r0_21⟩, ⟨r0_22, R_r0_22, H_r0_22⟩, ⟨r0_23, R_r0_23, H_r0_23⟩, ⟨r0_25, R_r0_25, H_r0_25⟩, ⟨r0_26, R_r0_26, H_r0_26⟩, ⟨r0_27, R_r0_27, H_r0_27⟩, ⟨r0_28, R_r0_28, H_r0_28⟩, ⟨r0_34, R_r0_34, H_r0_34⟩, J_r0, Y_r0⟩ := id H_r0
  have G_r0 : mF T R r0 := ⟨J_r0, Y_r0, T_r0⟩
  refine k_aload_n C rfl rfl rfl ?_
  refine g_R C rfl rfl rfl T_r0 rfl R_r0_4 ?_
  refine k_iload_n C rfl rfl rfl ?_
  refine k_iload_n C rfl rfl rfl ?_
  obtain ⟨T_r0_4, N_r0_4, A_r0_4⟩ := id H_r0_4
  refine z_sI C rfl rfl T_r0_4 N_r0_4 (by omega) (by omega) (fun I1 uI1 => ?_)
  have hI1 : IM R r0 I1 := IM.arr hI G_r0 R_r0_4 ⟨(fun _ => ⟨by omega, by omega⟩), (fun h => absurd h (by decide)), (fun h => absurd h (by decide)), (fun h => absurd h (by decide))⟩ (fun h => absurd h (by decide)) (by decide) uI1
  have S2 : CM A R r0 [] [4] I L I1 L := CM.a G_r0 R_r0_4 A_r0_4 uI1
  have F3 : ∀ r : Nat, r ≠ n1.toNatClampNeg → I1 r0_4 r = I r0_4 r := fun r z0 => by rw [uI1]; first | exact u2_k z0
  have e4 := u2_e uI1
  refine z_iconst C (z := 0) rfl rfl rfl (fun x5 ex5 => ?_)
  have J6 : ∀ (nn7 : Nat) (I8 : IT) (L9 : LT) (x10 : Int32), ((41 - x10.toInt).toNat = nn7) → (IM R r0 I8) → (CM A R r0 [] [5] I1 L I8 L9) → (0 ≤ x10.toInt) → (x10.toInt ≤ 41) → V 9 [(0, .ref r0), (1, .int n1), (2, .int n2), (3, .int x10)] [] (T, N, I8, L9, R) 0 0 := by
    intro nn7
    induction nn7 using Nat.strongRecOn with
    | _ nn7 ihJ6 =>
      intro I8 L9 x10 hmnn7 hI14 S13 b11 b12
      have gx10 := rg x10
      have e15 := CM.j S13 R_r0_4 (by decide) e4
      refine k_iload_n C rfl rfl rfl ?_
      refine k_iload_n C rfl rfl rfl ?_
      refine b_icmp_gt C (t := 27) rfl rfl rfl (fun c16 => ?_) (fun c16 => ?_)
      · skip
        exact k_vret C rfl rfl (Nat.le_of_ble_eq_true rfl) (Nat.le_of_ble_eq_true rfl) ⟨_, _, rfl, rfl, fun a4 h4 => by cases (R_r0_4.symm.trans h4); first | omega | (simp only [e15] <;> omega), fun a4 h4 => by cases (R_r0_4.symm.trans h4); exact (fun r z0 => ((congrFun (CM.j0 S13 R_r0_4 (by decide)) r).trans (F3 r z0))), hI14, (CM.cons S2 (CM.mono S13 (by decide) (by decide)) (by decide) (by decide))⟩
      refine k_aload_n C rfl rfl rfl ?_
      refine k_iload_n C rfl rfl rfl ?_
      refine k_iload_n C rfl rfl rfl ?_
      refine z_iconst C (z := 0) rfl rfl rfl (fun x17 ex17 => ?_)
      refine c_VV C (a_X12_put hI14 H_r0 (by omega) (by omega) (by omega) (by omega) (by omega) (by omega)) rfl rfl rfl rfl rfl ⟨_, rfl, rfl, T_r0, Nat.le_of_ble_eq_true rfl⟩ rfl rfl (Nat.le_of_ble_eq_true rfl) (Nat.le_of_ble_eq_true rfl) (Nat.le_of_ble_eq_true rfl) ?_
      rintro I19 L20 ⟨hI19, S21⟩
      have e22 := CM.j S21 R_r0_4 (by decide) e15
      refine z_iinc C (z := 1) (lw := fun x23 => [(3, .int x23), (0, .ref r0), (1, .int n1), (2, .int n2)]) rfl rfl rfl (Nat.le_of_ble_eq_true rfl) rfl ⟨by omega, by omega⟩ (fun _ => rfl) (fun x23 ex23 => ?_)
      show V 24 [(3, .int x23), (0, .ref r0), (1, .int n1), (2, .int n2)] _ _ _ _
      refine k_goto C (pc2 := 9) rfl rfl ?_
      refine k_sub S [(0, .ref r0), (1, .int n1), (2, .int n2), (3, .int x23)] (List.forall_mem_cons.mpr ⟨List.mem_of_getElem? (i := 1) rfl, List.forall_mem_cons.mpr ⟨List.mem_of_getElem? (i := 2) rfl, List.forall_mem_cons.mpr ⟨List.mem_of_getElem? (i := 3) rfl, List.forall_mem_cons.mpr ⟨List.mem_of_getElem? (i := 0) rfl, fun _ h => nomatch h⟩⟩⟩⟩) ?_
      exact ihJ6 _ (by omega) I19 L20 x23 rfl hI19 (CM.cons S13 (CM.mono S21 (by decide) (by decide)) (by decide) (by decide)) (by omega) (by omega)
  refine k_istore_n C (lw := [(3, .int x5), (0, .ref r0), (1, .int n1), (2, .int n2)]) rfl rfl (Nat.le_of_ble_eq_true rfl) rfl ?_
  refine k_sub S [(0, .ref r0), (1, .int n1), (2, .int n2), (3, .int x5)] (List.forall_mem_cons.mpr ⟨List.mem_of_getElem? (i := 1) rfl, List.forall_mem_cons.mpr ⟨List.mem_of_getElem? (i := 2) rfl, List.forall_mem_cons.mpr ⟨List.mem_of_getElem? (i := 3) rfl, List.forall_mem_cons.mpr ⟨List.mem_of_getElem? (i := 0) rfl, fun _ h => nomatch h⟩⟩⟩⟩) ?_
  exact J6 _ I1 L x5 rfl hI1 CM.rf (by omega) (by omega)

theorem a_X12_isNought {d : Nat} {T N : Nat → Nat} {I : IT} {L : LT} {R : RT} {A : Nat → Prop} {r0 : Nat} {n1 : Int32} (hI : IM R r0 I) (H_r0 : (h_MD T N R A) r0) (b0_n1 : 0 ≤ n1.toInt) (b1_n1 : n1.toInt ≤ 47) : Ex (d + 2) 203 [.ref r0, .int n1] (T, N, I, L, R) 0 0 (pI T N R (fun x9 I9 L9 => (0 ≤ x9.toInt) ∧ (x9.toInt ≤ 1) ∧ (I = I9 ∧ L = L9))) := by
  refine ⟨_, rfl, Nat.le_of_ble_eq_true rfl, fun V C S => ?_⟩
  show V 0 [(0, .ref r0), (1, .int n1)] [] (T, N, I, L, R) 0 0
  have gn1 := rg n1
  obtain ⟨T_r0, A_r0, ⟨r0_1, R_r0_1, H_r0_1⟩, ⟨r0_2, R_r0_2, H_r0_2⟩, ⟨r0_4, R_r0_4, H_r0_4⟩, ⟨r0_5, R_r0_5, H_r0_5⟩, ⟨r0_10, R_r0_10, H_r0_10⟩, ⟨r0_18, R_r0_18, H_r0_18⟩, ⟨r0_20, R_r0_20, H_r0_20⟩, ⟨r0_21, R_r0_21, H_r0_21⟩, ⟨r0_22, R_r0_22, H_r0_22⟩, ⟨r0_23, R_r0_23, H_r0_23⟩, ⟨r0_25, R_r0_25, H_r0_25⟩, ⟨r0_26, R_r0_26, H_r0_26⟩, ⟨r0_27, R_r0_27, H_r0_27⟩, ⟨r0_28, R_r0_28, H_r0_28⟩, ⟨r0_34, R_r0_34, H_r0_34⟩, J_r0, Y_r0⟩ := id H_r0
  have G_r0 : mF T R r0 := ⟨J_r0, Y_r0, T_r0⟩
  refine z_iconst C (z := 1) rfl rfl rfl (fun x1 ex1 => ?_)
  refine k_istore_n C (lw := [(2, .int x1), (0, .ref r0), (1, .int n1)]) rfl rfl (Nat.le_of_ble_eq_true rfl) rfl ?_
  refine z_iconst C (z := 0) rfl rfl rfl (fun x2 ex2 => ?_)
  have J3 : ∀ (nn4 : Nat) (x5 : Int32) (x8 : Int32), ((41 - x8.toInt).toNat = nn4) → (0 ≤ x5.toInt) → (x5.toInt ≤ 1) → (0 ≤ x8.toInt) → (x8.toInt ≤ 41) → V 4 [(0, .ref r0), (1, .int n1), (2, .int x5), (3, .int x8)] [] (T, N, I, L, R) 0 0 := by
    intro nn4
    induction nn4 using Nat.strongRecOn with
    | _ nn4 ihJ3 =>
      intro x5 x8 hmnn4 b6 b7 b9 b10
      have gx5 := rg x5
      have gx8 := rg x8
      refine k_iload_n C rfl rfl rfl ?_
      refine k_aload_n C rfl rfl rfl ?_
      refine g_R C rfl rfl rfl T_r0 rfl R_r0_4 ?_
      refine k_iload_n C rfl rfl rfl ?_
      obtain ⟨T_r0_4, N_r0_4, A_r0_4⟩ := id H_r0_4
      refine z_aI C rfl rfl T_r0_4 N_r0_4 (by omega) (by omega) (fun x11 ex11 => ?_)
      have gx11 := rg x11
      have ox11 := IM.dgR hI R_r0_4 ex11
      refine b_icmp_gt C (t := 39) rfl rfl rfl (fun c12 => ?_) (fun c12 => ?_)
      · skip
        refine k_iload_n C rfl rfl rfl ?_
        exact k_iret C rfl (Or.inr ⟨rfl, z01 (by omega) (by omega)⟩) (Nat.le_of_ble_eq_true rfl) (Nat.le_of_ble_eq_true rfl) ⟨_, _, _, rfl, rfl, by omega, by omega, rfl, rfl⟩
      refine k_iload_n C rfl rfl rfl ?_
      refine b_if_eq C (t := 31) rfl rfl rfl (fun c13 => ?_) (fun c13 => ?_)
      · skip
        refine z_iconst C (z := 0) rfl rfl rfl (fun x14 ex14 => ?_)
        refine k_istore_n C (lw := [(2, .int x14), (0, .ref r0), (1, .int n1), (3, .int x8)]) rfl rfl (Nat.le_of_ble_eq_true rfl) rfl ?_
        refine z_iinc C (z := 1) (lw := fun x15 => [(3, .int x15), (2, .int x14), (0, .ref r0), (1, .int n1)]) rfl rfl rfl (Nat.le_of_ble_eq_true rfl) rfl ⟨by omega, by omega⟩ (fun _ => rfl) (fun x15 ex15 => ?_)
        show V 36 [(3, .int x15), (2, .int x14), (0, .ref r0), (1, .int n1)] _ _ _ _
        refine k_goto C (pc2 := 4) rfl rfl ?_
        refine k_sub S [(0, .ref r0), (1, .int n1), (2, .int x14), (3, .int x15)] (List.forall_mem_cons.mpr ⟨List.mem_of_getElem? (i := 2) rfl, List.forall_mem_cons.mpr ⟨List.mem_of_getElem? (i := 3) rfl, List.forall_mem_cons.mpr ⟨List.mem_of_getElem? (i := 1) rfl, List.forall_mem_cons.mpr ⟨List.mem_of_getElem? (i := 0) rfl, fun _ h => nomatch h⟩⟩⟩⟩) ?_
        exact ihJ3 _ (by omega) x14 x15 rfl (by omega) (by omega) (by omega) (by omega)
      refine k_aload_n C rfl rfl rfl ?_
      refine k_iload_n C rfl rfl rfl ?_
      refine k_iload_n C rfl rfl rfl ?_
      refine c_VI C (a_X12_of hI H_r0 (by omega) (by omega) (by omega) (by omega)) rfl rfl rfl rfl rfl ⟨_, rfl, rfl, T_r0, Nat.le_of_ble_eq_true rfl⟩ rfl rfl (Nat.le_of_ble_eq_true rfl) (Nat.le_of_ble_eq_true rfl) (Nat.le_of_ble_eq_true rfl) ?_
      rintro x16 _ _ ⟨o0x16, o1x16, rfl, rfl⟩
      have gx16 := rg x16
      refine b_if_ne C (t := 31) rfl rfl rfl (fun c17 => ?_) (fun c17 => ?_)
      · skip
        refine z_iconst C (z := 0) rfl rfl rfl (fun x18 ex18 => ?_)
        refine k_istore_n C (lw := [(2, .int x18), (0, .ref r0), (1, .int n1), (3, .int x8)]) rfl rfl (Nat.le_of_ble_eq_true rfl) rfl ?_
        refine z_iinc C (z := 1) (lw := fun x19 => [(3, .int x19), (2, .int x18), (0, .ref r0), (1, .int n1)]) rfl rfl rfl (Nat.le_of_ble_eq_true rfl) rfl ⟨by omega, by omega⟩ (fun _ => rfl) (fun x19 ex19 => ?_)
        show V 36 [(3, .int x19), (2, .int x18), (0, .ref r0), (1, .int n1)] _ _ _ _
        refine k_goto C (pc2 := 4) rfl rfl ?_
        refine k_sub S [(0, .ref r0), (1, .int n1), (2, .int x18), (3, .int x19)] (List.forall_mem_cons.mpr ⟨List.mem_of_getElem? (i := 2) rfl, List.forall_mem_cons.mpr ⟨List.mem_of_getElem? (i := 3) rfl, List.forall_mem_cons.mpr ⟨List.mem_of_getElem? (i := 1) rfl, List.forall_mem_cons.mpr ⟨List.mem_of_getElem? (i := 0) rfl, fun _ h => nomatch h⟩⟩⟩⟩) ?_
        exact ihJ3 _ (by omega) x18 x19 rfl (by omega) (by omega) (by omega) (by omega)
      refine z_iconst C (z := 1) rfl rfl rfl (fun x20 ex20 => ?_)
      refine k_goto C (pc2 := 32) rfl rfl ?_
      refine k_istore_n C (lw := [(2, .int x20), (0, .ref r0), (1, .int n1), (3, .int x8)]) rfl rfl (Nat.le_of_ble_eq_true rfl) rfl ?_
      refine z_iinc C (z := 1) (lw := fun x21 => [(3, .int x21), (2, .int x20), (0, .ref r0), (1, .int n1)]) rfl rfl rfl (Nat.le_of_ble_eq_true rfl) rfl ⟨by omega, by omega⟩ (fun _ => rfl) (fun x21 ex21 => ?_)
      show V 36 [(3, .int x21), (2, .int x20), (0, .ref r0), (1, .int n1)] _ _ _ _
      refine k_goto C (pc2 := 4) rfl rfl ?_
      refine k_sub S [(0, .ref r0), (1, .int n1), (2, .int x20), (3, .int x21)] (List.forall_mem_cons.mpr ⟨List.mem_of_getElem? (i := 2) rfl, List.forall_mem_cons.mpr ⟨List.mem_of_getElem? (i := 3) rfl, List.forall_mem_cons.mpr ⟨List.mem_of_getElem? (i := 1) rfl, List.forall_mem_cons.mpr ⟨List.mem_of_getElem? (i := 0) rfl, fun _ h => nomatch h⟩⟩⟩⟩) ?_
      exact ihJ3 _ (by omega) x20 x21 rfl (by omega) (by omega) (by omega) (by omega)
  refine k_istore_n C (lw := [(3, .int x2), (2, .int x1), (0, .ref r0), (1, .int n1)]) rfl rfl (Nat.le_of_ble_eq_true rfl) rfl ?_
  refine k_sub S [(0, .ref r0), (1, .int n1), (2, .int x1), (3, .int x2)] (List.forall_mem_cons.mpr ⟨List.mem_of_getElem? (i := 2) rfl, List.forall_mem_cons.mpr ⟨List.mem_of_getElem? (i := 3) rfl, List.forall_mem_cons.mpr ⟨List.mem_of_getElem? (i := 1) rfl, List.forall_mem_cons.mpr ⟨List.mem_of_getElem? (i := 0) rfl, fun _ h => nomatch h⟩⟩⟩⟩) ?_
  exact J3 _ x1 x2 rfl (by omega) (by omega) (by omega) (by omega)

theorem a_X12_isLike {d : Nat} {T N : Nat → Nat} {I : IT} {L : LT} {R : RT} {A : Nat → Prop} {r0 : Nat} {n1 n2 : Int32} (hI : IM R r0 I) (H_r0 : (h_MD T N R A) r0) (b0_n1 : 0 ≤ n1.toInt) (b1_n1 : n1.toInt ≤ 47) (b0_n2 : 0 ≤ n2.toInt) (b1_n2 : n2.toInt ≤ 47) : Ex (d + 2) 204 [.ref r0, .int n1, .int n2] (T, N, I, L, R) 0 0 (pI T N R (fun x9 I9 L9 => (0 ≤ x9.toInt) ∧ (x9.toInt ≤ 1) ∧ (I = I9 ∧ L = L9))) := by
  refine ⟨_, rfl, Nat.le_of_ble_eq_true rfl, fun V C S => ?_⟩
  show V 0 [(0, .ref r0), (1, .int n1), (2, .int n2)] [] (T, N, I, L, R) 0 0
  have gn1 := rg n1
  have gn2 := rg n2
  obtain ⟨T_r0, A_r0, ⟨r0_1, R_r0_1, H_r0_1⟩, ⟨r0_2, R_r0_2, H_r0_2⟩, ⟨r0_4, R_r0_4, H_r0_4⟩, ⟨r0_5, R_r0_5, H_r0_5⟩, ⟨r0_10, R_r0_10, H_r0_10⟩, ⟨r0_18, R_r0_18, H_r0_18⟩, ⟨r0_20, R_r0_20, H_r0_20⟩, ⟨r0_21, R_r0_21, H_r0_21⟩, ⟨r0_22, R_r0_22, H_r0_22⟩, ⟨r0_23, R_r0_23, H_r0_23⟩, ⟨r0_25, R_r0_25, H_r0_25⟩, ⟨r0_26, R_r0_26, H_r0_26⟩, ⟨r0_27, R_r0_27, H_r0_27⟩, ⟨r0_28, R_r0_28, H_r0_28⟩, ⟨r0_34, R_r0_34, H_r0_34⟩, J_r0, Y_r0⟩ := id H_r0
  have G_r0 : mF T R r0 := ⟨J_r0, Y_r0, T_r0⟩
  refine k_aload_n C rfl rfl rfl ?_
  refine g_R C rfl rfl rfl T_r0 rfl R_r0_4 ?_
  refine k_iload_n C rfl rfl rfl ?_
  obtain ⟨T_r0_4, N_r0_4, A_r0_4⟩ := id H_r0_4
  refine z_aI C rfl rfl T_r0_4 N_r0_4 (by omega) (by omega) (fun x1 ex1 => ?_)
  have gx1 := rg x1
  have ox1 := IM.dgR hI R_r0_4 ex1
  refine k_aload_n C rfl rfl rfl ?_
  refine g_R C rfl rfl rfl T_r0 rfl R_r0_4 ?_
  refine k_iload_n C rfl rfl rfl ?_
  refine z_aI C rfl rfl T_r0_4 N_r0_4 (by omega) (by omega) (fun x2 ex2 => ?_)
  have gx2 := rg x2
  have ox2 := IM.dgR hI R_r0_4 ex2
  refine b_icmp_ne C (t := 19) rfl rfl rfl (fun c3 => ?_) (fun c3 => ?_)
  · skip
    refine z_iconst C (z := 0) rfl rfl rfl (fun x4 ex4 => ?_)
    refine k_istore_n C (lw := [(3, .int x4), (0, .ref r0), (1, .int n1), (2, .int n2)]) rfl rfl (Nat.le_of_ble_eq_true rfl) rfl ?_
    refine z_iconst C (z := 0) rfl rfl rfl (fun x5 ex5 => ?_)
    have J6 : ∀ (nn7 : Nat) (x8 : Int32) (x11 : Int32), ((41 - x11.toInt).toNat = nn7) → (0 ≤ x8.toInt) → (x8.toInt ≤ 1) → (0 ≤ x11.toInt) → (x11.toInt ≤ 41) → V 24 [(0, .ref r0), (1, .int n1), (2, .int n2), (3, .int x8), (4, .int x11)] [] (T, N, I, L, R) 0 0 := by
      intro nn7
      induction nn7 using Nat.strongRecOn with
      | _ nn7 ihJ6 =>
        intro x8 x11 hmnn7 b9 b10 b12 b13
        have gx8 := rg x8
        have gx11 := rg x11
        refine k_iload_n C rfl rfl rfl ?_
        refine b_if_eq C (t := 68) rfl rfl rfl (fun c14 => ?_) (fun c14 => ?_)
        · skip
          refine k_iload_n C rfl rfl rfl ?_
          exact k_iret C rfl (Or.inr ⟨rfl, z01 (by omega) (by omega)⟩) (Nat.le_of_ble_eq_true rfl) (Nat.le_of_ble_eq_true rfl) ⟨_, _, _, rfl, rfl, by omega, by omega, rfl, rfl⟩
        refine k_iload C rfl rfl rfl ?_
        refine k_aload_n C rfl rfl rfl ?_
        refine g_R C rfl rfl rfl T_r0 rfl R_r0_4 ?_
        refine k_iload_n C rfl rfl rfl ?_
        refine a_I C rfl rfl T_r0_4 (by rw [N_r0_4]; exact vpi (by omega) (by omega)) ex1 ?_
        refine b_icmp_gt C (t := 68) rfl rfl rfl (fun c15 => ?_) (fun c15 => ?_)
        · skip
          refine k_iload_n C rfl rfl rfl ?_
          exact k_iret C rfl (Or.inr ⟨rfl, z01 (by omega) (by omega)⟩) (Nat.le_of_ble_eq_true rfl) (Nat.le_of_ble_eq_true rfl) ⟨_, _, _, rfl, rfl, by omega, by omega, rfl, rfl⟩
        refine k_aload_n C rfl rfl rfl ?_
        refine k_iload_n C rfl rfl rfl ?_
        refine k_iload C rfl rfl rfl ?_
        refine c_VI C (a_X12_of hI H_r0 (by omega) (by omega) (by omega) (by omega)) rfl rfl rfl rfl rfl ⟨_, rfl, rfl, T_r0, Nat.le_of_ble_eq_true rfl⟩ rfl rfl (Nat.le_of_ble_eq_true rfl) (Nat.le_of_ble_eq_true rfl) (Nat.le_of_ble_eq_true rfl) ?_
        rintro x16 _ _ ⟨o0x16, o1x16, rfl, rfl⟩
        have gx16 := rg x16
        refine k_aload_n C rfl rfl rfl ?_
        refine k_iload_n C rfl rfl rfl ?_
        refine k_iload C rfl rfl rfl ?_
        refine c_VI C (a_X12_of hI H_r0 (by omega) (by omega) (by omega) (by omega)) rfl rfl rfl rfl rfl ⟨_, rfl, rfl, T_r0, Nat.le_of_ble_eq_true rfl⟩ rfl rfl (Nat.le_of_ble_eq_true rfl) (Nat.le_of_ble_eq_true rfl) (Nat.le_of_ble_eq_true rfl) ?_
        rintro x17 _ _ ⟨o0x17, o1x17, rfl, rfl⟩
        have gx17 := rg x17
        refine b_icmp_ne C (t := 60) rfl rfl rfl (fun c18 => ?_) (fun c18 => ?_)
        · skip
          refine z_iconst C (z := 0) rfl rfl rfl (fun x19 ex19 => ?_)
          refine k_istore_n C (lw := [(3, .int x19), (0, .ref r0), (1, .int n1), (2, .int n2), (4, .int x11)]) rfl rfl (Nat.le_of_ble_eq_true rfl) rfl ?_
          refine z_iinc C (z := 1) (lw := fun x20 => [(4, .int x20), (3, .int x19), (0, .ref r0), (1, .int n1), (2, .int n2)]) rfl rfl rfl (Nat.le_of_ble_eq_true rfl) rfl ⟨by omega, by omega⟩ (fun _ => rfl) (fun x20 ex20 => ?_)
          show V 65 [(4, .int x20), (3, .int x19), (0, .ref r0), (1, .int n1), (2, .int n2)] _ _ _ _
          refine k_goto C (pc2 := 24) rfl rfl ?_
          refine k_sub S [(0, .ref r0), (1, .int n1), (2, .int n2), (3, .int x19), (4, .int x20)] (List.forall_mem_cons.mpr ⟨List.mem_of_getElem? (i := 2) rfl, List.forall_mem_cons.mpr ⟨List.mem_of_getElem? (i := 3) rfl, List.forall_mem_cons.mpr ⟨List.mem_of_getElem? (i := 4) rfl, List.forall_mem_cons.mpr ⟨List.mem_of_getElem? (i := 1) rfl, List.forall_mem_cons.mpr ⟨List.mem_of_getElem? (i := 0) rfl, fun _ h => nomatch h⟩⟩⟩⟩⟩) ?_
          exact ihJ6 _ (by omega) x19 x20 rfl (by omega) (by omega) (by omega) (by omega)
        refine z_iconst C (z := 1) rfl rfl rfl (fun x21 ex21 => ?_)
        refine k_goto C (pc2 := 61) rfl rfl ?_
        refine k_istore_n C (lw := [(3, .int x21), (0, .ref r0), (1, .int n1), (2, .int n2), (4, .int x11)]) rfl rfl (Nat.le_of_ble_eq_true rfl) rfl ?_
        refine z_iinc C (z := 1) (lw := fun x22 => [(4, .int x22), (3, .int x21), (0, .ref r0), (1, .int n1), (2, .int n2)]) rfl rfl rfl (Nat.le_of_ble_eq_true rfl) rfl ⟨by omega, by omega⟩ (fun _ => rfl) (fun x22 ex22 => ?_)
        show V 65 [(4, .int x22), (3, .int x21), (0, .ref r0), (1, .int n1), (2, .int n2)] _ _ _ _
        refine k_goto C (pc2 := 24) rfl rfl ?_
        refine k_sub S [(0, .ref r0), (1, .int n1), (2, .int n2), (3, .int x21), (4, .int x22)] (List.forall_mem_cons.mpr ⟨List.mem_of_getElem? (i := 2) rfl, List.forall_mem_cons.mpr ⟨List.mem_of_getElem? (i := 3) rfl, List.forall_mem_cons.mpr ⟨List.mem_of_getElem? (i := 4) rfl, List.forall_mem_cons.mpr ⟨List.mem_of_getElem? (i := 1) rfl, List.forall_mem_cons.mpr ⟨List.mem_of_getElem? (i := 0) rfl, fun _ h => nomatch h⟩⟩⟩⟩⟩) ?_
        exact ihJ6 _ (by omega) x21 x22 rfl (by omega) (by omega) (by omega) (by omega)
    refine k_istore C (lw := [(4, .int x5), (3, .int x4), (0, .ref r0), (1, .int n1), (2, .int n2)]) rfl rfl (Nat.le_of_ble_eq_true rfl) rfl ?_
    refine k_sub S [(0, .ref r0), (1, .int n1), (2, .int n2), (3, .int x4), (4, .int x5)] (List.forall_mem_cons.mpr ⟨List.mem_of_getElem? (i := 2) rfl, List.forall_mem_cons.mpr ⟨List.mem_of_getElem? (i := 3) rfl, List.forall_mem_cons.mpr ⟨List.mem_of_getElem? (i := 4) rfl, List.forall_mem_cons.mpr ⟨List.mem_of_getElem? (i := 1) rfl, List.forall_mem_cons.mpr ⟨List.mem_of_getElem? (i := 0) rfl, fun _ h => nomatch h⟩⟩⟩⟩⟩) ?_
    exact J6 _ x4 x5 rfl (by omega) (by omega) (by omega) (by omega)
  refine z_iconst C (z := 1) rfl rfl rfl (fun x23 ex23 => ?_)
  refine k_goto C (pc2 := 20) rfl rfl ?_
  refine k_istore_n C (lw := [(3, .int x23), (0, .ref r0), (1, .int n1), (2, .int n2)]) rfl rfl (Nat.le_of_ble_eq_true rfl) rfl ?_
  refine z_iconst C (z := 0) rfl rfl rfl (fun x24 ex24 => ?_)
  have J25 : ∀ (nn26 : Nat) (x27 : Int32) (x30 : Int32), ((41 - x30.toInt).toNat = nn26) → (0 ≤ x27.toInt) → (x27.toInt ≤ 1) → (0 ≤ x30.toInt) → (x30.toInt ≤ 41) → V 24 [(0, .ref r0), (1, .int n1), (2, .int n2), (3, .int x27), (4, .int x30)] [] (T, N, I, L, R) 0 0 := by
    intro nn26
    induction nn26 using Nat.strongRecOn with
    | _ nn26 ihJ25 =>
      intro x27 x30 hmnn26 b28 b29 b31 b32
      have gx27 := rg x27
      have gx30 := rg x30
      refine k_iload_n C rfl rfl rfl ?_
      refine b_if_eq C (t := 68) rfl rfl rfl (fun c33 => ?_) (fun c33 => ?_)
      · skip
        refine k_iload_n C rfl rfl rfl ?_
        exact k_iret C rfl (Or.inr ⟨rfl, z01 (by omega) (by omega)⟩) (Nat.le_of_ble_eq_true rfl) (Nat.le_of_ble_eq_true rfl) ⟨_, _, _, rfl, rfl, by omega, by omega, rfl, rfl⟩
      refine k_iload C rfl rfl rfl ?_
      refine k_aload_n C rfl rfl rfl ?_
      refine g_R C rfl rfl rfl T_r0 rfl R_r0_4 ?_
      refine k_iload_n C rfl rfl rfl ?_
      refine a_I C rfl rfl T_r0_4 (by rw [N_r0_4]; exact vpi (by omega) (by omega)) ex1 ?_
      refine b_icmp_gt C (t := 68) rfl rfl rfl (fun c34 => ?_) (fun c34 => ?_)
      · skip
        refine k_iload_n C rfl rfl rfl ?_
        exact k_iret C rfl (Or.inr ⟨rfl, z01 (by omega) (by omega)⟩) (Nat.le_of_ble_eq_true rfl) (Nat.le_of_ble_eq_true rfl) ⟨_, _, _, rfl, rfl, by omega, by omega, rfl, rfl⟩
      refine k_aload_n C rfl rfl rfl ?_
      refine k_iload_n C rfl rfl rfl ?_
      refine k_iload C rfl rfl rfl ?_
      refine c_VI C (a_X12_of hI H_r0 (by omega) (by omega) (by omega) (by omega)) rfl rfl rfl rfl rfl ⟨_, rfl, rfl, T_r0, Nat.le_of_ble_eq_true rfl⟩ rfl rfl (Nat.le_of_ble_eq_true rfl) (Nat.le_of_ble_eq_true rfl) (Nat.le_of_ble_eq_true rfl) ?_
      rintro x35 _ _ ⟨o0x35, o1x35, rfl, rfl⟩
      have gx35 := rg x35
      refine k_aload_n C rfl rfl rfl ?_
      refine k_iload_n C rfl rfl rfl ?_
      refine k_iload C rfl rfl rfl ?_
      refine c_VI C (a_X12_of hI H_r0 (by omega) (by omega) (by omega) (by omega)) rfl rfl rfl rfl rfl ⟨_, rfl, rfl, T_r0, Nat.le_of_ble_eq_true rfl⟩ rfl rfl (Nat.le_of_ble_eq_true rfl) (Nat.le_of_ble_eq_true rfl) (Nat.le_of_ble_eq_true rfl) ?_
      rintro x36 _ _ ⟨o0x36, o1x36, rfl, rfl⟩
      have gx36 := rg x36
      refine b_icmp_ne C (t := 60) rfl rfl rfl (fun c37 => ?_) (fun c37 => ?_)
      · skip
        refine z_iconst C (z := 0) rfl rfl rfl (fun x38 ex38 => ?_)
        refine k_istore_n C (lw := [(3, .int x38), (0, .ref r0), (1, .int n1), (2, .int n2), (4, .int x30)]) rfl rfl (Nat.le_of_ble_eq_true rfl) rfl ?_
        refine z_iinc C (z := 1) (lw := fun x39 => [(4, .int x39), (3, .int x38), (0, .ref r0), (1, .int n1), (2, .int n2)]) rfl rfl rfl (Nat.le_of_ble_eq_true rfl) rfl ⟨by omega, by omega⟩ (fun _ => rfl) (fun x39 ex39 => ?_)
        show V 65 [(4, .int x39), (3, .int x38), (0, .ref r0), (1, .int n1), (2, .int n2)] _ _ _ _
        refine k_goto C (pc2 := 24) rfl rfl ?_
        refine k_sub S [(0, .ref r0), (1, .int n1), (2, .int n2), (3, .int x38), (4, .int x39)] (List.forall_mem_cons.mpr ⟨List.mem_of_getElem? (i := 2) rfl, List.forall_mem_cons.mpr ⟨List.mem_of_getElem? (i := 3) rfl, List.forall_mem_cons.mpr ⟨List.mem_of_getElem? (i := 4) rfl, List.forall_mem_cons.mpr ⟨List.mem_of_getElem? (i := 1) rfl, List.forall_mem_cons.mpr ⟨List.mem_of_getElem? (i := 0) rfl, fun _ h => nomatch h⟩⟩⟩⟩⟩) ?_
        exact ihJ25 _ (by omega) x38 x39 rfl (by omega) (by omega) (by omega) (by omega)
      refine z_iconst C (z := 1) rfl rfl rfl (fun x40 ex40 => ?_)
      refine k_goto C (pc2 := 61) rfl rfl ?_
      refine k_istore_n C (lw := [(3, .int x40), (0, .ref r0), (1, .int n1), (2, .int n2), (4, .int x30)]) rfl rfl (Nat.le_of_ble_eq_true rfl) rfl ?_
      refine z_iinc C (z := 1) (lw := fun x41 => [(4, .int x41), (3, .int x40), (0, .ref r0), (1, .int n1), (2, .int n2)]) rfl rfl rfl (Nat.le_of_ble_eq_true rfl) rfl ⟨by omega, by omega⟩ (fun _ => rfl) (fun x41 ex41 => ?_)
      show V 65 [(4, .int x41), (3, .int x40), (0, .ref r0), (1, .int n1), (2, .int n2)] _ _ _ _
      refine k_goto C (pc2 := 24) rfl rfl ?_
      refine k_sub S [(0, .ref r0), (1, .int n1), (2, .int n2), (3, .int x40), (4, .int x41)] (List.forall_mem_cons.mpr ⟨List.mem_of_getElem? (i := 2) rfl, List.forall_mem_cons.mpr ⟨List.mem_of_getElem? (i := 3) rfl, List.forall_mem_cons.mpr ⟨List.mem_of_getElem? (i := 4) rfl, List.forall_mem_cons.mpr ⟨List.mem_of_getElem? (i := 1) rfl, List.forall_mem_cons.mpr ⟨List.mem_of_getElem? (i := 0) rfl, fun _ h => nomatch h⟩⟩⟩⟩⟩) ?_
      exact ihJ25 _ (by omega) x40 x41 rfl (by omega) (by omega) (by omega) (by omega)
  refine k_istore C (lw := [(4, .int x24), (3, .int x23), (0, .ref r0), (1, .int n1), (2, .int n2)]) rfl rfl (Nat.le_of_ble_eq_true rfl) rfl ?_
  refine k_sub S [(0, .ref r0), (1, .int n1), (2, .int n2), (3, .int x23), (4, .int x24)] (List.forall_mem_cons.mpr ⟨List.mem_of_getElem? (i := 2) rfl, List.forall_mem_cons.mpr ⟨List.mem_of_getElem? (i := 3) rfl, List.forall_mem_cons.mpr ⟨List.mem_of_getElem? (i := 4) rfl, List.forall_mem_cons.mpr ⟨List.mem_of_getElem? (i := 1) rfl, List.forall_mem_cons.mpr ⟨List.mem_of_getElem? (i := 0) rfl, fun _ h => nomatch h⟩⟩⟩⟩⟩) ?_
  exact J25 _ x23 x24 rfl (by omega) (by omega) (by omega) (by omega)

theorem a_X12_multiplies {d : Nat} {T N : Nat → Nat} {I : IT} {L : LT} {R : RT} {A : Nat → Prop} {r0 : Nat} {n1 n2 n3 : Int32} (hI : IM R r0 I) (H_r0 : (h_MD T N R A) r0) (b0_n1 : 0 ≤ n1.toInt) (b1_n1 : n1.toInt ≤ 47) (b0_n2 : 0 ≤ n2.toInt) (b1_n2 : n2.toInt ≤ 47) (b0_n3 : 0 ≤ n3.toInt) (b1_n3 : n3.toInt ≤ 47) (hp0 : n1.toInt ≠ n3.toInt) (hp1 : n2.toInt ≠ n3.toInt) (hp2 : ∀ a4, R r0 4 = some a4 → (I a4 n1.toNatClampNeg).toInt + (I a4 n2.toNatClampNeg).toInt ≤ 40) : Ex (d + 3) 205 [.ref r0, .int n1, .int n2, .int n3] (T, N, I, L, R) 0 0 (pV T N R (fun I9 L9 => (∀ a4, R r0 4 = some a4 → ∀ r : Nat, r ≠ n3.toNatClampNeg → I9 a4 r = I a4 r) ∧ (IM R r0 I9 ∧ CM A R r0 [] [4, 5] I L I9 L9))) := by
  refine ⟨_, rfl, Nat.le_of_ble_eq_true rfl, fun V C S => ?_⟩
  show V 0 [(0, .ref r0), (1, .int n1), (2, .int n2), (3, .int n3)] [] (T, N, I, L, R) 0 0
  have gn1 := rg n1
  have gn2 := rg n2
  have gn3 := rg n3
  obtain ⟨T_r0, A_r0, ⟨r0_1, R_r0_1, H_r0_1⟩, ⟨r0_2, R_r0_2, H_r0_2⟩, ⟨r0_4, R_r0_4, H_r0_4⟩, ⟨r0_5, R_r0_5, H_r0_5⟩, ⟨r0_10, R_r0_10, H_r0_10⟩, ⟨r0_18, R_r0_18, H_r0_18⟩, ⟨r0_20, R_r0_20, H_r0_20⟩, ⟨r0_21, R_r0_21, H_r0_21⟩, ⟨r0_22, R_r0_22, H_r0_22⟩, ⟨r0_23, R_r0_23, H_r0_23⟩, ⟨r0_25, R_r0_25, H_r0_25⟩, ⟨r0_26, R_r0_26, H_r0_26⟩, ⟨r0_27, R_r0_27, H_r0_27⟩, ⟨r0_28, R_r0_28, H_r0_28⟩, ⟨r0_34, R_r0_34, H_r0_34⟩, J_r0, Y_r0⟩ := id H_r0
  have G_r0 : mF T R r0 := ⟨J_r0, Y_r0, T_r0⟩
  obtain ⟨w_r0_4_n1, k0_r0_4_n1⟩ : ∃ x, I r0_4 n1.toNatClampNeg = x := ⟨_, rfl⟩
  have gw_r0_4_n1 := rg w_r0_4_n1
  have ow_r0_4_n1 := IM.dgR hI R_r0_4 k0_r0_4_n1
  obtain ⟨w_r0_4_n2, k0_r0_4_n2⟩ : ∃ x, I r0_4 n2.toNatClampNeg = x := ⟨_, rfl⟩
  have gw_r0_4_n2 := rg w_r0_4_n2
  have ow_r0_4_n2 := IM.dgR hI R_r0_4 k0_r0_4_n2
  have hp2 := hp2 r0_4 R_r0_4
  try simp only [k0_r0_4_n1, k0_r0_4_n2] at hp0
  try simp only [k0_r0_4_n1, k0_r0_4_n2] at hp1
  try simp only [k0_r0_4_n1, k0_r0_4_n2] at hp2
  refine k_aload_n C rfl rfl rfl ?_
  refine k_iload_n C rfl rfl rfl ?_
  refine k_aload_n C rfl rfl rfl ?_
  refine g_R C rfl rfl rfl T_r0 rfl R_r0_4 ?_
  refine k_iload_n C rfl rfl rfl ?_
  obtain ⟨T_r0_4, N_r0_4, A_r0_4⟩ := id H_r0_4
  refine a_I C rfl rfl T_r0_4 (by rw [N_r0_4]; exact vpi (by omega) (by omega)) k0_r0_4_n1 ?_
  refine k_aload_n C rfl rfl rfl ?_
  refine g_R C rfl rfl rfl T_r0 rfl R_r0_4 ?_
  refine k_iload_n C rfl rfl rfl ?_
  refine a_I C rfl rfl T_r0_4 (by rw [N_r0_4]; exact vpi (by omega) (by omega)) k0_r0_4_n2 ?_
  refine z_iadd C rfl rfl ⟨by omega, by omega⟩ (fun x1 ex1 => ?_)
  refine c_VV C (a_X12_clears hI H_r0 (by omega) (by omega) (by omega) (by omega)) rfl rfl rfl rfl rfl ⟨_, rfl, rfl, T_r0, Nat.le_of_ble_eq_true rfl⟩ rfl rfl (Nat.le_of_ble_eq_true rfl) (Nat.le_of_ble_eq_true rfl) (Nat.le_of_ble_eq_true rfl) ?_
  rintro I3 L4 ⟨p0v2, p1v2, hI3, S5⟩
  have p0v2 := p0v2 r0_4 R_r0_4
  have p1v2 := p1v2 r0_4 R_r0_4
  have F6 : ∀ r : Nat, r ≠ n3.toNatClampNeg → I3 r0_4 r = I r0_4 r := fun r z0 => p1v2 r (by first | exact z0)
  have e7 := (p1v2 n1.toNatClampNeg (by first | decide | exact ncne (by omega) (by omega) (by omega) | exact nckn (by omega) (by omega) | exact (nckn (by omega) (by omega)).symm)).trans k0_r0_4_n1
  have e8 := (p1v2 n2.toNatClampNeg (by first | decide | exact ncne (by omega) (by omega) (by omega) | exact nckn (by omega) (by omega) | exact (nckn (by omega) (by omega)).symm)).trans k0_r0_4_n2
  obtain ⟨x9, e10⟩ : ∃ x, I3 r0_4 n3.toNatClampNeg = x := ⟨_, rfl⟩
  have gx9 := rg x9
  have ox9 := IM.dgR hI3 R_r0_4 e10
  try simp only [k0_r0_4_n1, k0_r0_4_n2, e10] at p0v2
  try have q0v2 := congrArg Int32.toInt p0v2
  refine z_iconst C (z := 0) rfl rfl rfl (fun x11 ex11 => ?_)
  have J12 : ∀ (nn13 : Nat) (I14 : IT) (L15 : LT) (x16 : Int32), ((41 - x16.toInt).toNat = nn13) → (IM R r0 I14) → (CM A R r0 [] [5] I3 L4 I14 L15) → (0 ≤ x16.toInt) → (x16.toInt ≤ 41) → V 21 [(0, .ref r0), (1, .int n1), (2, .int n2), (3, .int n3), (4, .int x16)] [] (T, N, I14, L15, R) 0 0 := by
    intro nn13
    induction nn13 using Nat.strongRecOn with
    | _ nn13 ihJ12 =>
      intro I14 L15 x16 hmnn13 hI20 S19 b17 b18
      have gx16 := rg x16
      have e21 := CM.j S19 R_r0_4 (by decide) e7
      have e22 := CM.j S19 R_r0_4 (by decide) e8
      have e23 := CM.j S19 R_r0_4 (by decide) e10
      refine k_iload C rfl rfl rfl ?_
      refine k_aload_n C rfl rfl rfl ?_
      refine g_R C rfl rfl rfl T_r0 rfl R_r0_4 ?_
      refine k_iload_n C rfl rfl rfl ?_
      refine a_I C rfl rfl T_r0_4 (by rw [N_r0_4]; exact vpi (by omega) (by omega)) e21 ?_
      refine b_icmp_gt C (t := 100) rfl rfl rfl (fun c24 => ?_) (fun c24 => ?_)
      · skip
        exact k_vret C rfl rfl (Nat.le_of_ble_eq_true rfl) (Nat.le_of_ble_eq_true rfl) ⟨_, _, rfl, rfl, fun a4 h4 => by cases (R_r0_4.symm.trans h4); exact (fun r z0 => ((congrFun (CM.j0 S19 R_r0_4 (by decide)) r).trans (F6 r z0))), hI20, (CM.cons S5 (CM.mono S19 (by decide) (by decide)) (by decide) (by decide))⟩
      refine z_iconst C (z := 0) rfl rfl rfl (fun x25 ex25 => ?_)
      have J26 : ∀ (nn27 : Nat) (I28 : IT) (L29 : LT) (x30 : Int32), ((41 - x30.toInt).toNat = nn27) → (IM R r0 I28) → (CM A R r0 [] [5] I14 L15 I28 L29) → (0 ≤ x30.toInt) → (x30.toInt ≤ 41) → V 35 [(0, .ref r0), (1, .int n1), (2, .int n2), (3, .int n3), (4, .int x16), (5, .int x30)] [] (T, N, I28, L29, R) 0 0 := by
        intro nn27
        induction nn27 using Nat.strongRecOn with
        | _ nn27 ihJ26 =>
          intro I28 L29 x30 hmnn27 hI34 S33 b31 b32
          have gx30 := rg x30
          have e35 := CM.j S33 R_r0_4 (by decide) e21
          have e36 := CM.j S33 R_r0_4 (by decide) e22
          have e37 := CM.j S33 R_r0_4 (by decide) e23
          refine k_iload C rfl rfl rfl ?_
          refine k_aload_n C rfl rfl rfl ?_
          refine g_R C rfl rfl rfl T_r0 rfl R_r0_4 ?_
          refine k_iload_n C rfl rfl rfl ?_
          refine a_I C rfl rfl T_r0_4 (by rw [N_r0_4]; exact vpi (by omega) (by omega)) e36 ?_
          refine b_icmp_gt C (t := 94) rfl rfl rfl (fun c38 => ?_) (fun c38 => ?_)
          · skip
            refine z_iinc C (z := 1) (lw := fun x39 => [(4, .int x39), (0, .ref r0), (1, .int n1), (2, .int n2), (3, .int n3), (5, .int x30)]) rfl rfl rfl (Nat.le_of_ble_eq_true rfl) rfl ⟨by omega, by omega⟩ (fun _ => rfl) (fun x39 ex39 => ?_)
            show V 97 [(4, .int x39), (0, .ref r0), (1, .int n1), (2, .int n2), (3, .int n3), (5, .int x30)] _ _ _ _
            refine k_goto C (pc2 := 21) rfl rfl ?_
            refine k_sub S [(0, .ref r0), (1, .int n1), (2, .int n2), (3, .int n3), (4, .int x39)] (List.forall_mem_cons.mpr ⟨List.mem_of_getElem? (i := 1) rfl, List.forall_mem_cons.mpr ⟨List.mem_of_getElem? (i := 2) rfl, List.forall_mem_cons.mpr ⟨List.mem_of_getElem? (i := 3) rfl, List.forall_mem_cons.mpr ⟨List.mem_of_getElem? (i := 4) rfl, List.forall_mem_cons.mpr ⟨List.mem_of_getElem? (i := 0) rfl, fun _ h => nomatch h⟩⟩⟩⟩⟩) ?_
            exact ihJ12 _ (by omega) I28 L29 x39 rfl hI34 (CM.cons S19 (CM.mono S33 (by decide) (by decide)) (by decide) (by decide)) (by omega) (by omega)
          refine k_aload_n C rfl rfl rfl ?_
          refine k_iload_n C rfl rfl rfl ?_
          refine k_iload C rfl rfl rfl ?_
          refine k_iload C rfl rfl rfl ?_
          refine z_iadd C rfl rfl ⟨by omega, by omega⟩ (fun x40 ex40 => ?_)
          refine k_aload_n C rfl rfl rfl ?_
          refine k_aload_n C rfl rfl rfl ?_
          refine k_iload_n C rfl rfl rfl ?_
          refine k_iload C rfl rfl rfl ?_
          refine k_iload C rfl rfl rfl ?_
          refine z_iadd C rfl rfl ⟨by omega, by omega⟩ (fun x41 ex41 => ?_)
          refine c_VI C (a_X12_of hI34 H_r0 (by omega) (by omega) (by omega) (by omega)) rfl rfl rfl rfl rfl ⟨_, rfl, rfl, T_r0, Nat.le_of_ble_eq_true rfl⟩ rfl rfl (Nat.le_of_ble_eq_true rfl) (Nat.le_of_ble_eq_true rfl) (Nat.le_of_ble_eq_true rfl) ?_
          rintro x42 _ _ ⟨o0x42, o1x42, rfl, rfl⟩
          have gx42 := rg x42
          refine k_aload_n C rfl rfl rfl ?_
          refine k_aload_n C rfl rfl rfl ?_
          refine k_iload_n C rfl rfl rfl ?_
          refine k_iload C rfl rfl rfl ?_
          refine c_VI C (a_X12_of hI34 H_r0 (by omega) (by omega) (by omega) (by omega)) rfl rfl rfl rfl rfl ⟨_, rfl, rfl, T_r0, Nat.le_of_ble_eq_true rfl⟩ rfl rfl (Nat.le_of_ble_eq_true rfl) (Nat.le_of_ble_eq_true rfl) (Nat.le_of_ble_eq_true rfl) ?_
          rintro x43 _ _ ⟨o0x43, o1x43, rfl, rfl⟩
          have gx43 := rg x43
          refine k_aload_n C rfl rfl rfl ?_
          refine k_iload_n C rfl rfl rfl ?_
          refine k_iload C rfl rfl rfl ?_
          refine c_VI C (a_X12_of hI34 H_r0 (by omega) (by omega) (by omega) (by omega)) rfl rfl rfl rfl rfl ⟨_, rfl, rfl, T_r0, Nat.le_of_ble_eq_true rfl⟩ rfl rfl (Nat.le_of_ble_eq_true rfl) (Nat.le_of_ble_eq_true rfl) (Nat.le_of_ble_eq_true rfl) ?_
          rintro x44 _ _ ⟨o0x44, o1x44, rfl, rfl⟩
          have gx44 := rg x44
          refine c_VI C (a_X12_times hI34 H_r0) rfl rfl rfl rfl rfl ⟨_, rfl, rfl, T_r0, Nat.le_of_ble_eq_true rfl⟩ rfl rfl (Nat.le_of_ble_eq_true rfl) (Nat.le_of_ble_eq_true rfl) (Nat.le_of_ble_eq_true rfl) ?_
          rintro x45 _ _ ⟨o0x45, o1x45, rfl, rfl⟩
          have gx45 := rg x45
          refine c_VI C (a_X12_plus hI34 H_r0) rfl rfl rfl rfl rfl ⟨_, rfl, rfl, T_r0, Nat.le_of_ble_eq_true rfl⟩ rfl rfl (Nat.le_of_ble_eq_true rfl) (Nat.le_of_ble_eq_true rfl) (Nat.le_of_ble_eq_true rfl) ?_
          rintro x46 _ _ ⟨o0x46, o1x46, rfl, rfl⟩
          have gx46 := rg x46
          refine c_VV C (a_X12_put hI34 H_r0 (by omega) (by omega) (by omega) (by omega) (by omega) (by omega)) rfl rfl rfl rfl rfl ⟨_, rfl, rfl, T_r0, Nat.le_of_ble_eq_true rfl⟩ rfl rfl (Nat.le_of_ble_eq_true rfl) (Nat.le_of_ble_eq_true rfl) (Nat.le_of_ble_eq_true rfl) ?_
          rintro I48 L49 ⟨hI48, S50⟩
          have e51 := CM.j S50 R_r0_4 (by decide) e35
          have e52 := CM.j S50 R_r0_4 (by decide) e36
          have e53 := CM.j S50 R_r0_4 (by decide) e37
          refine z_iinc C (z := 1) (lw := fun x54 => [(5, .int x54), (0, .ref r0), (1, .int n1), (2, .int n2), (3, .int n3), (4, .int x16)]) rfl rfl rfl (Nat.le_of_ble_eq_true rfl) rfl ⟨by omega, by omega⟩ (fun _ => rfl) (fun x54 ex54 => ?_)
          show V 91 [(5, .int x54), (0, .ref r0), (1, .int n1), (2, .int n2), (3, .int n3), (4, .int x16)] _ _ _ _
          refine k_goto C (pc2 := 35) rfl rfl ?_
          refine k_sub S [(0, .ref r0), (1, .int n1), (2, .int n2), (3, .int n3), (4, .int x16), (5, .int x54)] (List.forall_mem_cons.mpr ⟨List.mem_of_getElem? (i := 1) rfl, List.forall_mem_cons.mpr ⟨List.mem_of_getElem? (i := 2) rfl, List.forall_mem_cons.mpr ⟨List.mem_of_getElem? (i := 3) rfl, List.forall_mem_cons.mpr ⟨List.mem_of_getElem? (i := 4) rfl, List.forall_mem_cons.mpr ⟨List.mem_of_getElem? (i := 5) rfl, List.forall_mem_cons.mpr ⟨List.mem_of_getElem? (i := 0) rfl, fun _ h => nomatch h⟩⟩⟩⟩⟩⟩) ?_
          exact ihJ26 _ (by omega) I48 L49 x54 rfl hI48 (CM.cons S33 (CM.mono S50 (by decide) (by decide)) (by decide) (by decide)) (by omega) (by omega)
      refine k_istore C (lw := [(5, .int x25), (0, .ref r0), (1, .int n1), (2, .int n2), (3, .int n3), (4, .int x16)]) rfl rfl (Nat.le_of_ble_eq_true rfl) rfl ?_
      refine k_sub S [(0, .ref r0), (1, .int n1), (2, .int n2), (3, .int n3), (4, .int x16), (5, .int x25)] (List.forall_mem_cons.mpr ⟨List.mem_of_getElem? (i := 1) rfl, List.forall_mem_cons.mpr ⟨List.mem_of_getElem? (i := 2) rfl, List.forall_mem_cons.mpr ⟨List.mem_of_getElem? (i := 3) rfl, List.forall_mem_cons.mpr ⟨List.mem_of_getElem? (i := 4) rfl, List.forall_mem_cons.mpr ⟨List.mem_of_getElem? (i := 5) rfl, List.forall_mem_cons.mpr ⟨List.mem_of_getElem? (i := 0) rfl, fun _ h => nomatch h⟩⟩⟩⟩⟩⟩) ?_
      exact J26 _ I14 L15 x25 rfl hI20 CM.rf (by omega) (by omega)
  refine k_istore C (lw := [(4, .int x11), (0, .ref r0), (1, .int n1), (2, .int n2), (3, .int n3)]) rfl rfl (Nat.le_of_ble_eq_true rfl) rfl ?_
  refine k_sub S [(0, .ref r0), (1, .int n1), (2, .int n2), (3, .int n3), (4, .int x11)] (List.forall_mem_cons.mpr ⟨List.mem_of_getElem? (i := 1) rfl, List.forall_mem_cons.mpr ⟨List.mem_of_getElem? (i := 2) rfl, List.forall_mem_cons.mpr ⟨List.mem_of_getElem? (i := 3) rfl, List.forall_mem_cons.mpr ⟨List.mem_of_getElem? (i := 4) rfl, List.forall_mem_cons.mpr ⟨List.mem_of_getElem? (i := 0) rfl, fun _ h => nomatch h⟩⟩⟩⟩⟩) ?_
  exact J12 _ I3 L4 x11 rfl hI3 CM.rf (by omega) (by omega)

theorem a_X12_differs {d : Nat} {T N : Nat → Nat} {I : IT} {L : LT} {R : RT} {A : Nat → Prop} {r0 : Nat} {n1 n2 n3 n4 : Int32} (hI : IM R r0 I) (H_r0 : (h_MD T N R A) r0) : Ex (d + 4) 206 [.ref r0, .int n1, .int n2, .int n3, .int n4] (T, N, I, L, R) 0 0 (pI T N R (fun x9 I9 L9 => (-18 ≤ x9.toInt) ∧ (x9.toInt ≤ 18) ∧ (I = I9 ∧ L = L9))) := by
  refine ⟨_, rfl, Nat.le_of_ble_eq_true rfl, fun V C S => ?_⟩
  show V 0 [(0, .ref r0), (1, .int n1), (2, .int n2), (3, .int n3), (4, .int n4)] [] (T, N, I, L, R) 0 0
  have gn1 := rg n1
  have gn2 := rg n2
  have gn3 := rg n3
  have gn4 := rg n4
  obtain ⟨T_r0, A_r0, ⟨r0_1, R_r0_1, H_r0_1⟩, ⟨r0_2, R_r0_2, H_r0_2⟩, ⟨r0_4, R_r0_4, H_r0_4⟩, ⟨r0_5, R_r0_5, H_r0_5⟩, ⟨r0_10, R_r0_10, H_r0_10⟩, ⟨r0_18, R_r0_18, H_r0_18⟩, ⟨r0_20, R_r0_20, H_r0_20⟩, ⟨r0_21, R_r0_21, H_r0_21⟩, ⟨r0_22, R_r0_22, H_r0_22⟩, ⟨r0_23, R_r0_23, H_r0_23⟩, ⟨r0_25, R_r0_25, H_r0_25⟩, ⟨r0_26, R_r0_26, H_r0_26⟩, ⟨r0_27, R_r0_27, H_r0_27⟩, ⟨r0_28, R_r0_28, H_r0_28⟩, ⟨r0_34, R_r0_34, H_r0_34⟩, J_r0, Y_r0⟩ := id H_r0
  have G_r0 : mF T R r0 := ⟨J_r0, Y_r0, T_r0⟩
  refine z_iconst C (z := 1) rfl rfl rfl (fun x1 ex1 => ?_)
  refine k_istore C (lw := [(5, .int x1), (0, .ref r0), (1, .int n1), (2, .int n2), (3, .int n3), (4, .int n4)]) rfl rfl (Nat.le_of_ble_eq_true rfl) rfl ?_
  refine z_iconst C (z := 0) rfl rfl rfl (fun x2 ex2 => ?_)
  have J3 : ∀ (nn4 : Nat) (x5 : Int32) (x8 : Int32), ((2147483647 - x8.toInt).toNat = nn4) → (-18 ≤ x5.toInt) → (x5.toInt ≤ 18) → (0 ≤ x8.toInt) → V 6 [(0, .ref r0), (1, .int n1), (2, .int n2), (3, .int n3), (4, .int n4), (5, .int x5), (6, .int x8)] [] (T, N, I, L, R) 0 0 := by
    intro nn4
    induction nn4 using Nat.strongRecOn with
    | _ nn4 ihJ3 =>
      intro x5 x8 hmnn4 b6 b7 b9
      have gx5 := rg x5
      have gx8 := rg x8
      refine k_iload C rfl rfl rfl ?_
      refine k_iload_n C rfl rfl rfl ?_
      refine b_icmp_ge C (t := 37) rfl rfl rfl (fun c10 => ?_) (fun c10 => ?_)
      · skip
        refine z_iconst C (z := 0) rfl rfl rfl (fun x11 ex11 => ?_)
        have J12 : ∀ (nn13 : Nat) (x14 : Int32) (x17 : Int32), ((2147483647 - x17.toInt).toNat = nn13) → (-18 ≤ x14.toInt) → (x14.toInt ≤ 18) → (0 ≤ x17.toInt) → V 40 [(0, .ref r0), (2, .int n2), (4, .int n4), (5, .int x14), (6, .int x17)] [] (T, N, I, L, R) 0 0 := by
          intro nn13
          induction nn13 using Nat.strongRecOn with
          | _ nn13 ihJ12 =>
            intro x14 x17 hmnn13 b15 b16 b18
            have gx14 := rg x14
            have gx17 := rg x17
            refine k_iload C rfl rfl rfl ?_
            refine k_iload C rfl rfl rfl ?_
            refine b_icmp_ge C (t := 70) rfl rfl rfl (fun c19 => ?_) (fun c19 => ?_)
            · skip
              refine k_iload C rfl rfl rfl ?_
              exact k_iret C rfl (Or.inl rfl) (Nat.le_of_ble_eq_true rfl) (Nat.le_of_ble_eq_true rfl) ⟨_, _, _, rfl, rfl, by omega, by omega, rfl, rfl⟩
            refine k_aload_n C rfl rfl rfl ?_
            refine k_iload C rfl rfl rfl ?_
            refine k_aload_n C rfl rfl rfl ?_
            refine k_iload_n C rfl rfl rfl ?_
            refine k_iload C rfl rfl rfl ?_
            refine zt_isub C rfl rfl (fun x20 => ?_)
            have gx20 := rg x20
            refine z_i2l C rfl rfl (fun lg21 elg21 => ?_)
            refine c_VI C (a_X12_mod hI H_r0) rfl rfl rfl rfl rfl ⟨_, rfl, rfl, T_r0, Nat.le_of_ble_eq_true rfl⟩ rfl rfl (Nat.le_of_ble_eq_true rfl) (Nat.le_of_ble_eq_true rfl) (Nat.le_of_ble_eq_true rfl) ?_
            rintro x22 _ _ ⟨o0x22, o1x22, rfl, rfl⟩
            have gx22 := rg x22
            refine c_VI C (a_X12_times hI H_r0) rfl rfl rfl rfl rfl ⟨_, rfl, rfl, T_r0, Nat.le_of_ble_eq_true rfl⟩ rfl rfl (Nat.le_of_ble_eq_true rfl) (Nat.le_of_ble_eq_true rfl) (Nat.le_of_ble_eq_true rfl) ?_
            rintro x23 _ _ ⟨o0x23, o1x23, rfl, rfl⟩
            have gx23 := rg x23
            refine k_istore C (lw := [(5, .int x23), (0, .ref r0), (2, .int n2), (4, .int n4), (6, .int x17)]) rfl rfl (Nat.le_of_ble_eq_true rfl) rfl ?_
            refine z_iinc C (z := 1) (lw := fun x24 => [(6, .int x24), (5, .int x23), (0, .ref r0), (2, .int n2), (4, .int n4)]) rfl rfl rfl (Nat.le_of_ble_eq_true rfl) rfl ⟨by omega, by omega⟩ (fun _ => rfl) (fun x24 ex24 => ?_)
            show V 67 [(6, .int x24), (5, .int x23), (0, .ref r0), (2, .int n2), (4, .int n4)] _ _ _ _
            refine k_goto C (pc2 := 40) rfl rfl ?_
            refine k_sub S [(0, .ref r0), (2, .int n2), (4, .int n4), (5, .int x23), (6, .int x24)] (List.forall_mem_cons.mpr ⟨List.mem_of_getElem? (i := 2) rfl, List.forall_mem_cons.mpr ⟨List.mem_of_getElem? (i := 3) rfl, List.forall_mem_cons.mpr ⟨List.mem_of_getElem? (i := 4) rfl, List.forall_mem_cons.mpr ⟨List.mem_of_getElem? (i := 1) rfl, List.forall_mem_cons.mpr ⟨List.mem_of_getElem? (i := 0) rfl, fun _ h => nomatch h⟩⟩⟩⟩⟩) ?_
            exact ihJ12 _ (by omega) x23 x24 rfl (by omega) (by omega) (by omega)
        refine k_istore C (lw := [(6, .int x11), (0, .ref r0), (1, .int n1), (2, .int n2), (3, .int n3), (4, .int n4), (5, .int x5)]) rfl rfl (Nat.le_of_ble_eq_true rfl) rfl ?_
        refine k_sub S [(0, .ref r0), (2, .int n2), (4, .int n4), (5, .int x5), (6, .int x11)] (List.forall_mem_cons.mpr ⟨List.mem_of_getElem? (i := 1) rfl, List.forall_mem_cons.mpr ⟨List.mem_of_getElem? (i := 3) rfl, List.forall_mem_cons.mpr ⟨List.mem_of_getElem? (i := 5) rfl, List.forall_mem_cons.mpr ⟨List.mem_of_getElem? (i := 6) rfl, List.forall_mem_cons.mpr ⟨List.mem_of_getElem? (i := 0) rfl, fun _ h => nomatch h⟩⟩⟩⟩⟩) ?_
        exact J12 _ x5 x11 rfl (by omega) (by omega) (by omega)
      refine k_aload_n C rfl rfl rfl ?_
      refine k_iload C rfl rfl rfl ?_
      refine k_aload_n C rfl rfl rfl ?_
      refine k_iload_n C rfl rfl rfl ?_
      refine k_iload_n C rfl rfl rfl ?_
      refine zt_isub C rfl rfl (fun x25 => ?_)
      have gx25 := rg x25
      refine k_iload C rfl rfl rfl ?_
      refine zt_isub C rfl rfl (fun x26 => ?_)
      have gx26 := rg x26
      refine z_i2l C rfl rfl (fun lg27 elg27 => ?_)
      refine c_VI C (a_X12_mod hI H_r0) rfl rfl rfl rfl rfl ⟨_, rfl, rfl, T_r0, Nat.le_of_ble_eq_true rfl⟩ rfl rfl (Nat.le_of_ble_eq_true rfl) (Nat.le_of_ble_eq_true rfl) (Nat.le_of_ble_eq_true rfl) ?_
      rintro x28 _ _ ⟨o0x28, o1x28, rfl, rfl⟩
      have gx28 := rg x28
      refine c_VI C (a_X12_times hI H_r0) rfl rfl rfl rfl rfl ⟨_, rfl, rfl, T_r0, Nat.le_of_ble_eq_true rfl⟩ rfl rfl (Nat.le_of_ble_eq_true rfl) (Nat.le_of_ble_eq_true rfl) (Nat.le_of_ble_eq_true rfl) ?_
      rintro x29 _ _ ⟨o0x29, o1x29, rfl, rfl⟩
      have gx29 := rg x29
      refine k_istore C (lw := [(5, .int x29), (0, .ref r0), (1, .int n1), (2, .int n2), (3, .int n3), (4, .int n4), (6, .int x8)]) rfl rfl (Nat.le_of_ble_eq_true rfl) rfl ?_
      refine z_iinc C (z := 1) (lw := fun x30 => [(6, .int x30), (5, .int x29), (0, .ref r0), (1, .int n1), (2, .int n2), (3, .int n3), (4, .int n4)]) rfl rfl rfl (Nat.le_of_ble_eq_true rfl) rfl ⟨by omega, by omega⟩ (fun _ => rfl) (fun x30 ex30 => ?_)
      show V 34 [(6, .int x30), (5, .int x29), (0, .ref r0), (1, .int n1), (2, .int n2), (3, .int n3), (4, .int n4)] _ _ _ _
      refine k_goto C (pc2 := 6) rfl rfl ?_
      refine k_sub S [(0, .ref r0), (1, .int n1), (2, .int n2), (3, .int n3), (4, .int n4), (5, .int x29), (6, .int x30)] (List.forall_mem_cons.mpr ⟨List.mem_of_getElem? (i := 2) rfl, List.forall_mem_cons.mpr ⟨List.mem_of_getElem? (i := 3) rfl, List.forall_mem_cons.mpr ⟨List.mem_of_getElem? (i := 4) rfl, List.forall_mem_cons.mpr ⟨List.mem_of_getElem? (i := 5) rfl, List.forall_mem_cons.mpr ⟨List.mem_of_getElem? (i := 6) rfl, List.forall_mem_cons.mpr ⟨List.mem_of_getElem? (i := 1) rfl, List.forall_mem_cons.mpr ⟨List.mem_of_getElem? (i := 0) rfl, fun _ h => nomatch h⟩⟩⟩⟩⟩⟩⟩) ?_
      exact ihJ3 _ (by omega) x29 x30 rfl (by omega) (by omega) (by omega)
  refine k_istore C (lw := [(6, .int x2), (5, .int x1), (0, .ref r0), (1, .int n1), (2, .int n2), (3, .int n3), (4, .int n4)]) rfl rfl (Nat.le_of_ble_eq_true rfl) rfl ?_
  refine k_sub S [(0, .ref r0), (1, .int n1), (2, .int n2), (3, .int n3), (4, .int n4), (5, .int x1), (6, .int x2)] (List.forall_mem_cons.mpr ⟨List.mem_of_getElem? (i := 2) rfl, List.forall_mem_cons.mpr ⟨List.mem_of_getElem? (i := 3) rfl, List.forall_mem_cons.mpr ⟨List.mem_of_getElem? (i := 4) rfl, List.forall_mem_cons.mpr ⟨List.mem_of_getElem? (i := 5) rfl, List.forall_mem_cons.mpr ⟨List.mem_of_getElem? (i := 6) rfl, List.forall_mem_cons.mpr ⟨List.mem_of_getElem? (i := 1) rfl, List.forall_mem_cons.mpr ⟨List.mem_of_getElem? (i := 0) rfl, fun _ h => nomatch h⟩⟩⟩⟩⟩⟩⟩) ?_
  exact J3 _ x1 x2 rfl (by omega) (by omega) (by omega)

theorem a_X12_differentiates {d : Nat} {T N : Nat → Nat} {I : IT} {L : LT} {R : RT} {A : Nat → Prop} {r0 : Nat} {n1 n2 n3 n4 : Int32} (hI : IM R r0 I) (H_r0 : (h_MD T N R A) r0) (b0_n1 : 0 ≤ n1.toInt) (b1_n1 : n1.toInt ≤ 47) (b0_n2 : 0 ≤ n2.toInt) (b1_n2 : n2.toInt ≤ 40) (b0_n3 : 0 ≤ n3.toInt) (b1_n3 : n3.toInt ≤ 40) (b0_n4 : 0 ≤ n4.toInt) (b1_n4 : n4.toInt ≤ 47) (hp0 : n1.toInt ≠ n4.toInt) (hp1 : ∀ a4, R r0 4 = some a4 → n2.toInt + n3.toInt ≤ (I a4 n1.toNatClampNeg).toInt) : Ex (d + 5) 207 [.ref r0, .int n1, .int n2, .int n3, .int n4] (T, N, I, L, R) 0 0 (pV T N R (fun I9 L9 => (∀ a4, R r0 4 = some a4 → (I9 a4 n4.toNatClampNeg).toInt = (I a4 n1.toNatClampNeg).toInt - n2.toInt - n3.toInt) ∧ (∀ a4, R r0 4 = some a4 → ∀ r : Nat, r ≠ n4.toNatClampNeg → I9 a4 r = I a4 r) ∧ (IM R r0 I9 ∧ CM A R r0 [] [4, 5] I L I9 L9))) := by
  refine ⟨_, rfl, Nat.le_of_ble_eq_true rfl, fun V C S => ?_⟩
  show V 0 [(0, .ref r0), (1, .int n1), (2, .int n2), (3, .int n3), (4, .int n4)] [] (T, N, I, L, R) 0 0
  have gn1 := rg n1
  have gn2 := rg n2
  have gn3 := rg n3
  have gn4 := rg n4
  obtain ⟨T_r0, A_r0, ⟨r0_1, R_r0_1, H_r0_1⟩, ⟨r0_2, R_r0_2, H_r0_2⟩, ⟨r0_4, R_r0_4, H_r0_4⟩, ⟨r0_5, R_r0_5, H_r0_5⟩, ⟨r0_10, R_r0_10, H_r0_10⟩, ⟨r0_18, R_r0_18, H_r0_18⟩, ⟨r0_20, R_r0_20, H_r0_20⟩, ⟨r0_21, R_r0_21, H_r0_21⟩, ⟨r0_22, R_r0_22, H_r0_22⟩, ⟨r0_23, R_r0_23, H_r0_23⟩, ⟨r0_25, R_r0_25, H_r0_25⟩, ⟨r0_26, R_r0_26, H_r0_26⟩, ⟨r0_27, R_r0_27, H_r0_27⟩, ⟨r0_28, R_r0_28, H_r0_28⟩, ⟨r0_34, R_r0_34, H_r0_34⟩, J_r0, Y_r0⟩ := id H_r0
  have G_r0 : mF T R r0 := ⟨J_r0, Y_r0, T_r0⟩
  obtain ⟨w_r0_4_n1, k0_r0_4_n1⟩ : ∃ x, I r0_4 n1.toNatClampNeg = x := ⟨_, rfl⟩
  have gw_r0_4_n1 := rg w_r0_4_n1
  have ow_r0_4_n1 := IM.dgR hI R_r0_4 k0_r0_4_n1
  have hp1 := hp1 r0_4 R_r0_4
  try simp only [k0_r0_4_n1] at hp0
  try simp only [k0_r0_4_n1] at hp1
  refine k_aload_n C rfl rfl rfl ?_
  refine k_iload C rfl rfl rfl ?_
  refine k_aload_n C rfl rfl rfl ?_
  refine g_R C rfl rfl rfl T_r0 rfl R_r0_4 ?_
  refine k_iload_n C rfl rfl rfl ?_
  obtain ⟨T_r0_4, N_r0_4, A_r0_4⟩ := id H_r0_4
  refine a_I C rfl rfl T_r0_4 (by rw [N_r0_4]; exact vpi (by omega) (by omega)) k0_r0_4_n1 ?_
  refine k_iload_n C rfl rfl rfl ?_
  refine z_isub C rfl rfl ⟨by omega, by omega⟩ (fun x1 ex1 => ?_)
  refine k_iload_n C rfl rfl rfl ?_
  refine z_isub C rfl rfl ⟨by omega, by omega⟩ (fun x2 ex2 => ?_)
  refine c_VV C (a_X12_clears hI H_r0 (by omega) (by omega) (by omega) (by omega)) rfl rfl rfl rfl rfl ⟨_, rfl, rfl, T_r0, Nat.le_of_ble_eq_true rfl⟩ rfl rfl (Nat.le_of_ble_eq_true rfl) (Nat.le_of_ble_eq_true rfl) (Nat.le_of_ble_eq_true rfl) ?_
  rintro I4 L5 ⟨p0v3, p1v3, hI4, S6⟩
  have p0v3 := p0v3 r0_4 R_r0_4
  have p1v3 := p1v3 r0_4 R_r0_4
  have F7 : ∀ r : Nat, r ≠ n4.toNatClampNeg → I4 r0_4 r = I r0_4 r := fun r z0 => p1v3 r (by first | exact z0)
  have e8 := (p1v3 n1.toNatClampNeg (by first | decide | exact ncne (by omega) (by omega) (by omega) | exact nckn (by omega) (by omega) | exact (nckn (by omega) (by omega)).symm)).trans k0_r0_4_n1
  obtain ⟨x9, e10⟩ : ∃ x, I4 r0_4 n4.toNatClampNeg = x := ⟨_, rfl⟩
  have gx9 := rg x9
  have ox9 := IM.dgR hI4 R_r0_4 e10
  try simp only [k0_r0_4_n1, e10] at p0v3
  try have q0v3 := congrArg Int32.toInt p0v3
  refine k_iload_n C rfl rfl rfl ?_
  have J11 : ∀ (nn12 : Nat) (I13 : IT) (L14 : LT) (x15 : Int32), ((41 - x15.toInt).toNat = nn12) → (IM R r0 I13) → (CM A R r0 [] [5] I4 L5 I13 L14) → (0 ≤ x15.toInt) → (x15.toInt ≤ 41) → (n3.toInt ≤ x15.toInt) → V 19 [(0, .ref r0), (1, .int n1), (2, .int n2), (3, .int n3), (4, .int n4), (5, .int x15)] [] (T, N, I13, L14, R) 0 0 := by
    intro nn12
    induction nn12 using Nat.strongRecOn with
    | _ nn12 ihJ11 =>
      intro I13 L14 x15 hmnn12 hI19 S18 b16 b17 f20
      have gx15 := rg x15
      have e21 := CM.j S18 R_r0_4 (by decide) e8
      have e22 := CM.j S18 R_r0_4 (by decide) e10
      refine k_iload C rfl rfl rfl ?_
      refine k_aload_n C rfl rfl rfl ?_
      refine g_R C rfl rfl rfl T_r0 rfl R_r0_4 ?_
      refine k_iload_n C rfl rfl rfl ?_
      refine a_I C rfl rfl T_r0_4 (by rw [N_r0_4]; exact vpi (by omega) (by omega)) e21 ?_
      refine k_iload_n C rfl rfl rfl ?_
      refine z_isub C rfl rfl ⟨by omega, by omega⟩ (fun x23 ex23 => ?_)
      refine b_icmp_gt C (t := 73) rfl rfl rfl (fun c24 => ?_) (fun c24 => ?_)
      · skip
        exact k_vret C rfl rfl (Nat.le_of_ble_eq_true rfl) (Nat.le_of_ble_eq_true rfl) ⟨_, _, rfl, rfl, fun a4 h4 => by cases (R_r0_4.symm.trans h4); first | omega | (simp only [e21, e22, k0_r0_4_n1] <;> omega), fun a4 h4 => by cases (R_r0_4.symm.trans h4); exact (fun r z0 => ((congrFun (CM.j0 S18 R_r0_4 (by decide)) r).trans (F7 r z0))), hI19, (CM.cons S6 (CM.mono S18 (by decide) (by decide)) (by decide) (by decide))⟩
      refine k_aload_n C rfl rfl rfl ?_
      refine k_iload C rfl rfl rfl ?_
      refine k_iload C rfl rfl rfl ?_
      refine k_iload_n C rfl rfl rfl ?_
      refine z_isub C rfl rfl ⟨by omega, by omega⟩ (fun x25 ex25 => ?_)
      refine k_aload_n C rfl rfl rfl ?_
      refine k_aload_n C rfl rfl rfl ?_
      refine k_iload_n C rfl rfl rfl ?_
      refine k_iload C rfl rfl rfl ?_
      refine c_VI C (a_X12_of hI19 H_r0 (by omega) (by omega) (by omega) (by omega)) rfl rfl rfl rfl rfl ⟨_, rfl, rfl, T_r0, Nat.le_of_ble_eq_true rfl⟩ rfl rfl (Nat.le_of_ble_eq_true rfl) (Nat.le_of_ble_eq_true rfl) (Nat.le_of_ble_eq_true rfl) ?_
      rintro x26 _ _ ⟨o0x26, o1x26, rfl, rfl⟩
      have gx26 := rg x26
      refine k_aload_n C rfl rfl rfl ?_
      refine k_aload_n C rfl rfl rfl ?_
      refine g_R C rfl rfl rfl T_r0 rfl R_r0_4 ?_
      refine k_iload_n C rfl rfl rfl ?_
      refine a_I C rfl rfl T_r0_4 (by rw [N_r0_4]; exact vpi (by omega) (by omega)) e21 ?_
      refine k_iload C rfl rfl rfl ?_
      refine k_iload_n C rfl rfl rfl ?_
      refine k_iload_n C rfl rfl rfl ?_
      refine c_VI C (a_X12_differs hI19 H_r0) rfl rfl rfl rfl rfl ⟨_, rfl, rfl, T_r0, Nat.le_of_ble_eq_true rfl⟩ rfl rfl (Nat.le_of_ble_eq_true rfl) (Nat.le_of_ble_eq_true rfl) (Nat.le_of_ble_eq_true rfl) ?_
      rintro x27 _ _ ⟨o0x27, o1x27, rfl, rfl⟩
      have gx27 := rg x27
      refine c_VI C (a_X12_times hI19 H_r0) rfl rfl rfl rfl rfl ⟨_, rfl, rfl, T_r0, Nat.le_of_ble_eq_true rfl⟩ rfl rfl (Nat.le_of_ble_eq_true rfl) (Nat.le_of_ble_eq_true rfl) (Nat.le_of_ble_eq_true rfl) ?_
      rintro x28 _ _ ⟨o0x28, o1x28, rfl, rfl⟩
      have gx28 := rg x28
      refine c_VV C (a_X12_put hI19 H_r0 (by omega) (by omega) (by omega) (by omega) (by omega) (by omega)) rfl rfl rfl rfl rfl ⟨_, rfl, rfl, T_r0, Nat.le_of_ble_eq_true rfl⟩ rfl rfl (Nat.le_of_ble_eq_true rfl) (Nat.le_of_ble_eq_true rfl) (Nat.le_of_ble_eq_true rfl) ?_
      rintro I30 L31 ⟨hI30, S32⟩
      have e33 := CM.j S32 R_r0_4 (by decide) e21
      have e34 := CM.j S32 R_r0_4 (by decide) e22
      refine z_iinc C (z := 1) (lw := fun x35 => [(5, .int x35), (0, .ref r0), (1, .int n1), (2, .int n2), (3, .int n3), (4, .int n4)]) rfl rfl rfl (Nat.le_of_ble_eq_true rfl) rfl ⟨by omega, by omega⟩ (fun _ => rfl) (fun x35 ex35 => ?_)
      show V 70 [(5, .int x35), (0, .ref r0), (1, .int n1), (2, .int n2), (3, .int n3), (4, .int n4)] _ _ _ _
      refine k_goto C (pc2 := 19) rfl rfl ?_
      refine k_sub S [(0, .ref r0), (1, .int n1), (2, .int n2), (3, .int n3), (4, .int n4), (5, .int x35)] (List.forall_mem_cons.mpr ⟨List.mem_of_getElem? (i := 1) rfl, List.forall_mem_cons.mpr ⟨List.mem_of_getElem? (i := 2) rfl, List.forall_mem_cons.mpr ⟨List.mem_of_getElem? (i := 3) rfl, List.forall_mem_cons.mpr ⟨List.mem_of_getElem? (i := 4) rfl, List.forall_mem_cons.mpr ⟨List.mem_of_getElem? (i := 5) rfl, List.forall_mem_cons.mpr ⟨List.mem_of_getElem? (i := 0) rfl, fun _ h => nomatch h⟩⟩⟩⟩⟩⟩) ?_
      exact ihJ11 _ (by omega) I30 L31 x35 rfl hI30 (CM.cons S18 (CM.mono S32 (by decide) (by decide)) (by decide) (by decide)) (by omega) (by omega) (by omega)
  refine k_istore C (lw := [(5, .int n3), (0, .ref r0), (1, .int n1), (2, .int n2), (3, .int n3), (4, .int n4)]) rfl rfl (Nat.le_of_ble_eq_true rfl) rfl ?_
  refine k_sub S [(0, .ref r0), (1, .int n1), (2, .int n2), (3, .int n3), (4, .int n4), (5, .int n3)] (List.forall_mem_cons.mpr ⟨List.mem_of_getElem? (i := 1) rfl, List.forall_mem_cons.mpr ⟨List.mem_of_getElem? (i := 2) rfl, List.forall_mem_cons.mpr ⟨List.mem_of_getElem? (i := 3) rfl, List.forall_mem_cons.mpr ⟨List.mem_of_getElem? (i := 4) rfl, List.forall_mem_cons.mpr ⟨List.mem_of_getElem? (i := 5) rfl, List.forall_mem_cons.mpr ⟨List.mem_of_getElem? (i := 0) rfl, fun _ h => nomatch h⟩⟩⟩⟩⟩⟩) ?_
  exact J11 _ I4 L5 n3 rfl hI4 CM.rf (by omega) (by omega) (by omega)

theorem a_X12_over {d : Nat} {T N : Nat → Nat} {I : IT} {L : LT} {R : RT} {n0 n1 : Int32}  (b0_n0 : 0 ≤ n0.toInt) (b1_n0 : n0.toInt ≤ 40) (b0_n1 : 0 ≤ n1.toInt) (b1_n1 : n1.toInt ≤ 40) : Ex (d + 1) 208 [.int n0, .int n1] (T, N, I, L, R) 0 0 (pI T N R (fun x9 I9 L9 => (I = I9 ∧ L = L9))) := by
  refine ⟨_, rfl, Nat.le_of_ble_eq_true rfl, fun V C S => ?_⟩
  show V 0 [(0, .int n0), (1, .int n1)] [] (T, N, I, L, R) 0 0
  have gn0 := rg n0
  have gn1 := rg n1
  refine z_iconst C (z := 1) rfl rfl rfl (fun x1 ex1 => ?_)
  refine k_istore_n C (lw := [(2, .int x1), (0, .int n0), (1, .int n1)]) rfl rfl (Nat.le_of_ble_eq_true rfl) rfl ?_
  refine z_iconst C (z := 1) rfl rfl rfl (fun x2 ex2 => ?_)
  have J3 : ∀ (nn4 : Nat) (x5 : Int32) (x6 : Int32), ((41 - x6.toInt).toNat = nn4) → (1 ≤ x6.toInt) → (x6.toInt ≤ 41) → V 4 [(0, .int n0), (1, .int n1), (2, .int x5), (3, .int x6)] [] (T, N, I, L, R) 0 0 := by
    intro nn4
    induction nn4 using Nat.strongRecOn with
    | _ nn4 ihJ3 =>
      intro x5 x6 hmnn4 b7 b8
      have gx5 := rg x5
      have gx6 := rg x6
      refine k_iload_n C rfl rfl rfl ?_
      refine k_iload_n C rfl rfl rfl ?_
      refine b_icmp_gt C (t := 25) rfl rfl rfl (fun c9 => ?_) (fun c9 => ?_)
      · skip
        refine k_iload_n C rfl rfl rfl ?_
        exact k_iret C rfl (Or.inl rfl) (Nat.le_of_ble_eq_true rfl) (Nat.le_of_ble_eq_true rfl) ⟨_, _, _, rfl, rfl, rfl, rfl⟩
      refine k_iload_n C rfl rfl rfl ?_
      refine k_iload_n C rfl rfl rfl ?_
      refine k_iload_n C rfl rfl rfl ?_
      refine z_isub C rfl rfl ⟨by omega, by omega⟩ (fun x10 ex10 => ?_)
      refine k_iload_n C rfl rfl rfl ?_
      refine z_iadd C rfl rfl ⟨by omega, by omega⟩ (fun x11 ex11 => ?_)
      refine zt_imul C rfl rfl (fun x12 => ?_)
      have gx12 := rg x12
      refine k_iload_n C rfl rfl rfl ?_
      refine zt_idiv C rfl rfl (by omega) (fun x13 => ?_)
      have gx13 := rg x13
      refine k_istore_n C (lw := [(2, .int x13), (0, .int n0), (1, .int n1), (3, .int x6)]) rfl rfl (Nat.le_of_ble_eq_true rfl) rfl ?_
      refine z_iinc C (z := 1) (lw := fun x14 => [(3, .int x14), (2, .int x13), (0, .int n0), (1, .int n1)]) rfl rfl rfl (Nat.le_of_ble_eq_true rfl) rfl ⟨by omega, by omega⟩ (fun _ => rfl) (fun x14 ex14 => ?_)
      show V 22 [(3, .int x14), (2, .int x13), (0, .int n0), (1, .int n1)] _ _ _ _
      refine k_goto C (pc2 := 4) rfl rfl ?_
      refine k_sub S [(0, .int n0), (1, .int n1), (2, .int x13), (3, .int x14)] (List.forall_mem_cons.mpr ⟨List.mem_of_getElem? (i := 2) rfl, List.forall_mem_cons.mpr ⟨List.mem_of_getElem? (i := 3) rfl, List.forall_mem_cons.mpr ⟨List.mem_of_getElem? (i := 1) rfl, List.forall_mem_cons.mpr ⟨List.mem_of_getElem? (i := 0) rfl, fun _ h => nomatch h⟩⟩⟩⟩) ?_
      exact ihJ3 _ (by omega) x13 x14 rfl (by omega) (by omega)
  refine k_istore_n C (lw := [(3, .int x2), (2, .int x1), (0, .int n0), (1, .int n1)]) rfl rfl (Nat.le_of_ble_eq_true rfl) rfl ?_
  refine k_sub S [(0, .int n0), (1, .int n1), (2, .int x1), (3, .int x2)] (List.forall_mem_cons.mpr ⟨List.mem_of_getElem? (i := 2) rfl, List.forall_mem_cons.mpr ⟨List.mem_of_getElem? (i := 3) rfl, List.forall_mem_cons.mpr ⟨List.mem_of_getElem? (i := 1) rfl, List.forall_mem_cons.mpr ⟨List.mem_of_getElem? (i := 0) rfl, fun _ h => nomatch h⟩⟩⟩⟩) ?_
  exact J3 _ x1 x2 rfl (by omega) (by omega)

theorem a_X12_overlaps {d : Nat} {T N : Nat → Nat} {I : IT} {L : LT} {R : RT} {A : Nat → Prop} {r0 : Nat} {n1 n2 n3 n4 : Int32} (hI : IM R r0 I) (H_r0 : (h_MD T N R A) r0) (b0_n1 : 0 ≤ n1.toInt) (b1_n1 : n1.toInt ≤ 41) (b0_n2 : 0 ≤ n2.toInt) (b1_n2 : n2.toInt ≤ 41) (b0_n3 : 0 ≤ n3.toInt) (b1_n3 : n3.toInt ≤ 40) (b0_n4 : 42 ≤ n4.toInt) (b1_n4 : n4.toInt ≤ 43) (hp0 : ∀ a4, R r0 4 = some a4 → n3.toInt ≤ (I a4 n1.toNatClampNeg).toInt) (hp1 : ∀ a4, R r0 4 = some a4 → n3.toInt ≤ (I a4 n2.toNatClampNeg).toInt) (hp2 : ∀ a4, R r0 4 = some a4 → (I a4 n1.toNatClampNeg).toInt + (I a4 n2.toNatClampNeg).toInt - 2 * n3.toInt ≤ 40) : Ex (d + 6) 209 [.ref r0, .int n1, .int n2, .int n3, .int n4] (T, N, I, L, R) 0 0 (pV T N R (fun I9 L9 => (∀ a4, R r0 4 = some a4 → ∀ r : Nat, r ≠ n4.toNatClampNeg → r ≠ 45 → r ≠ 46 → r ≠ 47 → I9 a4 r = I a4 r) ∧ (IM R r0 I9 ∧ CM A R r0 [] [4, 5] I L I9 L9))) := by
  refine ⟨_, rfl, Nat.le_of_ble_eq_true rfl, fun V C S => ?_⟩
  show V 0 [(0, .ref r0), (1, .int n1), (2, .int n2), (3, .int n3), (4, .int n4)] [] (T, N, I, L, R) 0 0
  have gn1 := rg n1
  have gn2 := rg n2
  have gn3 := rg n3
  have gn4 := rg n4
  obtain ⟨T_r0, A_r0, ⟨r0_1, R_r0_1, H_r0_1⟩, ⟨r0_2, R_r0_2, H_r0_2⟩, ⟨r0_4, R_r0_4, H_r0_4⟩, ⟨r0_5, R_r0_5, H_r0_5⟩, ⟨r0_10, R_r0_10, H_r0_10⟩, ⟨r0_18, R_r0_18, H_r0_18⟩, ⟨r0_20, R_r0_20, H_r0_20⟩, ⟨r0_21, R_r0_21, H_r0_21⟩, ⟨r0_22, R_r0_22, H_r0_22⟩, ⟨r0_23, R_r0_23, H_r0_23⟩, ⟨r0_25, R_r0_25, H_r0_25⟩, ⟨r0_26, R_r0_26, H_r0_26⟩, ⟨r0_27, R_r0_27, H_r0_27⟩, ⟨r0_28, R_r0_28, H_r0_28⟩, ⟨r0_34, R_r0_34, H_r0_34⟩, J_r0, Y_r0⟩ := id H_r0
  have G_r0 : mF T R r0 := ⟨J_r0, Y_r0, T_r0⟩
  obtain ⟨w_r0_4_n1, k0_r0_4_n1⟩ : ∃ x, I r0_4 n1.toNatClampNeg = x := ⟨_, rfl⟩
  have gw_r0_4_n1 := rg w_r0_4_n1
  have ow_r0_4_n1 := IM.dgR hI R_r0_4 k0_r0_4_n1
  obtain ⟨w_r0_4_n2, k0_r0_4_n2⟩ : ∃ x, I r0_4 n2.toNatClampNeg = x := ⟨_, rfl⟩
  have gw_r0_4_n2 := rg w_r0_4_n2
  have ow_r0_4_n2 := IM.dgR hI R_r0_4 k0_r0_4_n2
  have hp0 := hp0 r0_4 R_r0_4
  have hp1 := hp1 r0_4 R_r0_4
  have hp2 := hp2 r0_4 R_r0_4
  try simp only [k0_r0_4_n1, k0_r0_4_n2] at hp0
  try simp only [k0_r0_4_n1, k0_r0_4_n2] at hp1
  try simp only [k0_r0_4_n1, k0_r0_4_n2] at hp2
  refine k_aload_n C rfl rfl rfl ?_
  refine k_iload C rfl rfl rfl ?_
  refine k_aload_n C rfl rfl rfl ?_
  refine g_R C rfl rfl rfl T_r0 rfl R_r0_4 ?_
  refine k_iload_n C rfl rfl rfl ?_
  obtain ⟨T_r0_4, N_r0_4, A_r0_4⟩ := id H_r0_4
  refine a_I C rfl rfl T_r0_4 (by rw [N_r0_4]; exact vpi (by omega) (by omega)) k0_r0_4_n1 ?_
  refine k_aload_n C rfl rfl rfl ?_
  refine g_R C rfl rfl rfl T_r0 rfl R_r0_4 ?_
  refine k_iload_n C rfl rfl rfl ?_
  refine a_I C rfl rfl T_r0_4 (by rw [N_r0_4]; exact vpi (by omega) (by omega)) k0_r0_4_n2 ?_
  refine z_iadd C rfl rfl ⟨by omega, by omega⟩ (fun x1 ex1 => ?_)
  refine z_iconst C (z := 2) rfl rfl rfl (fun x2 ex2 => ?_)
  refine k_iload_n C rfl rfl rfl ?_
  refine z_imulL C (c := 2) rfl rfl (by omega) ⟨by omega, by omega⟩ (fun x3 ex3 => ?_)
  refine z_isub C rfl rfl ⟨by omega, by omega⟩ (fun x4 ex4 => ?_)
  refine c_VV C (a_X12_clears hI H_r0 (by omega) (by omega) (by omega) (by omega)) rfl rfl rfl rfl rfl ⟨_, rfl, rfl, T_r0, Nat.le_of_ble_eq_true rfl⟩ rfl rfl (Nat.le_of_ble_eq_true rfl) (Nat.le_of_ble_eq_true rfl) (Nat.le_of_ble_eq_true rfl) ?_
  rintro I6 L7 ⟨p0v5, p1v5, hI6, S8⟩
  have p0v5 := p0v5 r0_4 R_r0_4
  have p1v5 := p1v5 r0_4 R_r0_4
  have F9 : ∀ r : Nat, r ≠ n4.toNatClampNeg → r ≠ 45 → r ≠ 46 → r ≠ 47 → I6 r0_4 r = I r0_4 r := fun r z0 z1 z2 z3 => p1v5 r (by first | exact z0 | exact z1 | exact z2 | exact z3)
  have e10 := (p1v5 n1.toNatClampNeg (by first | decide | exact ncne (by omega) (by omega) (by omega) | exact nckn (by omega) (by omega) | exact (nckn (by omega) (by omega)).symm)).trans k0_r0_4_n1
  have e11 := (p1v5 n2.toNatClampNeg (by first | decide | exact ncne (by omega) (by omega) (by omega) | exact nckn (by omega) (by omega) | exact (nckn (by omega) (by omega)).symm)).trans k0_r0_4_n2
  obtain ⟨x12, e13⟩ : ∃ x, I6 r0_4 n4.toNatClampNeg = x := ⟨_, rfl⟩
  have gx12 := rg x12
  have ox12 := IM.dgR hI6 R_r0_4 e13
  try simp only [k0_r0_4_n1, k0_r0_4_n2, e13] at p0v5
  try have q0v5 := congrArg Int32.toInt p0v5
  refine z_iconst C (z := 0) rfl rfl rfl (fun x14 ex14 => ?_)
  have J15 : ∀ (nn16 : Nat) (I17 : IT) (L18 : LT) (x19 : Int32), ((41 - x19.toInt).toNat = nn16) → (IM R r0 I17) → (CM A R r0 [] [4, 5] I6 L7 I17 L18) → (∀ r : Nat, r ≠ n4.toNatClampNeg → r ≠ 45 → r ≠ 46 → r ≠ 47 → I17 r0_4 r = I6 r0_4 r) → (0 ≤ x19.toInt) → (x19.toInt ≤ 41) → V 26 [(0, .ref r0), (1, .int n1), (2, .int n2), (3, .int n3), (4, .int n4), (5, .int x19)] [] (T, N, I17, L18, R) 0 0 := by
    intro nn16
    induction nn16 using Nat.strongRecOn with
    | _ nn16 ihJ15 =>
      intro I17 L18 x19 hmnn16 hI23 S22 F24 b20 b21
      have gx19 := rg x19
      have e25 := (F24 n1.toNatClampNeg (by first | decide | exact ncne (by omega) (by omega) (by omega) | exact nckn (by omega) (by omega) | exact (nckn (by omega) (by omega)).symm) (by first | decide | exact ncne (by omega) (by omega) (by omega) | exact nckn (by omega) (by omega) | exact (nckn (by omega) (by omega)).symm) (by first | decide | exact ncne (by omega) (by omega) (by omega) | exact nckn (by omega) (by omega) | exact (nckn (by omega) (by omega)).symm) (by first | decide | exact ncne (by omega) (by omega) (by omega) | exact nckn (by omega) (by omega) | exact (nckn (by omega) (by omega)).symm)).trans e10
      have e26 := (F24 n2.toNatClampNeg (by first | decide | exact ncne (by omega) (by omega) (by omega) | exact nckn (by omega) (by omega) | exact (nckn (by omega) (by omega)).symm) (by first | decide | exact ncne (by omega) (by omega) (by omega) | exact nckn (by omega) (by omega) | exact (nckn (by omega) (by omega)).symm) (by first | decide | exact ncne (by omega) (by omega) (by omega) | exact nckn (by omega) (by omega) | exact (nckn (by omega) (by omega)).symm) (by first | decide | exact ncne (by omega) (by omega) (by omega) | exact nckn (by omega) (by omega) | exact (nckn (by omega) (by omega)).symm)).trans e11
      refine k_iload C rfl rfl rfl ?_
      refine k_iload_n C rfl rfl rfl ?_
      refine b_icmp_gt C (t := 160) rfl rfl rfl (fun c27 => ?_) (fun c27 => ?_)
      · skip
        exact k_vret C rfl rfl (Nat.le_of_ble_eq_true rfl) (Nat.le_of_ble_eq_true rfl) ⟨_, _, rfl, rfl, fun a4 h4 => by cases (R_r0_4.symm.trans h4); exact (fun r z0 z1 z2 z3 => ((F24 r z0 z1 z2 z3).trans (F9 r z0 z1 z2 z3))), hI23, (CM.cons S8 (CM.mono S22 (by decide) (by decide)) (by decide) (by decide))⟩
      refine k_aload_n C rfl rfl rfl ?_
      refine k_iload_n C rfl rfl rfl ?_
      refine k_iload_n C rfl rfl rfl ?_
      refine k_iload C rfl rfl rfl ?_
      refine z_isub C rfl rfl ⟨by omega, by omega⟩ (fun x28 ex28 => ?_)
      refine k_iload C rfl rfl rfl ?_
      refine z_bipush C (z := 45) rfl rfl rfl (fun x29 ex29 => ?_)
      have q30 : x29.toNatClampNeg = 45 := nck (by omega)
      refine c_VV C (a_X12_differentiates hI23 H_r0 (by omega) (by omega) (by omega) (by omega) (by omega) (by omega) (by omega) (by omega) (by first | omega | (simp only [q30, e25, e26] <;> omega)) (fun a4 h4 => by cases (R_r0_4.symm.trans h4); first | omega | (simp only [q30, e25, e26] <;> omega))) rfl rfl rfl rfl rfl ⟨_, rfl, rfl, T_r0, Nat.le_of_ble_eq_true rfl⟩ rfl rfl (Nat.le_of_ble_eq_true rfl) (Nat.le_of_ble_eq_true rfl) (Nat.le_of_ble_eq_true rfl) ?_
      rintro I32 L33 ⟨p0v31, p1v31, hI32, S34⟩
      have p0v31 := p0v31 r0_4 R_r0_4
      have p1v31 := p1v31 r0_4 R_r0_4
      try simp only [q30] at p1v31
      have F35 : ∀ r : Nat, r ≠ n4.toNatClampNeg → r ≠ 45 → r ≠ 46 → r ≠ 47 → I32 r0_4 r = I17 r0_4 r := fun r z0 z1 z2 z3 => p1v31 r (by first | exact z0 | exact z1 | exact z2 | exact z3)
      have e36 := (p1v31 n1.toNatClampNeg (by first | decide | exact ncne (by omega) (by omega) (by omega) | exact nckn (by omega) (by omega) | exact (nckn (by omega) (by omega)).symm)).trans e25
      have e37 := (p1v31 n2.toNatClampNeg (by first | decide | exact ncne (by omega) (by omega) (by omega) | exact nckn (by omega) (by omega) | exact (nckn (by omega) (by omega)).symm)).trans e26
      obtain ⟨x38, e39⟩ : ∃ x, I32 r0_4 45 = x := ⟨_, rfl⟩
      have gx38 := rg x38
      have ox38 := IM.dgR hI32 R_r0_4 e39
      try simp only [q30, e25, e26, e39] at p0v31
      try have q0v31 := congrArg Int32.toInt p0v31
      refine k_aload_n C rfl rfl rfl ?_
      refine k_iload_n C rfl rfl rfl ?_
      refine k_iload C rfl rfl rfl ?_
      refine k_iload_n C rfl rfl rfl ?_
      refine k_iload C rfl rfl rfl ?_
      refine z_isub C rfl rfl ⟨by omega, by omega⟩ (fun x40 ex40 => ?_)
      refine z_bipush C (z := 46) rfl rfl rfl (fun x41 ex41 => ?_)
      have q42 : x41.toNatClampNeg = 46 := nck (by omega)
      refine c_VV C (a_X12_differentiates hI32 H_r0 (by omega) (by omega) (by omega) (by omega) (by omega) (by omega) (by omega) (by omega) (by first | omega | (simp only [q42, e36, e37, e39] <;> omega)) (fun a4 h4 => by cases (R_r0_4.symm.trans h4); first | omega | (simp only [q42, e36, e37, e39] <;> omega))) rfl rfl rfl rfl rfl ⟨_, rfl, rfl, T_r0, Nat.le_of_ble_eq_true rfl⟩ rfl rfl (Nat.le_of_ble_eq_true rfl) (Nat.le_of_ble_eq_true rfl) (Nat.le_of_ble_eq_true rfl) ?_
      rintro I44 L45 ⟨p0v43, p1v43, hI44, S46⟩
      have p0v43 := p0v43 r0_4 R_r0_4
      have p1v43 := p1v43 r0_4 R_r0_4
      try simp only [q42] at p1v43
      have F47 : ∀ r : Nat, r ≠ n4.toNatClampNeg → r ≠ 45 → r ≠ 46 → r ≠ 47 → I44 r0_4 r = I32 r0_4 r := fun r z0 z1 z2 z3 => p1v43 r (by first | exact z0 | exact z1 | exact z2 | exact z3)
      have e48 := (p1v43 n1.toNatClampNeg (by first | decide | exact ncne (by omega) (by omega) (by omega) | exact nckn (by omega) (by omega) | exact (nckn (by omega) (by omega)).symm)).trans e36
      have e49 := (p1v43 n2.toNatClampNeg (by first | decide | exact ncne (by omega) (by omega) (by omega) | exact nckn (by omega) (by omega) | exact (nckn (by omega) (by omega)).symm)).trans e37
      have e50 := (p1v43 45 (by first | decide | exact ncne (by omega) (by omega) (by omega) | exact nckn (by omega) (by omega) | exact (nckn (by omega) (by omega)).symm)).trans e39
      obtain ⟨x51, e52⟩ : ∃ x, I44 r0_4 46 = x := ⟨_, rfl⟩
      have gx51 := rg x51
      have ox51 := IM.dgR hI44 R_r0_4 e52
      try simp only [q42, e36, e37, e39, e52] at p0v43
      try have q0v43 := congrArg Int32.toInt p0v43
      refine k_aload_n C rfl rfl rfl ?_
      refine z_bipush C (z := 45) rfl rfl rfl (fun x53 ex53 => ?_)
      refine z_bipush C (z := 46) rfl rfl rfl (fun x54 ex54 => ?_)
      refine z_bipush C (z := 47) rfl rfl rfl (fun x55 ex55 => ?_)
      have q56 : x53.toNatClampNeg = 45 := nck (by omega)
      have q57 : x54.toNatClampNeg = 46 := nck (by omega)
      have q58 : x55.toNatClampNeg = 47 := nck (by omega)
      refine c_VV C (a_X12_multiplies hI44 H_r0 (by omega) (by omega) (by omega) (by omega) (by omega) (by omega) (by first | omega | (simp only [q56, q57, q58, e48, e49, e50, e52] <;> omega)) (by first | omega | (simp only [q56, q57, q58, e48, e49, e50, e52] <;> omega)) (fun a4 h4 => by cases (R_r0_4.symm.trans h4); first | omega | (simp only [q56, q57, q58, e48, e49, e50, e52] <;> omega))) rfl rfl rfl rfl rfl ⟨_, rfl, rfl, T_r0, Nat.le_of_ble_eq_true rfl⟩ rfl rfl (Nat.le_of_ble_eq_true rfl) (Nat.le_of_ble_eq_true rfl) (Nat.le_of_ble_eq_true rfl) ?_
      rintro I60 L61 ⟨p0v59, hI60, S62⟩
      have p0v59 := p0v59 r0_4 R_r0_4
      try simp only [q56, q57, q58] at p0v59
      have F63 : ∀ r : Nat, r ≠ n4.toNatClampNeg → r ≠ 45 → r ≠ 46 → r ≠ 47 → I60 r0_4 r = I44 r0_4 r := fun r z0 z1 z2 z3 => p0v59 r (by first | exact z0 | exact z1 | exact z2 | exact z3)
      have e64 := (p0v59 n1.toNatClampNeg (by first | decide | exact ncne (by omega) (by omega) (by omega) | exact nckn (by omega) (by omega) | exact (nckn (by omega) (by omega)).symm)).trans e48
      have e65 := (p0v59 n2.toNatClampNeg (by first | decide | exact ncne (by omega) (by omega) (by omega) | exact nckn (by omega) (by omega) | exact (nckn (by omega) (by omega)).symm)).trans e49
      have e66 := (p0v59 45 (by first | decide | exact ncne (by omega) (by omega) (by omega) | exact nckn (by omega) (by omega) | exact (nckn (by omega) (by omega)).symm)).trans e50
      have e67 := (p0v59 46 (by first | decide | exact ncne (by omega) (by omega) (by omega) | exact nckn (by omega) (by omega) | exact (nckn (by omega) (by omega)).symm)).trans e52
      refine k_aload_n C rfl rfl rfl ?_
      refine k_iload C rfl rfl rfl ?_
      refine z_iconst C (z := 2) rfl rfl rfl (fun x68 ex68 => ?_)
      refine z_iremR C (c := 2) rfl rfl (by omega) (by omega) (by omega) (fun x69 ex69 => ?_)
      refine b_if_ne C (t := 86) rfl rfl rfl (fun c70 => ?_) (fun c70 => ?_)
      · skip
        refine k_iload_n C rfl rfl rfl ?_
        refine k_iload C rfl rfl rfl ?_
        refine c_SI C (a_X12_over (by omega) (by omega) (by omega) (by omega)) rfl rfl rfl rfl rfl rfl rfl (Nat.le_of_ble_eq_true rfl) (Nat.le_of_ble_eq_true rfl) (Nat.le_of_ble_eq_true rfl) ?_
        rintro x71 _ _ ⟨rfl, rfl⟩
        have gx71 := rg x71
        refine zt_ineg C rfl rfl (fun x72 => ?_)
        have gx72 := rg x72
        refine z_i2l C rfl rfl (fun lg73 elg73 => ?_)
        refine c_VI C (a_X12_mod hI60 H_r0) rfl rfl rfl rfl rfl ⟨_, rfl, rfl, T_r0, Nat.le_of_ble_eq_true rfl⟩ rfl rfl (Nat.le_of_ble_eq_true rfl) (Nat.le_of_ble_eq_true rfl) (Nat.le_of_ble_eq_true rfl) ?_
        rintro x74 _ _ ⟨o0x74, o1x74, rfl, rfl⟩
        have gx74 := rg x74
        refine k_istore C (lw := [(6, .int x74), (0, .ref r0), (1, .int n1), (2, .int n2), (3, .int n3), (4, .int n4), (5, .int x19)]) rfl rfl (Nat.le_of_ble_eq_true rfl) rfl ?_
        refine z_iconst C (z := 0) rfl rfl rfl (fun x75 ex75 => ?_)
        have J76 : ∀ (nn77 : Nat) (I78 : IT) (L79 : LT) (x80 : Int32), ((41 - x80.toInt).toNat = nn77) → (IM R r0 I78) → (CM A R r0 [] [5] I60 L61 I78 L79) → (0 ≤ x80.toInt) → (x80.toInt ≤ 41) → V 102 [(0, .ref r0), (1, .int n1), (2, .int n2), (3, .int n3), (4, .int n4), (5, .int x19), (6, .int x74), (7, .int x80)] [] (T, N, I78, L79, R) 0 0 := by
          intro nn77
          induction nn77 using Nat.strongRecOn with
          | _ nn77 ihJ76 =>
            intro I78 L79 x80 hmnn77 hI84 S83 b81 b82
            have gx80 := rg x80
            have e85 := CM.j S83 R_r0_4 (by decide) e64
            have e86 := CM.j S83 R_r0_4 (by decide) e65
            have e87 := CM.j S83 R_r0_4 (by decide) e66
            have e88 := CM.j S83 R_r0_4 (by decide) e67
            refine k_iload C rfl rfl rfl ?_
            refine k_aload_n C rfl rfl rfl ?_
            refine g_R C rfl rfl rfl T_r0 rfl R_r0_4 ?_
            refine k_iload C rfl rfl rfl ?_
            refine z_aI C rfl rfl T_r0_4 N_r0_4 (by omega) (by omega) (fun x89 ex89 => ?_)
            have gx89 := rg x89
            have ox89 := IM.dgR hI84 R_r0_4 ex89
            refine b_icmp_gt C (t := 154) rfl rfl rfl (fun c90 => ?_) (fun c90 => ?_)
            · skip
              refine z_iinc C (z := 1) (lw := fun x91 => [(5, .int x91), (0, .ref r0), (1, .int n1), (2, .int n2), (3, .int n3), (4, .int n4), (6, .int x74), (7, .int x80)]) rfl rfl rfl (Nat.le_of_ble_eq_true rfl) rfl ⟨by omega, by omega⟩ (fun _ => rfl) (fun x91 ex91 => ?_)
              show V 157 [(5, .int x91), (0, .ref r0), (1, .int n1), (2, .int n2), (3, .int n3), (4, .int n4), (6, .int x74), (7, .int x80)] _ _ _ _
              refine k_goto C (pc2 := 26) rfl rfl ?_
              refine k_sub S [(0, .ref r0), (1, .int n1), (2, .int n2), (3, .int n3), (4, .int n4), (5, .int x91)] (List.forall_mem_cons.mpr ⟨List.mem_of_getElem? (i := 1) rfl, List.forall_mem_cons.mpr ⟨List.mem_of_getElem? (i := 2) rfl, List.forall_mem_cons.mpr ⟨List.mem_of_getElem? (i := 3) rfl, List.forall_mem_cons.mpr ⟨List.mem_of_getElem? (i := 4) rfl, List.forall_mem_cons.mpr ⟨List.mem_of_getElem? (i := 5) rfl, List.forall_mem_cons.mpr ⟨List.mem_of_getElem? (i := 0) rfl, fun _ h => nomatch h⟩⟩⟩⟩⟩⟩) ?_
              exact ihJ15 _ (by omega) I78 L79 x91 rfl hI84 (CM.cons S22 (CM.cons S34 (CM.cons S46 (CM.cons S62 (CM.mono S83 (by decide) (by decide)) (by decide) (by decide)) (by decide) (by decide)) (by decide) (by decide)) (by decide) (by decide)) (fun r z0 z1 z2 z3 => ((congrFun (CM.j0 S83 R_r0_4 (by decide)) r).trans ((F63 r z0 z1 z2 z3).trans ((F47 r z0 z1 z2 z3).trans ((F35 r z0 z1 z2 z3).trans (F24 r z0 z1 z2 z3)))))) (by omega) (by omega)
            refine k_aload_n C rfl rfl rfl ?_
            refine k_iload C rfl rfl rfl ?_
            refine k_iload C rfl rfl rfl ?_
            refine k_aload_n C rfl rfl rfl ?_
            refine k_aload_n C rfl rfl rfl ?_
            refine k_iload C rfl rfl rfl ?_
            refine k_iload C rfl rfl rfl ?_
            refine c_VI C (a_X12_of hI84 H_r0 (by omega) (by omega) (by omega) (by omega)) rfl rfl rfl rfl rfl ⟨_, rfl, rfl, T_r0, Nat.le_of_ble_eq_true rfl⟩ rfl rfl (Nat.le_of_ble_eq_true rfl) (Nat.le_of_ble_eq_true rfl) (Nat.le_of_ble_eq_true rfl) ?_
            rintro x92 _ _ ⟨o0x92, o1x92, rfl, rfl⟩
            have gx92 := rg x92
            refine k_aload_n C rfl rfl rfl ?_
            refine k_iload C rfl rfl rfl ?_
            refine k_aload_n C rfl rfl rfl ?_
            refine z_bipush C (z := 47) rfl rfl rfl (fun x93 ex93 => ?_)
            refine k_iload C rfl rfl rfl ?_
            refine c_VI C (a_X12_of hI84 H_r0 (by omega) (by omega) (by omega) (by omega)) rfl rfl rfl rfl rfl ⟨_, rfl, rfl, T_r0, Nat.le_of_ble_eq_true rfl⟩ rfl rfl (Nat.le_of_ble_eq_true rfl) (Nat.le_of_ble_eq_true rfl) (Nat.le_of_ble_eq_true rfl) ?_
            rintro x94 _ _ ⟨o0x94, o1x94, rfl, rfl⟩
            have gx94 := rg x94
            refine c_VI C (a_X12_times hI84 H_r0) rfl rfl rfl rfl rfl ⟨_, rfl, rfl, T_r0, Nat.le_of_ble_eq_true rfl⟩ rfl rfl (Nat.le_of_ble_eq_true rfl) (Nat.le_of_ble_eq_true rfl) (Nat.le_of_ble_eq_true rfl) ?_
            rintro x95 _ _ ⟨o0x95, o1x95, rfl, rfl⟩
            have gx95 := rg x95
            refine c_VI C (a_X12_plus hI84 H_r0) rfl rfl rfl rfl rfl ⟨_, rfl, rfl, T_r0, Nat.le_of_ble_eq_true rfl⟩ rfl rfl (Nat.le_of_ble_eq_true rfl) (Nat.le_of_ble_eq_true rfl) (Nat.le_of_ble_eq_true rfl) ?_
            rintro x96 _ _ ⟨o0x96, o1x96, rfl, rfl⟩
            have gx96 := rg x96
            refine c_VV C (a_X12_put hI84 H_r0 (by omega) (by omega) (by omega) (by omega) (by omega) (by omega)) rfl rfl rfl rfl rfl ⟨_, rfl, rfl, T_r0, Nat.le_of_ble_eq_true rfl⟩ rfl rfl (Nat.le_of_ble_eq_true rfl) (Nat.le_of_ble_eq_true rfl) (Nat.le_of_ble_eq_true rfl) ?_
            rintro I98 L99 ⟨hI98, S100⟩
            have e101 := CM.j S100 R_r0_4 (by decide) e85
            have e102 := CM.j S100 R_r0_4 (by decide) e86
            have e103 := CM.j S100 R_r0_4 (by decide) e87
            have e104 := CM.j S100 R_r0_4 (by decide) e88
            have e105 := CM.j S100 R_r0_4 (by decide) ex89
            refine z_iinc C (z := 1) (lw := fun x106 => [(7, .int x106), (0, .ref r0), (1, .int n1), (2, .int n2), (3, .int n3), (4, .int n4), (5, .int x19), (6, .int x74)]) rfl rfl rfl (Nat.le_of_ble_eq_true rfl) rfl ⟨by omega, by omega⟩ (fun _ => rfl) (fun x106 ex106 => ?_)
            show V 151 [(7, .int x106), (0, .ref r0), (1, .int n1), (2, .int n2), (3, .int n3), (4, .int n4), (5, .int x19), (6, .int x74)] _ _ _ _
            refine k_goto C (pc2 := 102) rfl rfl ?_
            refine k_sub S [(0, .ref r0), (1, .int n1), (2, .int n2), (3, .int n3), (4, .int n4), (5, .int x19), (6, .int x74), (7, .int x106)] (List.forall_mem_cons.mpr ⟨List.mem_of_getElem? (i := 1) rfl, List.forall_mem_cons.mpr ⟨List.mem_of_getElem? (i := 2) rfl, List.forall_mem_cons.mpr ⟨List.mem_of_getElem? (i := 3) rfl, List.forall_mem_cons.mpr ⟨List.mem_of_getElem? (i := 4) rfl, List.forall_mem_cons.mpr ⟨List.mem_of_getElem? (i := 5) rfl, List.forall_mem_cons.mpr ⟨List.mem_of_getElem? (i := 6) rfl, List.forall_mem_cons.mpr ⟨List.mem_of_getElem? (i := 7) rfl, List.forall_mem_cons.mpr ⟨List.mem_of_getElem? (i := 0) rfl, fun _ h => nomatch h⟩⟩⟩⟩⟩⟩⟩⟩) ?_
            exact ihJ76 _ (by omega) I98 L99 x106 rfl hI98 (CM.cons S83 (CM.mono S100 (by decide) (by decide)) (by decide) (by decide)) (by omega) (by omega)
        refine k_istore C (lw := [(7, .int x75), (6, .int x74), (0, .ref r0), (1, .int n1), (2, .int n2), (3, .int n3), (4, .int n4), (5, .int x19)]) rfl rfl (Nat.le_of_ble_eq_true rfl) rfl ?_
        refine k_sub S [(0, .ref r0), (1, .int n1), (2, .int n2), (3, .int n3), (4, .int n4), (5, .int x19), (6, .int x74), (7, .int x75)] (List.forall_mem_cons.mpr ⟨List.mem_of_getElem? (i := 2) rfl, List.forall_mem_cons.mpr ⟨List.mem_of_getElem? (i := 3) rfl, List.forall_mem_cons.mpr ⟨List.mem_of_getElem? (i := 4) rfl, List.forall_mem_cons.mpr ⟨List.mem_of_getElem? (i := 5) rfl, List.forall_mem_cons.mpr ⟨List.mem_of_getElem? (i := 6) rfl, List.forall_mem_cons.mpr ⟨List.mem_of_getElem? (i := 7) rfl, List.forall_mem_cons.mpr ⟨List.mem_of_getElem? (i := 1) rfl, List.forall_mem_cons.mpr ⟨List.mem_of_getElem? (i := 0) rfl, fun _ h => nomatch h⟩⟩⟩⟩⟩⟩⟩⟩) ?_
        exact J76 _ I60 L61 x75 rfl hI60 CM.rf (by omega) (by omega)
      refine k_iload_n C rfl rfl rfl ?_
      refine k_iload C rfl rfl rfl ?_
      refine c_SI C (a_X12_over (by omega) (by omega) (by omega) (by omega)) rfl rfl rfl rfl rfl rfl rfl (Nat.le_of_ble_eq_true rfl) (Nat.le_of_ble_eq_true rfl) (Nat.le_of_ble_eq_true rfl) ?_
      rintro x107 _ _ ⟨rfl, rfl⟩
      have gx107 := rg x107
      refine z_i2l C rfl rfl (fun lg108 elg108 => ?_)
      refine k_goto C (pc2 := 94) rfl rfl ?_
      refine c_VI C (a_X12_mod hI60 H_r0) rfl rfl rfl rfl rfl ⟨_, rfl, rfl, T_r0, Nat.le_of_ble_eq_true rfl⟩ rfl rfl (Nat.le_of_ble_eq_true rfl) (Nat.le_of_ble_eq_true rfl) (Nat.le_of_ble_eq_true rfl) ?_
      rintro x109 _ _ ⟨o0x109, o1x109, rfl, rfl⟩
      have gx109 := rg x109
      refine k_istore C (lw := [(6, .int x109), (0, .ref r0), (1, .int n1), (2, .int n2), (3, .int n3), (4, .int n4), (5, .int x19)]) rfl rfl (Nat.le_of_ble_eq_true rfl) rfl ?_
      refine z_iconst C (z := 0) rfl rfl rfl (fun x110 ex110 => ?_)
      have J111 : ∀ (nn112 : Nat) (I113 : IT) (L114 : LT) (x115 : Int32), ((41 - x115.toInt).toNat = nn112) → (IM R r0 I113) → (CM A R r0 [] [5] I60 L61 I113 L114) → (0 ≤ x115.toInt) → (x115.toInt ≤ 41) → V 102 [(0, .ref r0), (1, .int n1), (2, .int n2), (3, .int n3), (4, .int n4), (5, .int x19), (6, .int x109), (7, .int x115)] [] (T, N, I113, L114, R) 0 0 := by
        intro nn112
        induction nn112 using Nat.strongRecOn with
        | _ nn112 ihJ111 =>
          intro I113 L114 x115 hmnn112 hI119 S118 b116 b117
          have gx115 := rg x115
          have e120 := CM.j S118 R_r0_4 (by decide) e64
          have e121 := CM.j S118 R_r0_4 (by decide) e65
          have e122 := CM.j S118 R_r0_4 (by decide) e66
          have e123 := CM.j S118 R_r0_4 (by decide) e67
          refine k_iload C rfl rfl rfl ?_
          refine k_aload_n C rfl rfl rfl ?_
          refine g_R C rfl rfl rfl T_r0 rfl R_r0_4 ?_
          refine k_iload C rfl rfl rfl ?_
          refine z_aI C rfl rfl T_r0_4 N_r0_4 (by omega) (by omega) (fun x124 ex124 => ?_)
          have gx124 := rg x124
          have ox124 := IM.dgR hI119 R_r0_4 ex124
          refine b_icmp_gt C (t := 154) rfl rfl rfl (fun c125 => ?_) (fun c125 => ?_)
          · skip
            refine z_iinc C (z := 1) (lw := fun x126 => [(5, .int x126), (0, .ref r0), (1, .int n1), (2, .int n2), (3, .int n3), (4, .int n4), (6, .int x109), (7, .int x115)]) rfl rfl rfl (Nat.le_of_ble_eq_true rfl) rfl ⟨by omega, by omega⟩ (fun _ => rfl) (fun x126 ex126 => ?_)
            show V 157 [(5, .int x126), (0, .ref r0), (1, .int n1), (2, .int n2), (3, .int n3), (4, .int n4), (6, .int x109), (7, .int x115)] _ _ _ _
            refine k_goto C (pc2 := 26) rfl rfl ?_
            refine k_sub S [(0, .ref r0), (1, .int n1), (2, .int n2), (3, .int n3), (4, .int n4), (5, .int x126)] (List.forall_mem_cons.mpr ⟨List.mem_of_getElem? (i := 1) rfl, List.forall_mem_cons.mpr ⟨List.mem_of_getElem? (i := 2) rfl, List.forall_mem_cons.mpr ⟨List.mem_of_getElem? (i := 3) rfl, List.forall_mem_cons.mpr ⟨List.mem_of_getElem? (i := 4) rfl, List.forall_mem_cons.mpr ⟨List.mem_of_getElem? (i := 5) rfl, List.forall_mem_cons.mpr ⟨List.mem_of_getElem? (i := 0) rfl, fun _ h => nomatch h⟩⟩⟩⟩⟩⟩) ?_
            exact ihJ15 _ (by omega) I113 L114 x126 rfl hI119 (CM.cons S22 (CM.cons S34 (CM.cons S46 (CM.cons S62 (CM.mono S118 (by decide) (by decide)) (by decide) (by decide)) (by decide) (by decide)) (by decide) (by decide)) (by decide) (by decide)) (fun r z0 z1 z2 z3 => ((congrFun (CM.j0 S118 R_r0_4 (by decide)) r).trans ((F63 r z0 z1 z2 z3).trans ((F47 r z0 z1 z2 z3).trans ((F35 r z0 z1 z2 z3).trans (F24 r z0 z1 z2 z3)))))) (by omega) (by omega)
          refine k_aload_n C rfl rfl rfl ?_
          refine k_iload C rfl rfl rfl ?_
          refine k_iload C rfl rfl rfl ?_
          refine k_aload_n C rfl rfl rfl ?_
          refine k_aload_n C rfl rfl rfl ?_
          refine k_iload C rfl rfl rfl ?_
          refine k_iload C rfl rfl rfl ?_
          refine c_VI C (a_X12_of hI119 H_r0 (by omega) (by omega) (by omega) (by omega)) rfl rfl rfl rfl rfl ⟨_, rfl, rfl, T_r0, Nat.le_of_ble_eq_true rfl⟩ rfl rfl (Nat.le_of_ble_eq_true rfl) (Nat.le_of_ble_eq_true rfl) (Nat.le_of_ble_eq_true rfl) ?_
          rintro x127 _ _ ⟨o0x127, o1x127, rfl, rfl⟩
          have gx127 := rg x127
          refine k_aload_n C rfl rfl rfl ?_
          refine k_iload C rfl rfl rfl ?_
          refine k_aload_n C rfl rfl rfl ?_
          refine z_bipush C (z := 47) rfl rfl rfl (fun x128 ex128 => ?_)
          refine k_iload C rfl rfl rfl ?_
          refine c_VI C (a_X12_of hI119 H_r0 (by omega) (by omega) (by omega) (by omega)) rfl rfl rfl rfl rfl ⟨_, rfl, rfl, T_r0, Nat.le_of_ble_eq_true rfl⟩ rfl rfl (Nat.le_of_ble_eq_true rfl) (Nat.le_of_ble_eq_true rfl) (Nat.le_of_ble_eq_true rfl) ?_
          rintro x129 _ _ ⟨o0x129, o1x129, rfl, rfl⟩
          have gx129 := rg x129
          refine c_VI C (a_X12_times hI119 H_r0) rfl rfl rfl rfl rfl ⟨_, rfl, rfl, T_r0, Nat.le_of_ble_eq_true rfl⟩ rfl rfl (Nat.le_of_ble_eq_true rfl) (Nat.le_of_ble_eq_true rfl) (Nat.le_of_ble_eq_true rfl) ?_
          rintro x130 _ _ ⟨o0x130, o1x130, rfl, rfl⟩
          have gx130 := rg x130
          refine c_VI C (a_X12_plus hI119 H_r0) rfl rfl rfl rfl rfl ⟨_, rfl, rfl, T_r0, Nat.le_of_ble_eq_true rfl⟩ rfl rfl (Nat.le_of_ble_eq_true rfl) (Nat.le_of_ble_eq_true rfl) (Nat.le_of_ble_eq_true rfl) ?_
          rintro x131 _ _ ⟨o0x131, o1x131, rfl, rfl⟩
          have gx131 := rg x131
          refine c_VV C (a_X12_put hI119 H_r0 (by omega) (by omega) (by omega) (by omega) (by omega) (by omega)) rfl rfl rfl rfl rfl ⟨_, rfl, rfl, T_r0, Nat.le_of_ble_eq_true rfl⟩ rfl rfl (Nat.le_of_ble_eq_true rfl) (Nat.le_of_ble_eq_true rfl) (Nat.le_of_ble_eq_true rfl) ?_
          rintro I133 L134 ⟨hI133, S135⟩
          have e136 := CM.j S135 R_r0_4 (by decide) e120
          have e137 := CM.j S135 R_r0_4 (by decide) e121
          have e138 := CM.j S135 R_r0_4 (by decide) e122
          have e139 := CM.j S135 R_r0_4 (by decide) e123
          have e140 := CM.j S135 R_r0_4 (by decide) ex124
          refine z_iinc C (z := 1) (lw := fun x141 => [(7, .int x141), (0, .ref r0), (1, .int n1), (2, .int n2), (3, .int n3), (4, .int n4), (5, .int x19), (6, .int x109)]) rfl rfl rfl (Nat.le_of_ble_eq_true rfl) rfl ⟨by omega, by omega⟩ (fun _ => rfl) (fun x141 ex141 => ?_)
          show V 151 [(7, .int x141), (0, .ref r0), (1, .int n1), (2, .int n2), (3, .int n3), (4, .int n4), (5, .int x19), (6, .int x109)] _ _ _ _
          refine k_goto C (pc2 := 102) rfl rfl ?_
          refine k_sub S [(0, .ref r0), (1, .int n1), (2, .int n2), (3, .int n3), (4, .int n4), (5, .int x19), (6, .int x109), (7, .int x141)] (List.forall_mem_cons.mpr ⟨List.mem_of_getElem? (i := 1) rfl, List.forall_mem_cons.mpr ⟨List.mem_of_getElem? (i := 2) rfl, List.forall_mem_cons.mpr ⟨List.mem_of_getElem? (i := 3) rfl, List.forall_mem_cons.mpr ⟨List.mem_of_getElem? (i := 4) rfl, List.forall_mem_cons.mpr ⟨List.mem_of_getElem? (i := 5) rfl, List.forall_mem_cons.mpr ⟨List.mem_of_getElem? (i := 6) rfl, List.forall_mem_cons.mpr ⟨List.mem_of_getElem? (i := 7) rfl, List.forall_mem_cons.mpr ⟨List.mem_of_getElem? (i := 0) rfl, fun _ h => nomatch h⟩⟩⟩⟩⟩⟩⟩⟩) ?_
          exact ihJ111 _ (by omega) I133 L134 x141 rfl hI133 (CM.cons S118 (CM.mono S135 (by decide) (by decide)) (by decide) (by decide)) (by omega) (by omega)
      refine k_istore C (lw := [(7, .int x110), (6, .int x109), (0, .ref r0), (1, .int n1), (2, .int n2), (3, .int n3), (4, .int n4), (5, .int x19)]) rfl rfl (Nat.le_of_ble_eq_true rfl) rfl ?_
      refine k_sub S [(0, .ref r0), (1, .int n1), (2, .int n2), (3, .int n3), (4, .int n4), (5, .int x19), (6, .int x109), (7, .int x110)] (List.forall_mem_cons.mpr ⟨List.mem_of_getElem? (i := 2) rfl, List.forall_mem_cons.mpr ⟨List.mem_of_getElem? (i := 3) rfl, List.forall_mem_cons.mpr ⟨List.mem_of_getElem? (i := 4) rfl, List.forall_mem_cons.mpr ⟨List.mem_of_getElem? (i := 5) rfl, List.forall_mem_cons.mpr ⟨List.mem_of_getElem? (i := 6) rfl, List.forall_mem_cons.mpr ⟨List.mem_of_getElem? (i := 7) rfl, List.forall_mem_cons.mpr ⟨List.mem_of_getElem? (i := 1) rfl, List.forall_mem_cons.mpr ⟨List.mem_of_getElem? (i := 0) rfl, fun _ h => nomatch h⟩⟩⟩⟩⟩⟩⟩⟩) ?_
      exact J111 _ I60 L61 x110 rfl hI60 CM.rf (by omega) (by omega)
  refine k_istore C (lw := [(5, .int x14), (0, .ref r0), (1, .int n1), (2, .int n2), (3, .int n3), (4, .int n4)]) rfl rfl (Nat.le_of_ble_eq_true rfl) rfl ?_
  refine k_sub S [(0, .ref r0), (1, .int n1), (2, .int n2), (3, .int n3), (4, .int n4), (5, .int x14)] (List.forall_mem_cons.mpr ⟨List.mem_of_getElem? (i := 1) rfl, List.forall_mem_cons.mpr ⟨List.mem_of_getElem? (i := 2) rfl, List.forall_mem_cons.mpr ⟨List.mem_of_getElem? (i := 3) rfl, List.forall_mem_cons.mpr ⟨List.mem_of_getElem? (i := 4) rfl, List.forall_mem_cons.mpr ⟨List.mem_of_getElem? (i := 5) rfl, List.forall_mem_cons.mpr ⟨List.mem_of_getElem? (i := 0) rfl, fun _ h => nomatch h⟩⟩⟩⟩⟩⟩) ?_
  exact J15 _ I6 L7 x14 rfl hI6 CM.rf (fun r z0 z1 z2 z3 => rfl) (by omega) (by omega)

theorem a_X12_takesTable {d : Nat} {T N : Nat → Nat} {I : IT} {L : LT} {R : RT} {A : Nat → Prop} {r0 : Nat} {n1 n2 n3 n4 : Int32} (hI : IM R r0 I) (H_r0 : (h_MD T N R A) r0) : Ex (d + 1) 210 [.ref r0, .int n1, .int n2, .int n3, .int n4] (T, N, I, L, R) 0 0 (pV T N R (fun I9 L9 => (IM R r0 I9 ∧ CM A R r0 [6, 7, 8, 9] [] I L I9 L9))) := by
  refine ⟨_, rfl, Nat.le_of_ble_eq_true rfl, fun V C S => ?_⟩
  show V 0 [(0, .ref r0), (1, .int n1), (2, .int n2), (3, .int n3), (4, .int n4)] [] (T, N, I, L, R) 0 0
  have gn1 := rg n1
  have gn2 := rg n2
  have gn3 := rg n3
  have gn4 := rg n4
  obtain ⟨T_r0, A_r0, ⟨r0_1, R_r0_1, H_r0_1⟩, ⟨r0_2, R_r0_2, H_r0_2⟩, ⟨r0_4, R_r0_4, H_r0_4⟩, ⟨r0_5, R_r0_5, H_r0_5⟩, ⟨r0_10, R_r0_10, H_r0_10⟩, ⟨r0_18, R_r0_18, H_r0_18⟩, ⟨r0_20, R_r0_20, H_r0_20⟩, ⟨r0_21, R_r0_21, H_r0_21⟩, ⟨r0_22, R_r0_22, H_r0_22⟩, ⟨r0_23, R_r0_23, H_r0_23⟩, ⟨r0_25, R_r0_25, H_r0_25⟩, ⟨r0_26, R_r0_26, H_r0_26⟩, ⟨r0_27, R_r0_27, H_r0_27⟩, ⟨r0_28, R_r0_28, H_r0_28⟩, ⟨r0_34, R_r0_34, H_r0_34⟩, J_r0, Y_r0⟩ := id H_r0
  have G_r0 : mF T R r0 := ⟨J_r0, Y_r0, T_r0⟩
  refine k_aload_n C rfl rfl rfl ?_
  refine k_iload_n C rfl rfl rfl ?_
  refine z_pI C rfl rfl rfl T_r0 (Or.inr rfl) rfl (fun I1 uI1 => ?_)
  have hI1 : IM R r0 I1 := IM.fld hI G_r0 (by decide) (fun h => absurd h (by decide)) uI1
  have S2 : CM A R r0 [6] [] I L I1 L := CM.f G_r0 A_r0 uI1
  have e3 := u2_e uI1
  refine k_aload_n C rfl rfl rfl ?_
  refine k_iload_n C rfl rfl rfl ?_
  refine z_pI C rfl rfl rfl T_r0 (Or.inr rfl) rfl (fun I4 uI4 => ?_)
  have hI4 : IM R r0 I4 := IM.fld hI1 G_r0 (by decide) (fun h => absurd h (by decide)) uI4
  have S5 : CM A R r0 [7] [] I1 L I4 L := CM.f G_r0 A_r0 uI4
  have e6 := u2_j uI4 (by first | decide | exact ncne (by omega) (by omega) (by omega) | exact nckn (by omega) (by omega) | exact (nckn (by omega) (by omega)).symm) e3
  have e7 := u2_e uI4
  refine k_aload_n C rfl rfl rfl ?_
  refine k_iload_n C rfl rfl rfl ?_
  refine z_pI C rfl rfl rfl T_r0 (Or.inr rfl) rfl (fun I8 uI8 => ?_)
  have hI8 : IM R r0 I8 := IM.fld hI4 G_r0 (by decide) (fun h => absurd h (by decide)) uI8
  have S9 : CM A R r0 [8] [] I4 L I8 L := CM.f G_r0 A_r0 uI8
  have e10 := u2_j uI8 (by first | decide | exact ncne (by omega) (by omega) (by omega) | exact nckn (by omega) (by omega) | exact (nckn (by omega) (by omega)).symm) e6
  have e11 := u2_j uI8 (by first | decide | exact ncne (by omega) (by omega) (by omega) | exact nckn (by omega) (by omega) | exact (nckn (by omega) (by omega)).symm) e7
  have e12 := u2_e uI8
  refine k_aload_n C rfl rfl rfl ?_
  refine k_iload C rfl rfl rfl ?_
  refine z_pI C rfl rfl rfl T_r0 (Or.inr rfl) rfl (fun I13 uI13 => ?_)
  have hI13 : IM R r0 I13 := IM.fld hI8 G_r0 (by decide) (fun h => absurd h (by decide)) uI13
  have S14 : CM A R r0 [9] [] I8 L I13 L := CM.f G_r0 A_r0 uI13
  have e15 := u2_j uI13 (by first | decide | exact ncne (by omega) (by omega) (by omega) | exact nckn (by omega) (by omega) | exact (nckn (by omega) (by omega)).symm) e10
  have e16 := u2_j uI13 (by first | decide | exact ncne (by omega) (by omega) (by omega) | exact nckn (by omega) (by omega) | exact (nckn (by omega) (by omega)).symm) e11
  have e17 := u2_j uI13 (by first | decide | exact ncne (by omega) (by omega) (by omega) | exact nckn (by omega) (by omega) | exact (nckn (by omega) (by omega)).symm) e12
  have e18 := u2_e uI13
  exact k_vret C rfl rfl (Nat.le_of_ble_eq_true rfl) (Nat.le_of_ble_eq_true rfl) ⟨_, _, rfl, rfl, hI13, (CM.cons S2 (CM.cons S5 (CM.cons S9 (CM.mono S14 (by decide) (by decide)) (by decide) (by decide)) (by decide) (by decide)) (by decide) (by decide))⟩

theorem a_X12_tables {d : Nat} {T N : Nat → Nat} {I : IT} {L : LT} {R : RT} {A : Nat → Prop} {r0 : Nat} {n1 : Int32} (hI : IM R r0 I) (H_r0 : (h_MD T N R A) r0) (b0_n1 : 0 ≤ n1.toInt) (b1_n1 : n1.toInt ≤ 7) : Ex (d + 2) 211 [.ref r0, .int n1] (T, N, I, L, R) 0 0 (pV T N R (fun I9 L9 => (IM R r0 I9 ∧ CM A R r0 [6, 7, 8, 9] [] I L I9 L9))) := by
  refine ⟨_, rfl, Nat.le_of_ble_eq_true rfl, fun V C S => ?_⟩
  show V 0 [(0, .ref r0), (1, .int n1)] [] (T, N, I, L, R) 0 0
  have gn1 := rg n1
  obtain ⟨T_r0, A_r0, ⟨r0_1, R_r0_1, H_r0_1⟩, ⟨r0_2, R_r0_2, H_r0_2⟩, ⟨r0_4, R_r0_4, H_r0_4⟩, ⟨r0_5, R_r0_5, H_r0_5⟩, ⟨r0_10, R_r0_10, H_r0_10⟩, ⟨r0_18, R_r0_18, H_r0_18⟩, ⟨r0_20, R_r0_20, H_r0_20⟩, ⟨r0_21, R_r0_21, H_r0_21⟩, ⟨r0_22, R_r0_22, H_r0_22⟩, ⟨r0_23, R_r0_23, H_r0_23⟩, ⟨r0_25, R_r0_25, H_r0_25⟩, ⟨r0_26, R_r0_26, H_r0_26⟩, ⟨r0_27, R_r0_27, H_r0_27⟩, ⟨r0_28, R_r0_28, H_r0_28⟩, ⟨r0_34, R_r0_34, H_r0_34⟩, J_r0, Y_r0⟩ := id H_r0
  have G_r0 : mF T R r0 := ⟨J_r0, Y_r0, T_r0⟩
  refine k_aload_n C rfl rfl rfl ?_
  refine k_aload_n C rfl rfl rfl ?_
  refine k_iload_n C rfl rfl rfl ?_
  refine z_iconst C (z := 0) rfl rfl rfl (fun x1 ex1 => ?_)
  refine c_VI C (a_X12_ofTable hI H_r0 (by omega) (by omega) (by omega) (by omega)) rfl rfl rfl rfl rfl ⟨_, rfl, rfl, T_r0, Nat.le_of_ble_eq_true rfl⟩ rfl rfl (Nat.le_of_ble_eq_true rfl) (Nat.le_of_ble_eq_true rfl) (Nat.le_of_ble_eq_true rfl) ?_
  rintro x2 _ _ ⟨o0x2, o1x2, rfl, rfl⟩
  have gx2 := rg x2
  refine k_aload_n C rfl rfl rfl ?_
  refine k_iload_n C rfl rfl rfl ?_
  refine z_iconst C (z := 1) rfl rfl rfl (fun x3 ex3 => ?_)
  refine c_VI C (a_X12_ofTable hI H_r0 (by omega) (by omega) (by omega) (by omega)) rfl rfl rfl rfl rfl ⟨_, rfl, rfl, T_r0, Nat.le_of_ble_eq_true rfl⟩ rfl rfl (Nat.le_of_ble_eq_true rfl) (Nat.le_of_ble_eq_true rfl) (Nat.le_of_ble_eq_true rfl) ?_
  rintro x4 _ _ ⟨o0x4, o1x4, rfl, rfl⟩
  have gx4 := rg x4
  refine k_aload_n C rfl rfl rfl ?_
  refine k_iload_n C rfl rfl rfl ?_
  refine z_iconst C (z := 2) rfl rfl rfl (fun x5 ex5 => ?_)
  refine c_VI C (a_X12_ofTable hI H_r0 (by omega) (by omega) (by omega) (by omega)) rfl rfl rfl rfl rfl ⟨_, rfl, rfl, T_r0, Nat.le_of_ble_eq_true rfl⟩ rfl rfl (Nat.le_of_ble_eq_true rfl) (Nat.le_of_ble_eq_true rfl) (Nat.le_of_ble_eq_true rfl) ?_
  rintro x6 _ _ ⟨o0x6, o1x6, rfl, rfl⟩
  have gx6 := rg x6
  refine k_aload_n C rfl rfl rfl ?_
  refine k_iload_n C rfl rfl rfl ?_
  refine z_iconst C (z := 3) rfl rfl rfl (fun x7 ex7 => ?_)
  refine c_VI C (a_X12_ofTable hI H_r0 (by omega) (by omega) (by omega) (by omega)) rfl rfl rfl rfl rfl ⟨_, rfl, rfl, T_r0, Nat.le_of_ble_eq_true rfl⟩ rfl rfl (Nat.le_of_ble_eq_true rfl) (Nat.le_of_ble_eq_true rfl) (Nat.le_of_ble_eq_true rfl) ?_
  rintro x8 _ _ ⟨o0x8, o1x8, rfl, rfl⟩
  have gx8 := rg x8
  refine c_VV C (a_X12_takesTable hI H_r0) rfl rfl rfl rfl rfl ⟨_, rfl, rfl, T_r0, Nat.le_of_ble_eq_true rfl⟩ rfl rfl (Nat.le_of_ble_eq_true rfl) (Nat.le_of_ble_eq_true rfl) (Nat.le_of_ble_eq_true rfl) ?_
  rintro I10 L11 ⟨hI10, S12⟩
  exact k_vret C rfl rfl (Nat.le_of_ble_eq_true rfl) (Nat.le_of_ble_eq_true rfl) ⟨_, _, rfl, rfl, hI10, (CM.mono S12 (by decide) (by decide))⟩

theorem a_X12_detNow {d : Nat} {T N : Nat → Nat} {I : IT} {L : LT} {R : RT} {A : Nat → Prop} {r0 : Nat} (hI : IM R r0 I) (H_r0 : (h_MD T N R A) r0) : Ex (d + 3) 212 [.ref r0] (T, N, I, L, R) 0 0 (pI T N R (fun x9 I9 L9 => (-18 ≤ x9.toInt) ∧ (x9.toInt ≤ 18) ∧ (I = I9 ∧ L = L9))) := by
  refine ⟨_, rfl, Nat.le_of_ble_eq_true rfl, fun V C S => ?_⟩
  show V 0 [(0, .ref r0)] [] (T, N, I, L, R) 0 0
  obtain ⟨T_r0, A_r0, ⟨r0_1, R_r0_1, H_r0_1⟩, ⟨r0_2, R_r0_2, H_r0_2⟩, ⟨r0_4, R_r0_4, H_r0_4⟩, ⟨r0_5, R_r0_5, H_r0_5⟩, ⟨r0_10, R_r0_10, H_r0_10⟩, ⟨r0_18, R_r0_18, H_r0_18⟩, ⟨r0_20, R_r0_20, H_r0_20⟩, ⟨r0_21, R_r0_21, H_r0_21⟩, ⟨r0_22, R_r0_22, H_r0_22⟩, ⟨r0_23, R_r0_23, H_r0_23⟩, ⟨r0_25, R_r0_25, H_r0_25⟩, ⟨r0_26, R_r0_26, H_r0_26⟩, ⟨r0_27, R_r0_27, H_r0_27⟩, ⟨r0_28, R_r0_28, H_r0_28⟩, ⟨r0_34, R_r0_34, H_r0_34⟩, J_r0, Y_r0⟩ := id H_r0
  have G_r0 : mF T R r0 := ⟨J_r0, Y_r0, T_r0⟩
  refine k_aload_n C rfl rfl rfl ?_
  refine k_aload_n C rfl rfl rfl ?_
  refine k_aload_n C rfl rfl rfl ?_
  refine z_gI C rfl rfl rfl T_r0 rfl (fun x1 ex1 => ?_)
  have gx1 := rg x1
  refine k_aload_n C rfl rfl rfl ?_
  refine z_gI C rfl rfl rfl T_r0 rfl (fun x2 ex2 => ?_)
  have gx2 := rg x2
  refine c_VI C (a_X12_times hI H_r0) rfl rfl rfl rfl rfl ⟨_, rfl, rfl, T_r0, Nat.le_of_ble_eq_true rfl⟩ rfl rfl (Nat.le_of_ble_eq_true rfl) (Nat.le_of_ble_eq_true rfl) (Nat.le_of_ble_eq_true rfl) ?_
  rintro x3 _ _ ⟨o0x3, o1x3, rfl, rfl⟩
  have gx3 := rg x3
  refine k_aload_n C rfl rfl rfl ?_
  refine k_aload_n C rfl rfl rfl ?_
  refine z_gI C rfl rfl rfl T_r0 rfl (fun x4 ex4 => ?_)
  have gx4 := rg x4
  refine k_aload_n C rfl rfl rfl ?_
  refine z_gI C rfl rfl rfl T_r0 rfl (fun x5 ex5 => ?_)
  have gx5 := rg x5
  refine c_VI C (a_X12_times hI H_r0) rfl rfl rfl rfl rfl ⟨_, rfl, rfl, T_r0, Nat.le_of_ble_eq_true rfl⟩ rfl rfl (Nat.le_of_ble_eq_true rfl) (Nat.le_of_ble_eq_true rfl) (Nat.le_of_ble_eq_true rfl) ?_
  rintro x6 _ _ ⟨o0x6, o1x6, rfl, rfl⟩
  have gx6 := rg x6
  refine c_VI C (a_X12_less hI H_r0) rfl rfl rfl rfl rfl ⟨_, rfl, rfl, T_r0, Nat.le_of_ble_eq_true rfl⟩ rfl rfl (Nat.le_of_ble_eq_true rfl) (Nat.le_of_ble_eq_true rfl) (Nat.le_of_ble_eq_true rfl) ?_
  rintro x7 _ _ ⟨o0x7, o1x7, rfl, rfl⟩
  have gx7 := rg x7
  exact k_iret C rfl (Or.inl rfl) (Nat.le_of_ble_eq_true rfl) (Nat.le_of_ble_eq_true rfl) ⟨_, _, _, rfl, rfl, by omega, by omega, rfl, rfl⟩

theorem a_X12_widens {d : Nat} {T N : Nat → Nat} {I : IT} {L : LT} {R : RT} {A : Nat → Prop} {r0 : Nat} {n1 n2 n3 : Int32} (hI : IM R r0 I) (H_r0 : (h_MD T N R A) r0) (b0_n1 : 0 ≤ n1.toInt) (b1_n1 : n1.toInt ≤ 47) (hp0 : ∀ a4, R r0 4 = some a4 → (I a4 n1.toNatClampNeg).toInt ≤ 39) : Ex (d + 3) 213 [.ref r0, .int n1, .int n2, .int n3] (T, N, I, L, R) 0 0 (pV T N R (fun I9 L9 => (∀ a4, R r0 4 = some a4 → (I9 a4 n1.toNatClampNeg).toInt = (I a4 n1.toNatClampNeg).toInt + 1) ∧ (∀ a4, R r0 4 = some a4 → ∀ r : Nat, r ≠ n1.toNatClampNeg → I9 a4 r = I a4 r) ∧ (IM R r0 I9 ∧ CM A R r0 [] [4, 5] I L I9 L9))) := by
  refine ⟨_, rfl, Nat.le_of_ble_eq_true rfl, fun V C S => ?_⟩
  show V 0 [(0, .ref r0), (1, .int n1), (2, .int n2), (3, .int n3)] [] (T, N, I, L, R) 0 0
  have gn1 := rg n1
  have gn2 := rg n2
  have gn3 := rg n3
  obtain ⟨T_r0, A_r0, ⟨r0_1, R_r0_1, H_r0_1⟩, ⟨r0_2, R_r0_2, H_r0_2⟩, ⟨r0_4, R_r0_4, H_r0_4⟩, ⟨r0_5, R_r0_5, H_r0_5⟩, ⟨r0_10, R_r0_10, H_r0_10⟩, ⟨r0_18, R_r0_18, H_r0_18⟩, ⟨r0_20, R_r0_20, H_r0_20⟩, ⟨r0_21, R_r0_21, H_r0_21⟩, ⟨r0_22, R_r0_22, H_r0_22⟩, ⟨r0_23, R_r0_23, H_r0_23⟩, ⟨r0_25, R_r0_25, H_r0_25⟩, ⟨r0_26, R_r0_26, H_r0_26⟩, ⟨r0_27, R_r0_27, H_r0_27⟩, ⟨r0_28, R_r0_28, H_r0_28⟩, ⟨r0_34, R_r0_34, H_r0_34⟩, J_r0, Y_r0⟩ := id H_r0
  have G_r0 : mF T R r0 := ⟨J_r0, Y_r0, T_r0⟩
  obtain ⟨w_r0_4_n1, k0_r0_4_n1⟩ : ∃ x, I r0_4 n1.toNatClampNeg = x := ⟨_, rfl⟩
  have gw_r0_4_n1 := rg w_r0_4_n1
  have ow_r0_4_n1 := IM.dgR hI R_r0_4 k0_r0_4_n1
  have hp0 := hp0 r0_4 R_r0_4
  try simp only [k0_r0_4_n1] at hp0
  refine k_aload_n C rfl rfl rfl ?_
  refine k_iload_n C rfl rfl rfl ?_
  refine k_aload_n C rfl rfl rfl ?_
  refine g_R C rfl rfl rfl T_r0 rfl R_r0_4 ?_
  refine k_iload_n C rfl rfl rfl ?_
  obtain ⟨T_r0_4, N_r0_4, A_r0_4⟩ := id H_r0_4
  refine a_I C rfl rfl T_r0_4 (by rw [N_r0_4]; exact vpi (by omega) (by omega)) k0_r0_4_n1 ?_
  refine z_iconst C (z := 1) rfl rfl rfl (fun x1 ex1 => ?_)
  refine z_iadd C rfl rfl ⟨by omega, by omega⟩ (fun x2 ex2 => ?_)
  refine z_iconst C (z := 0) rfl rfl rfl (fun x3 ex3 => ?_)
  refine c_VV C (a_X12_put hI H_r0 (by omega) (by omega) (by omega) (by omega) (by omega) (by omega)) rfl rfl rfl rfl rfl ⟨_, rfl, rfl, T_r0, Nat.le_of_ble_eq_true rfl⟩ rfl rfl (Nat.le_of_ble_eq_true rfl) (Nat.le_of_ble_eq_true rfl) (Nat.le_of_ble_eq_true rfl) ?_
  rintro I5 L6 ⟨hI5, S7⟩
  have e8 := CM.j S7 R_r0_4 (by decide) k0_r0_4_n1
  refine k_aload_n C rfl rfl rfl ?_
  refine g_R C rfl rfl rfl T_r0 rfl R_r0_4 ?_
  refine k_iload_n C rfl rfl rfl ?_
  refine k_dup2 C rfl rfl rfl rfl ?_
  refine a_I C rfl rfl T_r0_4 (by rw [N_r0_4]; exact vpi (by omega) (by omega)) e8 ?_
  refine z_iconst C (z := 1) rfl rfl rfl (fun x9 ex9 => ?_)
  refine z_iadd C rfl rfl ⟨by omega, by omega⟩ (fun x10 ex10 => ?_)
  refine z_sI C rfl rfl T_r0_4 N_r0_4 (by omega) (by omega) (fun I11 uI11 => ?_)
  have hI11 : IM R r0 I11 := IM.arr hI5 G_r0 R_r0_4 ⟨(fun _ => ⟨by omega, by omega⟩), (fun h => absurd h (by decide)), (fun h => absurd h (by decide)), (fun h => absurd h (by decide))⟩ (fun h => absurd h (by decide)) (by decide) uI11
  have S12 : CM A R r0 [] [4] I5 L6 I11 L6 := CM.a G_r0 R_r0_4 A_r0_4 uI11
  have F13 : ∀ r : Nat, r ≠ n1.toNatClampNeg → I11 r0_4 r = I5 r0_4 r := fun r z0 => by rw [uI11]; first | exact u2_k z0
  have e15 := u2_e uI11
  refine k_aload_n C rfl rfl rfl ?_
  refine g_R C rfl rfl rfl T_r0 rfl R_r0_4 ?_
  refine k_iload_n C rfl rfl rfl ?_
  refine a_I C rfl rfl T_r0_4 (by rw [N_r0_4]; exact vpi (by omega) (by omega)) e15 ?_
  have J16 : ∀ (nn17 : Nat) (I18 : IT) (L19 : LT) (x20 : Int32) (x25 : Int32), ((x20.toInt - (-1)).toNat = nn17) → (IM R r0 I18) → (CM A R r0 [] [5] I11 L6 I18 L19) → (-1 ≤ x20.toInt) → (x20.toInt ≤ 40) → (I18 r0_4 n1.toNatClampNeg = x25) → (0 ≤ x25.toInt) → (x25.toInt ≤ 40) → (x25.toInt = w_r0_4_n1.toInt + 1) → V 32 [(0, .ref r0), (1, .int n1), (2, .int n2), (3, .int n3), (4, .int x20)] [] (T, N, I18, L19, R) 0 0 := by
    intro nn17
    induction nn17 using Nat.strongRecOn with
    | _ nn17 ihJ16 =>
      intro I18 L19 x20 x25 hmnn17 hI24 S23 b21 b22 e26 b27 b28 f29
      have gx20 := rg x20
      have gx25 := rg x25
      have e30 := CM.j S23 R_r0_4 (by decide) e15
      refine k_iload C rfl rfl rfl ?_
      refine b_if_lt C (t := 89) rfl rfl rfl (fun c31 => ?_) (fun c31 => ?_)
      · skip
        exact k_vret C rfl rfl (Nat.le_of_ble_eq_true rfl) (Nat.le_of_ble_eq_true rfl) ⟨_, _, rfl, rfl, fun a4 h4 => by cases (R_r0_4.symm.trans h4); first | omega | (simp only [e26, k0_r0_4_n1] <;> omega), fun a4 h4 => by cases (R_r0_4.symm.trans h4); exact (fun r z0 => ((congrFun (CM.j0 S23 R_r0_4 (by decide)) r).trans ((F13 r z0).trans (congrFun (CM.j0 S7 R_r0_4 (by decide)) r)))), hI24, (CM.cons S7 (CM.cons S12 (CM.mono S23 (by decide) (by decide)) (by decide) (by decide)) (by decide) (by decide))⟩
      refine k_aload_n C rfl rfl rfl ?_
      refine k_iload_n C rfl rfl rfl ?_
      refine k_iload C rfl rfl rfl ?_
      refine k_aload_n C rfl rfl rfl ?_
      refine k_aload_n C rfl rfl rfl ?_
      refine k_aload_n C rfl rfl rfl ?_
      refine k_iload_n C rfl rfl rfl ?_
      refine k_iload C rfl rfl rfl ?_
      refine c_VI C (a_X12_of hI24 H_r0 (by omega) (by omega) (by omega) (by omega)) rfl rfl rfl rfl rfl ⟨_, rfl, rfl, T_r0, Nat.le_of_ble_eq_true rfl⟩ rfl rfl (Nat.le_of_ble_eq_true rfl) (Nat.le_of_ble_eq_true rfl) (Nat.le_of_ble_eq_true rfl) ?_
      rintro x32 _ _ ⟨o0x32, o1x32, rfl, rfl⟩
      have gx32 := rg x32
      refine k_iload_n C rfl rfl rfl ?_
      refine c_VI C (a_X12_times hI24 H_r0) rfl rfl rfl rfl rfl ⟨_, rfl, rfl, T_r0, Nat.le_of_ble_eq_true rfl⟩ rfl rfl (Nat.le_of_ble_eq_true rfl) (Nat.le_of_ble_eq_true rfl) (Nat.le_of_ble_eq_true rfl) ?_
      rintro x33 _ _ ⟨o0x33, o1x33, rfl, rfl⟩
      have gx33 := rg x33
      refine k_iload C rfl rfl rfl ?_
      refine b_if_le C (t := 76) rfl rfl rfl (fun c34 => ?_) (fun c34 => ?_)
      · skip
        refine z_iconst C (z := 0) rfl rfl rfl (fun x35 ex35 => ?_)
        refine c_VI C (a_X12_plus hI24 H_r0) rfl rfl rfl rfl rfl ⟨_, rfl, rfl, T_r0, Nat.le_of_ble_eq_true rfl⟩ rfl rfl (Nat.le_of_ble_eq_true rfl) (Nat.le_of_ble_eq_true rfl) (Nat.le_of_ble_eq_true rfl) ?_
        rintro x36 _ _ ⟨o0x36, o1x36, rfl, rfl⟩
        have gx36 := rg x36
        refine c_VV C (a_X12_put hI24 H_r0 (by omega) (by omega) (by omega) (by omega) (by omega) (by omega)) rfl rfl rfl rfl rfl ⟨_, rfl, rfl, T_r0, Nat.le_of_ble_eq_true rfl⟩ rfl rfl (Nat.le_of_ble_eq_true rfl) (Nat.le_of_ble_eq_true rfl) (Nat.le_of_ble_eq_true rfl) ?_
        rintro I38 L39 ⟨hI38, S40⟩
        have e41 := CM.j S40 R_r0_4 (by decide) e26
        refine z_iinc C (z := -1) (lw := fun x42 => [(4, .int x42), (0, .ref r0), (1, .int n1), (2, .int n2), (3, .int n3)]) rfl rfl rfl (Nat.le_of_ble_eq_true rfl) rfl ⟨by omega, by omega⟩ (fun _ => rfl) (fun x42 ex42 => ?_)
        show V 86 [(4, .int x42), (0, .ref r0), (1, .int n1), (2, .int n2), (3, .int n3)] _ _ _ _
        refine k_goto C (pc2 := 32) rfl rfl ?_
        refine k_sub S [(0, .ref r0), (1, .int n1), (2, .int n2), (3, .int n3), (4, .int x42)] (List.forall_mem_cons.mpr ⟨List.mem_of_getElem? (i := 1) rfl, List.forall_mem_cons.mpr ⟨List.mem_of_getElem? (i := 2) rfl, List.forall_mem_cons.mpr ⟨List.mem_of_getElem? (i := 3) rfl, List.forall_mem_cons.mpr ⟨List.mem_of_getElem? (i := 4) rfl, List.forall_mem_cons.mpr ⟨List.mem_of_getElem? (i := 0) rfl, fun _ h => nomatch h⟩⟩⟩⟩⟩) ?_
        exact ihJ16 _ (by omega) I38 L39 x42 x25 rfl hI38 (CM.cons S23 (CM.mono S40 (by decide) (by decide)) (by decide) (by decide)) (by omega) (by omega) e41 (by omega) (by omega) (by omega)
      refine k_aload_n C rfl rfl rfl ?_
      refine k_aload_n C rfl rfl rfl ?_
      refine k_iload_n C rfl rfl rfl ?_
      refine k_iload C rfl rfl rfl ?_
      refine z_iconst C (z := 1) rfl rfl rfl (fun x43 ex43 => ?_)
      refine z_isub C rfl rfl ⟨by omega, by omega⟩ (fun x44 ex44 => ?_)
      refine c_VI C (a_X12_of hI24 H_r0 (by omega) (by omega) (by omega) (by omega)) rfl rfl rfl rfl rfl ⟨_, rfl, rfl, T_r0, Nat.le_of_ble_eq_true rfl⟩ rfl rfl (Nat.le_of_ble_eq_true rfl) (Nat.le_of_ble_eq_true rfl) (Nat.le_of_ble_eq_true rfl) ?_
      rintro x45 _ _ ⟨o0x45, o1x45, rfl, rfl⟩
      have gx45 := rg x45
      refine k_iload_n C rfl rfl rfl ?_
      refine c_VI C (a_X12_times hI24 H_r0) rfl rfl rfl rfl rfl ⟨_, rfl, rfl, T_r0, Nat.le_of_ble_eq_true rfl⟩ rfl rfl (Nat.le_of_ble_eq_true rfl) (Nat.le_of_ble_eq_true rfl) (Nat.le_of_ble_eq_true rfl) ?_
      rintro x46 _ _ ⟨o0x46, o1x46, rfl, rfl⟩
      have gx46 := rg x46
      refine k_goto C (pc2 := 77) rfl rfl ?_
      refine c_VI C (a_X12_plus hI24 H_r0) rfl rfl rfl rfl rfl ⟨_, rfl, rfl, T_r0, Nat.le_of_ble_eq_true rfl⟩ rfl rfl (Nat.le_of_ble_eq_true rfl) (Nat.le_of_ble_eq_true rfl) (Nat.le_of_ble_eq_true rfl) ?_
      rintro x47 _ _ ⟨o0x47, o1x47, rfl, rfl⟩
      have gx47 := rg x47
      refine c_VV C (a_X12_put hI24 H_r0 (by omega) (by omega) (by omega) (by omega) (by omega) (by omega)) rfl rfl rfl rfl rfl ⟨_, rfl, rfl, T_r0, Nat.le_of_ble_eq_true rfl⟩ rfl rfl (Nat.le_of_ble_eq_true rfl) (Nat.le_of_ble_eq_true rfl) (Nat.le_of_ble_eq_true rfl) ?_
      rintro I49 L50 ⟨hI49, S51⟩
      have e52 := CM.j S51 R_r0_4 (by decide) e26
      refine z_iinc C (z := -1) (lw := fun x53 => [(4, .int x53), (0, .ref r0), (1, .int n1), (2, .int n2), (3, .int n3)]) rfl rfl rfl (Nat.le_of_ble_eq_true rfl) rfl ⟨by omega, by omega⟩ (fun _ => rfl) (fun x53 ex53 => ?_)
      show V 86 [(4, .int x53), (0, .ref r0), (1, .int n1), (2, .int n2), (3, .int n3)] _ _ _ _
      refine k_goto C (pc2 := 32) rfl rfl ?_
      refine k_sub S [(0, .ref r0), (1, .int n1), (2, .int n2), (3, .int n3), (4, .int x53)] (List.forall_mem_cons.mpr ⟨List.mem_of_getElem? (i := 1) rfl, List.forall_mem_cons.mpr ⟨List.mem_of_getElem? (i := 2) rfl, List.forall_mem_cons.mpr ⟨List.mem_of_getElem? (i := 3) rfl, List.forall_mem_cons.mpr ⟨List.mem_of_getElem? (i := 4) rfl, List.forall_mem_cons.mpr ⟨List.mem_of_getElem? (i := 0) rfl, fun _ h => nomatch h⟩⟩⟩⟩⟩) ?_
      exact ihJ16 _ (by omega) I49 L50 x53 x25 rfl hI49 (CM.cons S23 (CM.mono S51 (by decide) (by decide)) (by decide) (by decide)) (by omega) (by omega) e52 (by omega) (by omega) (by omega)
  refine k_istore C (lw := [(4, .int x10), (0, .ref r0), (1, .int n1), (2, .int n2), (3, .int n3)]) rfl rfl (Nat.le_of_ble_eq_true rfl) rfl ?_
  refine k_sub S [(0, .ref r0), (1, .int n1), (2, .int n2), (3, .int n3), (4, .int x10)] (List.forall_mem_cons.mpr ⟨List.mem_of_getElem? (i := 1) rfl, List.forall_mem_cons.mpr ⟨List.mem_of_getElem? (i := 2) rfl, List.forall_mem_cons.mpr ⟨List.mem_of_getElem? (i := 3) rfl, List.forall_mem_cons.mpr ⟨List.mem_of_getElem? (i := 4) rfl, List.forall_mem_cons.mpr ⟨List.mem_of_getElem? (i := 0) rfl, fun _ h => nomatch h⟩⟩⟩⟩⟩) ?_
  exact J16 _ I11 L6 x10 x10 rfl hI11 CM.rf (by omega) (by omega) e15 (by omega) (by omega) (by omega)

theorem a_X12_mixes {d : Nat} {T N : Nat → Nat} {I : IT} {L : LT} {R : RT} {A : Nat → Prop} {r0 : Nat} {n1 n2 : Int32} (hI : IM R r0 I) (H_r0 : (h_MD T N R A) r0) (b0_n1 : 0 ≤ n1.toInt) (b1_n1 : n1.toInt ≤ 43) (b0_n2 : 0 ≤ n2.toInt) (b1_n2 : n2.toInt ≤ 44) : Ex (d + 4) 214 [.ref r0, .int n1, .int n2] (T, N, I, L, R) 0 0 (pV T N R (fun I9 L9 => (∀ a4, R r0 4 = some a4 → (I9 a4 n2.toNatClampNeg).toInt = (I a4 n1.toNatClampNeg).toInt) ∧ (∀ a4, R r0 4 = some a4 → ∀ r : Nat, r ≠ n2.toNatClampNeg → r ≠ 45 → I9 a4 r = I a4 r) ∧ (IM R r0 I9 ∧ CM A R r0 [] [4, 5] I L I9 L9))) := by
  refine ⟨_, rfl, Nat.le_of_ble_eq_true rfl, fun V C S => ?_⟩
  show V 0 [(0, .ref r0), (1, .int n1), (2, .int n2)] [] (T, N, I, L, R) 0 0
  have gn1 := rg n1
  have gn2 := rg n2
  obtain ⟨T_r0, A_r0, ⟨r0_1, R_r0_1, H_r0_1⟩, ⟨r0_2, R_r0_2, H_r0_2⟩, ⟨r0_4, R_r0_4, H_r0_4⟩, ⟨r0_5, R_r0_5, H_r0_5⟩, ⟨r0_10, R_r0_10, H_r0_10⟩, ⟨r0_18, R_r0_18, H_r0_18⟩, ⟨r0_20, R_r0_20, H_r0_20⟩, ⟨r0_21, R_r0_21, H_r0_21⟩, ⟨r0_22, R_r0_22, H_r0_22⟩, ⟨r0_23, R_r0_23, H_r0_23⟩, ⟨r0_25, R_r0_25, H_r0_25⟩, ⟨r0_26, R_r0_26, H_r0_26⟩, ⟨r0_27, R_r0_27, H_r0_27⟩, ⟨r0_28, R_r0_28, H_r0_28⟩, ⟨r0_34, R_r0_34, H_r0_34⟩, J_r0, Y_r0⟩ := id H_r0
  have G_r0 : mF T R r0 := ⟨J_r0, Y_r0, T_r0⟩
  obtain ⟨w_r0_4_n1, k0_r0_4_n1⟩ : ∃ x, I r0_4 n1.toNatClampNeg = x := ⟨_, rfl⟩
  have gw_r0_4_n1 := rg w_r0_4_n1
  have ow_r0_4_n1 := IM.dgR hI R_r0_4 k0_r0_4_n1
  refine k_aload_n C rfl rfl rfl ?_
  refine g_R C rfl rfl rfl T_r0 rfl R_r0_4 ?_
  refine k_iload_n C rfl rfl rfl ?_
  obtain ⟨T_r0_4, N_r0_4, A_r0_4⟩ := id H_r0_4
  refine a_I C rfl rfl T_r0_4 (by rw [N_r0_4]; exact vpi (by omega) (by omega)) k0_r0_4_n1 ?_
  refine k_istore_n C (lw := [(3, .int w_r0_4_n1), (0, .ref r0), (1, .int n1), (2, .int n2)]) rfl rfl (Nat.le_of_ble_eq_true rfl) rfl ?_
  refine k_aload_n C rfl rfl rfl ?_
  refine k_iload_n C rfl rfl rfl ?_
  refine k_iload_n C rfl rfl rfl ?_
  refine c_VV C (a_X12_clears hI H_r0 (by omega) (by omega) (by omega) (by omega)) rfl rfl rfl rfl rfl ⟨_, rfl, rfl, T_r0, Nat.le_of_ble_eq_true rfl⟩ rfl rfl (Nat.le_of_ble_eq_true rfl) (Nat.le_of_ble_eq_true rfl) (Nat.le_of_ble_eq_true rfl) ?_
  rintro I2 L3 ⟨p0v1, p1v1, hI2, S4⟩
  have p0v1 := p0v1 r0_4 R_r0_4
  have p1v1 := p1v1 r0_4 R_r0_4
  have F5 : ∀ r : Nat, r ≠ n2.toNatClampNeg → r ≠ 45 → I2 r0_4 r = I r0_4 r := fun r z0 z1 => p1v1 r (by first | exact z0 | exact z1)
  obtain ⟨x7, e8⟩ : ∃ x, I2 r0_4 n2.toNatClampNeg = x := ⟨_, rfl⟩
  have gx7 := rg x7
  have ox7 := IM.dgR hI2 R_r0_4 e8
  try simp only [k0_r0_4_n1, e8] at p0v1
  try have q0v1 := congrArg Int32.toInt p0v1
  refine z_iconst C (z := 0) rfl rfl rfl (fun x9 ex9 => ?_)
  have J10 : ∀ (nn11 : Nat) (I12 : IT) (L13 : LT) (x14 : Int32) (x20 : Int32), ((41 - x14.toInt).toNat = nn11) → (IM R r0 I12) → (CM A R r0 [] [4, 5] I2 L3 I12 L13) → (∀ r : Nat, r ≠ n2.toNatClampNeg → r ≠ 45 → I12 r0_4 r = I2 r0_4 r) → (0 ≤ x14.toInt) → (x14.toInt ≤ 41) → (I12 r0_4 n2.toNatClampNeg = x20) → (0 ≤ x20.toInt) → (x20.toInt ≤ 40) → (x20.toInt = w_r0_4_n1.toInt) → V 16 [(0, .ref r0), (1, .int n1), (2, .int n2), (3, .int w_r0_4_n1), (4, .int x14)] [] (T, N, I12, L13, R) 0 0 := by
    intro nn11
    induction nn11 using Nat.strongRecOn with
    | _ nn11 ihJ10 =>
      intro I12 L13 x14 x20 hmnn11 hI18 S17 F19 b15 b16 e21 b22 b23 f24
      have gx14 := rg x14
      have gx20 := rg x20
      refine k_iload C rfl rfl rfl ?_
      refine k_iload_n C rfl rfl rfl ?_
      refine b_icmp_gt C (t := 152) rfl rfl rfl (fun c25 => ?_) (fun c25 => ?_)
      · skip
        exact k_vret C rfl rfl (Nat.le_of_ble_eq_true rfl) (Nat.le_of_ble_eq_true rfl) ⟨_, _, rfl, rfl, fun a4 h4 => by cases (R_r0_4.symm.trans h4); first | omega | (simp only [e21, k0_r0_4_n1] <;> omega), fun a4 h4 => by cases (R_r0_4.symm.trans h4); exact (fun r z0 z1 => ((F19 r z0 z1).trans (F5 r z0 z1))), hI18, (CM.cons S4 (CM.mono S17 (by decide) (by decide)) (by decide) (by decide))⟩
      refine k_aload_n C rfl rfl rfl ?_
      refine z_bipush C (z := 45) rfl rfl rfl (fun x26 ex26 => ?_)
      refine z_iconst C (z := 0) rfl rfl rfl (fun x27 ex27 => ?_)
      have q28 : x26.toNatClampNeg = 45 := nck (by omega)
      have q29 : x27.toNatClampNeg = 0 := nck (by omega)
      refine c_VV C (a_X12_clears hI18 H_r0 (by omega) (by omega) (by omega) (by omega)) rfl rfl rfl rfl rfl ⟨_, rfl, rfl, T_r0, Nat.le_of_ble_eq_true rfl⟩ rfl rfl (Nat.le_of_ble_eq_true rfl) (Nat.le_of_ble_eq_true rfl) (Nat.le_of_ble_eq_true rfl) ?_
      rintro I31 L32 ⟨p0v30, p1v30, hI31, S33⟩
      have p0v30 := p0v30 r0_4 R_r0_4
      have p1v30 := p1v30 r0_4 R_r0_4
      try simp only [q28, q29] at p1v30
      have F34 : ∀ r : Nat, r ≠ n2.toNatClampNeg → r ≠ 45 → I31 r0_4 r = I12 r0_4 r := fun r z0 z1 => p1v30 r (by first | exact z0 | exact z1)
      have e35 := (p1v30 n2.toNatClampNeg (by first | decide | exact ncne (by omega) (by omega) (by omega) | exact nckn (by omega) (by omega) | exact (nckn (by omega) (by omega)).symm)).trans e21
      obtain ⟨x36, e37⟩ : ∃ x, I31 r0_4 45 = x := ⟨_, rfl⟩
      have gx36 := rg x36
      have ox36 := IM.dgR hI31 R_r0_4 e37
      try simp only [q28, q29, e21, e37] at p0v30
      try have q0v30 := congrArg Int32.toInt p0v30
      refine k_aload_n C rfl rfl rfl ?_
      refine z_bipush C (z := 45) rfl rfl rfl (fun x38 ex38 => ?_)
      refine z_iconst C (z := 0) rfl rfl rfl (fun x39 ex39 => ?_)
      refine k_aload_n C rfl rfl rfl ?_
      refine k_iload_n C rfl rfl rfl ?_
      refine k_iload C rfl rfl rfl ?_
      refine c_VI C (a_X12_of hI31 H_r0 (by omega) (by omega) (by omega) (by omega)) rfl rfl rfl rfl rfl ⟨_, rfl, rfl, T_r0, Nat.le_of_ble_eq_true rfl⟩ rfl rfl (Nat.le_of_ble_eq_true rfl) (Nat.le_of_ble_eq_true rfl) (Nat.le_of_ble_eq_true rfl) ?_
      rintro x40 _ _ ⟨o0x40, o1x40, rfl, rfl⟩
      have gx40 := rg x40
      refine c_VV C (a_X12_put hI31 H_r0 (by omega) (by omega) (by omega) (by omega) (by omega) (by omega)) rfl rfl rfl rfl rfl ⟨_, rfl, rfl, T_r0, Nat.le_of_ble_eq_true rfl⟩ rfl rfl (Nat.le_of_ble_eq_true rfl) (Nat.le_of_ble_eq_true rfl) (Nat.le_of_ble_eq_true rfl) ?_
      rintro I42 L43 ⟨hI42, S44⟩
      have e45 := CM.j S44 R_r0_4 (by decide) e35
      have e46 := CM.j S44 R_r0_4 (by decide) e37
      refine z_iconst C (z := 0) rfl rfl rfl (fun x47 ex47 => ?_)
      have J48 : ∀ (nn49 : Nat) (I50 : IT) (L51 : LT) (x52 : Int32) (x58 : Int32) (x62 : Int32), ((40 - x52.toInt).toNat = nn49) → (IM R r0 I50) → (CM A R r0 [] [4, 5] I42 L43 I50 L51) → (∀ r : Nat, r ≠ n2.toNatClampNeg → r ≠ 45 → I50 r0_4 r = I42 r0_4 r) → (0 ≤ x52.toInt) → (x52.toInt ≤ 40) → (I50 r0_4 n2.toNatClampNeg = x58) → (0 ≤ x58.toInt) → (x58.toInt ≤ 40) → (I50 r0_4 45 = x62) → (0 ≤ x62.toInt) → (x62.toInt ≤ 40) → (x58.toInt = w_r0_4_n1.toInt) → (x62.toInt = x52.toInt) → (x52.toInt ≤ w_r0_4_n1.toInt - x14.toInt) → V 46 [(0, .ref r0), (1, .int n1), (2, .int n2), (3, .int w_r0_4_n1), (4, .int x14), (5, .int x52)] [] (T, N, I50, L51, R) 0 0 := by
        intro nn49
        induction nn49 using Nat.strongRecOn with
        | _ nn49 ihJ48 =>
          intro I50 L51 x52 x58 x62 hmnn49 hI56 S55 F57 b53 b54 e59 b60 b61 e63 b64 b65 f66 f67 f68
          have gx52 := rg x52
          have gx58 := rg x58
          have gx62 := rg x62
          refine k_iload C rfl rfl rfl ?_
          refine k_iload_n C rfl rfl rfl ?_
          refine k_iload C rfl rfl rfl ?_
          refine z_isub C rfl rfl ⟨by omega, by omega⟩ (fun x69 ex69 => ?_)
          refine b_icmp_ge C (t := 75) rfl rfl rfl (fun c70 => ?_) (fun c70 => ?_)
          · skip
            refine z_iconst C (z := 0) rfl rfl rfl (fun x71 ex71 => ?_)
            have J72 : ∀ (nn73 : Nat) (I74 : IT) (L75 : LT) (x76 : Int32) (x82 : Int32) (x86 : Int32), ((40 - x76.toInt).toNat = nn73) → (IM R r0 I74) → (CM A R r0 [] [4, 5] I50 L51 I74 L75) → (∀ r : Nat, r ≠ n2.toNatClampNeg → r ≠ 45 → I74 r0_4 r = I50 r0_4 r) → (0 ≤ x76.toInt) → (x76.toInt ≤ 40) → (I74 r0_4 n2.toNatClampNeg = x82) → (0 ≤ x82.toInt) → (x82.toInt ≤ 40) → (I74 r0_4 45 = x86) → (0 ≤ x86.toInt) → (x86.toInt ≤ 40) → (x82.toInt = w_r0_4_n1.toInt) → (x86.toInt = w_r0_4_n1.toInt - x14.toInt + x76.toInt) → V 78 [(0, .ref r0), (1, .int n1), (2, .int n2), (3, .int w_r0_4_n1), (4, .int x14), (5, .int x76)] [] (T, N, I74, L75, R) 0 0 := by
              intro nn73
              induction nn73 using Nat.strongRecOn with
              | _ nn73 ihJ72 =>
                intro I74 L75 x76 x82 x86 hmnn73 hI80 S79 F81 b77 b78 e83 b84 b85 e87 b88 b89 f90 f91
                have gx76 := rg x76
                have gx82 := rg x82
                have gx86 := rg x86
                refine k_iload C rfl rfl rfl ?_
                refine k_iload C rfl rfl rfl ?_
                refine b_icmp_ge C (t := 105) rfl rfl rfl (fun c92 => ?_) (fun c92 => ?_)
                · skip
                  refine z_iconst C (z := 0) rfl rfl rfl (fun x93 ex93 => ?_)
                  have J94 : ∀ (nn95 : Nat) (I96 : IT) (L97 : LT) (x98 : Int32) (x103 : Int32), ((41 - x98.toInt).toNat = nn95) → (IM R r0 I96) → (CM A R r0 [] [5] I74 L75 I96 L97) → (0 ≤ x98.toInt) → (x98.toInt ≤ 41) → (I96 r0_4 n2.toNatClampNeg = x103) → (0 ≤ x103.toInt) → (x103.toInt ≤ 40) → (x103.toInt = w_r0_4_n1.toInt) → V 108 [(0, .ref r0), (1, .int n1), (2, .int n2), (3, .int w_r0_4_n1), (4, .int x14), (5, .int x98)] [] (T, N, I96, L97, R) 0 0 := by
                    intro nn95
                    induction nn95 using Nat.strongRecOn with
                    | _ nn95 ihJ94 =>
                      intro I96 L97 x98 x103 hmnn95 hI102 S101 b99 b100 e104 b105 b106 f107
                      have gx98 := rg x98
                      have gx103 := rg x103
                      have e108 := CM.j S101 R_r0_4 (by decide) e83
                      have e109 := CM.j S101 R_r0_4 (by decide) e87
                      refine k_iload C rfl rfl rfl ?_
                      refine k_iload_n C rfl rfl rfl ?_
                      refine b_icmp_gt C (t := 146) rfl rfl rfl (fun c110 => ?_) (fun c110 => ?_)
                      · skip
                        refine z_iinc C (z := 1) (lw := fun x111 => [(4, .int x111), (0, .ref r0), (1, .int n1), (2, .int n2), (3, .int w_r0_4_n1), (5, .int x98)]) rfl rfl rfl (Nat.le_of_ble_eq_true rfl) rfl ⟨by omega, by omega⟩ (fun _ => rfl) (fun x111 ex111 => ?_)
                        show V 149 [(4, .int x111), (0, .ref r0), (1, .int n1), (2, .int n2), (3, .int w_r0_4_n1), (5, .int x98)] _ _ _ _
                        refine k_goto C (pc2 := 16) rfl rfl ?_
                        refine k_sub S [(0, .ref r0), (1, .int n1), (2, .int n2), (3, .int w_r0_4_n1), (4, .int x111)] (List.forall_mem_cons.mpr ⟨List.mem_of_getElem? (i := 1) rfl, List.forall_mem_cons.mpr ⟨List.mem_of_getElem? (i := 2) rfl, List.forall_mem_cons.mpr ⟨List.mem_of_getElem? (i := 3) rfl, List.forall_mem_cons.mpr ⟨List.mem_of_getElem? (i := 4) rfl, List.forall_mem_cons.mpr ⟨List.mem_of_getElem? (i := 0) rfl, fun _ h => nomatch h⟩⟩⟩⟩⟩) ?_
                        exact ihJ10 _ (by omega) I96 L97 x111 x103 rfl hI102 (CM.cons S17 (CM.cons S33 (CM.cons S44 (CM.cons S55 (CM.cons S79 (CM.mono S101 (by decide) (by decide)) (by decide) (by decide)) (by decide) (by decide)) (by decide) (by decide)) (by decide) (by decide)) (by decide) (by decide)) (fun r z0 z1 => ((congrFun (CM.j0 S101 R_r0_4 (by decide)) r).trans ((F81 r z0 z1).trans ((F57 r z0 z1).trans ((congrFun (CM.j0 S44 R_r0_4 (by decide)) r).trans ((F34 r z0 z1).trans (F19 r z0 z1))))))) (by omega) (by omega) e104 (by omega) (by omega) (by omega)
                      refine k_aload_n C rfl rfl rfl ?_
                      refine k_iload_n C rfl rfl rfl ?_
                      refine k_iload C rfl rfl rfl ?_
                      refine k_aload_n C rfl rfl rfl ?_
                      refine k_aload_n C rfl rfl rfl ?_
                      refine k_iload_n C rfl rfl rfl ?_
                      refine k_iload C rfl rfl rfl ?_
                      refine c_VI C (a_X12_of hI102 H_r0 (by omega) (by omega) (by omega) (by omega)) rfl rfl rfl rfl rfl ⟨_, rfl, rfl, T_r0, Nat.le_of_ble_eq_true rfl⟩ rfl rfl (Nat.le_of_ble_eq_true rfl) (Nat.le_of_ble_eq_true rfl) (Nat.le_of_ble_eq_true rfl) ?_
                      rintro x112 _ _ ⟨o0x112, o1x112, rfl, rfl⟩
                      have gx112 := rg x112
                      refine k_aload_n C rfl rfl rfl ?_
                      refine z_bipush C (z := 45) rfl rfl rfl (fun x113 ex113 => ?_)
                      refine k_iload C rfl rfl rfl ?_
                      refine c_VI C (a_X12_of hI102 H_r0 (by omega) (by omega) (by omega) (by omega)) rfl rfl rfl rfl rfl ⟨_, rfl, rfl, T_r0, Nat.le_of_ble_eq_true rfl⟩ rfl rfl (Nat.le_of_ble_eq_true rfl) (Nat.le_of_ble_eq_true rfl) (Nat.le_of_ble_eq_true rfl) ?_
                      rintro x114 _ _ ⟨o0x114, o1x114, rfl, rfl⟩
                      have gx114 := rg x114
                      refine c_VI C (a_X12_plus hI102 H_r0) rfl rfl rfl rfl rfl ⟨_, rfl, rfl, T_r0, Nat.le_of_ble_eq_true rfl⟩ rfl rfl (Nat.le_of_ble_eq_true rfl) (Nat.le_of_ble_eq_true rfl) (Nat.le_of_ble_eq_true rfl) ?_
                      rintro x115 _ _ ⟨o0x115, o1x115, rfl, rfl⟩
                      have gx115 := rg x115
                      refine c_VV C (a_X12_put hI102 H_r0 (by omega) (by omega) (by omega) (by omega) (by omega) (by omega)) rfl rfl rfl rfl rfl ⟨_, rfl, rfl, T_r0, Nat.le_of_ble_eq_true rfl⟩ rfl rfl (Nat.le_of_ble_eq_true rfl) (Nat.le_of_ble_eq_true rfl) (Nat.le_of_ble_eq_true rfl) ?_
                      rintro I117 L118 ⟨hI117, S119⟩
                      have e120 := CM.j S119 R_r0_4 (by decide) e104
                      have e121 := CM.j S119 R_r0_4 (by decide) e109
                      refine z_iinc C (z := 1) (lw := fun x122 => [(5, .int x122), (0, .ref r0), (1, .int n1), (2, .int n2), (3, .int w_r0_4_n1), (4, .int x14)]) rfl rfl rfl (Nat.le_of_ble_eq_true rfl) rfl ⟨by omega, by omega⟩ (fun _ => rfl) (fun x122 ex122 => ?_)
                      show V 143 [(5, .int x122), (0, .ref r0), (1, .int n1), (2, .int n2), (3, .int w_r0_4_n1), (4, .int x14)] _ _ _ _
                      refine k_goto C (pc2 := 108) rfl rfl ?_
                      refine k_sub S [(0, .ref r0), (1, .int n1), (2, .int n2), (3, .int w_r0_4_n1), (4, .int x14), (5, .int x122)] (List.forall_mem_cons.mpr ⟨List.mem_of_getElem? (i := 1) rfl, List.forall_mem_cons.mpr ⟨List.mem_of_getElem? (i := 2) rfl, List.forall_mem_cons.mpr ⟨List.mem_of_getElem? (i := 3) rfl, List.forall_mem_cons.mpr ⟨List.mem_of_getElem? (i := 4) rfl, List.forall_mem_cons.mpr ⟨List.mem_of_getElem? (i := 5) rfl, List.forall_mem_cons.mpr ⟨List.mem_of_getElem? (i := 0) rfl, fun _ h => nomatch h⟩⟩⟩⟩⟩⟩) ?_
                      exact ihJ94 _ (by omega) I117 L118 x122 x103 rfl hI117 (CM.cons S101 (CM.mono S119 (by decide) (by decide)) (by decide) (by decide)) (by omega) (by omega) e120 (by omega) (by omega) (by omega)
                  refine k_istore C (lw := [(5, .int x93), (0, .ref r0), (1, .int n1), (2, .int n2), (3, .int w_r0_4_n1), (4, .int x14)]) rfl rfl (Nat.le_of_ble_eq_true rfl) rfl ?_
                  refine k_sub S [(0, .ref r0), (1, .int n1), (2, .int n2), (3, .int w_r0_4_n1), (4, .int x14), (5, .int x93)] (List.forall_mem_cons.mpr ⟨List.mem_of_getElem? (i := 1) rfl, List.forall_mem_cons.mpr ⟨List.mem_of_getElem? (i := 2) rfl, List.forall_mem_cons.mpr ⟨List.mem_of_getElem? (i := 3) rfl, List.forall_mem_cons.mpr ⟨List.mem_of_getElem? (i := 4) rfl, List.forall_mem_cons.mpr ⟨List.mem_of_getElem? (i := 5) rfl, List.forall_mem_cons.mpr ⟨List.mem_of_getElem? (i := 0) rfl, fun _ h => nomatch h⟩⟩⟩⟩⟩⟩) ?_
                  exact J94 _ I74 L75 x93 x82 rfl hI80 CM.rf (by omega) (by omega) e83 (by omega) (by omega) (by omega)
                refine k_aload_n C rfl rfl rfl ?_
                refine z_bipush C (z := 45) rfl rfl rfl (fun x123 ex123 => ?_)
                refine k_aload_n C rfl rfl rfl ?_
                refine z_gI C rfl rfl rfl T_r0 rfl (fun x124 ex124 => ?_)
                have gx124 := rg x124
                refine k_aload_n C rfl rfl rfl ?_
                refine z_gI C rfl rfl rfl T_r0 rfl (fun x125 ex125 => ?_)
                have gx125 := rg x125
                have q126 : x123.toNatClampNeg = 45 := nck (by omega)
                refine c_VV C (a_X12_widens hI80 H_r0 (by omega) (by omega) (fun a4 h4 => by cases (R_r0_4.symm.trans h4); first | omega | (simp only [q126, e83, e87, ex124, ex125] <;> omega))) rfl rfl rfl rfl rfl ⟨_, rfl, rfl, T_r0, Nat.le_of_ble_eq_true rfl⟩ rfl rfl (Nat.le_of_ble_eq_true rfl) (Nat.le_of_ble_eq_true rfl) (Nat.le_of_ble_eq_true rfl) ?_
                rintro I128 L129 ⟨p0v127, p1v127, hI128, S130⟩
                have p0v127 := p0v127 r0_4 R_r0_4
                have p1v127 := p1v127 r0_4 R_r0_4
                try simp only [q126] at p1v127
                have F131 : ∀ r : Nat, r ≠ n2.toNatClampNeg → r ≠ 45 → I128 r0_4 r = I74 r0_4 r := fun r z0 z1 => p1v127 r (by first | exact z0 | exact z1)
                have e132 := (p1v127 n2.toNatClampNeg (by first | decide | exact ncne (by omega) (by omega) (by omega) | exact nckn (by omega) (by omega) | exact (nckn (by omega) (by omega)).symm)).trans e83
                have e134 := CM.k S130 (by decide) ex124
                have e135 := CM.k S130 (by decide) ex125
                obtain ⟨x136, e137⟩ : ∃ x, I128 r0_4 45 = x := ⟨_, rfl⟩
                have gx136 := rg x136
                have ox136 := IM.dgR hI128 R_r0_4 e137
                try simp only [q126, e83, e87, ex124, ex125, e137] at p0v127
                try have q0v127 := congrArg Int32.toInt p0v127
                refine z_iinc C (z := 1) (lw := fun x138 => [(5, .int x138), (0, .ref r0), (1, .int n1), (2, .int n2), (3, .int w_r0_4_n1), (4, .int x14)]) rfl rfl rfl (Nat.le_of_ble_eq_true rfl) rfl ⟨by omega, by omega⟩ (fun _ => rfl) (fun x138 ex138 => ?_)
                show V 102 [(5, .int x138), (0, .ref r0), (1, .int n1), (2, .int n2), (3, .int w_r0_4_n1), (4, .int x14)] _ _ _ _
                refine k_goto C (pc2 := 78) rfl rfl ?_
                refine k_sub S [(0, .ref r0), (1, .int n1), (2, .int n2), (3, .int w_r0_4_n1), (4, .int x14), (5, .int x138)] (List.forall_mem_cons.mpr ⟨List.mem_of_getElem? (i := 1) rfl, List.forall_mem_cons.mpr ⟨List.mem_of_getElem? (i := 2) rfl, List.forall_mem_cons.mpr ⟨List.mem_of_getElem? (i := 3) rfl, List.forall_mem_cons.mpr ⟨List.mem_of_getElem? (i := 4) rfl, List.forall_mem_cons.mpr ⟨List.mem_of_getElem? (i := 5) rfl, List.forall_mem_cons.mpr ⟨List.mem_of_getElem? (i := 0) rfl, fun _ h => nomatch h⟩⟩⟩⟩⟩⟩) ?_
                exact ihJ72 _ (by omega) I128 L129 x138 x82 x136 rfl hI128 (CM.cons S79 (CM.mono S130 (by decide) (by decide)) (by decide) (by decide)) (fun r z0 z1 => ((F131 r z0 z1).trans (F81 r z0 z1))) (by omega) (by omega) e132 (by omega) (by omega) e137 (by omega) (by omega) (by omega) (by omega)
            refine k_istore C (lw := [(5, .int x71), (0, .ref r0), (1, .int n1), (2, .int n2), (3, .int w_r0_4_n1), (4, .int x14)]) rfl rfl (Nat.le_of_ble_eq_true rfl) rfl ?_
            refine k_sub S [(0, .ref r0), (1, .int n1), (2, .int n2), (3, .int w_r0_4_n1), (4, .int x14), (5, .int x71)] (List.forall_mem_cons.mpr ⟨List.mem_of_getElem? (i := 1) rfl, List.forall_mem_cons.mpr ⟨List.mem_of_getElem? (i := 2) rfl, List.forall_mem_cons.mpr ⟨List.mem_of_getElem? (i := 3) rfl, List.forall_mem_cons.mpr ⟨List.mem_of_getElem? (i := 4) rfl, List.forall_mem_cons.mpr ⟨List.mem_of_getElem? (i := 5) rfl, List.forall_mem_cons.mpr ⟨List.mem_of_getElem? (i := 0) rfl, fun _ h => nomatch h⟩⟩⟩⟩⟩⟩) ?_
            exact J72 _ I50 L51 x71 x58 x62 rfl hI56 CM.rf (fun r z0 z1 => rfl) (by omega) (by omega) e59 (by omega) (by omega) e63 (by omega) (by omega) (by omega) (by omega)
          refine k_aload_n C rfl rfl rfl ?_
          refine z_bipush C (z := 45) rfl rfl rfl (fun x139 ex139 => ?_)
          refine k_aload_n C rfl rfl rfl ?_
          refine z_gI C rfl rfl rfl T_r0 rfl (fun x140 ex140 => ?_)
          have gx140 := rg x140
          refine k_aload_n C rfl rfl rfl ?_
          refine z_gI C rfl rfl rfl T_r0 rfl (fun x141 ex141 => ?_)
          have gx141 := rg x141
          have q142 : x139.toNatClampNeg = 45 := nck (by omega)
          refine c_VV C (a_X12_widens hI56 H_r0 (by omega) (by omega) (fun a4 h4 => by cases (R_r0_4.symm.trans h4); first | omega | (simp only [q142, e59, e63, ex140, ex141] <;> omega))) rfl rfl rfl rfl rfl ⟨_, rfl, rfl, T_r0, Nat.le_of_ble_eq_true rfl⟩ rfl rfl (Nat.le_of_ble_eq_true rfl) (Nat.le_of_ble_eq_true rfl) (Nat.le_of_ble_eq_true rfl) ?_
          rintro I144 L145 ⟨p0v143, p1v143, hI144, S146⟩
          have p0v143 := p0v143 r0_4 R_r0_4
          have p1v143 := p1v143 r0_4 R_r0_4
          try simp only [q142] at p1v143
          have F147 : ∀ r : Nat, r ≠ n2.toNatClampNeg → r ≠ 45 → I144 r0_4 r = I50 r0_4 r := fun r z0 z1 => p1v143 r (by first | exact z0 | exact z1)
          have e148 := (p1v143 n2.toNatClampNeg (by first | decide | exact ncne (by omega) (by omega) (by omega) | exact nckn (by omega) (by omega) | exact (nckn (by omega) (by omega)).symm)).trans e59
          have e150 := CM.k S146 (by decide) ex140
          have e151 := CM.k S146 (by decide) ex141
          obtain ⟨x152, e153⟩ : ∃ x, I144 r0_4 45 = x := ⟨_, rfl⟩
          have gx152 := rg x152
          have ox152 := IM.dgR hI144 R_r0_4 e153
          try simp only [q142, e59, e63, ex140, ex141, e153] at p0v143
          try have q0v143 := congrArg Int32.toInt p0v143
          refine z_iinc C (z := 1) (lw := fun x154 => [(5, .int x154), (0, .ref r0), (1, .int n1), (2, .int n2), (3, .int w_r0_4_n1), (4, .int x14)]) rfl rfl rfl (Nat.le_of_ble_eq_true rfl) rfl ⟨by omega, by omega⟩ (fun _ => rfl) (fun x154 ex154 => ?_)
          show V 72 [(5, .int x154), (0, .ref r0), (1, .int n1), (2, .int n2), (3, .int w_r0_4_n1), (4, .int x14)] _ _ _ _
          refine k_goto C (pc2 := 46) rfl rfl ?_
          refine k_sub S [(0, .ref r0), (1, .int n1), (2, .int n2), (3, .int w_r0_4_n1), (4, .int x14), (5, .int x154)] (List.forall_mem_cons.mpr ⟨List.mem_of_getElem? (i := 1) rfl, List.forall_mem_cons.mpr ⟨List.mem_of_getElem? (i := 2) rfl, List.forall_mem_cons.mpr ⟨List.mem_of_getElem? (i := 3) rfl, List.forall_mem_cons.mpr ⟨List.mem_of_getElem? (i := 4) rfl, List.forall_mem_cons.mpr ⟨List.mem_of_getElem? (i := 5) rfl, List.forall_mem_cons.mpr ⟨List.mem_of_getElem? (i := 0) rfl, fun _ h => nomatch h⟩⟩⟩⟩⟩⟩) ?_
          exact ihJ48 _ (by omega) I144 L145 x154 x58 x152 rfl hI144 (CM.cons S55 (CM.mono S146 (by decide) (by decide)) (by decide) (by decide)) (fun r z0 z1 => ((F147 r z0 z1).trans (F57 r z0 z1))) (by omega) (by omega) e148 (by omega) (by omega) e153 (by omega) (by omega) (by omega) (by omega) (by omega)
      refine k_istore C (lw := [(5, .int x47), (0, .ref r0), (1, .int n1), (2, .int n2), (3, .int w_r0_4_n1), (4, .int x14)]) rfl rfl (Nat.le_of_ble_eq_true rfl) rfl ?_
      refine k_sub S [(0, .ref r0), (1, .int n1), (2, .int n2), (3, .int w_r0_4_n1), (4, .int x14), (5, .int x47)] (List.forall_mem_cons.mpr ⟨List.mem_of_getElem? (i := 1) rfl, List.forall_mem_cons.mpr ⟨List.mem_of_getElem? (i := 2) rfl, List.forall_mem_cons.mpr ⟨List.mem_of_getElem? (i := 3) rfl, List.forall_mem_cons.mpr ⟨List.mem_of_getElem? (i := 4) rfl, List.forall_mem_cons.mpr ⟨List.mem_of_getElem? (i := 5) rfl, List.forall_mem_cons.mpr ⟨List.mem_of_getElem? (i := 0) rfl, fun _ h => nomatch h⟩⟩⟩⟩⟩⟩) ?_
      exact J48 _ I42 L43 x47 x20 x36 rfl hI42 CM.rf (fun r z0 z1 => rfl) (by omega) (by omega) e45 (by omega) (by omega) e46 (by omega) (by omega) (by omega) (by omega) (by omega)
  refine k_istore C (lw := [(4, .int x9), (3, .int w_r0_4_n1), (0, .ref r0), (1, .int n1), (2, .int n2)]) rfl rfl (Nat.le_of_ble_eq_true rfl) rfl ?_
  refine k_sub S [(0, .ref r0), (1, .int n1), (2, .int n2), (3, .int w_r0_4_n1), (4, .int x9)] (List.forall_mem_cons.mpr ⟨List.mem_of_getElem? (i := 2) rfl, List.forall_mem_cons.mpr ⟨List.mem_of_getElem? (i := 3) rfl, List.forall_mem_cons.mpr ⟨List.mem_of_getElem? (i := 4) rfl, List.forall_mem_cons.mpr ⟨List.mem_of_getElem? (i := 1) rfl, List.forall_mem_cons.mpr ⟨List.mem_of_getElem? (i := 0) rfl, fun _ h => nomatch h⟩⟩⟩⟩⟩) ?_
  exact J10 _ I2 L3 x9 x7 rfl hI2 CM.rf (fun r z0 z1 => rfl) (by omega) (by omega) e8 (by omega) (by omega) (by omega)

theorem a_X12_valueAt {d : Nat} {T N : Nat → Nat} {I : IT} {L : LT} {R : RT} {A : Nat → Prop} {r0 : Nat} {n1 n2 n3 : Int32} (hI : IM R r0 I) (H_r0 : (h_MD T N R A) r0) : Ex (d + 4) 215 [.ref r0, .int n1, .int n2, .int n3] (T, N, I, L, R) 0 0 (pI T N R (fun x9 I9 L9 => (-18 ≤ x9.toInt) ∧ (x9.toInt ≤ 18) ∧ (I = I9 ∧ L = L9))) := by
  refine ⟨_, rfl, Nat.le_of_ble_eq_true rfl, fun V C S => ?_⟩
  show V 0 [(0, .ref r0), (1, .int n1), (2, .int n2), (3, .int n3)] [] (T, N, I, L, R) 0 0
  have gn1 := rg n1
  have gn2 := rg n2
  have gn3 := rg n3
  obtain ⟨T_r0, A_r0, ⟨r0_1, R_r0_1, H_r0_1⟩, ⟨r0_2, R_r0_2, H_r0_2⟩, ⟨r0_4, R_r0_4, H_r0_4⟩, ⟨r0_5, R_r0_5, H_r0_5⟩, ⟨r0_10, R_r0_10, H_r0_10⟩, ⟨r0_18, R_r0_18, H_r0_18⟩, ⟨r0_20, R_r0_20, H_r0_20⟩, ⟨r0_21, R_r0_21, H_r0_21⟩, ⟨r0_22, R_r0_22, H_r0_22⟩, ⟨r0_23, R_r0_23, H_r0_23⟩, ⟨r0_25, R_r0_25, H_r0_25⟩, ⟨r0_26, R_r0_26, H_r0_26⟩, ⟨r0_27, R_r0_27, H_r0_27⟩, ⟨r0_28, R_r0_28, H_r0_28⟩, ⟨r0_34, R_r0_34, H_r0_34⟩, J_r0, Y_r0⟩ := id H_r0
  have G_r0 : mF T R r0 := ⟨J_r0, Y_r0, T_r0⟩
  refine z_iconst C (z := 0) rfl rfl rfl (fun x1 ex1 => ?_)
  refine k_istore C (lw := [(4, .int x1), (0, .ref r0), (1, .int n1), (2, .int n2), (3, .int n3)]) rfl rfl (Nat.le_of_ble_eq_true rfl) rfl ?_
  refine z_iconst C (z := 0) rfl rfl rfl (fun x2 ex2 => ?_)
  have J3 : ∀ (nn4 : Nat) (x5 : Int32) (x8 : Int32), ((41 - x8.toInt).toNat = nn4) → (-18 ≤ x5.toInt) → (x5.toInt ≤ 18) → (0 ≤ x8.toInt) → (x8.toInt ≤ 41) → V 6 [(0, .ref r0), (1, .int n1), (2, .int n2), (3, .int n3), (4, .int x5), (5, .int x8)] [] (T, N, I, L, R) 0 0 := by
    intro nn4
    induction nn4 using Nat.strongRecOn with
    | _ nn4 ihJ3 =>
      intro x5 x8 hmnn4 b6 b7 b9 b10
      have gx5 := rg x5
      have gx8 := rg x8
      refine k_iload C rfl rfl rfl ?_
      refine k_aload_n C rfl rfl rfl ?_
      refine g_R C rfl rfl rfl T_r0 rfl R_r0_4 ?_
      refine k_iload_n C rfl rfl rfl ?_
      obtain ⟨T_r0_4, N_r0_4, A_r0_4⟩ := id H_r0_4
      refine z_aI C rfl rfl T_r0_4 N_r0_4 (by omega) (by omega) (fun x11 ex11 => ?_)
      have gx11 := rg x11
      have ox11 := IM.dgR hI R_r0_4 ex11
      refine b_icmp_gt C (t := 67) rfl rfl rfl (fun c12 => ?_) (fun c12 => ?_)
      · skip
        refine k_iload C rfl rfl rfl ?_
        exact k_iret C rfl (Or.inl rfl) (Nat.le_of_ble_eq_true rfl) (Nat.le_of_ble_eq_true rfl) ⟨_, _, _, rfl, rfl, by omega, by omega, rfl, rfl⟩
      refine k_aload_n C rfl rfl rfl ?_
      refine k_iload C rfl rfl rfl ?_
      refine k_aload_n C rfl rfl rfl ?_
      refine k_aload_n C rfl rfl rfl ?_
      refine k_iload_n C rfl rfl rfl ?_
      refine k_iload C rfl rfl rfl ?_
      refine c_VI C (a_X12_of hI H_r0 (by omega) (by omega) (by omega) (by omega)) rfl rfl rfl rfl rfl ⟨_, rfl, rfl, T_r0, Nat.le_of_ble_eq_true rfl⟩ rfl rfl (Nat.le_of_ble_eq_true rfl) (Nat.le_of_ble_eq_true rfl) (Nat.le_of_ble_eq_true rfl) ?_
      rintro x13 _ _ ⟨o0x13, o1x13, rfl, rfl⟩
      have gx13 := rg x13
      refine k_aload_n C rfl rfl rfl ?_
      refine k_aload_n C rfl rfl rfl ?_
      refine k_iload_n C rfl rfl rfl ?_
      refine k_aload_n C rfl rfl rfl ?_
      refine g_R C rfl rfl rfl T_r0 rfl R_r0_4 ?_
      refine k_iload_n C rfl rfl rfl ?_
      refine a_I C rfl rfl T_r0_4 (by rw [N_r0_4]; exact vpi (by omega) (by omega)) ex11 ?_
      refine k_iload C rfl rfl rfl ?_
      refine z_isub C rfl rfl ⟨by omega, by omega⟩ (fun x14 ex14 => ?_)
      refine c_VI C (a_X12_power hI H_r0) rfl rfl rfl rfl rfl ⟨_, rfl, rfl, T_r0, Nat.le_of_ble_eq_true rfl⟩ rfl rfl (Nat.le_of_ble_eq_true rfl) (Nat.le_of_ble_eq_true rfl) (Nat.le_of_ble_eq_true rfl) ?_
      rintro x15 _ _ ⟨o0x15, o1x15, rfl, rfl⟩
      have gx15 := rg x15
      refine k_aload_n C rfl rfl rfl ?_
      refine k_iload_n C rfl rfl rfl ?_
      refine k_iload C rfl rfl rfl ?_
      refine c_VI C (a_X12_power hI H_r0) rfl rfl rfl rfl rfl ⟨_, rfl, rfl, T_r0, Nat.le_of_ble_eq_true rfl⟩ rfl rfl (Nat.le_of_ble_eq_true rfl) (Nat.le_of_ble_eq_true rfl) (Nat.le_of_ble_eq_true rfl) ?_
      rintro x16 _ _ ⟨o0x16, o1x16, rfl, rfl⟩
      have gx16 := rg x16
      refine c_VI C (a_X12_times hI H_r0) rfl rfl rfl rfl rfl ⟨_, rfl, rfl, T_r0, Nat.le_of_ble_eq_true rfl⟩ rfl rfl (Nat.le_of_ble_eq_true rfl) (Nat.le_of_ble_eq_true rfl) (Nat.le_of_ble_eq_true rfl) ?_
      rintro x17 _ _ ⟨o0x17, o1x17, rfl, rfl⟩
      have gx17 := rg x17
      refine c_VI C (a_X12_times hI H_r0) rfl rfl rfl rfl rfl ⟨_, rfl, rfl, T_r0, Nat.le_of_ble_eq_true rfl⟩ rfl rfl (Nat.le_of_ble_eq_true rfl) (Nat.le_of_ble_eq_true rfl) (Nat.le_of_ble_eq_true rfl) ?_
      rintro x18 _ _ ⟨o0x18, o1x18, rfl, rfl⟩
      have gx18 := rg x18
      refine c_VI C (a_X12_plus hI H_r0) rfl rfl rfl rfl rfl ⟨_, rfl, rfl, T_r0, Nat.le_of_ble_eq_true rfl⟩ rfl rfl (Nat.le_of_ble_eq_true rfl) (Nat.le_of_ble_eq_true rfl) (Nat.le_of_ble_eq_true rfl) ?_
      rintro x19 _ _ ⟨o0x19, o1x19, rfl, rfl⟩
      have gx19 := rg x19
      refine k_istore C (lw := [(4, .int x19), (0, .ref r0), (1, .int n1), (2, .int n2), (3, .int n3), (5, .int x8)]) rfl rfl (Nat.le_of_ble_eq_true rfl) rfl ?_
      refine z_iinc C (z := 1) (lw := fun x20 => [(5, .int x20), (4, .int x19), (0, .ref r0), (1, .int n1), (2, .int n2), (3, .int n3)]) rfl rfl rfl (Nat.le_of_ble_eq_true rfl) rfl ⟨by omega, by omega⟩ (fun _ => rfl) (fun x20 ex20 => ?_)
      show V 64 [(5, .int x20), (4, .int x19), (0, .ref r0), (1, .int n1), (2, .int n2), (3, .int n3)] _ _ _ _
      refine k_goto C (pc2 := 6) rfl rfl ?_
      refine k_sub S [(0, .ref r0), (1, .int n1), (2, .int n2), (3, .int n3), (4, .int x19), (5, .int x20)] (List.forall_mem_cons.mpr ⟨List.mem_of_getElem? (i := 2) rfl, List.forall_mem_cons.mpr ⟨List.mem_of_getElem? (i := 3) rfl, List.forall_mem_cons.mpr ⟨List.mem_of_getElem? (i := 4) rfl, List.forall_mem_cons.mpr ⟨List.mem_of_getElem? (i := 5) rfl, List.forall_mem_cons.mpr ⟨List.mem_of_getElem? (i := 1) rfl, List.forall_mem_cons.mpr ⟨List.mem_of_getElem? (i := 0) rfl, fun _ h => nomatch h⟩⟩⟩⟩⟩⟩) ?_
      exact ihJ3 _ (by omega) x19 x20 rfl (by omega) (by omega) (by omega) (by omega)
  refine k_istore C (lw := [(5, .int x2), (4, .int x1), (0, .ref r0), (1, .int n1), (2, .int n2), (3, .int n3)]) rfl rfl (Nat.le_of_ble_eq_true rfl) rfl ?_
  refine k_sub S [(0, .ref r0), (1, .int n1), (2, .int n2), (3, .int n3), (4, .int x1), (5, .int x2)] (List.forall_mem_cons.mpr ⟨List.mem_of_getElem? (i := 2) rfl, List.forall_mem_cons.mpr ⟨List.mem_of_getElem? (i := 3) rfl, List.forall_mem_cons.mpr ⟨List.mem_of_getElem? (i := 4) rfl, List.forall_mem_cons.mpr ⟨List.mem_of_getElem? (i := 5) rfl, List.forall_mem_cons.mpr ⟨List.mem_of_getElem? (i := 1) rfl, List.forall_mem_cons.mpr ⟨List.mem_of_getElem? (i := 0) rfl, fun _ h => nomatch h⟩⟩⟩⟩⟩⟩) ?_
  exact J3 _ x1 x2 rfl (by omega) (by omega) (by omega) (by omega)

theorem a_X12_joins {d : Nat} {T N : Nat → Nat} {I : IT} {L : LT} {R : RT} {A : Nat → Prop} {r0 : Nat} {n1 n2 n3 n4 : Int32} (hI : IM R r0 I) (H_r0 : (h_MD T N R A) r0) (b0_n2 : 0 ≤ n2.toInt) (b1_n2 : n2.toInt ≤ 999) (b0_n3 : 0 ≤ n3.toInt) (b1_n3 : n3.toInt ≤ 39) (b0_n4 : 0 ≤ n4.toInt) (b1_n4 : n4.toInt ≤ 39) : Ex (d + 7) 251 [.ref r0, .int n1, .int n2, .int n3, .int n4] (T, N, I, L, R) 0 0 (pI T N R (fun x9 I9 L9 => (0 ≤ x9.toInt) ∧ (x9.toInt ≤ 1) ∧ (∀ a4, R r0 4 = some a4 → ∀ r : Nat, r ≠ n3.toNatClampNeg → r ≠ 43 → r ≠ 45 → r ≠ 46 → r ≠ 47 → I9 a4 r = I a4 r) ∧ (IM R r0 I9 ∧ CM A R r0 [] [4, 5] I L I9 L9))) := by
  refine ⟨_, rfl, Nat.le_of_ble_eq_true rfl, fun V C S => ?_⟩
  show V 0 [(0, .ref r0), (1, .int n1), (2, .int n2), (3, .int n3), (4, .int n4)] [] (T, N, I, L, R) 0 0
  have gn1 := rg n1
  have gn2 := rg n2
  have gn3 := rg n3
  have gn4 := rg n4
  obtain ⟨T_r0, A_r0, ⟨r0_1, R_r0_1, H_r0_1⟩, ⟨r0_2, R_r0_2, H_r0_2⟩, ⟨r0_4, R_r0_4, H_r0_4⟩, ⟨r0_5, R_r0_5, H_r0_5⟩, ⟨r0_10, R_r0_10, H_r0_10⟩, ⟨r0_18, R_r0_18, H_r0_18⟩, ⟨r0_20, R_r0_20, H_r0_20⟩, ⟨r0_21, R_r0_21, H_r0_21⟩, ⟨r0_22, R_r0_22, H_r0_22⟩, ⟨r0_23, R_r0_23, H_r0_23⟩, ⟨r0_25, R_r0_25, H_r0_25⟩, ⟨r0_26, R_r0_26, H_r0_26⟩, ⟨r0_27, R_r0_27, H_r0_27⟩, ⟨r0_28, R_r0_28, H_r0_28⟩, ⟨r0_34, R_r0_34, H_r0_34⟩, J_r0, Y_r0⟩ := id H_r0
  have G_r0 : mF T R r0 := ⟨J_r0, Y_r0, T_r0⟩
  obtain ⟨w_r0_4_n3, k0_r0_4_n3⟩ : ∃ x, I r0_4 n3.toNatClampNeg = x := ⟨_, rfl⟩
  have gw_r0_4_n3 := rg w_r0_4_n3
  have ow_r0_4_n3 := IM.dgR hI R_r0_4 k0_r0_4_n3
  obtain ⟨w_r0_4_n4, k0_r0_4_n4⟩ : ∃ x, I r0_4 n4.toNatClampNeg = x := ⟨_, rfl⟩
  have gw_r0_4_n4 := rg w_r0_4_n4
  have ow_r0_4_n4 := IM.dgR hI R_r0_4 k0_r0_4_n4
  refine k_iload_n C rfl rfl rfl ?_
  refine z_iconst C (z := 2) rfl rfl rfl (fun x1 ex1 => ?_)
  refine b_icmp_ne C (t := 71) rfl rfl rfl (fun c2 => ?_) (fun c2 => ?_)
  · skip
    refine k_iload_n C rfl rfl rfl ?_
    refine z_iconst C (z := 3) rfl rfl rfl (fun x3 ex3 => ?_)
    refine b_icmp_ne C (t := 98) rfl rfl rfl (fun c4 => ?_) (fun c4 => ?_)
    · skip
      refine k_iload_n C rfl rfl rfl ?_
      refine k_aload_n C rfl rfl rfl ?_
      refine g_R C rfl rfl rfl T_r0 rfl R_r0_4 ?_
      refine k_iload_n C rfl rfl rfl ?_
      obtain ⟨T_r0_4, N_r0_4, A_r0_4⟩ := id H_r0_4
      refine a_I C rfl rfl T_r0_4 (by rw [N_r0_4]; exact vpi (by omega) (by omega)) k0_r0_4_n3 ?_
      refine b_icmp_gt C (t := 142) rfl rfl rfl (fun c5 => ?_) (fun c5 => ?_)
      · skip
        refine z_iconst C (z := 0) rfl rfl rfl (fun x6 ex6 => ?_)
        exact k_iret C rfl (Or.inr ⟨rfl, z01 (by omega) (by omega)⟩) (Nat.le_of_ble_eq_true rfl) (Nat.le_of_ble_eq_true rfl) ⟨_, _, _, rfl, rfl, by omega, by omega, fun a4 h4 => by cases (R_r0_4.symm.trans h4); exact (fun r z0 z1 z2 z3 z4 => rfl), hI, CM.rf⟩
      refine k_iload_n C rfl rfl rfl ?_
      refine k_aload_n C rfl rfl rfl ?_
      refine g_R C rfl rfl rfl T_r0 rfl R_r0_4 ?_
      refine k_iload C rfl rfl rfl ?_
      refine a_I C rfl rfl T_r0_4 (by rw [N_r0_4]; exact vpi (by omega) (by omega)) k0_r0_4_n4 ?_
      refine b_icmp_gt C (t := 142) rfl rfl rfl (fun c7 => ?_) (fun c7 => ?_)
      · skip
        refine z_iconst C (z := 0) rfl rfl rfl (fun x8 ex8 => ?_)
        exact k_iret C rfl (Or.inr ⟨rfl, z01 (by omega) (by omega)⟩) (Nat.le_of_ble_eq_true rfl) (Nat.le_of_ble_eq_true rfl) ⟨_, _, _, rfl, rfl, by omega, by omega, fun a4 h4 => by cases (R_r0_4.symm.trans h4); exact (fun r z0 z1 z2 z3 z4 => rfl), hI, CM.rf⟩
      refine k_aload_n C rfl rfl rfl ?_
      refine g_R C rfl rfl rfl T_r0 rfl R_r0_4 ?_
      refine k_iload_n C rfl rfl rfl ?_
      refine a_I C rfl rfl T_r0_4 (by rw [N_r0_4]; exact vpi (by omega) (by omega)) k0_r0_4_n3 ?_
      refine k_aload_n C rfl rfl rfl ?_
      refine g_R C rfl rfl rfl T_r0 rfl R_r0_4 ?_
      refine k_iload C rfl rfl rfl ?_
      refine a_I C rfl rfl T_r0_4 (by rw [N_r0_4]; exact vpi (by omega) (by omega)) k0_r0_4_n4 ?_
      refine z_iadd C rfl rfl ⟨by omega, by omega⟩ (fun x9 ex9 => ?_)
      refine z_iconst C (z := 2) rfl rfl rfl (fun x10 ex10 => ?_)
      refine k_iload_n C rfl rfl rfl ?_
      refine z_imulL C (c := 2) rfl rfl (by omega) ⟨by omega, by omega⟩ (fun x11 ex11 => ?_)
      refine z_isub C rfl rfl ⟨by omega, by omega⟩ (fun x12 ex12 => ?_)
      refine z_bipush C (z := 41) rfl rfl rfl (fun x13 ex13 => ?_)
      refine b_icmp_lt C (t := 144) rfl rfl rfl (fun c14 => ?_) (fun c14 => ?_)
      · skip
        refine k_iload_n C rfl rfl rfl ?_
        refine z_iconst C (z := 3) rfl rfl rfl (fun x15 ex15 => ?_)
        refine b_icmp_ne C (t := 161) rfl rfl rfl (fun c16 => ?_) (fun c16 => ?_)
        · skip
          refine k_aload_n C rfl rfl rfl ?_
          refine k_iload_n C rfl rfl rfl ?_
          refine k_iload C rfl rfl rfl ?_
          refine k_iload_n C rfl rfl rfl ?_
          refine z_bipush C (z := 43) rfl rfl rfl (fun x17 ex17 => ?_)
          have q18 : x17.toNatClampNeg = 43 := nck (by omega)
          refine c_VV C (a_X12_overlaps hI H_r0 (by omega) (by omega) (by omega) (by omega) (by omega) (by omega) (by omega) (by omega) (fun a4 h4 => by cases (R_r0_4.symm.trans h4); first | omega | (simp only [q18, k0_r0_4_n3, k0_r0_4_n4] <;> omega)) (fun a4 h4 => by cases (R_r0_4.symm.trans h4); first | omega | (simp only [q18, k0_r0_4_n3, k0_r0_4_n4] <;> omega)) (fun a4 h4 => by cases (R_r0_4.symm.trans h4); first | omega | (simp only [q18, k0_r0_4_n3, k0_r0_4_n4] <;> omega))) rfl rfl rfl rfl rfl ⟨_, rfl, rfl, T_r0, Nat.le_of_ble_eq_true rfl⟩ rfl rfl (Nat.le_of_ble_eq_true rfl) (Nat.le_of_ble_eq_true rfl) (Nat.le_of_ble_eq_true rfl) ?_
          rintro I20 L21 ⟨p0v19, hI20, S22⟩
          have p0v19 := p0v19 r0_4 R_r0_4
          try simp only [q18] at p0v19
          have F23 : ∀ r : Nat, r ≠ n3.toNatClampNeg → r ≠ 43 → r ≠ 45 → r ≠ 46 → r ≠ 47 → I20 r0_4 r = I r0_4 r := fun r z0 z1 z2 z3 z4 => p0v19 r (by first | exact z0 | exact z1 | exact z2 | exact z3 | exact z4) (by first | exact z0 | exact z1 | exact z2 | exact z3 | exact z4) (by first | exact z0 | exact z1 | exact z2 | exact z3 | exact z4) (by first | exact z0 | exact z1 | exact z2 | exact z3 | exact z4)
          have e24 := (p0v19 n3.toNatClampNeg (by first | decide | exact ncne (by omega) (by omega) (by omega) | exact nckn (by omega) (by omega) | exact (nckn (by omega) (by omega)).symm) (by first | decide | exact ncne (by omega) (by omega) (by omega) | exact nckn (by omega) (by omega) | exact (nckn (by omega) (by omega)).symm) (by first | decide | exact ncne (by omega) (by omega) (by omega) | exact nckn (by omega) (by omega) | exact (nckn (by omega) (by omega)).symm) (by first | decide | exact ncne (by omega) (by omega) (by omega) | exact nckn (by omega) (by omega) | exact (nckn (by omega) (by omega)).symm)).trans k0_r0_4_n3
          have e25 := (p0v19 n4.toNatClampNeg (by first | decide | exact ncne (by omega) (by omega) (by omega) | exact nckn (by omega) (by omega) | exact (nckn (by omega) (by omega)).symm) (by first | decide | exact ncne (by omega) (by omega) (by omega) | exact nckn (by omega) (by omega) | exact (nckn (by omega) (by omega)).symm) (by first | decide | exact ncne (by omega) (by omega) (by omega) | exact nckn (by omega) (by omega) | exact (nckn (by omega) (by omega)).symm) (by first | decide | exact ncne (by omega) (by omega) (by omega) | exact nckn (by omega) (by omega) | exact (nckn (by omega) (by omega)).symm)).trans k0_r0_4_n4
          refine k_aload_n C rfl rfl rfl ?_
          refine z_bipush C (z := 43) rfl rfl rfl (fun x26 ex26 => ?_)
          refine k_iload_n C rfl rfl rfl ?_
          have q27 : x26.toNatClampNeg = 43 := nck (by omega)
          refine c_VV C (a_X12_copies hI20 H_r0 (by omega) (by omega) (by omega) (by omega)) rfl rfl rfl rfl rfl ⟨_, rfl, rfl, T_r0, Nat.le_of_ble_eq_true rfl⟩ rfl rfl (Nat.le_of_ble_eq_true rfl) (Nat.le_of_ble_eq_true rfl) (Nat.le_of_ble_eq_true rfl) ?_
          rintro I29 L30 ⟨p0v28, p1v28, hI29, S31⟩
          have p0v28 := p0v28 r0_4 R_r0_4
          have p1v28 := p1v28 r0_4 R_r0_4
          try simp only [q27] at p1v28
          have F32 : ∀ r : Nat, r ≠ n3.toNatClampNeg → r ≠ 43 → r ≠ 45 → r ≠ 46 → r ≠ 47 → I29 r0_4 r = I20 r0_4 r := fun r z0 z1 z2 z3 z4 => p1v28 r (by first | exact z0 | exact z1 | exact z2 | exact z3 | exact z4)
          obtain ⟨x35, e36⟩ : ∃ x, I29 r0_4 n3.toNatClampNeg = x := ⟨_, rfl⟩
          have gx35 := rg x35
          have ox35 := IM.dgR hI29 R_r0_4 e36
          try simp only [q27, e24, e25, e36] at p0v28
          try have q0v28 := congrArg Int32.toInt p0v28
          refine z_iconst C (z := 1) rfl rfl rfl (fun x37 ex37 => ?_)
          exact k_iret C rfl (Or.inr ⟨rfl, z01 (by omega) (by omega)⟩) (Nat.le_of_ble_eq_true rfl) (Nat.le_of_ble_eq_true rfl) ⟨_, _, _, rfl, rfl, by omega, by omega, fun a4 h4 => by cases (R_r0_4.symm.trans h4); exact (fun r z0 z1 z2 z3 z4 => ((F32 r z0 z1 z2 z3 z4).trans (F23 r z0 z1 z2 z3 z4))), hI29, (CM.cons S22 (CM.mono S31 (by decide) (by decide)) (by decide) (by decide))⟩
        refine k_aload_n C rfl rfl rfl ?_
        refine k_iload_n C rfl rfl rfl ?_
        refine k_iload C rfl rfl rfl ?_
        refine z_bipush C (z := 43) rfl rfl rfl (fun x38 ex38 => ?_)
        have q39 : x38.toNatClampNeg = 43 := nck (by omega)
        refine c_VV C (a_X12_multiplies hI H_r0 (by omega) (by omega) (by omega) (by omega) (by omega) (by omega) (by first | omega | (simp only [q39, k0_r0_4_n3, k0_r0_4_n4] <;> omega)) (by first | omega | (simp only [q39, k0_r0_4_n3, k0_r0_4_n4] <;> omega)) (fun a4 h4 => by cases (R_r0_4.symm.trans h4); first | omega | (simp only [q39, k0_r0_4_n3, k0_r0_4_n4] <;> omega))) rfl rfl rfl rfl rfl ⟨_, rfl, rfl, T_r0, Nat.le_of_ble_eq_true rfl⟩ rfl rfl (Nat.le_of_ble_eq_true rfl) (Nat.le_of_ble_eq_true rfl) (Nat.le_of_ble_eq_true rfl) ?_
        rintro I41 L42 ⟨p0v40, hI41, S43⟩
        have p0v40 := p0v40 r0_4 R_r0_4
        try simp only [q39] at p0v40
        have F44 : ∀ r : Nat, r ≠ n3.toNatClampNeg → r ≠ 43 → r ≠ 45 → r ≠ 46 → r ≠ 47 → I41 r0_4 r = I r0_4 r := fun r z0 z1 z2 z3 z4 => p0v40 r (by first | exact z0 | exact z1 | exact z2 | exact z3 | exact z4)
        have e45 := (p0v40 n3.toNatClampNeg (by first | decide | exact ncne (by omega) (by omega) (by omega) | exact nckn (by omega) (by omega) | exact (nckn (by omega) (by omega)).symm)).trans k0_r0_4_n3
        have e46 := (p0v40 n4.toNatClampNeg (by first | decide | exact ncne (by omega) (by omega) (by omega) | exact nckn (by omega) (by omega) | exact (nckn (by omega) (by omega)).symm)).trans k0_r0_4_n4
        refine k_goto C (pc2 := 171) rfl rfl ?_
        refine k_aload_n C rfl rfl rfl ?_
        refine z_bipush C (z := 43) rfl rfl rfl (fun x47 ex47 => ?_)
        refine k_iload_n C rfl rfl rfl ?_
        have q48 : x47.toNatClampNeg = 43 := nck (by omega)
        refine c_VV C (a_X12_copies hI41 H_r0 (by omega) (by omega) (by omega) (by omega)) rfl rfl rfl rfl rfl ⟨_, rfl, rfl, T_r0, Nat.le_of_ble_eq_true rfl⟩ rfl rfl (Nat.le_of_ble_eq_true rfl) (Nat.le_of_ble_eq_true rfl) (Nat.le_of_ble_eq_true rfl) ?_
        rintro I50 L51 ⟨p0v49, p1v49, hI50, S52⟩
        have p0v49 := p0v49 r0_4 R_r0_4
        have p1v49 := p1v49 r0_4 R_r0_4
        try simp only [q48] at p1v49
        have F53 : ∀ r : Nat, r ≠ n3.toNatClampNeg → r ≠ 43 → r ≠ 45 → r ≠ 46 → r ≠ 47 → I50 r0_4 r = I41 r0_4 r := fun r z0 z1 z2 z3 z4 => p1v49 r (by first | exact z0 | exact z1 | exact z2 | exact z3 | exact z4)
        obtain ⟨x56, e57⟩ : ∃ x, I50 r0_4 n3.toNatClampNeg = x := ⟨_, rfl⟩
        have gx56 := rg x56
        have ox56 := IM.dgR hI50 R_r0_4 e57
        try simp only [q48, e45, e46, e57] at p0v49
        try have q0v49 := congrArg Int32.toInt p0v49
        refine z_iconst C (z := 1) rfl rfl rfl (fun x58 ex58 => ?_)
        exact k_iret C rfl (Or.inr ⟨rfl, z01 (by omega) (by omega)⟩) (Nat.le_of_ble_eq_true rfl) (Nat.le_of_ble_eq_true rfl) ⟨_, _, _, rfl, rfl, by omega, by omega, fun a4 h4 => by cases (R_r0_4.symm.trans h4); exact (fun r z0 z1 z2 z3 z4 => ((F53 r z0 z1 z2 z3 z4).trans (F44 r z0 z1 z2 z3 z4))), hI50, (CM.cons S43 (CM.mono S52 (by decide) (by decide)) (by decide) (by decide))⟩
      refine z_iconst C (z := 0) rfl rfl rfl (fun x59 ex59 => ?_)
      exact k_iret C rfl (Or.inr ⟨rfl, z01 (by omega) (by omega)⟩) (Nat.le_of_ble_eq_true rfl) (Nat.le_of_ble_eq_true rfl) ⟨_, _, _, rfl, rfl, by omega, by omega, fun a4 h4 => by cases (R_r0_4.symm.trans h4); exact (fun r z0 z1 z2 z3 z4 => rfl), hI, CM.rf⟩
    refine k_aload_n C rfl rfl rfl ?_
    refine g_R C rfl rfl rfl T_r0 rfl R_r0_4 ?_
    refine k_iload_n C rfl rfl rfl ?_
    obtain ⟨T_r0_4, N_r0_4, A_r0_4⟩ := id H_r0_4
    refine a_I C rfl rfl T_r0_4 (by rw [N_r0_4]; exact vpi (by omega) (by omega)) k0_r0_4_n3 ?_
    refine k_aload_n C rfl rfl rfl ?_
    refine g_R C rfl rfl rfl T_r0 rfl R_r0_4 ?_
    refine k_iload C rfl rfl rfl ?_
    refine a_I C rfl rfl T_r0_4 (by rw [N_r0_4]; exact vpi (by omega) (by omega)) k0_r0_4_n4 ?_
    refine z_iadd C rfl rfl ⟨by omega, by omega⟩ (fun x60 ex60 => ?_)
    refine z_bipush C (z := 41) rfl rfl rfl (fun x61 ex61 => ?_)
    refine b_icmp_lt C (t := 144) rfl rfl rfl (fun c62 => ?_) (fun c62 => ?_)
    · skip
      refine k_iload_n C rfl rfl rfl ?_
      refine z_iconst C (z := 3) rfl rfl rfl (fun x63 ex63 => ?_)
      refine b_icmp_ne C (t := 161) rfl rfl rfl (fun c64 => by exfalso; omega) (fun c64 => ?_)
      refine k_aload_n C rfl rfl rfl ?_
      refine k_iload_n C rfl rfl rfl ?_
      refine k_iload C rfl rfl rfl ?_
      refine z_bipush C (z := 43) rfl rfl rfl (fun x65 ex65 => ?_)
      have q66 : x65.toNatClampNeg = 43 := nck (by omega)
      refine c_VV C (a_X12_multiplies hI H_r0 (by omega) (by omega) (by omega) (by omega) (by omega) (by omega) (by first | omega | (simp only [q66, k0_r0_4_n3, k0_r0_4_n4] <;> omega)) (by first | omega | (simp only [q66, k0_r0_4_n3, k0_r0_4_n4] <;> omega)) (fun a4 h4 => by cases (R_r0_4.symm.trans h4); first | omega | (simp only [q66, k0_r0_4_n3, k0_r0_4_n4] <;> omega))) rfl rfl rfl rfl rfl ⟨_, rfl, rfl, T_r0, Nat.le_of_ble_eq_true rfl⟩ rfl rfl (Nat.le_of_ble_eq_true rfl) (Nat.le_of_ble_eq_true rfl) (Nat.le_of_ble_eq_true rfl) ?_
      rintro I68 L69 ⟨p0v67, hI68, S70⟩
      have p0v67 := p0v67 r0_4 R_r0_4
      try simp only [q66] at p0v67
      have F71 : ∀ r : Nat, r ≠ n3.toNatClampNeg → r ≠ 43 → r ≠ 45 → r ≠ 46 → r ≠ 47 → I68 r0_4 r = I r0_4 r := fun r z0 z1 z2 z3 z4 => p0v67 r (by first | exact z0 | exact z1 | exact z2 | exact z3 | exact z4)
      have e72 := (p0v67 n3.toNatClampNeg (by first | decide | exact ncne (by omega) (by omega) (by omega) | exact nckn (by omega) (by omega) | exact (nckn (by omega) (by omega)).symm)).trans k0_r0_4_n3
      have e73 := (p0v67 n4.toNatClampNeg (by first | decide | exact ncne (by omega) (by omega) (by omega) | exact nckn (by omega) (by omega) | exact (nckn (by omega) (by omega)).symm)).trans k0_r0_4_n4
      refine k_goto C (pc2 := 171) rfl rfl ?_
      refine k_aload_n C rfl rfl rfl ?_
      refine z_bipush C (z := 43) rfl rfl rfl (fun x74 ex74 => ?_)
      refine k_iload_n C rfl rfl rfl ?_
      have q75 : x74.toNatClampNeg = 43 := nck (by omega)
      refine c_VV C (a_X12_copies hI68 H_r0 (by omega) (by omega) (by omega) (by omega)) rfl rfl rfl rfl rfl ⟨_, rfl, rfl, T_r0, Nat.le_of_ble_eq_true rfl⟩ rfl rfl (Nat.le_of_ble_eq_true rfl) (Nat.le_of_ble_eq_true rfl) (Nat.le_of_ble_eq_true rfl) ?_
      rintro I77 L78 ⟨p0v76, p1v76, hI77, S79⟩
      have p0v76 := p0v76 r0_4 R_r0_4
      have p1v76 := p1v76 r0_4 R_r0_4
      try simp only [q75] at p1v76
      have F80 : ∀ r : Nat, r ≠ n3.toNatClampNeg → r ≠ 43 → r ≠ 45 → r ≠ 46 → r ≠ 47 → I77 r0_4 r = I68 r0_4 r := fun r z0 z1 z2 z3 z4 => p1v76 r (by first | exact z0 | exact z1 | exact z2 | exact z3 | exact z4)
      obtain ⟨x83, e84⟩ : ∃ x, I77 r0_4 n3.toNatClampNeg = x := ⟨_, rfl⟩
      have gx83 := rg x83
      have ox83 := IM.dgR hI77 R_r0_4 e84
      try simp only [q75, e72, e73, e84] at p0v76
      try have q0v76 := congrArg Int32.toInt p0v76
      refine z_iconst C (z := 1) rfl rfl rfl (fun x85 ex85 => ?_)
      exact k_iret C rfl (Or.inr ⟨rfl, z01 (by omega) (by omega)⟩) (Nat.le_of_ble_eq_true rfl) (Nat.le_of_ble_eq_true rfl) ⟨_, _, _, rfl, rfl, by omega, by omega, fun a4 h4 => by cases (R_r0_4.symm.trans h4); exact (fun r z0 z1 z2 z3 z4 => ((F80 r z0 z1 z2 z3 z4).trans (F71 r z0 z1 z2 z3 z4))), hI77, (CM.cons S70 (CM.mono S79 (by decide) (by decide)) (by decide) (by decide))⟩
    refine k_goto C (pc2 := 142) rfl rfl ?_
    refine z_iconst C (z := 0) rfl rfl rfl (fun x86 ex86 => ?_)
    exact k_iret C rfl (Or.inr ⟨rfl, z01 (by omega) (by omega)⟩) (Nat.le_of_ble_eq_true rfl) (Nat.le_of_ble_eq_true rfl) ⟨_, _, _, rfl, rfl, by omega, by omega, fun a4 h4 => by cases (R_r0_4.symm.trans h4); exact (fun r z0 z1 z2 z3 z4 => rfl), hI, CM.rf⟩
  refine k_aload_n C rfl rfl rfl ?_
  refine g_R C rfl rfl rfl T_r0 rfl R_r0_4 ?_
  refine k_iload_n C rfl rfl rfl ?_
  obtain ⟨T_r0_4, N_r0_4, A_r0_4⟩ := id H_r0_4
  refine a_I C rfl rfl T_r0_4 (by rw [N_r0_4]; exact vpi (by omega) (by omega)) k0_r0_4_n3 ?_
  refine k_aload_n C rfl rfl rfl ?_
  refine g_R C rfl rfl rfl T_r0 rfl R_r0_4 ?_
  refine k_iload C rfl rfl rfl ?_
  refine a_I C rfl rfl T_r0_4 (by rw [N_r0_4]; exact vpi (by omega) (by omega)) k0_r0_4_n4 ?_
  refine b_icmp_eq C (t := 23) rfl rfl rfl (fun c87 => ?_) (fun c87 => ?_)
  · skip
    refine z_iconst C (z := 0) rfl rfl rfl (fun x88 ex88 => ?_)
    have J89 : ∀ (nn90 : Nat) (I91 : IT) (L92 : LT) (x93 : Int32), ((41 - x93.toInt).toNat = nn90) → (IM R r0 I91) → (CM A R r0 [] [5] I L I91 L92) → (0 ≤ x93.toInt) → (x93.toInt ≤ 41) → V 26 [(0, .ref r0), (3, .int n3), (4, .int n4), (5, .int x93)] [] (T, N, I91, L92, R) 0 0 := by
      intro nn90
      induction nn90 using Nat.strongRecOn with
      | _ nn90 ihJ89 =>
        intro I91 L92 x93 hmnn90 hI97 S96 b94 b95
        have gx93 := rg x93
        have e98 := CM.j S96 R_r0_4 (by decide) k0_r0_4_n3
        have e99 := CM.j S96 R_r0_4 (by decide) k0_r0_4_n4
        refine k_iload C rfl rfl rfl ?_
        refine k_aload_n C rfl rfl rfl ?_
        refine g_R C rfl rfl rfl T_r0 rfl R_r0_4 ?_
        refine k_iload_n C rfl rfl rfl ?_
        refine a_I C rfl rfl T_r0_4 (by rw [N_r0_4]; exact vpi (by omega) (by omega)) e98 ?_
        refine b_icmp_gt C (t := 69) rfl rfl rfl (fun c100 => ?_) (fun c100 => ?_)
        · skip
          refine z_iconst C (z := 1) rfl rfl rfl (fun x101 ex101 => ?_)
          exact k_iret C rfl (Or.inr ⟨rfl, z01 (by omega) (by omega)⟩) (Nat.le_of_ble_eq_true rfl) (Nat.le_of_ble_eq_true rfl) ⟨_, _, _, rfl, rfl, by omega, by omega, fun a4 h4 => by cases (R_r0_4.symm.trans h4); exact (fun r z0 z1 z2 z3 z4 => (congrFun (CM.j0 S96 R_r0_4 (by decide)) r)), hI97, (CM.mono S96 (by decide) (by decide))⟩
        refine k_aload_n C rfl rfl rfl ?_
        refine k_iload_n C rfl rfl rfl ?_
        refine k_iload C rfl rfl rfl ?_
        refine k_aload_n C rfl rfl rfl ?_
        refine k_aload_n C rfl rfl rfl ?_
        refine k_iload_n C rfl rfl rfl ?_
        refine k_iload C rfl rfl rfl ?_
        refine c_VI C (a_X12_of hI97 H_r0 (by omega) (by omega) (by omega) (by omega)) rfl rfl rfl rfl rfl ⟨_, rfl, rfl, T_r0, Nat.le_of_ble_eq_true rfl⟩ rfl rfl (Nat.le_of_ble_eq_true rfl) (Nat.le_of_ble_eq_true rfl) (Nat.le_of_ble_eq_true rfl) ?_
        rintro x102 _ _ ⟨o0x102, o1x102, rfl, rfl⟩
        have gx102 := rg x102
        refine k_aload_n C rfl rfl rfl ?_
        refine k_iload C rfl rfl rfl ?_
        refine k_iload C rfl rfl rfl ?_
        refine c_VI C (a_X12_of hI97 H_r0 (by omega) (by omega) (by omega) (by omega)) rfl rfl rfl rfl rfl ⟨_, rfl, rfl, T_r0, Nat.le_of_ble_eq_true rfl⟩ rfl rfl (Nat.le_of_ble_eq_true rfl) (Nat.le_of_ble_eq_true rfl) (Nat.le_of_ble_eq_true rfl) ?_
        rintro x103 _ _ ⟨o0x103, o1x103, rfl, rfl⟩
        have gx103 := rg x103
        refine c_VI C (a_X12_plus hI97 H_r0) rfl rfl rfl rfl rfl ⟨_, rfl, rfl, T_r0, Nat.le_of_ble_eq_true rfl⟩ rfl rfl (Nat.le_of_ble_eq_true rfl) (Nat.le_of_ble_eq_true rfl) (Nat.le_of_ble_eq_true rfl) ?_
        rintro x104 _ _ ⟨o0x104, o1x104, rfl, rfl⟩
        have gx104 := rg x104
        refine c_VV C (a_X12_put hI97 H_r0 (by omega) (by omega) (by omega) (by omega) (by omega) (by omega)) rfl rfl rfl rfl rfl ⟨_, rfl, rfl, T_r0, Nat.le_of_ble_eq_true rfl⟩ rfl rfl (Nat.le_of_ble_eq_true rfl) (Nat.le_of_ble_eq_true rfl) (Nat.le_of_ble_eq_true rfl) ?_
        rintro I106 L107 ⟨hI106, S108⟩
        have e109 := CM.j S108 R_r0_4 (by decide) e98
        have e110 := CM.j S108 R_r0_4 (by decide) e99
        refine z_iinc C (z := 1) (lw := fun x111 => [(5, .int x111), (0, .ref r0), (3, .int n3), (4, .int n4)]) rfl rfl rfl (Nat.le_of_ble_eq_true rfl) rfl ⟨by omega, by omega⟩ (fun _ => rfl) (fun x111 ex111 => ?_)
        show V 66 [(5, .int x111), (0, .ref r0), (3, .int n3), (4, .int n4)] _ _ _ _
        refine k_goto C (pc2 := 26) rfl rfl ?_
        refine k_sub S [(0, .ref r0), (3, .int n3), (4, .int n4), (5, .int x111)] (List.forall_mem_cons.mpr ⟨List.mem_of_getElem? (i := 1) rfl, List.forall_mem_cons.mpr ⟨List.mem_of_getElem? (i := 2) rfl, List.forall_mem_cons.mpr ⟨List.mem_of_getElem? (i := 3) rfl, List.forall_mem_cons.mpr ⟨List.mem_of_getElem? (i := 0) rfl, fun _ h => nomatch h⟩⟩⟩⟩) ?_
        exact ihJ89 _ (by omega) I106 L107 x111 rfl hI106 (CM.cons S96 (CM.mono S108 (by decide) (by decide)) (by decide) (by decide)) (by omega) (by omega)
    refine k_istore C (lw := [(5, .int x88), (0, .ref r0), (1, .int n1), (2, .int n2), (3, .int n3), (4, .int n4)]) rfl rfl (Nat.le_of_ble_eq_true rfl) rfl ?_
    refine k_sub S [(0, .ref r0), (3, .int n3), (4, .int n4), (5, .int x88)] (List.forall_mem_cons.mpr ⟨List.mem_of_getElem? (i := 1) rfl, List.forall_mem_cons.mpr ⟨List.mem_of_getElem? (i := 4) rfl, List.forall_mem_cons.mpr ⟨List.mem_of_getElem? (i := 5) rfl, List.forall_mem_cons.mpr ⟨List.mem_of_getElem? (i := 0) rfl, fun _ h => nomatch h⟩⟩⟩⟩) ?_
    exact J89 _ I L x88 rfl hI CM.rf (by omega) (by omega)
  refine z_iconst C (z := 0) rfl rfl rfl (fun x112 ex112 => ?_)
  exact k_iret C rfl (Or.inr ⟨rfl, z01 (by omega) (by omega)⟩) (Nat.le_of_ble_eq_true rfl) (Nat.le_of_ble_eq_true rfl) ⟨_, _, _, rfl, rfl, by omega, by omega, fun a4 h4 => by cases (R_r0_4.symm.trans h4); exact (fun r z0 z1 z2 z3 z4 => rfl), hI, CM.rf⟩

