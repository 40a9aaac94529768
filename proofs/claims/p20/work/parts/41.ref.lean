/-! the reference in any state: rows -/
theorem a_X12_throwsIf {d : Nat} {T N : Nat → Nat} {I : IT} {L : LT} {R : RT} {A : Nat → Prop} {r0 : Nat} {n1 n2 : Int32} (hI : IM R r0 I) (H_r0 : (h_MD T N R A) r0) (b0_n1 : 0 ≤ n1.toInt) (b1_n1 : n1.toInt ≤ 1) : Ex (d + 1) 178 [.ref r0, .int n1, .int n2] (T, N, I, L, R) 0 0 (pI T N R (fun x9 I9 L9 => (0 ≤ x9.toInt) ∧ (x9.toInt ≤ 1) ∧ (x9.toInt = n1.toInt) ∧ (IM R r0 I9 ∧ CM A R r0 [0] [] I L I9 L9))) := by
  refine ⟨_, rfl, Nat.le_of_ble_eq_true rfl, fun V C S => ?_⟩
  show V 0 [(0, .ref r0), (1, .int n1), (2, .int n2)] [] (T, N, I, L, R) 0 0
  have gn1 := rg n1
  have gn2 := rg n2
  obtain ⟨T_r0, A_r0, ⟨r0_1, R_r0_1, H_r0_1⟩, ⟨r0_2, R_r0_2, H_r0_2⟩, ⟨r0_4, R_r0_4, H_r0_4⟩, ⟨r0_5, R_r0_5, H_r0_5⟩, ⟨r0_10, R_r0_10, H_r0_10⟩, ⟨r0_18, R_r0_18, H_r0_18⟩, ⟨r0_20, R_r0_20, H_r0_20⟩, ⟨r0_21, R_r0_21, H_r0_21⟩, ⟨r0_22, R_r0_22, H_r0_22⟩, ⟨r0_23, R_r0_23, H_r0_23⟩, ⟨r0_25, R_r0_25, H_r0_25⟩, ⟨r0_26, R_r0_26, H_r0_26⟩, ⟨r0_27, R_r0_27, H_r0_27⟩, ⟨r0_28, R_r0_28, H_r0_28⟩, ⟨r0_34, R_r0_34, H_r0_34⟩, J_r0, Y_r0⟩ := id H_r0
  have G_r0 : mF T R r0 := ⟨J_r0, Y_r0, T_r0⟩
  refine k_iload_n C rfl rfl rfl ?_
  refine b_if_eq C (t := 9) rfl rfl rfl (fun c1 => ?_) (fun c1 => ?_)
  · skip
    refine k_iload_n C rfl rfl rfl ?_
    exact k_iret C rfl (Or.inr ⟨rfl, z01 (by omega) (by omega)⟩) (Nat.le_of_ble_eq_true rfl) (Nat.le_of_ble_eq_true rfl) ⟨_, _, _, rfl, rfl, by omega, by omega, by omega, hI, CM.rf⟩
  refine k_aload_n C rfl rfl rfl ?_
  refine k_iload_n C rfl rfl rfl ?_
  refine z_pI C rfl rfl rfl T_r0 (Or.inr rfl) rfl (fun I2 uI2 => ?_)
  have hI2 : IM R r0 I2 := IM.fld hI G_r0 ⟨(fun h => absurd h (by decide)), (fun h => absurd h (by decide)), (fun h => absurd h (by decide)), (fun h => absurd h (by decide)), (fun h => absurd h (by decide))⟩ uI2
  have S3 : CM A R r0 [0] [] I L I2 L := CM.f G_r0 A_r0 uI2
  have e4 := u2_e uI2
  refine k_iload_n C rfl rfl rfl ?_
  exact k_iret C rfl (Or.inr ⟨rfl, z01 (by omega) (by omega)⟩) (Nat.le_of_ble_eq_true rfl) (Nat.le_of_ble_eq_true rfl) ⟨_, _, _, rfl, rfl, by omega, by omega, by first | omega | (simp only [e4] <;> omega), hI2, (CM.mono S3 (by decide) (by decide))⟩

theorem a_X12_in {d : Nat} {T N : Nat → Nat} {I : IT} {L : LT} {R : RT} {n0 n1 n2 : Int32}   : Ex (d + 1) 179 [.int n0, .int n1, .int n2] (T, N, I, L, R) 0 0 (pI T N R (fun x9 I9 L9 => (0 ≤ x9.toInt) ∧ (x9.toInt ≤ 1) ∧ (x9.toInt = 1 ∧ n1.toInt ≤ n0.toInt ∧ n0.toInt ≤ n2.toInt ∨ x9.toInt = 0 ∧ (n0.toInt < n1.toInt ∨ n2.toInt < n0.toInt)) ∧ (I = I9 ∧ L = L9))) := by
  refine ⟨_, rfl, Nat.le_of_ble_eq_true rfl, fun V C S => ?_⟩
  show V 0 [(0, .int n0), (1, .int n1), (2, .int n2)] [] (T, N, I, L, R) 0 0
  have gn0 := rg n0
  have gn1 := rg n1
  have gn2 := rg n2
  refine k_iload_n C rfl rfl rfl ?_
  refine k_iload_n C rfl rfl rfl ?_
  refine b_icmp_lt C (t := 14) rfl rfl rfl (fun c1 => ?_) (fun c1 => ?_)
  · skip
    refine z_iconst C (z := 0) rfl rfl rfl (fun x2 ex2 => ?_)
    exact k_iret C rfl (Or.inr ⟨rfl, z01 (by omega) (by omega)⟩) (Nat.le_of_ble_eq_true rfl) (Nat.le_of_ble_eq_true rfl) ⟨_, _, _, rfl, rfl, by omega, by omega, by omega, rfl, rfl⟩
  refine k_iload_n C rfl rfl rfl ?_
  refine k_iload_n C rfl rfl rfl ?_
  refine b_icmp_gt C (t := 14) rfl rfl rfl (fun c3 => ?_) (fun c3 => ?_)
  · skip
    refine z_iconst C (z := 0) rfl rfl rfl (fun x4 ex4 => ?_)
    exact k_iret C rfl (Or.inr ⟨rfl, z01 (by omega) (by omega)⟩) (Nat.le_of_ble_eq_true rfl) (Nat.le_of_ble_eq_true rfl) ⟨_, _, _, rfl, rfl, by omega, by omega, by omega, rfl, rfl⟩
  refine z_iconst C (z := 1) rfl rfl rfl (fun x5 ex5 => ?_)
  refine k_goto C (pc2 := 15) rfl rfl ?_
  exact k_iret C rfl (Or.inr ⟨rfl, z01 (by omega) (by omega)⟩) (Nat.le_of_ble_eq_true rfl) (Nat.le_of_ble_eq_true rfl) ⟨_, _, _, rfl, rfl, by omega, by omega, by omega, rfl, rfl⟩

theorem a_X12_p {d : Nat} {T N : Nat → Nat} {I : IT} {L : LT} {R : RT} {A : Nat → Prop} {r0 : Nat} (hI : IM R r0 I) (H_r0 : (h_MD T N R A) r0) : Ex (d + 1) 183 [.ref r0] (T, N, I, L, R) 0 0 (pI T N R (fun x9 I9 L9 => (11 ≤ x9.toInt) ∧ (x9.toInt ≤ 19) ∧ (∀ a1, R r0 1 = some a1 → x9.toInt = (I a1 0).toInt) ∧ (I = I9 ∧ L = L9))) := by
  refine ⟨_, rfl, Nat.le_of_ble_eq_true rfl, fun V C S => ?_⟩
  show V 0 [(0, .ref r0)] [] (T, N, I, L, R) 0 0
  obtain ⟨T_r0, A_r0, ⟨r0_1, R_r0_1, H_r0_1⟩, ⟨r0_2, R_r0_2, H_r0_2⟩, ⟨r0_4, R_r0_4, H_r0_4⟩, ⟨r0_5, R_r0_5, H_r0_5⟩, ⟨r0_10, R_r0_10, H_r0_10⟩, ⟨r0_18, R_r0_18, H_r0_18⟩, ⟨r0_20, R_r0_20, H_r0_20⟩, ⟨r0_21, R_r0_21, H_r0_21⟩, ⟨r0_22, R_r0_22, H_r0_22⟩, ⟨r0_23, R_r0_23, H_r0_23⟩, ⟨r0_25, R_r0_25, H_r0_25⟩, ⟨r0_26, R_r0_26, H_r0_26⟩, ⟨r0_27, R_r0_27, H_r0_27⟩, ⟨r0_28, R_r0_28, H_r0_28⟩, ⟨r0_34, R_r0_34, H_r0_34⟩, J_r0, Y_r0⟩ := id H_r0
  have G_r0 : mF T R r0 := ⟨J_r0, Y_r0, T_r0⟩
  obtain ⟨w_r0_1_0, k0_r0_1_0⟩ : ∃ x, I r0_1 0 = x := ⟨_, rfl⟩
  have gw_r0_1_0 := rg w_r0_1_0
  have ow_r0_1_0 := IM.pi hI R_r0_1 k0_r0_1_0
  refine k_aload_n C rfl rfl rfl ?_
  refine g_R C rfl rfl rfl T_r0 rfl R_r0_1 ?_
  refine z_iconst C (z := 0) rfl rfl rfl (fun x1 ex1 => ?_)
  obtain ⟨T_r0_1, N_r0_1, A_r0_1⟩ := id H_r0_1
  refine a_I C rfl rfl T_r0_1 (by rw [N_r0_1]; exact vpi (by omega) (by omega)) ((congrArg (I r0_1) (nck (n := 0) (by omega))).trans k0_r0_1_0) ?_
  exact k_iret C rfl (Or.inl rfl) (Nat.le_of_ble_eq_true rfl) (Nat.le_of_ble_eq_true rfl) ⟨_, _, _, rfl, rfl, by omega, by omega, fun a1 h1 => by cases (R_r0_1.symm.trans h1); first | omega | (simp only [k0_r0_1_0] <;> omega), rfl, rfl⟩

theorem a_X12_noForm {d : Nat} {T N : Nat → Nat} {I : IT} {L : LT} {R : RT} {A : Nat → Prop} {r0 : Nat} {n1 : Int32} (hI : IM R r0 I) (H_r0 : (h_MD T N R A) r0) : Ex (d + 2) 184 [.ref r0, .int n1] (T, N, I, L, R) 0 0 (pI T N R (fun x9 I9 L9 => (0 ≤ x9.toInt) ∧ (x9.toInt ≤ 1) ∧ (∀ a1, R r0 1 = some a1 → x9.toInt = 1 ∨ x9.toInt = 0 ∧ 0 ≤ n1.toInt ∧ n1.toInt < (I a1 1).toInt) ∧ (I = I9 ∧ L = L9))) := by
  refine ⟨_, rfl, Nat.le_of_ble_eq_true rfl, fun V C S => ?_⟩
  show V 0 [(0, .ref r0), (1, .int n1)] [] (T, N, I, L, R) 0 0
  have gn1 := rg n1
  obtain ⟨T_r0, A_r0, ⟨r0_1, R_r0_1, H_r0_1⟩, ⟨r0_2, R_r0_2, H_r0_2⟩, ⟨r0_4, R_r0_4, H_r0_4⟩, ⟨r0_5, R_r0_5, H_r0_5⟩, ⟨r0_10, R_r0_10, H_r0_10⟩, ⟨r0_18, R_r0_18, H_r0_18⟩, ⟨r0_20, R_r0_20, H_r0_20⟩, ⟨r0_21, R_r0_21, H_r0_21⟩, ⟨r0_22, R_r0_22, H_r0_22⟩, ⟨r0_23, R_r0_23, H_r0_23⟩, ⟨r0_25, R_r0_25, H_r0_25⟩, ⟨r0_26, R_r0_26, H_r0_26⟩, ⟨r0_27, R_r0_27, H_r0_27⟩, ⟨r0_28, R_r0_28, H_r0_28⟩, ⟨r0_34, R_r0_34, H_r0_34⟩, J_r0, Y_r0⟩ := id H_r0
  have G_r0 : mF T R r0 := ⟨J_r0, Y_r0, T_r0⟩
  obtain ⟨w_r0_1_1, k0_r0_1_1⟩ : ∃ x, I r0_1 1 = x := ⟨_, rfl⟩
  have gw_r0_1_1 := rg w_r0_1_1
  have ow_r0_1_1 := IM.c1 hI R_r0_1 k0_r0_1_1
  refine k_iload_n C rfl rfl rfl ?_
  refine z_iconst C (z := 0) rfl rfl rfl (fun x1 ex1 => ?_)
  refine k_aload_n C rfl rfl rfl ?_
  refine g_R C rfl rfl rfl T_r0 rfl R_r0_1 ?_
  refine z_iconst C (z := 1) rfl rfl rfl (fun x2 ex2 => ?_)
  obtain ⟨T_r0_1, N_r0_1, A_r0_1⟩ := id H_r0_1
  refine a_I C rfl rfl T_r0_1 (by rw [N_r0_1]; exact vpi (by omega) (by omega)) ((congrArg (I r0_1) (nck (n := 1) (by omega))).trans k0_r0_1_1) ?_
  refine z_iconst C (z := 1) rfl rfl rfl (fun x3 ex3 => ?_)
  refine z_isub C rfl rfl ⟨by omega, by omega⟩ (fun x4 ex4 => ?_)
  have q5 : x1.toNatClampNeg = 0 := nck (by omega)
  refine c_SI C a_X12_in rfl rfl rfl rfl rfl rfl rfl (Nat.le_of_ble_eq_true rfl) (Nat.le_of_ble_eq_true rfl) (Nat.le_of_ble_eq_true rfl) ?_
  rintro x6 _ _ ⟨o0x6, o1x6, p0x6, rfl, rfl⟩
  have gx6 := rg x6
  try simp only [q5, k0_r0_1_1] at p0x6
  try have q0x6 := congrArg Int32.toInt p0x6
  refine b_if_ne C (t := 20) rfl rfl rfl (fun c7 => ?_) (fun c7 => ?_)
  · skip
    refine z_iconst C (z := 0) rfl rfl rfl (fun x8 ex8 => ?_)
    exact k_iret C rfl (Or.inr ⟨rfl, z01 (by omega) (by omega)⟩) (Nat.le_of_ble_eq_true rfl) (Nat.le_of_ble_eq_true rfl) ⟨_, _, _, rfl, rfl, by omega, by omega, fun a1 h1 => by cases (R_r0_1.symm.trans h1); first | omega | (simp only [k0_r0_1_1] <;> omega), rfl, rfl⟩
  refine z_iconst C (z := 1) rfl rfl rfl (fun x9 ex9 => ?_)
  refine k_goto C (pc2 := 21) rfl rfl ?_
  exact k_iret C rfl (Or.inr ⟨rfl, z01 (by omega) (by omega)⟩) (Nat.le_of_ble_eq_true rfl) (Nat.le_of_ble_eq_true rfl) ⟨_, _, _, rfl, rfl, by omega, by omega, fun a1 h1 => by cases (R_r0_1.symm.trans h1); first | omega | (simp only [k0_r0_1_1] <;> omega), rfl, rfl⟩

theorem a_X12_noTable {d : Nat} {T N : Nat → Nat} {I : IT} {L : LT} {R : RT} {A : Nat → Prop} {r0 : Nat} {n1 : Int32} (hI : IM R r0 I) (H_r0 : (h_MD T N R A) r0) : Ex (d + 2) 185 [.ref r0, .int n1] (T, N, I, L, R) 0 0 (pI T N R (fun x9 I9 L9 => (0 ≤ x9.toInt) ∧ (x9.toInt ≤ 1) ∧ (∀ a1, R r0 1 = some a1 → x9.toInt = 1 ∨ x9.toInt = 0 ∧ 0 ≤ n1.toInt ∧ n1.toInt < (I a1 2).toInt) ∧ (I = I9 ∧ L = L9))) := by
  refine ⟨_, rfl, Nat.le_of_ble_eq_true rfl, fun V C S => ?_⟩
  show V 0 [(0, .ref r0), (1, .int n1)] [] (T, N, I, L, R) 0 0
  have gn1 := rg n1
  obtain ⟨T_r0, A_r0, ⟨r0_1, R_r0_1, H_r0_1⟩, ⟨r0_2, R_r0_2, H_r0_2⟩, ⟨r0_4, R_r0_4, H_r0_4⟩, ⟨r0_5, R_r0_5, H_r0_5⟩, ⟨r0_10, R_r0_10, H_r0_10⟩, ⟨r0_18, R_r0_18, H_r0_18⟩, ⟨r0_20, R_r0_20, H_r0_20⟩, ⟨r0_21, R_r0_21, H_r0_21⟩, ⟨r0_22, R_r0_22, H_r0_22⟩, ⟨r0_23, R_r0_23, H_r0_23⟩, ⟨r0_25, R_r0_25, H_r0_25⟩, ⟨r0_26, R_r0_26, H_r0_26⟩, ⟨r0_27, R_r0_27, H_r0_27⟩, ⟨r0_28, R_r0_28, H_r0_28⟩, ⟨r0_34, R_r0_34, H_r0_34⟩, J_r0, Y_r0⟩ := id H_r0
  have G_r0 : mF T R r0 := ⟨J_r0, Y_r0, T_r0⟩
  obtain ⟨w_r0_1_2, k0_r0_1_2⟩ : ∃ x, I r0_1 2 = x := ⟨_, rfl⟩
  have gw_r0_1_2 := rg w_r0_1_2
  have ow_r0_1_2 := IM.c2 hI R_r0_1 k0_r0_1_2
  refine k_iload_n C rfl rfl rfl ?_
  refine z_iconst C (z := 0) rfl rfl rfl (fun x1 ex1 => ?_)
  refine k_aload_n C rfl rfl rfl ?_
  refine g_R C rfl rfl rfl T_r0 rfl R_r0_1 ?_
  refine z_iconst C (z := 2) rfl rfl rfl (fun x2 ex2 => ?_)
  obtain ⟨T_r0_1, N_r0_1, A_r0_1⟩ := id H_r0_1
  refine a_I C rfl rfl T_r0_1 (by rw [N_r0_1]; exact vpi (by omega) (by omega)) ((congrArg (I r0_1) (nck (n := 2) (by omega))).trans k0_r0_1_2) ?_
  refine z_iconst C (z := 1) rfl rfl rfl (fun x3 ex3 => ?_)
  refine z_isub C rfl rfl ⟨by omega, by omega⟩ (fun x4 ex4 => ?_)
  have q5 : x1.toNatClampNeg = 0 := nck (by omega)
  refine c_SI C a_X12_in rfl rfl rfl rfl rfl rfl rfl (Nat.le_of_ble_eq_true rfl) (Nat.le_of_ble_eq_true rfl) (Nat.le_of_ble_eq_true rfl) ?_
  rintro x6 _ _ ⟨o0x6, o1x6, p0x6, rfl, rfl⟩
  have gx6 := rg x6
  try simp only [q5, k0_r0_1_2] at p0x6
  try have q0x6 := congrArg Int32.toInt p0x6
  refine b_if_ne C (t := 20) rfl rfl rfl (fun c7 => ?_) (fun c7 => ?_)
  · skip
    refine z_iconst C (z := 0) rfl rfl rfl (fun x8 ex8 => ?_)
    exact k_iret C rfl (Or.inr ⟨rfl, z01 (by omega) (by omega)⟩) (Nat.le_of_ble_eq_true rfl) (Nat.le_of_ble_eq_true rfl) ⟨_, _, _, rfl, rfl, by omega, by omega, fun a1 h1 => by cases (R_r0_1.symm.trans h1); first | omega | (simp only [k0_r0_1_2] <;> omega), rfl, rfl⟩
  refine z_iconst C (z := 1) rfl rfl rfl (fun x9 ex9 => ?_)
  refine k_goto C (pc2 := 21) rfl rfl ?_
  exact k_iret C rfl (Or.inr ⟨rfl, z01 (by omega) (by omega)⟩) (Nat.le_of_ble_eq_true rfl) (Nat.le_of_ble_eq_true rfl) ⟨_, _, _, rfl, rfl, by omega, by omega, fun a1 h1 => by cases (R_r0_1.symm.trans h1); first | omega | (simp only [k0_r0_1_2] <;> omega), rfl, rfl⟩

theorem a_X12_noSigns {d : Nat} {T N : Nat → Nat} {I : IT} {L : LT} {R : RT} {A : Nat → Prop} {r0 : Nat} {n1 : Int32} (hI : IM R r0 I) (H_r0 : (h_MD T N R A) r0) : Ex (d + 2) 186 [.ref r0, .int n1] (T, N, I, L, R) 0 0 (pI T N R (fun x9 I9 L9 => (0 ≤ x9.toInt) ∧ (x9.toInt ≤ 1) ∧ (∀ a1, R r0 1 = some a1 → x9.toInt = 1 ∨ x9.toInt = 0 ∧ 0 ≤ n1.toInt ∧ n1.toInt < (I a1 3).toInt) ∧ (I = I9 ∧ L = L9))) := by
  refine ⟨_, rfl, Nat.le_of_ble_eq_true rfl, fun V C S => ?_⟩
  show V 0 [(0, .ref r0), (1, .int n1)] [] (T, N, I, L, R) 0 0
  have gn1 := rg n1
  obtain ⟨T_r0, A_r0, ⟨r0_1, R_r0_1, H_r0_1⟩, ⟨r0_2, R_r0_2, H_r0_2⟩, ⟨r0_4, R_r0_4, H_r0_4⟩, ⟨r0_5, R_r0_5, H_r0_5⟩, ⟨r0_10, R_r0_10, H_r0_10⟩, ⟨r0_18, R_r0_18, H_r0_18⟩, ⟨r0_20, R_r0_20, H_r0_20⟩, ⟨r0_21, R_r0_21, H_r0_21⟩, ⟨r0_22, R_r0_22, H_r0_22⟩, ⟨r0_23, R_r0_23, H_r0_23⟩, ⟨r0_25, R_r0_25, H_r0_25⟩, ⟨r0_26, R_r0_26, H_r0_26⟩, ⟨r0_27, R_r0_27, H_r0_27⟩, ⟨r0_28, R_r0_28, H_r0_28⟩, ⟨r0_34, R_r0_34, H_r0_34⟩, J_r0, Y_r0⟩ := id H_r0
  have G_r0 : mF T R r0 := ⟨J_r0, Y_r0, T_r0⟩
  obtain ⟨w_r0_1_3, k0_r0_1_3⟩ : ∃ x, I r0_1 3 = x := ⟨_, rfl⟩
  have gw_r0_1_3 := rg w_r0_1_3
  have ow_r0_1_3 := IM.c3 hI R_r0_1 k0_r0_1_3
  refine k_iload_n C rfl rfl rfl ?_
  refine z_iconst C (z := 0) rfl rfl rfl (fun x1 ex1 => ?_)
  refine k_aload_n C rfl rfl rfl ?_
  refine g_R C rfl rfl rfl T_r0 rfl R_r0_1 ?_
  refine z_iconst C (z := 3) rfl rfl rfl (fun x2 ex2 => ?_)
  obtain ⟨T_r0_1, N_r0_1, A_r0_1⟩ := id H_r0_1
  refine a_I C rfl rfl T_r0_1 (by rw [N_r0_1]; exact vpi (by omega) (by omega)) ((congrArg (I r0_1) (nck (n := 3) (by omega))).trans k0_r0_1_3) ?_
  refine z_iconst C (z := 1) rfl rfl rfl (fun x3 ex3 => ?_)
  refine z_isub C rfl rfl ⟨by omega, by omega⟩ (fun x4 ex4 => ?_)
  have q5 : x1.toNatClampNeg = 0 := nck (by omega)
  refine c_SI C a_X12_in rfl rfl rfl rfl rfl rfl rfl (Nat.le_of_ble_eq_true rfl) (Nat.le_of_ble_eq_true rfl) (Nat.le_of_ble_eq_true rfl) ?_
  rintro x6 _ _ ⟨o0x6, o1x6, p0x6, rfl, rfl⟩
  have gx6 := rg x6
  try simp only [q5, k0_r0_1_3] at p0x6
  try have q0x6 := congrArg Int32.toInt p0x6
  refine b_if_ne C (t := 20) rfl rfl rfl (fun c7 => ?_) (fun c7 => ?_)
  · skip
    refine z_iconst C (z := 0) rfl rfl rfl (fun x8 ex8 => ?_)
    exact k_iret C rfl (Or.inr ⟨rfl, z01 (by omega) (by omega)⟩) (Nat.le_of_ble_eq_true rfl) (Nat.le_of_ble_eq_true rfl) ⟨_, _, _, rfl, rfl, by omega, by omega, fun a1 h1 => by cases (R_r0_1.symm.trans h1); first | omega | (simp only [k0_r0_1_3] <;> omega), rfl, rfl⟩
  refine z_iconst C (z := 1) rfl rfl rfl (fun x9 ex9 => ?_)
  refine k_goto C (pc2 := 21) rfl rfl ?_
  exact k_iret C rfl (Or.inr ⟨rfl, z01 (by omega) (by omega)⟩) (Nat.le_of_ble_eq_true rfl) (Nat.le_of_ble_eq_true rfl) ⟨_, _, _, rfl, rfl, by omega, by omega, fun a1 h1 => by cases (R_r0_1.symm.trans h1); first | omega | (simp only [k0_r0_1_3] <;> omega), rfl, rfl⟩

theorem a_X12_formAt {d : Nat} {T N : Nat → Nat} {I : IT} {L : LT} {R : RT} {n0 : Int32}  (b0_n0 : 0 ≤ n0.toInt) (b1_n0 : n0.toInt ≤ 15) : Ex (d + 1) 187 [.int n0] (T, N, I, L, R) 0 0 (pI T N R (fun x9 I9 L9 => (6 ≤ x9.toInt) ∧ (x9.toInt ≤ 156) ∧ (x9.toInt = 6 + 10 * n0.toInt) ∧ (I = I9 ∧ L = L9))) := by
  refine ⟨_, rfl, Nat.le_of_ble_eq_true rfl, fun V C S => ?_⟩
  show V 0 [(0, .int n0)] [] (T, N, I, L, R) 0 0
  have gn0 := rg n0
  refine z_bipush C (z := 6) rfl rfl rfl (fun x1 ex1 => ?_)
  refine z_bipush C (z := 10) rfl rfl rfl (fun x2 ex2 => ?_)
  refine k_iload_n C rfl rfl rfl ?_
  refine z_imulL C (c := 10) rfl rfl (by omega) ⟨by omega, by omega⟩ (fun x3 ex3 => ?_)
  refine z_iadd C rfl rfl ⟨by omega, by omega⟩ (fun x4 ex4 => ?_)
  exact k_iret C rfl (Or.inl rfl) (Nat.le_of_ble_eq_true rfl) (Nat.le_of_ble_eq_true rfl) ⟨_, _, _, rfl, rfl, by omega, by omega, by omega, rfl, rfl⟩

theorem a_X12_degreeOf {d : Nat} {T N : Nat → Nat} {I : IT} {L : LT} {R : RT} {A : Nat → Prop} {r0 : Nat} {n1 : Int32} (hI : IM R r0 I) (H_r0 : (h_MD T N R A) r0) (b0_n1 : 0 ≤ n1.toInt) (b1_n1 : n1.toInt ≤ 15) : Ex (d + 2) 188 [.ref r0, .int n1] (T, N, I, L, R) 0 0 (pI T N R (fun x9 I9 L9 => (0 ≤ x9.toInt) ∧ (x9.toInt ≤ 8) ∧ (∀ a1, R r0 1 = some a1 → x9.toInt = (I a1 (6 + 10 * n1.toNatClampNeg)).toInt) ∧ (I = I9 ∧ L = L9))) := by
  refine ⟨_, rfl, Nat.le_of_ble_eq_true rfl, fun V C S => ?_⟩
  show V 0 [(0, .ref r0), (1, .int n1)] [] (T, N, I, L, R) 0 0
  have gn1 := rg n1
  obtain ⟨T_r0, A_r0, ⟨r0_1, R_r0_1, H_r0_1⟩, ⟨r0_2, R_r0_2, H_r0_2⟩, ⟨r0_4, R_r0_4, H_r0_4⟩, ⟨r0_5, R_r0_5, H_r0_5⟩, ⟨r0_10, R_r0_10, H_r0_10⟩, ⟨r0_18, R_r0_18, H_r0_18⟩, ⟨r0_20, R_r0_20, H_r0_20⟩, ⟨r0_21, R_r0_21, H_r0_21⟩, ⟨r0_22, R_r0_22, H_r0_22⟩, ⟨r0_23, R_r0_23, H_r0_23⟩, ⟨r0_25, R_r0_25, H_r0_25⟩, ⟨r0_26, R_r0_26, H_r0_26⟩, ⟨r0_27, R_r0_27, H_r0_27⟩, ⟨r0_28, R_r0_28, H_r0_28⟩, ⟨r0_34, R_r0_34, H_r0_34⟩, J_r0, Y_r0⟩ := id H_r0
  have G_r0 : mF T R r0 := ⟨J_r0, Y_r0, T_r0⟩
  refine k_aload_n C rfl rfl rfl ?_
  refine g_R C rfl rfl rfl T_r0 rfl R_r0_1 ?_
  refine k_iload_n C rfl rfl rfl ?_
  refine c_SI C (a_X12_formAt (by omega) (by omega)) rfl rfl rfl rfl rfl rfl rfl (Nat.le_of_ble_eq_true rfl) (Nat.le_of_ble_eq_true rfl) (Nat.le_of_ble_eq_true rfl) ?_
  rintro x1 _ _ ⟨o0x1, o1x1, p0x1, rfl, rfl⟩
  have gx1 := rg x1
  obtain ⟨T_r0_1, N_r0_1, A_r0_1⟩ := id H_r0_1
  refine z_aI C rfl rfl T_r0_1 N_r0_1 (by omega) (by omega) (fun x2 ex2 => ?_)
  have gx2 := rg x2
  have dx2 := IM.deg hI R_r0_1 (f := n1) ⟨by omega, by omega⟩ (by omega) ex2
  have jj : x1.toNatClampNeg = 6 + 10 * n1.toNatClampNeg := by (have h_n1 := ncz (x := n1) (by omega)); have hj := ncz (x := x1) (by omega); omega
  have ee := ex2; rw [jj] at ee
  exact k_iret C rfl (Or.inl rfl) (Nat.le_of_ble_eq_true rfl) (Nat.le_of_ble_eq_true rfl) ⟨_, _, _, rfl, rfl, by omega, by omega, fun a1 h1 => by cases (R_r0_1.symm.trans h1); rw [ee], rfl, rfl⟩

theorem a_X12_numberOf {d : Nat} {T N : Nat → Nat} {I : IT} {L : LT} {R : RT} {A : Nat → Prop} {r0 : Nat} {n1 n2 : Int32} (hI : IM R r0 I) (H_r0 : (h_MD T N R A) r0) (b0_n1 : 0 ≤ n1.toInt) (b1_n1 : n1.toInt ≤ 15) (b0_n2 : 0 ≤ n2.toInt) (b1_n2 : n2.toInt ≤ 8) : Ex (d + 2) 189 [.ref r0, .int n1, .int n2] (T, N, I, L, R) 0 0 (pI T N R (fun x9 I9 L9 => (-18 ≤ x9.toInt) ∧ (x9.toInt ≤ 18) ∧ (∀ a1, R r0 1 = some a1 → x9.toInt = (I a1 (6 + 10 * n1.toNatClampNeg + 1 + n2.toNatClampNeg)).toInt) ∧ (I = I9 ∧ L = L9))) := by
  refine ⟨_, rfl, Nat.le_of_ble_eq_true rfl, fun V C S => ?_⟩
  show V 0 [(0, .ref r0), (1, .int n1), (2, .int n2)] [] (T, N, I, L, R) 0 0
  have gn1 := rg n1
  have gn2 := rg n2
  obtain ⟨T_r0, A_r0, ⟨r0_1, R_r0_1, H_r0_1⟩, ⟨r0_2, R_r0_2, H_r0_2⟩, ⟨r0_4, R_r0_4, H_r0_4⟩, ⟨r0_5, R_r0_5, H_r0_5⟩, ⟨r0_10, R_r0_10, H_r0_10⟩, ⟨r0_18, R_r0_18, H_r0_18⟩, ⟨r0_20, R_r0_20, H_r0_20⟩, ⟨r0_21, R_r0_21, H_r0_21⟩, ⟨r0_22, R_r0_22, H_r0_22⟩, ⟨r0_23, R_r0_23, H_r0_23⟩, ⟨r0_25, R_r0_25, H_r0_25⟩, ⟨r0_26, R_r0_26, H_r0_26⟩, ⟨r0_27, R_r0_27, H_r0_27⟩, ⟨r0_28, R_r0_28, H_r0_28⟩, ⟨r0_34, R_r0_34, H_r0_34⟩, J_r0, Y_r0⟩ := id H_r0
  have G_r0 : mF T R r0 := ⟨J_r0, Y_r0, T_r0⟩
  refine k_aload_n C rfl rfl rfl ?_
  refine g_R C rfl rfl rfl T_r0 rfl R_r0_1 ?_
  refine k_iload_n C rfl rfl rfl ?_
  refine c_SI C (a_X12_formAt (by omega) (by omega)) rfl rfl rfl rfl rfl rfl rfl (Nat.le_of_ble_eq_true rfl) (Nat.le_of_ble_eq_true rfl) (Nat.le_of_ble_eq_true rfl) ?_
  rintro x1 _ _ ⟨o0x1, o1x1, p0x1, rfl, rfl⟩
  have gx1 := rg x1
  refine z_iconst C (z := 1) rfl rfl rfl (fun x2 ex2 => ?_)
  refine z_iadd C rfl rfl ⟨by omega, by omega⟩ (fun x3 ex3 => ?_)
  refine k_iload_n C rfl rfl rfl ?_
  refine z_iadd C rfl rfl ⟨by omega, by omega⟩ (fun x4 ex4 => ?_)
  obtain ⟨T_r0_1, N_r0_1, A_r0_1⟩ := id H_r0_1
  refine z_aI C rfl rfl T_r0_1 N_r0_1 (by omega) (by omega) (fun x5 ex5 => ?_)
  have gx5 := rg x5
  have dx5 := IM.num hI R_r0_1 (f := n1) (k := n2) ⟨by omega, by omega⟩ ⟨by omega, by omega⟩ (by omega) ex5
  have jj : x4.toNatClampNeg = 6 + 10 * n1.toNatClampNeg + 1 + n2.toNatClampNeg := by (have h_n1 := ncz (x := n1) (by omega)); (have h_n2 := ncz (x := n2) (by omega)); have hj := ncz (x := x4) (by omega); omega
  have ee := ex5; rw [jj] at ee
  exact k_iret C rfl (Or.inl rfl) (Nat.le_of_ble_eq_true rfl) (Nat.le_of_ble_eq_true rfl) ⟨_, _, _, rfl, rfl, by omega, by omega, fun a1 h1 => by cases (R_r0_1.symm.trans h1); rw [ee], rfl, rfl⟩

theorem a_X12_ofTable {d : Nat} {T N : Nat → Nat} {I : IT} {L : LT} {R : RT} {A : Nat → Prop} {r0 : Nat} {n1 n2 : Int32} (hI : IM R r0 I) (H_r0 : (h_MD T N R A) r0) (b0_n1 : 0 ≤ n1.toInt) (b1_n1 : n1.toInt ≤ 7) (b0_n2 : 0 ≤ n2.toInt) (b1_n2 : n2.toInt ≤ 3) : Ex (d + 1) 190 [.ref r0, .int n1, .int n2] (T, N, I, L, R) 0 0 (pI T N R (fun x9 I9 L9 => (-18 ≤ x9.toInt) ∧ (x9.toInt ≤ 18) ∧ (∀ a1, R r0 1 = some a1 → x9.toInt = (I a1 (166 + 4 * n1.toNatClampNeg + n2.toNatClampNeg)).toInt) ∧ (I = I9 ∧ L = L9))) := by
  refine ⟨_, rfl, Nat.le_of_ble_eq_true rfl, fun V C S => ?_⟩
  show V 0 [(0, .ref r0), (1, .int n1), (2, .int n2)] [] (T, N, I, L, R) 0 0
  have gn1 := rg n1
  have gn2 := rg n2
  obtain ⟨T_r0, A_r0, ⟨r0_1, R_r0_1, H_r0_1⟩, ⟨r0_2, R_r0_2, H_r0_2⟩, ⟨r0_4, R_r0_4, H_r0_4⟩, ⟨r0_5, R_r0_5, H_r0_5⟩, ⟨r0_10, R_r0_10, H_r0_10⟩, ⟨r0_18, R_r0_18, H_r0_18⟩, ⟨r0_20, R_r0_20, H_r0_20⟩, ⟨r0_21, R_r0_21, H_r0_21⟩, ⟨r0_22, R_r0_22, H_r0_22⟩, ⟨r0_23, R_r0_23, H_r0_23⟩, ⟨r0_25, R_r0_25, H_r0_25⟩, ⟨r0_26, R_r0_26, H_r0_26⟩, ⟨r0_27, R_r0_27, H_r0_27⟩, ⟨r0_28, R_r0_28, H_r0_28⟩, ⟨r0_34, R_r0_34, H_r0_34⟩, J_r0, Y_r0⟩ := id H_r0
  have G_r0 : mF T R r0 := ⟨J_r0, Y_r0, T_r0⟩
  refine k_aload_n C rfl rfl rfl ?_
  refine g_R C rfl rfl rfl T_r0 rfl R_r0_1 ?_
  refine z_sipush C (z := 166) rfl rfl rfl (fun x1 ex1 => ?_)
  refine z_iconst C (z := 4) rfl rfl rfl (fun x2 ex2 => ?_)
  refine k_iload_n C rfl rfl rfl ?_
  refine z_imulL C (c := 4) rfl rfl (by omega) ⟨by omega, by omega⟩ (fun x3 ex3 => ?_)
  refine z_iadd C rfl rfl ⟨by omega, by omega⟩ (fun x4 ex4 => ?_)
  refine k_iload_n C rfl rfl rfl ?_
  refine z_iadd C rfl rfl ⟨by omega, by omega⟩ (fun x5 ex5 => ?_)
  obtain ⟨T_r0_1, N_r0_1, A_r0_1⟩ := id H_r0_1
  refine z_aI C rfl rfl T_r0_1 N_r0_1 (by omega) (by omega) (fun x6 ex6 => ?_)
  have gx6 := rg x6
  have dx6 := IM.tab hI R_r0_1 ⟨by omega, by omega⟩ ex6
  have jj : x5.toNatClampNeg = 166 + 4 * n1.toNatClampNeg + n2.toNatClampNeg := by (have h_n1 := ncz (x := n1) (by omega)); (have h_n2 := ncz (x := n2) (by omega)); have hj := ncz (x := x5) (by omega); omega
  have ee := ex6; rw [jj] at ee
  exact k_iret C rfl (Or.inl rfl) (Nat.le_of_ble_eq_true rfl) (Nat.le_of_ble_eq_true rfl) ⟨_, _, _, rfl, rfl, by omega, by omega, fun a1 h1 => by cases (R_r0_1.symm.trans h1); rw [ee], rfl, rfl⟩

theorem a_X12_mod {d : Nat} {T N : Nat → Nat} {I : IT} {L : LT} {R : RT} {A : Nat → Prop} {r0 : Nat} {l1 : Int64} (hI : IM R r0 I) (H_r0 : (h_MD T N R A) r0) : Ex (d + 3) 192 [.ref r0, .long l1] (T, N, I, L, R) 0 0 (pI T N R (fun x9 I9 L9 => (0 ≤ x9.toInt) ∧ (x9.toInt ≤ 18) ∧ (∀ a1, R r0 1 = some a1 → x9.toInt < (I a1 0).toInt) ∧ (I = I9 ∧ L = L9))) := by
  refine ⟨_, rfl, Nat.le_of_ble_eq_true rfl, fun V C S => ?_⟩
  show V 0 [(0, .ref r0), (1, .long l1)] [] (T, N, I, L, R) 0 0
  have T_r0 := H_r0.1
  refine k_lload_n C rfl rfl rfl ?_
  refine k_aload_n C rfl rfl rfl ?_
  refine c_VI C (a_X12_p hI H_r0) rfl rfl rfl rfl rfl ⟨_, rfl, rfl, T_r0, Nat.le_of_ble_eq_true rfl⟩ rfl rfl (Nat.le_of_ble_eq_true rfl) (Nat.le_of_ble_eq_true rfl) (Nat.le_of_ble_eq_true rfl) ?_
  rintro x1 _ _ ⟨b0, b1, hp, rfl, rfl⟩
  refine z_i2l C rfl rfl (fun w e => ?_)
  refine c_SL C (e_fmL (by omega)) rfl rfl rfl rfl rfl rfl rfl (Nat.le_of_ble_eq_true rfl) (Nat.le_of_ble_eq_true rfl) (Nat.le_of_ble_eq_true rfl) ?_
  rintro y _ _ ⟨hI8, hL9, h⟩
  have hI8 := hI8.symm; subst hI8; have hL9 := hL9.symm; subst hL9
  have h2 := md_lt h (by omega)
  refine k_l2i C rfl rfl ?_
  have h3 := l2i_eq (x := y) ⟨by omega, by omega⟩
  exact k_iret C rfl (Or.inl rfl) (Nat.le_of_ble_eq_true rfl) (Nat.le_of_ble_eq_true rfl) ⟨_, _, _, rfl, rfl, by omega, by omega, fun a1 h1 => by have := hp a1 h1; omega, rfl, rfl⟩

theorem a_X12_times {d : Nat} {T N : Nat → Nat} {I : IT} {L : LT} {R : RT} {A : Nat → Prop} {r0 : Nat} {n1 n2 : Int32} (hI : IM R r0 I) (H_r0 : (h_MD T N R A) r0) (b0_n1 : -18 ≤ n1.toInt) (b1_n1 : n1.toInt ≤ 18) (b0_n2 : -18 ≤ n2.toInt) (b1_n2 : n2.toInt ≤ 18) : Ex (d + 2) 193 [.ref r0, .int n1, .int n2] (T, N, I, L, R) 0 0 (pI T N R (fun x9 I9 L9 => (-18 ≤ x9.toInt) ∧ (x9.toInt ≤ 18) ∧ (∀ a1, R r0 1 = some a1 → x9.toInt < (I a1 0).toInt) ∧ ((0 : Int) ≤ 0) ∧ (∀ a1, R r0 1 = some a1 → -(I a1 0).toInt < x9.toInt) ∧ (∀ a1, R r0 1 = some a1 → TMD x9.toInt n1.toInt n2.toInt (I a1 0).toInt) ∧ (I = I9 ∧ L = L9))) := by
  refine ⟨_, rfl, Nat.le_of_ble_eq_true rfl, fun V C S => ?_⟩
  show V 0 [(0, .ref r0), (1, .int n1), (2, .int n2)] [] (T, N, I, L, R) 0 0
  have gn1 := rg n1
  have gn2 := rg n2
  obtain ⟨T_r0, A_r0, ⟨r0_1, R_r0_1, H_r0_1⟩, ⟨r0_2, R_r0_2, H_r0_2⟩, ⟨r0_4, R_r0_4, H_r0_4⟩, ⟨r0_5, R_r0_5, H_r0_5⟩, ⟨r0_10, R_r0_10, H_r0_10⟩, ⟨r0_18, R_r0_18, H_r0_18⟩, ⟨r0_20, R_r0_20, H_r0_20⟩, ⟨r0_21, R_r0_21, H_r0_21⟩, ⟨r0_22, R_r0_22, H_r0_22⟩, ⟨r0_23, R_r0_23, H_r0_23⟩, ⟨r0_25, R_r0_25, H_r0_25⟩, ⟨r0_26, R_r0_26, H_r0_26⟩, ⟨r0_27, R_r0_27, H_r0_27⟩, ⟨r0_28, R_r0_28, H_r0_28⟩, ⟨r0_34, R_r0_34, H_r0_34⟩, J_r0, Y_r0⟩ := id H_r0
  have G_r0 : mF T R r0 := ⟨J_r0, Y_r0, T_r0⟩
  obtain ⟨w_r0_1_0, k0_r0_1_0⟩ : ∃ x, I r0_1 0 = x := ⟨_, rfl⟩
  have gw_r0_1_0 := rg w_r0_1_0
  have ow_r0_1_0 := IM.pi hI R_r0_1 k0_r0_1_0
  refine k_iload_n C rfl rfl rfl ?_
  refine k_iload_n C rfl rfl rfl ?_
  refine z_imulN C rfl rfl (fun x1 ex1 => ?_)
  have gx1 := rg x1
  refine k_aload_n C rfl rfl rfl ?_
  refine c_VI C (a_X12_p hI H_r0) rfl rfl rfl rfl rfl ⟨_, rfl, rfl, T_r0, Nat.le_of_ble_eq_true rfl⟩ rfl rfl (Nat.le_of_ble_eq_true rfl) (Nat.le_of_ble_eq_true rfl) (Nat.le_of_ble_eq_true rfl) ?_
  rintro x2 _ _ ⟨o0x2, o1x2, p0x2, rfl, rfl⟩
  have p0x2 := p0x2 r0_1 R_r0_1
  have gx2 := rg x2
  try simp only [k0_r0_1_0, k0_r0_1_0] at p0x2
  try have q0x2 := congrArg Int32.toInt p0x2
  refine z_iremB C rfl rfl (by omega) (fun x3 ex3 => ?_)
  have bx3 : -18 ≤ x3.toInt ∧ x3.toInt ≤ 18 := by omega
  exact k_iret C rfl (Or.inl rfl) (Nat.le_of_ble_eq_true rfl) (Nat.le_of_ble_eq_true rfl) ⟨_, _, _, rfl, rfl, by omega, by omega, fun a1 h1 => by cases (R_r0_1.symm.trans h1); first | omega | (simp only [k0_r0_1_0] <;> omega), by first | omega | (simp only [k0_r0_1_0] <;> omega), fun a1 h1 => by cases (R_r0_1.symm.trans h1); first | omega | (simp only [k0_r0_1_0] <;> omega), fun a1 h1 => by cases (R_r0_1.symm.trans h1); simp only [k0_r0_1_0]; exact TMD.of ex3.2.2.2 (ex1.2 (by omega) (by omega) (by omega) (by omega)) p0x2, rfl, rfl⟩

theorem a_X12_plus {d : Nat} {T N : Nat → Nat} {I : IT} {L : LT} {R : RT} {A : Nat → Prop} {r0 : Nat} {n1 n2 : Int32} (hI : IM R r0 I) (H_r0 : (h_MD T N R A) r0) (b0_n1 : -18 ≤ n1.toInt) (b1_n1 : n1.toInt ≤ 18) (b0_n2 : -18 ≤ n2.toInt) (b1_n2 : n2.toInt ≤ 18) : Ex (d + 2) 194 [.ref r0, .int n1, .int n2] (T, N, I, L, R) 0 0 (pI T N R (fun x9 I9 L9 => (-18 ≤ x9.toInt) ∧ (x9.toInt ≤ 18) ∧ (∀ a1, R r0 1 = some a1 → x9.toInt < (I a1 0).toInt) ∧ ((0 : Int) ≤ 0) ∧ (∀ a1, R r0 1 = some a1 → -(I a1 0).toInt < x9.toInt) ∧ (I = I9 ∧ L = L9))) := by
  refine ⟨_, rfl, Nat.le_of_ble_eq_true rfl, fun V C S => ?_⟩
  show V 0 [(0, .ref r0), (1, .int n1), (2, .int n2)] [] (T, N, I, L, R) 0 0
  have gn1 := rg n1
  have gn2 := rg n2
  obtain ⟨T_r0, A_r0, ⟨r0_1, R_r0_1, H_r0_1⟩, ⟨r0_2, R_r0_2, H_r0_2⟩, ⟨r0_4, R_r0_4, H_r0_4⟩, ⟨r0_5, R_r0_5, H_r0_5⟩, ⟨r0_10, R_r0_10, H_r0_10⟩, ⟨r0_18, R_r0_18, H_r0_18⟩, ⟨r0_20, R_r0_20, H_r0_20⟩, ⟨r0_21, R_r0_21, H_r0_21⟩, ⟨r0_22, R_r0_22, H_r0_22⟩, ⟨r0_23, R_r0_23, H_r0_23⟩, ⟨r0_25, R_r0_25, H_r0_25⟩, ⟨r0_26, R_r0_26, H_r0_26⟩, ⟨r0_27, R_r0_27, H_r0_27⟩, ⟨r0_28, R_r0_28, H_r0_28⟩, ⟨r0_34, R_r0_34, H_r0_34⟩, J_r0, Y_r0⟩ := id H_r0
  have G_r0 : mF T R r0 := ⟨J_r0, Y_r0, T_r0⟩
  obtain ⟨w_r0_1_0, k0_r0_1_0⟩ : ∃ x, I r0_1 0 = x := ⟨_, rfl⟩
  have gw_r0_1_0 := rg w_r0_1_0
  have ow_r0_1_0 := IM.pi hI R_r0_1 k0_r0_1_0
  refine k_iload_n C rfl rfl rfl ?_
  refine k_iload_n C rfl rfl rfl ?_
  refine z_iadd C rfl rfl ⟨by omega, by omega⟩ (fun x1 ex1 => ?_)
  refine k_aload_n C rfl rfl rfl ?_
  refine c_VI C (a_X12_p hI H_r0) rfl rfl rfl rfl rfl ⟨_, rfl, rfl, T_r0, Nat.le_of_ble_eq_true rfl⟩ rfl rfl (Nat.le_of_ble_eq_true rfl) (Nat.le_of_ble_eq_true rfl) (Nat.le_of_ble_eq_true rfl) ?_
  rintro x2 _ _ ⟨o0x2, o1x2, p0x2, rfl, rfl⟩
  have p0x2 := p0x2 r0_1 R_r0_1
  have gx2 := rg x2
  try simp only [k0_r0_1_0, k0_r0_1_0] at p0x2
  try have q0x2 := congrArg Int32.toInt p0x2
  refine z_iremB C rfl rfl (by omega) (fun x3 ex3 => ?_)
  have bx3 : -18 ≤ x3.toInt ∧ x3.toInt ≤ 18 := by omega
  exact k_iret C rfl (Or.inl rfl) (Nat.le_of_ble_eq_true rfl) (Nat.le_of_ble_eq_true rfl) ⟨_, _, _, rfl, rfl, by omega, by omega, fun a1 h1 => by cases (R_r0_1.symm.trans h1); first | omega | (simp only [k0_r0_1_0] <;> omega), by first | omega | (simp only [k0_r0_1_0] <;> omega), fun a1 h1 => by cases (R_r0_1.symm.trans h1); first | omega | (simp only [k0_r0_1_0] <;> omega), rfl, rfl⟩

theorem a_X12_less {d : Nat} {T N : Nat → Nat} {I : IT} {L : LT} {R : RT} {A : Nat → Prop} {r0 : Nat} {n1 n2 : Int32} (hI : IM R r0 I) (H_r0 : (h_MD T N R A) r0) (b0_n1 : -18 ≤ n1.toInt) (b1_n1 : n1.toInt ≤ 18) (b0_n2 : -18 ≤ n2.toInt) (b1_n2 : n2.toInt ≤ 18) : Ex (d + 2) 195 [.ref r0, .int n1, .int n2] (T, N, I, L, R) 0 0 (pI T N R (fun x9 I9 L9 => (-18 ≤ x9.toInt) ∧ (x9.toInt ≤ 18) ∧ (∀ a1, R r0 1 = some a1 → x9.toInt < (I a1 0).toInt) ∧ ((0 : Int) ≤ 0) ∧ (∀ a1, R r0 1 = some a1 → -(I a1 0).toInt < x9.toInt) ∧ (∀ a1, R r0 1 = some a1 → LSD x9.toInt n1.toInt n2.toInt (I a1 0).toInt) ∧ (I = I9 ∧ L = L9))) := by
  refine ⟨_, rfl, Nat.le_of_ble_eq_true rfl, fun V C S => ?_⟩
  show V 0 [(0, .ref r0), (1, .int n1), (2, .int n2)] [] (T, N, I, L, R) 0 0
  have gn1 := rg n1
  have gn2 := rg n2
  obtain ⟨T_r0, A_r0, ⟨r0_1, R_r0_1, H_r0_1⟩, ⟨r0_2, R_r0_2, H_r0_2⟩, ⟨r0_4, R_r0_4, H_r0_4⟩, ⟨r0_5, R_r0_5, H_r0_5⟩, ⟨r0_10, R_r0_10, H_r0_10⟩, ⟨r0_18, R_r0_18, H_r0_18⟩, ⟨r0_20, R_r0_20, H_r0_20⟩, ⟨r0_21, R_r0_21, H_r0_21⟩, ⟨r0_22, R_r0_22, H_r0_22⟩, ⟨r0_23, R_r0_23, H_r0_23⟩, ⟨r0_25, R_r0_25, H_r0_25⟩, ⟨r0_26, R_r0_26, H_r0_26⟩, ⟨r0_27, R_r0_27, H_r0_27⟩, ⟨r0_28, R_r0_28, H_r0_28⟩, ⟨r0_34, R_r0_34, H_r0_34⟩, J_r0, Y_r0⟩ := id H_r0
  have G_r0 : mF T R r0 := ⟨J_r0, Y_r0, T_r0⟩
  obtain ⟨w_r0_1_0, k0_r0_1_0⟩ : ∃ x, I r0_1 0 = x := ⟨_, rfl⟩
  have gw_r0_1_0 := rg w_r0_1_0
  have ow_r0_1_0 := IM.pi hI R_r0_1 k0_r0_1_0
  refine k_iload_n C rfl rfl rfl ?_
  refine k_iload_n C rfl rfl rfl ?_
  refine z_isub C rfl rfl ⟨by omega, by omega⟩ (fun x1 ex1 => ?_)
  refine k_aload_n C rfl rfl rfl ?_
  refine c_VI C (a_X12_p hI H_r0) rfl rfl rfl rfl rfl ⟨_, rfl, rfl, T_r0, Nat.le_of_ble_eq_true rfl⟩ rfl rfl (Nat.le_of_ble_eq_true rfl) (Nat.le_of_ble_eq_true rfl) (Nat.le_of_ble_eq_true rfl) ?_
  rintro x2 _ _ ⟨o0x2, o1x2, p0x2, rfl, rfl⟩
  have p0x2 := p0x2 r0_1 R_r0_1
  have gx2 := rg x2
  try simp only [k0_r0_1_0, k0_r0_1_0] at p0x2
  try have q0x2 := congrArg Int32.toInt p0x2
  refine z_iadd C rfl rfl ⟨by omega, by omega⟩ (fun x3 ex3 => ?_)
  refine k_aload_n C rfl rfl rfl ?_
  refine c_VI C (a_X12_p hI H_r0) rfl rfl rfl rfl rfl ⟨_, rfl, rfl, T_r0, Nat.le_of_ble_eq_true rfl⟩ rfl rfl (Nat.le_of_ble_eq_true rfl) (Nat.le_of_ble_eq_true rfl) (Nat.le_of_ble_eq_true rfl) ?_
  rintro x4 _ _ ⟨o0x4, o1x4, p0x4, rfl, rfl⟩
  have p0x4 := p0x4 r0_1 R_r0_1
  have gx4 := rg x4
  try simp only [k0_r0_1_0, k0_r0_1_0] at p0x4
  try have q0x4 := congrArg Int32.toInt p0x4
  refine z_iremB C rfl rfl (by omega) (fun x5 ex5 => ?_)
  have bx5 : -18 ≤ x5.toInt ∧ x5.toInt ≤ 18 := by omega
  exact k_iret C rfl (Or.inl rfl) (Nat.le_of_ble_eq_true rfl) (Nat.le_of_ble_eq_true rfl) ⟨_, _, _, rfl, rfl, by omega, by omega, fun a1 h1 => by cases (R_r0_1.symm.trans h1); first | omega | (simp only [k0_r0_1_0] <;> omega), by first | omega | (simp only [k0_r0_1_0] <;> omega), fun a1 h1 => by cases (R_r0_1.symm.trans h1); first | omega | (simp only [k0_r0_1_0] <;> omega), fun a1 h1 => by cases (R_r0_1.symm.trans h1); simp only [k0_r0_1_0]; exact LSD.of ex5.2.2.2 (by omega) p0x4, rfl, rfl⟩

theorem a_X12_power {d : Nat} {T N : Nat → Nat} {I : IT} {L : LT} {R : RT} {A : Nat → Prop} {r0 : Nat} {n1 n2 : Int32} (hI : IM R r0 I) (H_r0 : (h_MD T N R A) r0) (b0_n1 : -18 ≤ n1.toInt) (b1_n1 : n1.toInt ≤ 18) : Ex (d + 3) 196 [.ref r0, .int n1, .int n2] (T, N, I, L, R) 0 0 (pI T N R (fun x9 I9 L9 => (-18 ≤ x9.toInt) ∧ (x9.toInt ≤ 18) ∧ (∀ a1, R r0 1 = some a1 → PWQ x9.toInt n1.toInt (I a1 0).toInt n2.toInt) ∧ (I = I9 ∧ L = L9))) := by
  refine ⟨_, rfl, Nat.le_of_ble_eq_true rfl, fun V C S => ?_⟩
  show V 0 [(0, .ref r0), (1, .int n1), (2, .int n2)] [] (T, N, I, L, R) 0 0
  have gn1 := rg n1
  have gn2 := rg n2
  obtain ⟨T_r0, A_r0, ⟨r0_1, R_r0_1, H_r0_1⟩, ⟨r0_2, R_r0_2, H_r0_2⟩, ⟨r0_4, R_r0_4, H_r0_4⟩, ⟨r0_5, R_r0_5, H_r0_5⟩, ⟨r0_10, R_r0_10, H_r0_10⟩, ⟨r0_18, R_r0_18, H_r0_18⟩, ⟨r0_20, R_r0_20, H_r0_20⟩, ⟨r0_21, R_r0_21, H_r0_21⟩, ⟨r0_22, R_r0_22, H_r0_22⟩, ⟨r0_23, R_r0_23, H_r0_23⟩, ⟨r0_25, R_r0_25, H_r0_25⟩, ⟨r0_26, R_r0_26, H_r0_26⟩, ⟨r0_27, R_r0_27, H_r0_27⟩, ⟨r0_28, R_r0_28, H_r0_28⟩, ⟨r0_34, R_r0_34, H_r0_34⟩, J_r0, Y_r0⟩ := id H_r0
  have G_r0 : mF T R r0 := ⟨J_r0, Y_r0, T_r0⟩
  obtain ⟨w_r0_1_0, k0_r0_1_0⟩ : ∃ x, I r0_1 0 = x := ⟨_, rfl⟩
  have gw_r0_1_0 := rg w_r0_1_0
  have ow_r0_1_0 := IM.pi hI R_r0_1 k0_r0_1_0
  refine z_iconst C (z := 1) rfl rfl rfl (fun x1 ex1 => ?_)
  refine k_istore_n C (lw := [(3, .int x1), (0, .ref r0), (1, .int n1), (2, .int n2)]) rfl rfl (Nat.le_of_ble_eq_true rfl) rfl ?_
  refine z_iconst C (z := 0) rfl rfl rfl (fun x2 ex2 => ?_)
  have J3 : ∀ (nn4 : Nat) (x5 : Int32) (x8 : Int32), (MN (2147483647 - x8.toInt) nn4) → (-18 ≤ x5.toInt) → (x5.toInt ≤ 18) → (0 ≤ x8.toInt) → (PWQ x5.toInt n1.toInt w_r0_1_0.toInt x8.toInt) → (x8.toInt ≤ n2.toInt ∨ x8.toInt = 0) → V 5 [(0, .ref r0), (1, .int n1), (2, .int n2), (3, .int x5), (4, .int x8)] [] (T, N, I, L, R) 0 0 := by
    intro nn4
    induction nn4 using Nat.strongRecOn with
    | _ nn4 ihJ3 =>
      intro x5 x8 hmnn4 b6 b7 b9 ff5_0 ff5_1
      have gx5 := rg x5
      have gx8 := rg x8
      refine k_iload C rfl rfl rfl ?_
      refine k_iload_n C rfl rfl rfl ?_
      refine b_icmp_ge C (t := 24) rfl rfl rfl (fun c10 => ?_) (fun c10 => ?_)
      · skip
        refine k_iload_n C rfl rfl rfl ?_
        exact k_iret C rfl (Or.inl rfl) (Nat.le_of_ble_eq_true rfl) (Nat.le_of_ble_eq_true rfl) ⟨_, _, _, rfl, rfl, by omega, by omega, fun a1 h1 => by cases (R_r0_1.symm.trans h1); simp only [k0_r0_1_0]; exact PWQ.e ff5_0 (by omega), rfl, rfl⟩
      refine k_aload_n C rfl rfl rfl ?_
      refine k_iload_n C rfl rfl rfl ?_
      refine k_iload_n C rfl rfl rfl ?_
      refine c_VI C (a_X12_times hI H_r0 (by omega) (by omega) (by omega) (by omega)) rfl rfl rfl rfl rfl ⟨_, rfl, rfl, T_r0, Nat.le_of_ble_eq_true rfl⟩ rfl rfl (Nat.le_of_ble_eq_true rfl) (Nat.le_of_ble_eq_true rfl) (Nat.le_of_ble_eq_true rfl) ?_
      rintro x11 _ _ ⟨o0x11, o1x11, p0x11, p1x11, p2x11, p3x11, rfl, rfl⟩
      have p0x11 := p0x11 r0_1 R_r0_1
      have p2x11 := p2x11 r0_1 R_r0_1
      have p3x11 := p3x11 r0_1 R_r0_1
      have gx11 := rg x11
      try simp only [k0_r0_1_0] at p0x11
      try have q0x11 := congrArg Int32.toInt p0x11
      try simp only [k0_r0_1_0] at p1x11
      try have q1x11 := congrArg Int32.toInt p1x11
      try simp only [k0_r0_1_0] at p2x11
      try have q2x11 := congrArg Int32.toInt p2x11
      try simp only [k0_r0_1_0] at p3x11
      try have q3x11 := congrArg Int32.toInt p3x11
      have hT := p3x11
      refine k_istore_n C (lw := [(3, .int x11), (0, .ref r0), (1, .int n1), (2, .int n2), (4, .int x8)]) rfl rfl (Nat.le_of_ble_eq_true rfl) rfl ?_
      refine z_iinc C (z := 1) (lw := fun x12 => [(4, .int x12), (3, .int x11), (0, .ref r0), (1, .int n1), (2, .int n2)]) rfl rfl rfl (Nat.le_of_ble_eq_true rfl) rfl ⟨by omega, by omega⟩ (fun _ => rfl) (fun x12 ex12 => ?_)
      show V 21 [(4, .int x12), (3, .int x11), (0, .ref r0), (1, .int n1), (2, .int n2)] _ _ _ _
      refine k_goto C (pc2 := 5) rfl rfl ?_
      refine k_sub S [(0, .ref r0), (1, .int n1), (2, .int n2), (3, .int x11), (4, .int x12)] (List.forall_mem_cons.mpr ⟨List.mem_of_getElem? (i := 2) rfl, List.forall_mem_cons.mpr ⟨List.mem_of_getElem? (i := 3) rfl, List.forall_mem_cons.mpr ⟨List.mem_of_getElem? (i := 4) rfl, List.forall_mem_cons.mpr ⟨List.mem_of_getElem? (i := 1) rfl, List.forall_mem_cons.mpr ⟨List.mem_of_getElem? (i := 0) rfl, fun _ h => nomatch h⟩⟩⟩⟩⟩) ?_
      exact ihJ3 _ (MN.lt hmnn4 (by omega) (by omega)) x11 x12 rfl (by omega) (by omega) (by omega) (by exact PWQ.s ff5_0 hT (by omega) (by omega)) (by omega)
  refine k_istore C (lw := [(4, .int x2), (3, .int x1), (0, .ref r0), (1, .int n1), (2, .int n2)]) rfl rfl (Nat.le_of_ble_eq_true rfl) rfl ?_
  refine k_sub S [(0, .ref r0), (1, .int n1), (2, .int n2), (3, .int x1), (4, .int x2)] (List.forall_mem_cons.mpr ⟨List.mem_of_getElem? (i := 2) rfl, List.forall_mem_cons.mpr ⟨List.mem_of_getElem? (i := 3) rfl, List.forall_mem_cons.mpr ⟨List.mem_of_getElem? (i := 4) rfl, List.forall_mem_cons.mpr ⟨List.mem_of_getElem? (i := 1) rfl, List.forall_mem_cons.mpr ⟨List.mem_of_getElem? (i := 0) rfl, fun _ h => nomatch h⟩⟩⟩⟩⟩) ?_
  exact J3 _ x1 x2 rfl (by omega) (by omega) (by omega) (by exact PWQ.z (by omega) (by omega)) (by omega)

theorem a_X12_inverse {d : Nat} {T N : Nat → Nat} {I : IT} {L : LT} {R : RT} {A : Nat → Prop} {r0 : Nat} {n1 : Int32} (hI : IM R r0 I) (H_r0 : (h_MD T N R A) r0) (b0_n1 : -18 ≤ n1.toInt) (b1_n1 : n1.toInt ≤ 18) : Ex (d + 4) 197 [.ref r0, .int n1] (T, N, I, L, R) 0 0 (pI T N R (fun x9 I9 L9 => (-18 ≤ x9.toInt) ∧ (x9.toInt ≤ 18) ∧ (∀ a1, R r0 1 = some a1 → INVQ x9.toInt n1.toInt (I a1 0).toInt) ∧ (I = I9 ∧ L = L9))) := by
  refine ⟨_, rfl, Nat.le_of_ble_eq_true rfl, fun V C S => ?_⟩
  show V 0 [(0, .ref r0), (1, .int n1)] [] (T, N, I, L, R) 0 0
  have gn1 := rg n1
  obtain ⟨T_r0, A_r0, ⟨r0_1, R_r0_1, H_r0_1⟩, ⟨r0_2, R_r0_2, H_r0_2⟩, ⟨r0_4, R_r0_4, H_r0_4⟩, ⟨r0_5, R_r0_5, H_r0_5⟩, ⟨r0_10, R_r0_10, H_r0_10⟩, ⟨r0_18, R_r0_18, H_r0_18⟩, ⟨r0_20, R_r0_20, H_r0_20⟩, ⟨r0_21, R_r0_21, H_r0_21⟩, ⟨r0_22, R_r0_22, H_r0_22⟩, ⟨r0_23, R_r0_23, H_r0_23⟩, ⟨r0_25, R_r0_25, H_r0_25⟩, ⟨r0_26, R_r0_26, H_r0_26⟩, ⟨r0_27, R_r0_27, H_r0_27⟩, ⟨r0_28, R_r0_28, H_r0_28⟩, ⟨r0_34, R_r0_34, H_r0_34⟩, J_r0, Y_r0⟩ := id H_r0
  have G_r0 : mF T R r0 := ⟨J_r0, Y_r0, T_r0⟩
  obtain ⟨w_r0_1_0, k0_r0_1_0⟩ : ∃ x, I r0_1 0 = x := ⟨_, rfl⟩
  have gw_r0_1_0 := rg w_r0_1_0
  have ow_r0_1_0 := IM.pi hI R_r0_1 k0_r0_1_0
  refine k_aload_n C rfl rfl rfl ?_
  refine k_iload_n C rfl rfl rfl ?_
  refine k_aload_n C rfl rfl rfl ?_
  refine c_VI C (a_X12_p hI H_r0) rfl rfl rfl rfl rfl ⟨_, rfl, rfl, T_r0, Nat.le_of_ble_eq_true rfl⟩ rfl rfl (Nat.le_of_ble_eq_true rfl) (Nat.le_of_ble_eq_true rfl) (Nat.le_of_ble_eq_true rfl) ?_
  rintro x1 _ _ ⟨o0x1, o1x1, p0x1, rfl, rfl⟩
  have p0x1 := p0x1 r0_1 R_r0_1
  have gx1 := rg x1
  try simp only [k0_r0_1_0, k0_r0_1_0] at p0x1
  try have q0x1 := congrArg Int32.toInt p0x1
  refine z_iconst C (z := 2) rfl rfl rfl (fun x2 ex2 => ?_)
  refine z_isub C rfl rfl ⟨by omega, by omega⟩ (fun x3 ex3 => ?_)
  refine c_VI C (a_X12_power hI H_r0 (by omega) (by omega)) rfl rfl rfl rfl rfl ⟨_, rfl, rfl, T_r0, Nat.le_of_ble_eq_true rfl⟩ rfl rfl (Nat.le_of_ble_eq_true rfl) (Nat.le_of_ble_eq_true rfl) (Nat.le_of_ble_eq_true rfl) ?_
  rintro x4 _ _ ⟨o0x4, o1x4, p0x4, rfl, rfl⟩
  have p0x4 := p0x4 r0_1 R_r0_1
  have gx4 := rg x4
  try simp only [k0_r0_1_0] at p0x4
  try have q0x4 := congrArg Int32.toInt p0x4
  have hQ := p0x4
  exact k_iret C rfl (Or.inl rfl) (Nat.le_of_ble_eq_true rfl) (Nat.le_of_ble_eq_true rfl) ⟨_, _, _, rfl, rfl, by omega, by omega, fun a1 h1 => by cases (R_r0_1.symm.trans h1); simp only [k0_r0_1_0]; exact INVQ.of (IM.p hI R_r0_1 k0_r0_1_0) hQ (by omega) (by omega) (by omega), rfl, rfl⟩

theorem a_X12_of {d : Nat} {T N : Nat → Nat} {I : IT} {L : LT} {R : RT} {A : Nat → Prop} {r0 : Nat} {n1 n2 : Int32} (hI : IM R r0 I) (H_r0 : (h_MD T N R A) r0) (b0_n1 : 0 ≤ n1.toInt) (b1_n1 : n1.toInt ≤ 47) (b0_n2 : 0 ≤ n2.toInt) (b1_n2 : n2.toInt ≤ 40) : Ex (d + 1) 198 [.ref r0, .int n1, .int n2] (T, N, I, L, R) 0 0 (pI T N R (fun x9 I9 L9 => (-18 ≤ x9.toInt) ∧ (x9.toInt ≤ 18) ∧ (∀ a5, R r0 5 = some a5 → x9.toInt = (I a5 (41 * n1.toNatClampNeg + n2.toNatClampNeg)).toInt) ∧ (I = I9 ∧ L = L9))) := by
  refine ⟨_, rfl, Nat.le_of_ble_eq_true rfl, fun V C S => ?_⟩
  show V 0 [(0, .ref r0), (1, .int n1), (2, .int n2)] [] (T, N, I, L, R) 0 0
  have gn1 := rg n1
  have gn2 := rg n2
  obtain ⟨T_r0, A_r0, ⟨r0_1, R_r0_1, H_r0_1⟩, ⟨r0_2, R_r0_2, H_r0_2⟩, ⟨r0_4, R_r0_4, H_r0_4⟩, ⟨r0_5, R_r0_5, H_r0_5⟩, ⟨r0_10, R_r0_10, H_r0_10⟩, ⟨r0_18, R_r0_18, H_r0_18⟩, ⟨r0_20, R_r0_20, H_r0_20⟩, ⟨r0_21, R_r0_21, H_r0_21⟩, ⟨r0_22, R_r0_22, H_r0_22⟩, ⟨r0_23, R_r0_23, H_r0_23⟩, ⟨r0_25, R_r0_25, H_r0_25⟩, ⟨r0_26, R_r0_26, H_r0_26⟩, ⟨r0_27, R_r0_27, H_r0_27⟩, ⟨r0_28, R_r0_28, H_r0_28⟩, ⟨r0_34, R_r0_34, H_r0_34⟩, J_r0, Y_r0⟩ := id H_r0
  have G_r0 : mF T R r0 := ⟨J_r0, Y_r0, T_r0⟩
  refine k_aload_n C rfl rfl rfl ?_
  refine g_R C rfl rfl rfl T_r0 rfl R_r0_5 ?_
  refine z_bipush C (z := 41) rfl rfl rfl (fun x1 ex1 => ?_)
  refine k_iload_n C rfl rfl rfl ?_
  refine z_imulL C (c := 41) rfl rfl (by omega) ⟨by omega, by omega⟩ (fun x2 ex2 => ?_)
  refine k_iload_n C rfl rfl rfl ?_
  refine z_iadd C rfl rfl ⟨by omega, by omega⟩ (fun x3 ex3 => ?_)
  obtain ⟨T_r0_5, N_r0_5, A_r0_5⟩ := id H_r0_5
  refine z_aI C rfl rfl T_r0_5 N_r0_5 (by omega) (by omega) (fun x4 ex4 => ?_)
  have gx4 := rg x4
  have ox4 := IM.nuR hI R_r0_5 ex4
  have jj : x3.toNatClampNeg = 41 * n1.toNatClampNeg + n2.toNatClampNeg := by (have h_n1 := ncz (x := n1) (by omega)); (have h_n2 := ncz (x := n2) (by omega)); have hj := ncz (x := x3) (by omega); omega
  have ee := ex4; rw [jj] at ee
  exact k_iret C rfl (Or.inl rfl) (Nat.le_of_ble_eq_true rfl) (Nat.le_of_ble_eq_true rfl) ⟨_, _, _, rfl, rfl, by omega, by omega, fun a5 h5 => by cases (R_r0_5.symm.trans h5); rw [ee], rfl, rfl⟩

theorem a_X12_put {d : Nat} {T N : Nat → Nat} {I : IT} {L : LT} {R : RT} {A : Nat → Prop} {r0 : Nat} {n1 n2 n3 : Int32} (hI : IM R r0 I) (H_r0 : (h_MD T N R A) r0) (b0_n1 : 0 ≤ n1.toInt) (b1_n1 : n1.toInt ≤ 47) (b0_n2 : 0 ≤ n2.toInt) (b1_n2 : n2.toInt ≤ 40) (b0_n3 : -18 ≤ n3.toInt) (b1_n3 : n3.toInt ≤ 18) : Ex (d + 1) 199 [.ref r0, .int n1, .int n2, .int n3] (T, N, I, L, R) 0 0 (pV T N R (fun I9 L9 => (∀ a5, R r0 5 = some a5 → PUTD I I9 a5 n1.toNatClampNeg n2.toNatClampNeg n3) ∧ (∀ a5, R r0 5 = some a5 → ∀ r : Nat, (r < 41 * n1.toNatClampNeg ∨ 41 * n1.toNatClampNeg + 41 ≤ r) → I9 a5 r = I a5 r) ∧ (IM R r0 I9 ∧ CM A R r0 [] [5] I L I9 L9))) := by
  refine ⟨_, rfl, Nat.le_of_ble_eq_true rfl, fun V C S => ?_⟩
  show V 0 [(0, .ref r0), (1, .int n1), (2, .int n2), (3, .int n3)] [] (T, N, I, L, R) 0 0
  have gn1 := rg n1
  have gn2 := rg n2
  have gn3 := rg n3
  obtain ⟨T_r0, A_r0, ⟨r0_1, R_r0_1, H_r0_1⟩, ⟨r0_2, R_r0_2, H_r0_2⟩, ⟨r0_4, R_r0_4, H_r0_4⟩, ⟨r0_5, R_r0_5, H_r0_5⟩, ⟨r0_10, R_r0_10, H_r0_10⟩, ⟨r0_18, R_r0_18, H_r0_18⟩, ⟨r0_20, R_r0_20, H_r0_20⟩, ⟨r0_21, R_r0_21, H_r0_21⟩, ⟨r0_22, R_r0_22, H_r0_22⟩, ⟨r0_23, R_r0_23, H_r0_23⟩, ⟨r0_25, R_r0_25, H_r0_25⟩, ⟨r0_26, R_r0_26, H_r0_26⟩, ⟨r0_27, R_r0_27, H_r0_27⟩, ⟨r0_28, R_r0_28, H_r0_28⟩, ⟨r0_34, R_r0_34, H_r0_34⟩, J_r0, Y_r0⟩ := id H_r0
  have G_r0 : mF T R r0 := ⟨J_r0, Y_r0, T_r0⟩
  refine k_aload_n C rfl rfl rfl ?_
  refine g_R C rfl rfl rfl T_r0 rfl R_r0_5 ?_
  refine z_bipush C (z := 41) rfl rfl rfl (fun x1 ex1 => ?_)
  refine k_iload_n C rfl rfl rfl ?_
  refine z_imulL C (c := 41) rfl rfl (by omega) ⟨by omega, by omega⟩ (fun x2 ex2 => ?_)
  refine k_iload_n C rfl rfl rfl ?_
  refine z_iadd C rfl rfl ⟨by omega, by omega⟩ (fun x3 ex3 => ?_)
  refine k_iload_n C rfl rfl rfl ?_
  obtain ⟨T_r0_5, N_r0_5, A_r0_5⟩ := id H_r0_5
  refine z_sI C rfl rfl T_r0_5 N_r0_5 (by omega) (by omega) (fun I4 uI4 => ?_)
  have hI4 : IM R r0 I4 := IM.arr hI G_r0 R_r0_5 ⟨(fun h => absurd h (by decide)), (fun h => absurd h (by decide)), (fun _ => ⟨by omega, by omega⟩)⟩ (fun h => absurd h (by decide)) uI4
  have S5 : CM A R r0 [] [5] I L I4 L := CM.a G_r0 R_r0_5 A_r0_5 uI4
  have F6 : ∀ r : Nat, (r < 41 * n1.toNatClampNeg ∨ 41 * n1.toNatClampNeg + 41 ≤ r) → I4 r0_5 r = I r0_5 r := fun r z0 => by rw [uI4]; exact u2_k (by have h1 := ncz (x := n1) (by omega); have h2 := ncz (x := x3) (by omega); omega)
  have e7 := u2_e uI4
  exact k_vret C rfl rfl (Nat.le_of_ble_eq_true rfl) (Nat.le_of_ble_eq_true rfl) ⟨_, _, rfl, rfl, fun a5 h5 => by cases (R_r0_5.symm.trans h5); exact PUTD.of uI4 (by have h1 := ncz (x := n1) (by omega); have h2 := ncz (x := n2) (by omega); have h3 := ncz (x := x3) (by omega); omega), fun a5 h5 => by cases (R_r0_5.symm.trans h5); exact (fun r z0 => (F6 r z0)), hI4, (CM.mono S5 (by decide) (by decide))⟩

theorem a_X12_takes {d : Nat} {T N : Nat → Nat} {I : IT} {L : LT} {R : RT} {A : Nat → Prop} {r0 : Nat} {n1 n2 : Int32} (hI : IM R r0 I) (H_r0 : (h_MD T N R A) r0) (b0_n1 : 0 ≤ n1.toInt) (b1_n1 : n1.toInt ≤ 47) (b0_n2 : 0 ≤ n2.toInt) (b1_n2 : n2.toInt ≤ 15) : Ex (d + 3) 200 [.ref r0, .int n1, .int n2] (T, N, I, L, R) 0 0 (pV T N R (fun I9 L9 => (∀ a4, R r0 4 = some a4 → 0 ≤ (I9 a4 n1.toNatClampNeg).toInt ∧ (I9 a4 n1.toNatClampNeg).toInt ≤ 8) ∧ (∀ a1 a4, R r0 1 = some a1 → R r0 4 = some a4 → (I9 a4 n1.toNatClampNeg).toInt = (I a1 (6 + 10 * n2.toNatClampNeg)).toInt) ∧ (∀ a1 a4 a5, R r0 1 = some a1 → R r0 4 = some a4 → R r0 5 = some a5 → n2.toInt < (I a1 1).toInt → QN I9 a5 n1.toNatClampNeg ((I9 a4 n1.toNatClampNeg).toInt + 1) (I a1 0).toInt) ∧ (∀ a4, R r0 4 = some a4 → ∀ r : Nat, r ≠ n1.toNatClampNeg → I9 a4 r = I a4 r) ∧ (∀ a5, R r0 5 = some a5 → ∀ r : Nat, (r < 41 * n1.toNatClampNeg ∨ 41 * n1.toNatClampNeg + 41 ≤ r) → I9 a5 r = I a5 r) ∧ (IM R r0 I9 ∧ CM A R r0 [] [4, 5] I L I9 L9))) := by
  refine ⟨_, rfl, Nat.le_of_ble_eq_true rfl, fun V C S => ?_⟩
  show V 0 [(0, .ref r0), (1, .int n1), (2, .int n2)] [] (T, N, I, L, R) 0 0
  have gn1 := rg n1
  have gn2 := rg n2
  obtain ⟨T_r0, A_r0, ⟨r0_1, R_r0_1, H_r0_1⟩, ⟨r0_2, R_r0_2, H_r0_2⟩, ⟨r0_4, R_r0_4, H_r0_4⟩, ⟨r0_5, R_r0_5, H_r0_5⟩, ⟨r0_10, R_r0_10, H_r0_10⟩, ⟨r0_18, R_r0_18, H_r0_18⟩, ⟨r0_20, R_r0_20, H_r0_20⟩, ⟨r0_21, R_r0_21, H_r0_21⟩, ⟨r0_22, R_r0_22, H_r0_22⟩, ⟨r0_23, R_r0_23, H_r0_23⟩, ⟨r0_25, R_r0_25, H_r0_25⟩, ⟨r0_26, R_r0_26, H_r0_26⟩, ⟨r0_27, R_r0_27, H_r0_27⟩, ⟨r0_28, R_r0_28, H_r0_28⟩, ⟨r0_34, R_r0_34, H_r0_34⟩, J_r0, Y_r0⟩ := id H_r0
  have G_r0 : mF T R r0 := ⟨J_r0, Y_r0, T_r0⟩
  obtain ⟨w_r0_1_E_6_10_n2_toNatClampNeg, k0_r0_1_E_6_10_n2_toNatClampNeg⟩ : ∃ x, I r0_1 (6 + 10 * n2.toNatClampNeg) = x := ⟨_, rfl⟩
  have gw_r0_1_E_6_10_n2_toNatClampNeg := rg w_r0_1_E_6_10_n2_toNatClampNeg
  obtain ⟨w_r0_1_0, k0_r0_1_0⟩ : ∃ x, I r0_1 0 = x := ⟨_, rfl⟩
  have gw_r0_1_0 := rg w_r0_1_0
  have ow_r0_1_0 := IM.pi hI R_r0_1 k0_r0_1_0
  obtain ⟨w_r0_1_1, k0_r0_1_1⟩ : ∃ x, I r0_1 1 = x := ⟨_, rfl⟩
  have gw_r0_1_1 := rg w_r0_1_1
  have ow_r0_1_1 := IM.c1 hI R_r0_1 k0_r0_1_1
  refine k_aload_n C rfl rfl rfl ?_
  refine g_R C rfl rfl rfl T_r0 rfl R_r0_4 ?_
  refine k_iload_n C rfl rfl rfl ?_
  refine k_aload_n C rfl rfl rfl ?_
  refine k_iload_n C rfl rfl rfl ?_
  refine c_VI C (a_X12_degreeOf hI H_r0 (by omega) (by omega)) rfl rfl rfl rfl rfl ⟨_, rfl, rfl, T_r0, Nat.le_of_ble_eq_true rfl⟩ rfl rfl (Nat.le_of_ble_eq_true rfl) (Nat.le_of_ble_eq_true rfl) (Nat.le_of_ble_eq_true rfl) ?_
  rintro x1 _ _ ⟨o0x1, o1x1, p0x1, rfl, rfl⟩
  have p0x1 := p0x1 r0_1 R_r0_1
  have gx1 := rg x1
  try simp only [k0_r0_1_E_6_10_n2_toNatClampNeg, k0_r0_1_0, k0_r0_1_1, k0_r0_1_E_6_10_n2_toNatClampNeg] at p0x1
  try have q0x1 := congrArg Int32.toInt p0x1
  obtain ⟨T_r0_4, N_r0_4, A_r0_4⟩ := id H_r0_4
  refine z_sI C rfl rfl T_r0_4 N_r0_4 (by omega) (by omega) (fun I2 uI2 => ?_)
  have hI2 : IM R r0 I2 := IM.arr hI G_r0 R_r0_4 ⟨(fun _ => ⟨by omega, by omega⟩), (fun h => absurd h (by decide)), (fun h => absurd h (by decide))⟩ (fun h => absurd h (by decide)) uI2
  have S3 : CM A R r0 [] [4] I L I2 L := CM.a G_r0 R_r0_4 A_r0_4 uI2
  have F4 : ∀ r : Nat, r ≠ n1.toNatClampNeg → I2 r0_4 r = I r0_4 r := fun r z0 => by rw [uI2]; first | exact u2_k z0
  have e5 := u2_n uI2 (mF.nq G_r0 R_r0_1 R_r0_4 (by decide)) k0_r0_1_E_6_10_n2_toNatClampNeg
  have e6 := u2_n uI2 (mF.nq G_r0 R_r0_1 R_r0_4 (by decide)) k0_r0_1_0
  have e7 := u2_n uI2 (mF.nq G_r0 R_r0_1 R_r0_4 (by decide)) k0_r0_1_1
  have e8 := u2_e uI2
  refine z_iconst C (z := 0) rfl rfl rfl (fun x9 ex9 => ?_)
  have J10 : ∀ (nn11 : Nat) (I12 : IT) (L13 : LT) (x14 : Int32), (MN (41 - x14.toInt) nn11) → (IM R r0 I12) → (CM A R r0 [] [5] I2 L I12 L13) → (∀ r : Nat, (r < 41 * n1.toNatClampNeg ∨ 41 * n1.toNatClampNeg + 41 ≤ r) → I12 r0_5 r = I2 r0_5 r) → (0 ≤ x14.toInt) → (x14.toInt ≤ 41) → (n2.toInt < w_r0_1_1.toInt → QN I12 r0_5 n1.toNatClampNeg x14.toInt w_r0_1_0.toInt) → V 13 [(0, .ref r0), (1, .int n1), (2, .int n2), (3, .int x14)] [] (T, N, I12, L13, R) 0 0 := by
    intro nn11
    induction nn11 using Nat.strongRecOn with
    | _ nn11 ihJ10 =>
      intro I12 L13 x14 hmnn11 hI18 S17 F19 b15 b16 ff13_0
      have gx14 := rg x14
      have e20 := CM.j S17 R_r0_1 (by decide) e5
      have e21 := CM.j S17 R_r0_1 (by decide) e6
      have e22 := CM.j S17 R_r0_1 (by decide) e7
      have e23 := CM.j S17 R_r0_4 (by decide) e8
      refine k_iload_n C rfl rfl rfl ?_
      refine k_aload_n C rfl rfl rfl ?_
      refine g_R C rfl rfl rfl T_r0 rfl R_r0_4 ?_
      refine k_iload_n C rfl rfl rfl ?_
      refine a_I C rfl rfl T_r0_4 (by rw [N_r0_4]; exact vpi (by omega) (by omega)) e23 ?_
      refine b_icmp_gt C (t := 41) rfl rfl rfl (fun c24 => ?_) (fun c24 => ?_)
      · skip
        exact k_vret C rfl rfl (Nat.le_of_ble_eq_true rfl) (Nat.le_of_ble_eq_true rfl) ⟨_, _, rfl, rfl, fun a4 h4 => by cases (R_r0_4.symm.trans h4); first | omega | (simp only [e20, e21, e22, e23, k0_r0_1_E_6_10_n2_toNatClampNeg, k0_r0_1_0, k0_r0_1_1] <;> omega), fun a1 a4 h1 h4 => by cases (R_r0_1.symm.trans h1); cases (R_r0_4.symm.trans h4); first | omega | (simp only [e20, e21, e22, e23, k0_r0_1_E_6_10_n2_toNatClampNeg, k0_r0_1_0, k0_r0_1_1] <;> omega), fun a1 a4 a5 h1 h4 h5 => by cases (R_r0_1.symm.trans h1); cases (R_r0_4.symm.trans h4); cases (R_r0_5.symm.trans h5); intro hc; simp only [k0_r0_1_1] at hc; simp only [e23, k0_r0_1_0]; exact QN.le (ff13_0 hc) (by omega), fun a4 h4 => by cases (R_r0_4.symm.trans h4); exact (fun r z0 => ((congrFun (CM.j0 S17 R_r0_4 (by decide)) r).trans (F4 r z0))), fun a5 h5 => by cases (R_r0_5.symm.trans h5); exact (fun r z0 => ((F19 r z0).trans (congrFun (CM.j0 S3 R_r0_5 (by decide)) r))), hI18, (CM.cons S3 (CM.mono S17 (by decide) (by decide)) (by decide) (by decide))⟩
      refine k_aload_n C rfl rfl rfl ?_
      refine k_iload_n C rfl rfl rfl ?_
      refine k_iload_n C rfl rfl rfl ?_
      refine k_aload_n C rfl rfl rfl ?_
      refine k_iload_n C rfl rfl rfl ?_
      refine k_iload_n C rfl rfl rfl ?_
      refine c_VI C (a_X12_numberOf hI18 H_r0 (by omega) (by omega) (by omega) (by omega)) rfl rfl rfl rfl rfl ⟨_, rfl, rfl, T_r0, Nat.le_of_ble_eq_true rfl⟩ rfl rfl (Nat.le_of_ble_eq_true rfl) (Nat.le_of_ble_eq_true rfl) (Nat.le_of_ble_eq_true rfl) ?_
      rintro x25 _ _ ⟨o0x25, o1x25, p0x25, rfl, rfl⟩
      have p0x25 := p0x25 r0_1 R_r0_1
      have gx25 := rg x25
      try simp only [e20, e21, e22, e23] at p0x25
      try have q0x25 := congrArg Int32.toInt p0x25
      rw [(CM.j0 (I := I) (L := L) (I' := I12) (L' := L13) (A := A) (W := []) (WA := [4, 5]) (CM.cons S3 (CM.mono S17 (by decide) (by decide)) (by decide) (by decide)) R_r0_1 (by decide))] at p0x25
      have hN := p0x25
      refine c_VV C (a_X12_put hI18 H_r0 (by omega) (by omega) (by omega) (by omega) (by omega) (by omega)) rfl rfl rfl rfl rfl ⟨_, rfl, rfl, T_r0, Nat.le_of_ble_eq_true rfl⟩ rfl rfl (Nat.le_of_ble_eq_true rfl) (Nat.le_of_ble_eq_true rfl) (Nat.le_of_ble_eq_true rfl) ?_
      rintro I27 L28 ⟨p0v26, p1v26, hI27, S29⟩
      have p0v26 := p0v26 r0_5 R_r0_5
      have p1v26 := p1v26 r0_5 R_r0_5
      have F30 : ∀ r : Nat, (r < 41 * n1.toNatClampNeg ∨ 41 * n1.toNatClampNeg + 41 ≤ r) → I27 r0_5 r = I12 r0_5 r := fun r z0 => p1v26 r (by first | exact z0)
      have e31 := CM.j S29 R_r0_1 (by decide) e20
      have e32 := CM.j S29 R_r0_1 (by decide) e21
      have e33 := CM.j S29 R_r0_1 (by decide) e22
      have e34 := CM.j S29 R_r0_4 (by decide) e23
      try simp only [e20, e21, e22, e23] at p0v26
      try have q0v26 := congrArg Int32.toInt p0v26
      have hP := p0v26
      refine z_iinc C (z := 1) (lw := fun x35 => [(3, .int x35), (0, .ref r0), (1, .int n1), (2, .int n2)]) rfl rfl rfl (Nat.le_of_ble_eq_true rfl) rfl ⟨by omega, by omega⟩ (fun _ => rfl) (fun x35 ex35 => ?_)
      show V 38 [(3, .int x35), (0, .ref r0), (1, .int n1), (2, .int n2)] _ _ _ _
      refine k_goto C (pc2 := 13) rfl rfl ?_
      refine k_sub S [(0, .ref r0), (1, .int n1), (2, .int n2), (3, .int x35)] (List.forall_mem_cons.mpr ⟨List.mem_of_getElem? (i := 1) rfl, List.forall_mem_cons.mpr ⟨List.mem_of_getElem? (i := 2) rfl, List.forall_mem_cons.mpr ⟨List.mem_of_getElem? (i := 3) rfl, List.forall_mem_cons.mpr ⟨List.mem_of_getElem? (i := 0) rfl, fun _ h => nomatch h⟩⟩⟩⟩) ?_
      exact ihJ10 _ (MN.lt hmnn11 (by omega) (by omega)) I27 L28 x35 rfl hI27 (CM.cons S17 (CM.mono S29 (by decide) (by decide)) (by decide) (by decide)) (fun r z0 => ((F30 r z0).trans (F19 r z0))) (by omega) (by omega) (by intro hc; (have h4 := (IM.w hI R_r0_1).2.2.2.1 n2.toNatClampNeg (by have := ncz (x := n2) (by omega); simp only [k0_r0_1_1]; omega) x14.toNatClampNeg (by have := ncz (x := x14) (by omega); simp only [k0_r0_1_E_6_10_n2_toNatClampNeg]; omega)); simp only [k0_r0_1_0] at h4; exact QN.s (ff13_0 hc) hP (by omega) (by omega) (by omega) (by omega))
  refine k_istore_n C (lw := [(3, .int x9), (0, .ref r0), (1, .int n1), (2, .int n2)]) rfl rfl (Nat.le_of_ble_eq_true rfl) rfl ?_
  refine k_sub S [(0, .ref r0), (1, .int n1), (2, .int n2), (3, .int x9)] (List.forall_mem_cons.mpr ⟨List.mem_of_getElem? (i := 1) rfl, List.forall_mem_cons.mpr ⟨List.mem_of_getElem? (i := 2) rfl, List.forall_mem_cons.mpr ⟨List.mem_of_getElem? (i := 3) rfl, List.forall_mem_cons.mpr ⟨List.mem_of_getElem? (i := 0) rfl, fun _ h => nomatch h⟩⟩⟩⟩) ?_
  exact J10 _ I2 L x9 rfl hI2 CM.rf (fun r z0 => rfl) (by omega) (by omega) (by intro _; exact QN.z (by omega))

theorem a_X12_copies {d : Nat} {T N : Nat → Nat} {I : IT} {L : LT} {R : RT} {A : Nat → Prop} {r0 : Nat} {n1 n2 : Int32} (hI : IM R r0 I) (H_r0 : (h_MD T N R A) r0) (b0_n1 : 0 ≤ n1.toInt) (b1_n1 : n1.toInt ≤ 47) (b0_n2 : 0 ≤ n2.toInt) (b1_n2 : n2.toInt ≤ 47) (hp0 : n1.toInt ≠ n2.toInt) : Ex (d + 2) 201 [.ref r0, .int n1, .int n2] (T, N, I, L, R) 0 0 (pV T N R (fun I9 L9 => (∀ a4, R r0 4 = some a4 → (I9 a4 n2.toNatClampNeg).toInt = (I a4 n1.toNatClampNeg).toInt) ∧ (∀ a4 a5, R r0 4 = some a4 → R r0 5 = some a5 → CPN I I9 a5 n1.toNatClampNeg n2.toNatClampNeg ((I a4 n1.toNatClampNeg).toInt + 1)) ∧ (∀ a4, R r0 4 = some a4 → ∀ r : Nat, r ≠ n2.toNatClampNeg → I9 a4 r = I a4 r) ∧ (∀ a5, R r0 5 = some a5 → ∀ r : Nat, (r < 41 * n2.toNatClampNeg ∨ 41 * n2.toNatClampNeg + 41 ≤ r) → I9 a5 r = I a5 r) ∧ (IM R r0 I9 ∧ CM A R r0 [] [4, 5] I L I9 L9))) := by
  refine ⟨_, rfl, Nat.le_of_ble_eq_true rfl, fun V C S => ?_⟩
  show V 0 [(0, .ref r0), (1, .int n1), (2, .int n2)] [] (T, N, I, L, R) 0 0
  have gn1 := rg n1
  have gn2 := rg n2
  obtain ⟨T_r0, A_r0, ⟨r0_1, R_r0_1, H_r0_1⟩, ⟨r0_2, R_r0_2, H_r0_2⟩, ⟨r0_4, R_r0_4, H_r0_4⟩, ⟨r0_5, R_r0_5, H_r0_5⟩, ⟨r0_10, R_r0_10, H_r0_10⟩, ⟨r0_18, R_r0_18, H_r0_18⟩, ⟨r0_20, R_r0_20, H_r0_20⟩, ⟨r0_21, R_r0_21, H_r0_21⟩, ⟨r0_22, R_r0_22, H_r0_22⟩, ⟨r0_23, R_r0_23, H_r0_23⟩, ⟨r0_25, R_r0_25, H_r0_25⟩, ⟨r0_26, R_r0_26, H_r0_26⟩, ⟨r0_27, R_r0_27, H_r0_27⟩, ⟨r0_28, R_r0_28, H_r0_28⟩, ⟨r0_34, R_r0_34, H_r0_34⟩, J_r0, Y_r0⟩ := id H_r0
  have G_r0 : mF T R r0 := ⟨J_r0, Y_r0, T_r0⟩
  obtain ⟨w_r0_4_n1, k0_r0_4_n1⟩ : ∃ x, I r0_4 n1.toNatClampNeg = x := ⟨_, rfl⟩
  have gw_r0_4_n1 := rg w_r0_4_n1
  have ow_r0_4_n1 := IM.dgR hI R_r0_4 k0_r0_4_n1
  try simp only [k0_r0_4_n1] at hp0
  refine k_aload_n C rfl rfl rfl ?_
  refine g_R C rfl rfl rfl T_r0 rfl R_r0_4 ?_
  refine k_iload_n C rfl rfl rfl ?_
  refine k_aload_n C rfl rfl rfl ?_
  refine g_R C rfl rfl rfl T_r0 rfl R_r0_4 ?_
  refine k_iload_n C rfl rfl rfl ?_
  obtain ⟨T_r0_4, N_r0_4, A_r0_4⟩ := id H_r0_4
  refine a_I C rfl rfl T_r0_4 (by rw [N_r0_4]; exact vpi (by omega) (by omega)) k0_r0_4_n1 ?_
  refine z_sI C rfl rfl T_r0_4 N_r0_4 (by omega) (by omega) (fun I1 uI1 => ?_)
  have hI1 : IM R r0 I1 := IM.arr hI G_r0 R_r0_4 ⟨(fun _ => ⟨by omega, by omega⟩), (fun h => absurd h (by decide)), (fun h => absurd h (by decide))⟩ (fun h => absurd h (by decide)) uI1
  have S2 : CM A R r0 [] [4] I L I1 L := CM.a G_r0 R_r0_4 A_r0_4 uI1
  have F3 : ∀ r : Nat, r ≠ n2.toNatClampNeg → I1 r0_4 r = I r0_4 r := fun r z0 => by rw [uI1]; first | exact u2_k z0
  have e4 := u2_j uI1 (by first | decide | exact ncne (by omega) (by omega) (by omega) | exact nckn (by omega) (by omega) | exact (nckn (by omega) (by omega)).symm) k0_r0_4_n1
  have e5 := u2_e uI1
  refine z_iconst C (z := 0) rfl rfl rfl (fun x6 ex6 => ?_)
  have J7 : ∀ (nn8 : Nat) (I9 : IT) (L10 : LT) (x11 : Int32), (MN (41 - x11.toInt) nn8) → (IM R r0 I9) → (CM A R r0 [] [5] I1 L I9 L10) → (∀ r : Nat, (r < 41 * n2.toNatClampNeg ∨ 41 * n2.toNatClampNeg + 41 ≤ r) → I9 r0_5 r = I1 r0_5 r) → (0 ≤ x11.toInt) → (x11.toInt ≤ 41) → (CPN I I9 r0_5 n1.toNatClampNeg n2.toNatClampNeg x11.toInt) → (SMR I I9 r0_5 n1.toNatClampNeg) → V 14 [(0, .ref r0), (1, .int n1), (2, .int n2), (3, .int x11)] [] (T, N, I9, L10, R) 0 0 := by
    intro nn8
    induction nn8 using Nat.strongRecOn with
    | _ nn8 ihJ7 =>
      intro I9 L10 x11 hmnn8 hI15 S14 F16 b12 b13 ff14_0 ff14_1
      have gx11 := rg x11
      have e17 := CM.j S14 R_r0_4 (by decide) e4
      have e18 := CM.j S14 R_r0_4 (by decide) e5
      refine k_iload_n C rfl rfl rfl ?_
      refine k_aload_n C rfl rfl rfl ?_
      refine g_R C rfl rfl rfl T_r0 rfl R_r0_4 ?_
      refine k_iload_n C rfl rfl rfl ?_
      refine a_I C rfl rfl T_r0_4 (by rw [N_r0_4]; exact vpi (by omega) (by omega)) e17 ?_
      refine b_icmp_gt C (t := 42) rfl rfl rfl (fun c19 => ?_) (fun c19 => ?_)
      · skip
        exact k_vret C rfl rfl (Nat.le_of_ble_eq_true rfl) (Nat.le_of_ble_eq_true rfl) ⟨_, _, rfl, rfl, fun a4 h4 => by cases (R_r0_4.symm.trans h4); first | omega | (simp only [e17, e18, k0_r0_4_n1] <;> omega), fun a4 a5 h4 h5 => by cases (R_r0_4.symm.trans h4); cases (R_r0_5.symm.trans h5); simp only [k0_r0_4_n1]; exact CPN.le ff14_0 (by omega), fun a4 h4 => by cases (R_r0_4.symm.trans h4); exact (fun r z0 => ((congrFun (CM.j0 S14 R_r0_4 (by decide)) r).trans (F3 r z0))), fun a5 h5 => by cases (R_r0_5.symm.trans h5); exact (fun r z0 => ((F16 r z0).trans (congrFun (CM.j0 S2 R_r0_5 (by decide)) r))), hI15, (CM.cons S2 (CM.mono S14 (by decide) (by decide)) (by decide) (by decide))⟩
      refine k_aload_n C rfl rfl rfl ?_
      refine k_iload_n C rfl rfl rfl ?_
      refine k_iload_n C rfl rfl rfl ?_
      refine k_aload_n C rfl rfl rfl ?_
      refine k_iload_n C rfl rfl rfl ?_
      refine k_iload_n C rfl rfl rfl ?_
      refine c_VI C (a_X12_of hI15 H_r0 (by omega) (by omega) (by omega) (by omega)) rfl rfl rfl rfl rfl ⟨_, rfl, rfl, T_r0, Nat.le_of_ble_eq_true rfl⟩ rfl rfl (Nat.le_of_ble_eq_true rfl) (Nat.le_of_ble_eq_true rfl) (Nat.le_of_ble_eq_true rfl) ?_
      rintro x20 _ _ ⟨o0x20, o1x20, p0x20, rfl, rfl⟩
      have p0x20 := p0x20 r0_5 R_r0_5
      have gx20 := rg x20
      try simp only [e17, e18] at p0x20
      try have q0x20 := congrArg Int32.toInt p0x20
      have hO := p0x20
      refine c_VV C (a_X12_put hI15 H_r0 (by omega) (by omega) (by omega) (by omega) (by omega) (by omega)) rfl rfl rfl rfl rfl ⟨_, rfl, rfl, T_r0, Nat.le_of_ble_eq_true rfl⟩ rfl rfl (Nat.le_of_ble_eq_true rfl) (Nat.le_of_ble_eq_true rfl) (Nat.le_of_ble_eq_true rfl) ?_
      rintro I22 L23 ⟨p0v21, p1v21, hI22, S24⟩
      have p0v21 := p0v21 r0_5 R_r0_5
      have p1v21 := p1v21 r0_5 R_r0_5
      have F25 : ∀ r : Nat, (r < 41 * n2.toNatClampNeg ∨ 41 * n2.toNatClampNeg + 41 ≤ r) → I22 r0_5 r = I9 r0_5 r := fun r z0 => p1v21 r (by first | exact z0)
      have e26 := CM.j S24 R_r0_4 (by decide) e17
      have e27 := CM.j S24 R_r0_4 (by decide) e18
      try simp only [e17, e18] at p0v21
      try have q0v21 := congrArg Int32.toInt p0v21
      have hP := p0v21
      refine z_iinc C (z := 1) (lw := fun x28 => [(3, .int x28), (0, .ref r0), (1, .int n1), (2, .int n2)]) rfl rfl rfl (Nat.le_of_ble_eq_true rfl) rfl ⟨by omega, by omega⟩ (fun _ => rfl) (fun x28 ex28 => ?_)
      show V 39 [(3, .int x28), (0, .ref r0), (1, .int n1), (2, .int n2)] _ _ _ _
      refine k_goto C (pc2 := 14) rfl rfl ?_
      refine k_sub S [(0, .ref r0), (1, .int n1), (2, .int n2), (3, .int x28)] (List.forall_mem_cons.mpr ⟨List.mem_of_getElem? (i := 1) rfl, List.forall_mem_cons.mpr ⟨List.mem_of_getElem? (i := 2) rfl, List.forall_mem_cons.mpr ⟨List.mem_of_getElem? (i := 3) rfl, List.forall_mem_cons.mpr ⟨List.mem_of_getElem? (i := 0) rfl, fun _ h => nomatch h⟩⟩⟩⟩) ?_
      exact ihJ7 _ (MN.lt hmnn8 (by omega) (by omega)) I22 L23 x28 rfl hI22 (CM.cons S14 (CM.mono S24 (by decide) (by decide)) (by decide) (by decide)) (fun r z0 => ((F25 r z0).trans (F16 r z0))) (by omega) (by omega) (by exact CPN.s ff14_0 ff14_1 (by omega) (by omega) hO hP (by omega)) (by exact SMR.put ff14_1 hP (by have := ncz (x := x11) (by omega); omega) (ncne (by omega) (by omega) (by omega)))
  refine k_istore_n C (lw := [(3, .int x6), (0, .ref r0), (1, .int n1), (2, .int n2)]) rfl rfl (Nat.le_of_ble_eq_true rfl) rfl ?_
  refine k_sub S [(0, .ref r0), (1, .int n1), (2, .int n2), (3, .int x6)] (List.forall_mem_cons.mpr ⟨List.mem_of_getElem? (i := 1) rfl, List.forall_mem_cons.mpr ⟨List.mem_of_getElem? (i := 2) rfl, List.forall_mem_cons.mpr ⟨List.mem_of_getElem? (i := 3) rfl, List.forall_mem_cons.mpr ⟨List.mem_of_getElem? (i := 0) rfl, fun _ h => nomatch h⟩⟩⟩⟩) ?_
  exact J7 _ I1 L x6 rfl hI1 CM.rf (fun r z0 => rfl) (by omega) (by omega) (by exact CPN.z (by omega)) (by exact SMR.eq (CM.j0 S2 R_r0_5 (by decide)))

theorem a_X12_clears {d : Nat} {T N : Nat → Nat} {I : IT} {L : LT} {R : RT} {A : Nat → Prop} {r0 : Nat} {n1 n2 : Int32} (hI : IM R r0 I) (H_r0 : (h_MD T N R A) r0) (b0_n1 : 0 ≤ n1.toInt) (b1_n1 : n1.toInt ≤ 47) (b0_n2 : 0 ≤ n2.toInt) (b1_n2 : n2.toInt ≤ 40) : Ex (d + 2) 202 [.ref r0, .int n1, .int n2] (T, N, I, L, R) 0 0 (pV T N R (fun I9 L9 => (∀ a4, R r0 4 = some a4 → (I9 a4 n1.toNatClampNeg).toInt = n2.toInt) ∧ (∀ a5, R r0 5 = some a5 → AZ I9 a5 (41 * n1.toNatClampNeg) (n2.toInt + 1)) ∧ (∀ a4, R r0 4 = some a4 → ∀ r : Nat, r ≠ n1.toNatClampNeg → I9 a4 r = I a4 r) ∧ (∀ a5, R r0 5 = some a5 → ∀ r : Nat, (r < 41 * n1.toNatClampNeg ∨ 41 * n1.toNatClampNeg + 41 ≤ r) → I9 a5 r = I a5 r) ∧ (IM R r0 I9 ∧ CM A R r0 [] [4, 5] I L I9 L9))) := by
  refine ⟨_, rfl, Nat.le_of_ble_eq_true rfl, fun V C S => ?_⟩
  show V 0 [(0, .ref r0), (1, .int n1), (2, .int n2)] [] (T, N, I, L, R) 0 0
  have gn1 := rg n1
  have gn2 := rg n2
  obtain ⟨T_r0, A_r0, ⟨r0_1, R_r0_1, H_r0_1⟩, ⟨r0_2, R_r0_2, H_r0_2⟩, ⟨r0_4, R_r0_4, H_r0_4⟩, ⟨r0_5, R_r0_5, H_r0_5⟩, ⟨r0_10, R_r0_10, H_r0_10⟩, ⟨r0_18, R_r0_18, H_r0_18⟩, ⟨r0_20, R_r0_20, H_r0_20⟩, ⟨r0_21, R_r0_21, H_r0_21⟩, ⟨r0_22, R_r0_22, H_r0_22⟩, ⟨r0_23, R_r0_23, H_r0_23⟩, ⟨r0_25, R_r0_25, H_r0_25⟩, ⟨r0_26, R_r0_26, H_r0_26⟩, ⟨r0_27, R_r0_27, H_r0_27⟩, ⟨r0_28, R_r0_28, H_r0_28⟩, ⟨r0_34, R_r0_34, H_r0_34⟩, J_r0, Y_r0⟩ := id H_r0
  have G_r0 : mF T R r0 := ⟨J_r0, Y_r0, T_r0⟩
  refine k_aload_n C rfl rfl rfl ?_
  refine g_R C rfl rfl rfl T_r0 rfl R_r0_4 ?_
  refine k_iload_n C rfl rfl rfl ?_
  refine k_iload_n C rfl rfl rfl ?_
  obtain ⟨T_r0_4, N_r0_4, A_r0_4⟩ := id H_r0_4
  refine z_sI C rfl rfl T_r0_4 N_r0_4 (by omega) (by omega) (fun I1 uI1 => ?_)
  have hI1 : IM R r0 I1 := IM.arr hI G_r0 R_r0_4 ⟨(fun _ => ⟨by omega, by omega⟩), (fun h => absurd h (by decide)), (fun h => absurd h (by decide))⟩ (fun h => absurd h (by decide)) uI1
  have S2 : CM A R r0 [] [4] I L I1 L := CM.a G_r0 R_r0_4 A_r0_4 uI1
  have F3 : ∀ r : Nat, r ≠ n1.toNatClampNeg → I1 r0_4 r = I r0_4 r := fun r z0 => by rw [uI1]; first | exact u2_k z0
  have e4 := u2_e uI1
  refine z_iconst C (z := 0) rfl rfl rfl (fun x5 ex5 => ?_)
  have J6 : ∀ (nn7 : Nat) (I8 : IT) (L9 : LT) (x10 : Int32), (MN (41 - x10.toInt) nn7) → (IM R r0 I8) → (CM A R r0 [] [5] I1 L I8 L9) → (∀ r : Nat, (r < 41 * n1.toNatClampNeg ∨ 41 * n1.toNatClampNeg + 41 ≤ r) → I8 r0_5 r = I1 r0_5 r) → (0 ≤ x10.toInt) → (x10.toInt ≤ 41) → (AZ I8 r0_5 (41 * n1.toNatClampNeg) x10.toInt) → V 9 [(0, .ref r0), (1, .int n1), (2, .int n2), (3, .int x10)] [] (T, N, I8, L9, R) 0 0 := by
    intro nn7
    induction nn7 using Nat.strongRecOn with
    | _ nn7 ihJ6 =>
      intro I8 L9 x10 hmnn7 hI14 S13 F15 b11 b12 ff9_0
      have gx10 := rg x10
      have e16 := CM.j S13 R_r0_4 (by decide) e4
      refine k_iload_n C rfl rfl rfl ?_
      refine k_iload_n C rfl rfl rfl ?_
      refine b_icmp_gt C (t := 27) rfl rfl rfl (fun c17 => ?_) (fun c17 => ?_)
      · skip
        exact k_vret C rfl rfl (Nat.le_of_ble_eq_true rfl) (Nat.le_of_ble_eq_true rfl) ⟨_, _, rfl, rfl, fun a4 h4 => by cases (R_r0_4.symm.trans h4); first | omega | (simp only [e16] <;> omega), fun a5 h5 => by cases (R_r0_5.symm.trans h5); exact fun k hk => ff9_0 k (by omega), fun a4 h4 => by cases (R_r0_4.symm.trans h4); exact (fun r z0 => ((congrFun (CM.j0 S13 R_r0_4 (by decide)) r).trans (F3 r z0))), fun a5 h5 => by cases (R_r0_5.symm.trans h5); exact (fun r z0 => ((F15 r z0).trans (congrFun (CM.j0 S2 R_r0_5 (by decide)) r))), hI14, (CM.cons S2 (CM.mono S13 (by decide) (by decide)) (by decide) (by decide))⟩
      refine k_aload_n C rfl rfl rfl ?_
      refine k_iload_n C rfl rfl rfl ?_
      refine k_iload_n C rfl rfl rfl ?_
      refine z_iconst C (z := 0) rfl rfl rfl (fun x18 ex18 => ?_)
      have q19 : x18.toNatClampNeg = 0 := nck (by omega)
      refine c_VV C (a_X12_put hI14 H_r0 (by omega) (by omega) (by omega) (by omega) (by omega) (by omega)) rfl rfl rfl rfl rfl ⟨_, rfl, rfl, T_r0, Nat.le_of_ble_eq_true rfl⟩ rfl rfl (Nat.le_of_ble_eq_true rfl) (Nat.le_of_ble_eq_true rfl) (Nat.le_of_ble_eq_true rfl) ?_
      rintro I21 L22 ⟨p0v20, p1v20, hI21, S23⟩
      have p0v20 := p0v20 r0_5 R_r0_5
      have p1v20 := p1v20 r0_5 R_r0_5
      try simp only [q19] at p1v20
      have F24 : ∀ r : Nat, (r < 41 * n1.toNatClampNeg ∨ 41 * n1.toNatClampNeg + 41 ≤ r) → I21 r0_5 r = I8 r0_5 r := fun r z0 => p1v20 r (by first | exact z0)
      have e25 := CM.j S23 R_r0_4 (by decide) e16
      try simp only [q19, e16] at p0v20
      try have q0v20 := congrArg Int32.toInt p0v20
      have hP := p0v20
      refine z_iinc C (z := 1) (lw := fun x26 => [(3, .int x26), (0, .ref r0), (1, .int n1), (2, .int n2)]) rfl rfl rfl (Nat.le_of_ble_eq_true rfl) rfl ⟨by omega, by omega⟩ (fun _ => rfl) (fun x26 ex26 => ?_)
      show V 24 [(3, .int x26), (0, .ref r0), (1, .int n1), (2, .int n2)] _ _ _ _
      refine k_goto C (pc2 := 9) rfl rfl ?_
      refine k_sub S [(0, .ref r0), (1, .int n1), (2, .int n2), (3, .int x26)] (List.forall_mem_cons.mpr ⟨List.mem_of_getElem? (i := 1) rfl, List.forall_mem_cons.mpr ⟨List.mem_of_getElem? (i := 2) rfl, List.forall_mem_cons.mpr ⟨List.mem_of_getElem? (i := 3) rfl, List.forall_mem_cons.mpr ⟨List.mem_of_getElem? (i := 0) rfl, fun _ h => nomatch h⟩⟩⟩⟩) ?_
      exact ihJ6 _ (MN.lt hmnn7 (by omega) (by omega)) I21 L22 x26 rfl hI21 (CM.cons S13 (CM.mono S23 (by decide) (by decide)) (by decide) (by decide)) (fun r z0 => ((F24 r z0).trans (F15 r z0))) (by omega) (by omega) (by exact AZ.p ff9_0 hP (by omega) (by omega) (by omega))
  refine k_istore_n C (lw := [(3, .int x5), (0, .ref r0), (1, .int n1), (2, .int n2)]) rfl rfl (Nat.le_of_ble_eq_true rfl) rfl ?_
  refine k_sub S [(0, .ref r0), (1, .int n1), (2, .int n2), (3, .int x5)] (List.forall_mem_cons.mpr ⟨List.mem_of_getElem? (i := 1) rfl, List.forall_mem_cons.mpr ⟨List.mem_of_getElem? (i := 2) rfl, List.forall_mem_cons.mpr ⟨List.mem_of_getElem? (i := 3) rfl, List.forall_mem_cons.mpr ⟨List.mem_of_getElem? (i := 0) rfl, fun _ h => nomatch h⟩⟩⟩⟩) ?_
  exact J6 _ I1 L x5 rfl hI1 CM.rf (fun r z0 => rfl) (by omega) (by omega) (by exact AZ.z (by omega))

theorem a_X12_isNought {d : Nat} {T N : Nat → Nat} {I : IT} {L : LT} {R : RT} {A : Nat → Prop} {r0 : Nat} {n1 : Int32} (hI : IM R r0 I) (H_r0 : (h_MD T N R A) r0) (b0_n1 : 0 ≤ n1.toInt) (b1_n1 : n1.toInt ≤ 47) : Ex (d + 2) 203 [.ref r0, .int n1] (T, N, I, L, R) 0 0 (pI T N R (fun x9 I9 L9 => (0 ≤ x9.toInt) ∧ (x9.toInt ≤ 1) ∧ (∀ a4 a5, R r0 4 = some a4 → R r0 5 = some a5 → x9.toInt = 0 → NZ I a5 n1.toNatClampNeg (I a4 n1.toNatClampNeg).toInt) ∧ (I = I9 ∧ L = L9))) := by
  refine ⟨_, rfl, Nat.le_of_ble_eq_true rfl, fun V C S => ?_⟩
  show V 0 [(0, .ref r0), (1, .int n1)] [] (T, N, I, L, R) 0 0
  have gn1 := rg n1
  obtain ⟨T_r0, A_r0, ⟨r0_1, R_r0_1, H_r0_1⟩, ⟨r0_2, R_r0_2, H_r0_2⟩, ⟨r0_4, R_r0_4, H_r0_4⟩, ⟨r0_5, R_r0_5, H_r0_5⟩, ⟨r0_10, R_r0_10, H_r0_10⟩, ⟨r0_18, R_r0_18, H_r0_18⟩, ⟨r0_20, R_r0_20, H_r0_20⟩, ⟨r0_21, R_r0_21, H_r0_21⟩, ⟨r0_22, R_r0_22, H_r0_22⟩, ⟨r0_23, R_r0_23, H_r0_23⟩, ⟨r0_25, R_r0_25, H_r0_25⟩, ⟨r0_26, R_r0_26, H_r0_26⟩, ⟨r0_27, R_r0_27, H_r0_27⟩, ⟨r0_28, R_r0_28, H_r0_28⟩, ⟨r0_34, R_r0_34, H_r0_34⟩, J_r0, Y_r0⟩ := id H_r0
  have G_r0 : mF T R r0 := ⟨J_r0, Y_r0, T_r0⟩
  obtain ⟨w_r0_4_n1, k0_r0_4_n1⟩ : ∃ x, I r0_4 n1.toNatClampNeg = x := ⟨_, rfl⟩
  have gw_r0_4_n1 := rg w_r0_4_n1
  have ow_r0_4_n1 := IM.dgR hI R_r0_4 k0_r0_4_n1
  refine z_iconst C (z := 1) rfl rfl rfl (fun x1 ex1 => ?_)
  refine k_istore_n C (lw := [(2, .int x1), (0, .ref r0), (1, .int n1)]) rfl rfl (Nat.le_of_ble_eq_true rfl) rfl ?_
  refine z_iconst C (z := 0) rfl rfl rfl (fun x2 ex2 => ?_)
  have J3 : ∀ (nn4 : Nat) (x5 : Int32) (x8 : Int32), (MN (41 - x8.toInt) nn4) → (0 ≤ x5.toInt) → (x5.toInt ≤ 1) → (0 ≤ x8.toInt) → (x8.toInt ≤ 41) → (x5.toInt = 0 → NZ I r0_5 n1.toNatClampNeg w_r0_4_n1.toInt) → V 4 [(0, .ref r0), (1, .int n1), (2, .int x5), (3, .int x8)] [] (T, N, I, L, R) 0 0 := by
    intro nn4
    induction nn4 using Nat.strongRecOn with
    | _ nn4 ihJ3 =>
      intro x5 x8 hmnn4 b6 b7 b9 b10 ff4_0
      have gx5 := rg x5
      have gx8 := rg x8
      refine k_iload_n C rfl rfl rfl ?_
      refine k_aload_n C rfl rfl rfl ?_
      refine g_R C rfl rfl rfl T_r0 rfl R_r0_4 ?_
      refine k_iload_n C rfl rfl rfl ?_
      obtain ⟨T_r0_4, N_r0_4, A_r0_4⟩ := id H_r0_4
      refine a_I C rfl rfl T_r0_4 (by rw [N_r0_4]; exact vpi (by omega) (by omega)) k0_r0_4_n1 ?_
      refine b_icmp_gt C (t := 39) rfl rfl rfl (fun c11 => ?_) (fun c11 => ?_)
      · skip
        refine k_iload_n C rfl rfl rfl ?_
        exact k_iret C rfl (Or.inr ⟨rfl, z01 (by omega) (by omega)⟩) (Nat.le_of_ble_eq_true rfl) (Nat.le_of_ble_eq_true rfl) ⟨_, _, _, rfl, rfl, by omega, by omega, fun a4 a5 h4 h5 => by cases (R_r0_4.symm.trans h4); cases (R_r0_5.symm.trans h5); simp only [k0_r0_4_n1]; exact ff4_0, rfl, rfl⟩
      refine k_iload_n C rfl rfl rfl ?_
      refine b_if_eq C (t := 31) rfl rfl rfl (fun c12 => ?_) (fun c12 => ?_)
      · skip
        refine z_iconst C (z := 0) rfl rfl rfl (fun x13 ex13 => ?_)
        refine k_istore_n C (lw := [(2, .int x13), (0, .ref r0), (1, .int n1), (3, .int x8)]) rfl rfl (Nat.le_of_ble_eq_true rfl) rfl ?_
        refine z_iinc C (z := 1) (lw := fun x14 => [(3, .int x14), (2, .int x13), (0, .ref r0), (1, .int n1)]) rfl rfl rfl (Nat.le_of_ble_eq_true rfl) rfl ⟨by omega, by omega⟩ (fun _ => rfl) (fun x14 ex14 => ?_)
        show V 36 [(3, .int x14), (2, .int x13), (0, .ref r0), (1, .int n1)] _ _ _ _
        refine k_goto C (pc2 := 4) rfl rfl ?_
        refine k_sub S [(0, .ref r0), (1, .int n1), (2, .int x13), (3, .int x14)] (List.forall_mem_cons.mpr ⟨List.mem_of_getElem? (i := 2) rfl, List.forall_mem_cons.mpr ⟨List.mem_of_getElem? (i := 3) rfl, List.forall_mem_cons.mpr ⟨List.mem_of_getElem? (i := 1) rfl, List.forall_mem_cons.mpr ⟨List.mem_of_getElem? (i := 0) rfl, fun _ h => nomatch h⟩⟩⟩⟩) ?_
        exact ihJ3 _ (MN.lt hmnn4 (by omega) (by omega)) x13 x14 rfl (by omega) (by omega) (by omega) (by omega) (by first | (intro h; exfalso; omega) | exact (fun _ => ff4_0 (by omega)) | exact (fun _ => ⟨x8.toNatClampNeg, by have := ncz (x := x8) (by omega); omega, by omega⟩))
      refine k_aload_n C rfl rfl rfl ?_
      refine k_iload_n C rfl rfl rfl ?_
      refine k_iload_n C rfl rfl rfl ?_
      refine c_VI C (a_X12_of hI H_r0 (by omega) (by omega) (by omega) (by omega)) rfl rfl rfl rfl rfl ⟨_, rfl, rfl, T_r0, Nat.le_of_ble_eq_true rfl⟩ rfl rfl (Nat.le_of_ble_eq_true rfl) (Nat.le_of_ble_eq_true rfl) (Nat.le_of_ble_eq_true rfl) ?_
      rintro x15 _ _ ⟨o0x15, o1x15, p0x15, rfl, rfl⟩
      have p0x15 := p0x15 r0_5 R_r0_5
      have gx15 := rg x15
      try simp only [k0_r0_4_n1] at p0x15
      try have q0x15 := congrArg Int32.toInt p0x15
      refine b_if_ne C (t := 31) rfl rfl rfl (fun c16 => ?_) (fun c16 => ?_)
      · skip
        refine z_iconst C (z := 0) rfl rfl rfl (fun x17 ex17 => ?_)
        refine k_istore_n C (lw := [(2, .int x17), (0, .ref r0), (1, .int n1), (3, .int x8)]) rfl rfl (Nat.le_of_ble_eq_true rfl) rfl ?_
        refine z_iinc C (z := 1) (lw := fun x18 => [(3, .int x18), (2, .int x17), (0, .ref r0), (1, .int n1)]) rfl rfl rfl (Nat.le_of_ble_eq_true rfl) rfl ⟨by omega, by omega⟩ (fun _ => rfl) (fun x18 ex18 => ?_)
        show V 36 [(3, .int x18), (2, .int x17), (0, .ref r0), (1, .int n1)] _ _ _ _
        refine k_goto C (pc2 := 4) rfl rfl ?_
        refine k_sub S [(0, .ref r0), (1, .int n1), (2, .int x17), (3, .int x18)] (List.forall_mem_cons.mpr ⟨List.mem_of_getElem? (i := 2) rfl, List.forall_mem_cons.mpr ⟨List.mem_of_getElem? (i := 3) rfl, List.forall_mem_cons.mpr ⟨List.mem_of_getElem? (i := 1) rfl, List.forall_mem_cons.mpr ⟨List.mem_of_getElem? (i := 0) rfl, fun _ h => nomatch h⟩⟩⟩⟩) ?_
        exact ihJ3 _ (MN.lt hmnn4 (by omega) (by omega)) x17 x18 rfl (by omega) (by omega) (by omega) (by omega) (by first | (intro h; exfalso; omega) | exact (fun _ => ff4_0 (by omega)) | exact (fun _ => ⟨x8.toNatClampNeg, by have := ncz (x := x8) (by omega); omega, by omega⟩))
      refine z_iconst C (z := 1) rfl rfl rfl (fun x19 ex19 => ?_)
      refine k_goto C (pc2 := 32) rfl rfl ?_
      refine k_istore_n C (lw := [(2, .int x19), (0, .ref r0), (1, .int n1), (3, .int x8)]) rfl rfl (Nat.le_of_ble_eq_true rfl) rfl ?_
      refine z_iinc C (z := 1) (lw := fun x20 => [(3, .int x20), (2, .int x19), (0, .ref r0), (1, .int n1)]) rfl rfl rfl (Nat.le_of_ble_eq_true rfl) rfl ⟨by omega, by omega⟩ (fun _ => rfl) (fun x20 ex20 => ?_)
      show V 36 [(3, .int x20), (2, .int x19), (0, .ref r0), (1, .int n1)] _ _ _ _
      refine k_goto C (pc2 := 4) rfl rfl ?_
      refine k_sub S [(0, .ref r0), (1, .int n1), (2, .int x19), (3, .int x20)] (List.forall_mem_cons.mpr ⟨List.mem_of_getElem? (i := 2) rfl, List.forall_mem_cons.mpr ⟨List.mem_of_getElem? (i := 3) rfl, List.forall_mem_cons.mpr ⟨List.mem_of_getElem? (i := 1) rfl, List.forall_mem_cons.mpr ⟨List.mem_of_getElem? (i := 0) rfl, fun _ h => nomatch h⟩⟩⟩⟩) ?_
      exact ihJ3 _ (MN.lt hmnn4 (by omega) (by omega)) x19 x20 rfl (by omega) (by omega) (by omega) (by omega) (by first | (intro h; exfalso; omega) | exact (fun _ => ff4_0 (by omega)) | exact (fun _ => ⟨x8.toNatClampNeg, by have := ncz (x := x8) (by omega); omega, by omega⟩))
  refine k_istore_n C (lw := [(3, .int x2), (2, .int x1), (0, .ref r0), (1, .int n1)]) rfl rfl (Nat.le_of_ble_eq_true rfl) rfl ?_
  refine k_sub S [(0, .ref r0), (1, .int n1), (2, .int x1), (3, .int x2)] (List.forall_mem_cons.mpr ⟨List.mem_of_getElem? (i := 2) rfl, List.forall_mem_cons.mpr ⟨List.mem_of_getElem? (i := 3) rfl, List.forall_mem_cons.mpr ⟨List.mem_of_getElem? (i := 1) rfl, List.forall_mem_cons.mpr ⟨List.mem_of_getElem? (i := 0) rfl, fun _ h => nomatch h⟩⟩⟩⟩) ?_
  exact J3 _ x1 x2 rfl (by omega) (by omega) (by omega) (by omega) (by intro h; exfalso; omega)

theorem a_X12_isLike {d : Nat} {T N : Nat → Nat} {I : IT} {L : LT} {R : RT} {A : Nat → Prop} {r0 : Nat} {n1 n2 : Int32} (hI : IM R r0 I) (H_r0 : (h_MD T N R A) r0) (b0_n1 : 0 ≤ n1.toInt) (b1_n1 : n1.toInt ≤ 47) (b0_n2 : 0 ≤ n2.toInt) (b1_n2 : n2.toInt ≤ 47) : Ex (d + 2) 204 [.ref r0, .int n1, .int n2] (T, N, I, L, R) 0 0 (pI T N R (fun x9 I9 L9 => (0 ≤ x9.toInt) ∧ (x9.toInt ≤ 1) ∧ (I = I9 ∧ L = L9))) := by
  refine ⟨_, rfl, Nat.le_of_ble_eq_true rfl, fun V C S => ?_⟩
  show V 0 [(0, .ref r0), (1, .int n1), (2, .int n2)] [] (T, N, I, L, R) 0 0
  have gn1 := rg n1
  have gn2 := rg n2
  obtain ⟨T_r0, A_r0, ⟨r0_1, R_r0_1, H_r0_1⟩, ⟨r0_2, R_r0_2, H_r0_2⟩, ⟨r0_4, R_r0_4, H_r0_4⟩, ⟨r0_5, R_r0_5, H_r0_5⟩, ⟨r0_10, R_r0_10, H_r0_10⟩, ⟨r0_18, R_r0_18, H_r0_18⟩, ⟨r0_20, R_r0_20, H_r0_20⟩, ⟨r0_21, R_r0_21, H_r0_21⟩, ⟨r0_22, R_r0_22, H_r0_22⟩, ⟨r0_23, R_r0_23, H_r0_23⟩, ⟨r0_25, R_r0_25, H_r0_25⟩, ⟨r0_26, R_r0_26, H_r0_26⟩, ⟨r0_27, R_r0_27, H_r0_27⟩, ⟨r0_28, R_r0_28, H_r0_28⟩, ⟨r0_34, R_r0_34, H_r0_34⟩, J_r0, Y_r0⟩ := id H_r0
  have G_r0 : mF T R r0 := ⟨J_r0, Y_r0, T_r0⟩
  refine k_aload_n C rfl rfl rfl ?_
  refine g_R C rfl rfl rfl T_r0 rfl R_r0_4 ?_
  refine k_iload_n C rfl rfl rfl ?_
  obtain ⟨T_r0_4, N_r0_4, A_r0_4⟩ := id H_r0_4
  refine z_aI C rfl rfl T_r0_4 N_r0_4 (by omega) (by omega) (fun x1 ex1 => ?_)
  have gx1 := rg x1
  have ox1 := IM.dgR hI R_r0_4 ex1
  refine k_aload_n C rfl rfl rfl ?_
  refine g_R C rfl rfl rfl T_r0 rfl R_r0_4 ?_
  refine k_iload_n C rfl rfl rfl ?_
  refine z_aI C rfl rfl T_r0_4 N_r0_4 (by omega) (by omega) (fun x2 ex2 => ?_)
  have gx2 := rg x2
  have ox2 := IM.dgR hI R_r0_4 ex2
  refine b_icmp_ne C (t := 19) rfl rfl rfl (fun c3 => ?_) (fun c3 => ?_)
  · skip
    refine z_iconst C (z := 0) rfl rfl rfl (fun x4 ex4 => ?_)
    refine k_istore_n C (lw := [(3, .int x4), (0, .ref r0), (1, .int n1), (2, .int n2)]) rfl rfl (Nat.le_of_ble_eq_true rfl) rfl ?_
    refine z_iconst C (z := 0) rfl rfl rfl (fun x5 ex5 => ?_)
    have J6 : ∀ (nn7 : Nat) (x8 : Int32) (x11 : Int32), (MN (41 - x11.toInt) nn7) → (0 ≤ x8.toInt) → (x8.toInt ≤ 1) → (0 ≤ x11.toInt) → (x11.toInt ≤ 41) → V 24 [(0, .ref r0), (1, .int n1), (2, .int n2), (3, .int x8), (4, .int x11)] [] (T, N, I, L, R) 0 0 := by
      intro nn7
      induction nn7 using Nat.strongRecOn with
      | _ nn7 ihJ6 =>
        intro x8 x11 hmnn7 b9 b10 b12 b13
        have gx8 := rg x8
        have gx11 := rg x11
        refine k_iload_n C rfl rfl rfl ?_
        refine b_if_eq C (t := 68) rfl rfl rfl (fun c14 => ?_) (fun c14 => ?_)
        · skip
          refine k_iload_n C rfl rfl rfl ?_
          exact k_iret C rfl (Or.inr ⟨rfl, z01 (by omega) (by omega)⟩) (Nat.le_of_ble_eq_true rfl) (Nat.le_of_ble_eq_true rfl) ⟨_, _, _, rfl, rfl, by omega, by omega, rfl, rfl⟩
        refine k_iload C rfl rfl rfl ?_
        refine k_aload_n C rfl rfl rfl ?_
        refine g_R C rfl rfl rfl T_r0 rfl R_r0_4 ?_
        refine k_iload_n C rfl rfl rfl ?_
        refine a_I C rfl rfl T_r0_4 (by rw [N_r0_4]; exact vpi (by omega) (by omega)) ex1 ?_
        refine b_icmp_gt C (t := 68) rfl rfl rfl (fun c15 => ?_) (fun c15 => ?_)
        · skip
          refine k_iload_n C rfl rfl rfl ?_
          exact k_iret C rfl (Or.inr ⟨rfl, z01 (by omega) (by omega)⟩) (Nat.le_of_ble_eq_true rfl) (Nat.le_of_ble_eq_true rfl) ⟨_, _, _, rfl, rfl, by omega, by omega, rfl, rfl⟩
        refine k_aload_n C rfl rfl rfl ?_
        refine k_iload_n C rfl rfl rfl ?_
        refine k_iload C rfl rfl rfl ?_
        refine c_VI C (a_X12_of hI H_r0 (by omega) (by omega) (by omega) (by omega)) rfl rfl rfl rfl rfl ⟨_, rfl, rfl, T_r0, Nat.le_of_ble_eq_true rfl⟩ rfl rfl (Nat.le_of_ble_eq_true rfl) (Nat.le_of_ble_eq_true rfl) (Nat.le_of_ble_eq_true rfl) ?_
        rintro x16 _ _ ⟨o0x16, o1x16, p0x16, rfl, rfl⟩
        have p0x16 := p0x16 r0_5 R_r0_5
        have gx16 := rg x16
        try simp only [ex1, ex2] at p0x16
        try have q0x16 := congrArg Int32.toInt p0x16
        refine k_aload_n C rfl rfl rfl ?_
        refine k_iload_n C rfl rfl rfl ?_
        refine k_iload C rfl rfl rfl ?_
        refine c_VI C (a_X12_of hI H_r0 (by omega) (by omega) (by omega) (by omega)) rfl rfl rfl rfl rfl ⟨_, rfl, rfl, T_r0, Nat.le_of_ble_eq_true rfl⟩ rfl rfl (Nat.le_of_ble_eq_true rfl) (Nat.le_of_ble_eq_true rfl) (Nat.le_of_ble_eq_true rfl) ?_
        rintro x17 _ _ ⟨o0x17, o1x17, p0x17, rfl, rfl⟩
        have p0x17 := p0x17 r0_5 R_r0_5
        have gx17 := rg x17
        try simp only [ex1, ex2] at p0x17
        try have q0x17 := congrArg Int32.toInt p0x17
        refine b_icmp_ne C (t := 60) rfl rfl rfl (fun c18 => ?_) (fun c18 => ?_)
        · skip
          refine z_iconst C (z := 0) rfl rfl rfl (fun x19 ex19 => ?_)
          refine k_istore_n C (lw := [(3, .int x19), (0, .ref r0), (1, .int n1), (2, .int n2), (4, .int x11)]) rfl rfl (Nat.le_of_ble_eq_true rfl) rfl ?_
          refine z_iinc C (z := 1) (lw := fun x20 => [(4, .int x20), (3, .int x19), (0, .ref r0), (1, .int n1), (2, .int n2)]) rfl rfl rfl (Nat.le_of_ble_eq_true rfl) rfl ⟨by omega, by omega⟩ (fun _ => rfl) (fun x20 ex20 => ?_)
          show V 65 [(4, .int x20), (3, .int x19), (0, .ref r0), (1, .int n1), (2, .int n2)] _ _ _ _
          refine k_goto C (pc2 := 24) rfl rfl ?_
          refine k_sub S [(0, .ref r0), (1, .int n1), (2, .int n2), (3, .int x19), (4, .int x20)] (List.forall_mem_cons.mpr ⟨List.mem_of_getElem? (i := 2) rfl, List.forall_mem_cons.mpr ⟨List.mem_of_getElem? (i := 3) rfl, List.forall_mem_cons.mpr ⟨List.mem_of_getElem? (i := 4) rfl, List.forall_mem_cons.mpr ⟨List.mem_of_getElem? (i := 1) rfl, List.forall_mem_cons.mpr ⟨List.mem_of_getElem? (i := 0) rfl, fun _ h => nomatch h⟩⟩⟩⟩⟩) ?_
          exact ihJ6 _ (MN.lt hmnn7 (by omega) (by omega)) x19 x20 rfl (by omega) (by omega) (by omega) (by omega)
        refine z_iconst C (z := 1) rfl rfl rfl (fun x21 ex21 => ?_)
        refine k_goto C (pc2 := 61) rfl rfl ?_
        refine k_istore_n C (lw := [(3, .int x21), (0, .ref r0), (1, .int n1), (2, .int n2), (4, .int x11)]) rfl rfl (Nat.le_of_ble_eq_true rfl) rfl ?_
        refine z_iinc C (z := 1) (lw := fun x22 => [(4, .int x22), (3, .int x21), (0, .ref r0), (1, .int n1), (2, .int n2)]) rfl rfl rfl (Nat.le_of_ble_eq_true rfl) rfl ⟨by omega, by omega⟩ (fun _ => rfl) (fun x22 ex22 => ?_)
        show V 65 [(4, .int x22), (3, .int x21), (0, .ref r0), (1, .int n1), (2, .int n2)] _ _ _ _
        refine k_goto C (pc2 := 24) rfl rfl ?_
        refine k_sub S [(0, .ref r0), (1, .int n1), (2, .int n2), (3, .int x21), (4, .int x22)] (List.forall_mem_cons.mpr ⟨List.mem_of_getElem? (i := 2) rfl, List.forall_mem_cons.mpr ⟨List.mem_of_getElem? (i := 3) rfl, List.forall_mem_cons.mpr ⟨List.mem_of_getElem? (i := 4) rfl, List.forall_mem_cons.mpr ⟨List.mem_of_getElem? (i := 1) rfl, List.forall_mem_cons.mpr ⟨List.mem_of_getElem? (i := 0) rfl, fun _ h => nomatch h⟩⟩⟩⟩⟩) ?_
        exact ihJ6 _ (MN.lt hmnn7 (by omega) (by omega)) x21 x22 rfl (by omega) (by omega) (by omega) (by omega)
    refine k_istore C (lw := [(4, .int x5), (3, .int x4), (0, .ref r0), (1, .int n1), (2, .int n2)]) rfl rfl (Nat.le_of_ble_eq_true rfl) rfl ?_
    refine k_sub S [(0, .ref r0), (1, .int n1), (2, .int n2), (3, .int x4), (4, .int x5)] (List.forall_mem_cons.mpr ⟨List.mem_of_getElem? (i := 2) rfl, List.forall_mem_cons.mpr ⟨List.mem_of_getElem? (i := 3) rfl, List.forall_mem_cons.mpr ⟨List.mem_of_getElem? (i := 4) rfl, List.forall_mem_cons.mpr ⟨List.mem_of_getElem? (i := 1) rfl, List.forall_mem_cons.mpr ⟨List.mem_of_getElem? (i := 0) rfl, fun _ h => nomatch h⟩⟩⟩⟩⟩) ?_
    exact J6 _ x4 x5 rfl (by omega) (by omega) (by omega) (by omega)
  refine z_iconst C (z := 1) rfl rfl rfl (fun x23 ex23 => ?_)
  refine k_goto C (pc2 := 20) rfl rfl ?_
  refine k_istore_n C (lw := [(3, .int x23), (0, .ref r0), (1, .int n1), (2, .int n2)]) rfl rfl (Nat.le_of_ble_eq_true rfl) rfl ?_
  refine z_iconst C (z := 0) rfl rfl rfl (fun x24 ex24 => ?_)
  have J25 : ∀ (nn26 : Nat) (x27 : Int32) (x30 : Int32), (MN (41 - x30.toInt) nn26) → (0 ≤ x27.toInt) → (x27.toInt ≤ 1) → (0 ≤ x30.toInt) → (x30.toInt ≤ 41) → V 24 [(0, .ref r0), (1, .int n1), (2, .int n2), (3, .int x27), (4, .int x30)] [] (T, N, I, L, R) 0 0 := by
    intro nn26
    induction nn26 using Nat.strongRecOn with
    | _ nn26 ihJ25 =>
      intro x27 x30 hmnn26 b28 b29 b31 b32
      have gx27 := rg x27
      have gx30 := rg x30
      refine k_iload_n C rfl rfl rfl ?_
      refine b_if_eq C (t := 68) rfl rfl rfl (fun c33 => ?_) (fun c33 => ?_)
      · skip
        refine k_iload_n C rfl rfl rfl ?_
        exact k_iret C rfl (Or.inr ⟨rfl, z01 (by omega) (by omega)⟩) (Nat.le_of_ble_eq_true rfl) (Nat.le_of_ble_eq_true rfl) ⟨_, _, _, rfl, rfl, by omega, by omega, rfl, rfl⟩
      refine k_iload C rfl rfl rfl ?_
      refine k_aload_n C rfl rfl rfl ?_
      refine g_R C rfl rfl rfl T_r0 rfl R_r0_4 ?_
      refine k_iload_n C rfl rfl rfl ?_
      refine a_I C rfl rfl T_r0_4 (by rw [N_r0_4]; exact vpi (by omega) (by omega)) ex1 ?_
      refine b_icmp_gt C (t := 68) rfl rfl rfl (fun c34 => ?_) (fun c34 => ?_)
      · skip
        refine k_iload_n C rfl rfl rfl ?_
        exact k_iret C rfl (Or.inr ⟨rfl, z01 (by omega) (by omega)⟩) (Nat.le_of_ble_eq_true rfl) (Nat.le_of_ble_eq_true rfl) ⟨_, _, _, rfl, rfl, by omega, by omega, rfl, rfl⟩
      refine k_aload_n C rfl rfl rfl ?_
      refine k_iload_n C rfl rfl rfl ?_
      refine k_iload C rfl rfl rfl ?_
      refine c_VI C (a_X12_of hI H_r0 (by omega) (by omega) (by omega) (by omega)) rfl rfl rfl rfl rfl ⟨_, rfl, rfl, T_r0, Nat.le_of_ble_eq_true rfl⟩ rfl rfl (Nat.le_of_ble_eq_true rfl) (Nat.le_of_ble_eq_true rfl) (Nat.le_of_ble_eq_true rfl) ?_
      rintro x35 _ _ ⟨o0x35, o1x35, p0x35, rfl, rfl⟩
      have p0x35 := p0x35 r0_5 R_r0_5
      have gx35 := rg x35
      try simp only [ex1, ex2] at p0x35
      try have q0x35 := congrArg Int32.toInt p0x35
      refine k_aload_n C rfl rfl rfl ?_
      refine k_iload_n C rfl rfl rfl ?_
      refine k_iload C rfl rfl rfl ?_
      refine c_VI C (a_X12_of hI H_r0 (by omega) (by omega) (by omega) (by omega)) rfl rfl rfl rfl rfl ⟨_, rfl, rfl, T_r0, Nat.le_of_ble_eq_true rfl⟩ rfl rfl (Nat.le_of_ble_eq_true rfl) (Nat.le_of_ble_eq_true rfl) (Nat.le_of_ble_eq_true rfl) ?_
      rintro x36 _ _ ⟨o0x36, o1x36, p0x36, rfl, rfl⟩
      have p0x36 := p0x36 r0_5 R_r0_5
      have gx36 := rg x36
      try simp only [ex1, ex2] at p0x36
      try have q0x36 := congrArg Int32.toInt p0x36
      refine b_icmp_ne C (t := 60) rfl rfl rfl (fun c37 => ?_) (fun c37 => ?_)
      · skip
        refine z_iconst C (z := 0) rfl rfl rfl (fun x38 ex38 => ?_)
        refine k_istore_n C (lw := [(3, .int x38), (0, .ref r0), (1, .int n1), (2, .int n2), (4, .int x30)]) rfl rfl (Nat.le_of_ble_eq_true rfl) rfl ?_
        refine z_iinc C (z := 1) (lw := fun x39 => [(4, .int x39), (3, .int x38), (0, .ref r0), (1, .int n1), (2, .int n2)]) rfl rfl rfl (Nat.le_of_ble_eq_true rfl) rfl ⟨by omega, by omega⟩ (fun _ => rfl) (fun x39 ex39 => ?_)
        show V 65 [(4, .int x39), (3, .int x38), (0, .ref r0), (1, .int n1), (2, .int n2)] _ _ _ _
        refine k_goto C (pc2 := 24) rfl rfl ?_
        refine k_sub S [(0, .ref r0), (1, .int n1), (2, .int n2), (3, .int x38), (4, .int x39)] (List.forall_mem_cons.mpr ⟨List.mem_of_getElem? (i := 2) rfl, List.forall_mem_cons.mpr ⟨List.mem_of_getElem? (i := 3) rfl, List.forall_mem_cons.mpr ⟨List.mem_of_getElem? (i := 4) rfl, List.forall_mem_cons.mpr ⟨List.mem_of_getElem? (i := 1) rfl, List.forall_mem_cons.mpr ⟨List.mem_of_getElem? (i := 0) rfl, fun _ h => nomatch h⟩⟩⟩⟩⟩) ?_
        exact ihJ25 _ (MN.lt hmnn26 (by omega) (by omega)) x38 x39 rfl (by omega) (by omega) (by omega) (by omega)
      refine z_iconst C (z := 1) rfl rfl rfl (fun x40 ex40 => ?_)
      refine k_goto C (pc2 := 61) rfl rfl ?_
      refine k_istore_n C (lw := [(3, .int x40), (0, .ref r0), (1, .int n1), (2, .int n2), (4, .int x30)]) rfl rfl (Nat.le_of_ble_eq_true rfl) rfl ?_
      refine z_iinc C (z := 1) (lw := fun x41 => [(4, .int x41), (3, .int x40), (0, .ref r0), (1, .int n1), (2, .int n2)]) rfl rfl rfl (Nat.le_of_ble_eq_true rfl) rfl ⟨by omega, by omega⟩ (fun _ => rfl) (fun x41 ex41 => ?_)
      show V 65 [(4, .int x41), (3, .int x40), (0, .ref r0), (1, .int n1), (2, .int n2)] _ _ _ _
      refine k_goto C (pc2 := 24) rfl rfl ?_
      refine k_sub S [(0, .ref r0), (1, .int n1), (2, .int n2), (3, .int x40), (4, .int x41)] (List.forall_mem_cons.mpr ⟨List.mem_of_getElem? (i := 2) rfl, List.forall_mem_cons.mpr ⟨List.mem_of_getElem? (i := 3) rfl, List.forall_mem_cons.mpr ⟨List.mem_of_getElem? (i := 4) rfl, List.forall_mem_cons.mpr ⟨List.mem_of_getElem? (i := 1) rfl, List.forall_mem_cons.mpr ⟨List.mem_of_getElem? (i := 0) rfl, fun _ h => nomatch h⟩⟩⟩⟩⟩) ?_
      exact ihJ25 _ (MN.lt hmnn26 (by omega) (by omega)) x40 x41 rfl (by omega) (by omega) (by omega) (by omega)
  refine k_istore C (lw := [(4, .int x24), (3, .int x23), (0, .ref r0), (1, .int n1), (2, .int n2)]) rfl rfl (Nat.le_of_ble_eq_true rfl) rfl ?_
  refine k_sub S [(0, .ref r0), (1, .int n1), (2, .int n2), (3, .int x23), (4, .int x24)] (List.forall_mem_cons.mpr ⟨List.mem_of_getElem? (i := 2) rfl, List.forall_mem_cons.mpr ⟨List.mem_of_getElem? (i := 3) rfl, List.forall_mem_cons.mpr ⟨List.mem_of_getElem? (i := 4) rfl, List.forall_mem_cons.mpr ⟨List.mem_of_getElem? (i := 1) rfl, List.forall_mem_cons.mpr ⟨List.mem_of_getElem? (i := 0) rfl, fun _ h => nomatch h⟩⟩⟩⟩⟩) ?_
  exact J25 _ x23 x24 rfl (by omega) (by omega) (by omega) (by omega)

theorem a_X12_multiplies {d : Nat} {T N : Nat → Nat} {I : IT} {L : LT} {R : RT} {A : Nat → Prop} {r0 : Nat} {n1 n2 n3 : Int32} (hI : IM R r0 I) (H_r0 : (h_MD T N R A) r0) (b0_n1 : 0 ≤ n1.toInt) (b1_n1 : n1.toInt ≤ 47) (b0_n2 : 0 ≤ n2.toInt) (b1_n2 : n2.toInt ≤ 47) (b0_n3 : 0 ≤ n3.toInt) (b1_n3 : n3.toInt ≤ 47) (hp0 : n1.toInt ≠ n3.toInt) (hp1 : n2.toInt ≠ n3.toInt) (hp2 : ∀ a4, R r0 4 = some a4 → (I a4 n1.toNatClampNeg).toInt + (I a4 n2.toNatClampNeg).toInt ≤ 40) : Ex (d + 3) 205 [.ref r0, .int n1, .int n2, .int n3] (T, N, I, L, R) 0 0 (pV T N R (fun I9 L9 => (∀ a4, R r0 4 = some a4 → ∀ r : Nat, r ≠ n3.toNatClampNeg → I9 a4 r = I a4 r) ∧ (∀ a5, R r0 5 = some a5 → ∀ r : Nat, (r < 41 * n3.toNatClampNeg ∨ 41 * n3.toNatClampNeg + 41 ≤ r) → I9 a5 r = I a5 r) ∧ (IM R r0 I9 ∧ CM A R r0 [] [4, 5] I L I9 L9))) := by
  refine ⟨_, rfl, Nat.le_of_ble_eq_true rfl, fun V C S => ?_⟩
  show V 0 [(0, .ref r0), (1, .int n1), (2, .int n2), (3, .int n3)] [] (T, N, I, L, R) 0 0
  have gn1 := rg n1
  have gn2 := rg n2
  have gn3 := rg n3
  obtain ⟨T_r0, A_r0, ⟨r0_1, R_r0_1, H_r0_1⟩, ⟨r0_2, R_r0_2, H_r0_2⟩, ⟨r0_4, R_r0_4, H_r0_4⟩, ⟨r0_5, R_r0_5, H_r0_5⟩, ⟨r0_10, R_r0_10, H_r0_10⟩, ⟨r0_18, R_r0_18, H_r0_18⟩, ⟨r0_20, R_r0_20, H_r0_20⟩, ⟨r0_21, R_r0_21, H_r0_21⟩, ⟨r0_22, R_r0_22, H_r0_22⟩, ⟨r0_23, R_r0_23, H_r0_23⟩, ⟨r0_25, R_r0_25, H_r0_25⟩, ⟨r0_26, R_r0_26, H_r0_26⟩, ⟨r0_27, R_r0_27, H_r0_27⟩, ⟨r0_28, R_r0_28, H_r0_28⟩, ⟨r0_34, R_r0_34, H_r0_34⟩, J_r0, Y_r0⟩ := id H_r0
  have G_r0 : mF T R r0 := ⟨J_r0, Y_r0, T_r0⟩
  obtain ⟨w_r0_4_n1, k0_r0_4_n1⟩ : ∃ x, I r0_4 n1.toNatClampNeg = x := ⟨_, rfl⟩
  have gw_r0_4_n1 := rg w_r0_4_n1
  have ow_r0_4_n1 := IM.dgR hI R_r0_4 k0_r0_4_n1
  obtain ⟨w_r0_4_n2, k0_r0_4_n2⟩ : ∃ x, I r0_4 n2.toNatClampNeg = x := ⟨_, rfl⟩
  have gw_r0_4_n2 := rg w_r0_4_n2
  have ow_r0_4_n2 := IM.dgR hI R_r0_4 k0_r0_4_n2
  have hp2 := hp2 r0_4 R_r0_4
  try simp only [k0_r0_4_n1, k0_r0_4_n2] at hp0
  try simp only [k0_r0_4_n1, k0_r0_4_n2] at hp1
  try simp only [k0_r0_4_n1, k0_r0_4_n2] at hp2
  refine k_aload_n C rfl rfl rfl ?_
  refine k_iload_n C rfl rfl rfl ?_
  refine k_aload_n C rfl rfl rfl ?_
  refine g_R C rfl rfl rfl T_r0 rfl R_r0_4 ?_
  refine k_iload_n C rfl rfl rfl ?_
  obtain ⟨T_r0_4, N_r0_4, A_r0_4⟩ := id H_r0_4
  refine a_I C rfl rfl T_r0_4 (by rw [N_r0_4]; exact vpi (by omega) (by omega)) k0_r0_4_n1 ?_
  refine k_aload_n C rfl rfl rfl ?_
  refine g_R C rfl rfl rfl T_r0 rfl R_r0_4 ?_
  refine k_iload_n C rfl rfl rfl ?_
  refine a_I C rfl rfl T_r0_4 (by rw [N_r0_4]; exact vpi (by omega) (by omega)) k0_r0_4_n2 ?_
  refine z_iadd C rfl rfl ⟨by omega, by omega⟩ (fun x1 ex1 => ?_)
  refine c_VV C (a_X12_clears hI H_r0 (by omega) (by omega) (by omega) (by omega)) rfl rfl rfl rfl rfl ⟨_, rfl, rfl, T_r0, Nat.le_of_ble_eq_true rfl⟩ rfl rfl (Nat.le_of_ble_eq_true rfl) (Nat.le_of_ble_eq_true rfl) (Nat.le_of_ble_eq_true rfl) ?_
  rintro I3 L4 ⟨p0v2, p1v2, p2v2, p3v2, hI3, S5⟩
  have p0v2 := p0v2 r0_4 R_r0_4
  have p1v2 := p1v2 r0_5 R_r0_5
  have p2v2 := p2v2 r0_4 R_r0_4
  have p3v2 := p3v2 r0_5 R_r0_5
  have F6 : ∀ r : Nat, r ≠ n3.toNatClampNeg → I3 r0_4 r = I r0_4 r := fun r z0 => p2v2 r (by first | exact z0)
  have F7 : ∀ r : Nat, (r < 41 * n3.toNatClampNeg ∨ 41 * n3.toNatClampNeg + 41 ≤ r) → I3 r0_5 r = I r0_5 r := fun r z0 => p3v2 r (by first | exact z0)
  have e8 := (p2v2 n1.toNatClampNeg (by first | decide | exact ncne (by omega) (by omega) (by omega) | exact nckn (by omega) (by omega) | exact (nckn (by omega) (by omega)).symm)).trans k0_r0_4_n1
  have e9 := (p2v2 n2.toNatClampNeg (by first | decide | exact ncne (by omega) (by omega) (by omega) | exact nckn (by omega) (by omega) | exact (nckn (by omega) (by omega)).symm)).trans k0_r0_4_n2
  obtain ⟨x10, e11⟩ : ∃ x, I3 r0_4 n3.toNatClampNeg = x := ⟨_, rfl⟩
  have gx10 := rg x10
  have ox10 := IM.dgR hI3 R_r0_4 e11
  try simp only [k0_r0_4_n1, k0_r0_4_n2, e11] at p0v2
  try have q0v2 := congrArg Int32.toInt p0v2
  try simp only [k0_r0_4_n1, k0_r0_4_n2, e11] at p1v2
  try have q1v2 := congrArg Int32.toInt p1v2
  refine z_iconst C (z := 0) rfl rfl rfl (fun x12 ex12 => ?_)
  have J13 : ∀ (nn14 : Nat) (I15 : IT) (L16 : LT) (x17 : Int32), (MN (41 - x17.toInt) nn14) → (IM R r0 I15) → (CM A R r0 [] [5] I3 L4 I15 L16) → (∀ r : Nat, (r < 41 * n3.toNatClampNeg ∨ 41 * n3.toNatClampNeg + 41 ≤ r) → I15 r0_5 r = I3 r0_5 r) → (0 ≤ x17.toInt) → (x17.toInt ≤ 41) → V 21 [(0, .ref r0), (1, .int n1), (2, .int n2), (3, .int n3), (4, .int x17)] [] (T, N, I15, L16, R) 0 0 := by
    intro nn14
    induction nn14 using Nat.strongRecOn with
    | _ nn14 ihJ13 =>
      intro I15 L16 x17 hmnn14 hI21 S20 F22 b18 b19
      have gx17 := rg x17
      have e23 := CM.j S20 R_r0_4 (by decide) e8
      have e24 := CM.j S20 R_r0_4 (by decide) e9
      have e25 := CM.j S20 R_r0_4 (by decide) e11
      refine k_iload C rfl rfl rfl ?_
      refine k_aload_n C rfl rfl rfl ?_
      refine g_R C rfl rfl rfl T_r0 rfl R_r0_4 ?_
      refine k_iload_n C rfl rfl rfl ?_
      refine a_I C rfl rfl T_r0_4 (by rw [N_r0_4]; exact vpi (by omega) (by omega)) e23 ?_
      refine b_icmp_gt C (t := 100) rfl rfl rfl (fun c26 => ?_) (fun c26 => ?_)
      · skip
        exact k_vret C rfl rfl (Nat.le_of_ble_eq_true rfl) (Nat.le_of_ble_eq_true rfl) ⟨_, _, rfl, rfl, fun a4 h4 => by cases (R_r0_4.symm.trans h4); exact (fun r z0 => ((congrFun (CM.j0 S20 R_r0_4 (by decide)) r).trans (F6 r z0))), fun a5 h5 => by cases (R_r0_5.symm.trans h5); exact (fun r z0 => ((F22 r z0).trans (F7 r z0))), hI21, (CM.cons S5 (CM.mono S20 (by decide) (by decide)) (by decide) (by decide))⟩
      refine z_iconst C (z := 0) rfl rfl rfl (fun x27 ex27 => ?_)
      have J28 : ∀ (nn29 : Nat) (I30 : IT) (L31 : LT) (x32 : Int32), (MN (41 - x32.toInt) nn29) → (IM R r0 I30) → (CM A R r0 [] [5] I15 L16 I30 L31) → (∀ r : Nat, (r < 41 * n3.toNatClampNeg ∨ 41 * n3.toNatClampNeg + 41 ≤ r) → I30 r0_5 r = I15 r0_5 r) → (0 ≤ x32.toInt) → (x32.toInt ≤ 41) → V 35 [(0, .ref r0), (1, .int n1), (2, .int n2), (3, .int n3), (4, .int x17), (5, .int x32)] [] (T, N, I30, L31, R) 0 0 := by
        intro nn29
        induction nn29 using Nat.strongRecOn with
        | _ nn29 ihJ28 =>
          intro I30 L31 x32 hmnn29 hI36 S35 F37 b33 b34
          have gx32 := rg x32
          have e38 := CM.j S35 R_r0_4 (by decide) e23
          have e39 := CM.j S35 R_r0_4 (by decide) e24
          have e40 := CM.j S35 R_r0_4 (by decide) e25
          refine k_iload C rfl rfl rfl ?_
          refine k_aload_n C rfl rfl rfl ?_
          refine g_R C rfl rfl rfl T_r0 rfl R_r0_4 ?_
          refine k_iload_n C rfl rfl rfl ?_
          refine a_I C rfl rfl T_r0_4 (by rw [N_r0_4]; exact vpi (by omega) (by omega)) e39 ?_
          refine b_icmp_gt C (t := 94) rfl rfl rfl (fun c41 => ?_) (fun c41 => ?_)
          · skip
            refine z_iinc C (z := 1) (lw := fun x42 => [(4, .int x42), (0, .ref r0), (1, .int n1), (2, .int n2), (3, .int n3), (5, .int x32)]) rfl rfl rfl (Nat.le_of_ble_eq_true rfl) rfl ⟨by omega, by omega⟩ (fun _ => rfl) (fun x42 ex42 => ?_)
            show V 97 [(4, .int x42), (0, .ref r0), (1, .int n1), (2, .int n2), (3, .int n3), (5, .int x32)] _ _ _ _
            refine k_goto C (pc2 := 21) rfl rfl ?_
            refine k_sub S [(0, .ref r0), (1, .int n1), (2, .int n2), (3, .int n3), (4, .int x42)] (List.forall_mem_cons.mpr ⟨List.mem_of_getElem? (i := 1) rfl, List.forall_mem_cons.mpr ⟨List.mem_of_getElem? (i := 2) rfl, List.forall_mem_cons.mpr ⟨List.mem_of_getElem? (i := 3) rfl, List.forall_mem_cons.mpr ⟨List.mem_of_getElem? (i := 4) rfl, List.forall_mem_cons.mpr ⟨List.mem_of_getElem? (i := 0) rfl, fun _ h => nomatch h⟩⟩⟩⟩⟩) ?_
            exact ihJ13 _ (MN.lt hmnn14 (by omega) (by omega)) I30 L31 x42 rfl hI36 (CM.cons S20 (CM.mono S35 (by decide) (by decide)) (by decide) (by decide)) (fun r z0 => ((F37 r z0).trans (F22 r z0))) (by omega) (by omega)
          refine k_aload_n C rfl rfl rfl ?_
          refine k_iload_n C rfl rfl rfl ?_
          refine k_iload C rfl rfl rfl ?_
          refine k_iload C rfl rfl rfl ?_
          refine z_iadd C rfl rfl ⟨by omega, by omega⟩ (fun x43 ex43 => ?_)
          refine k_aload_n C rfl rfl rfl ?_
          refine k_aload_n C rfl rfl rfl ?_
          refine k_iload_n C rfl rfl rfl ?_
          refine k_iload C rfl rfl rfl ?_
          refine k_iload C rfl rfl rfl ?_
          refine z_iadd C rfl rfl ⟨by omega, by omega⟩ (fun x44 ex44 => ?_)
          refine c_VI C (a_X12_of hI36 H_r0 (by omega) (by omega) (by omega) (by omega)) rfl rfl rfl rfl rfl ⟨_, rfl, rfl, T_r0, Nat.le_of_ble_eq_true rfl⟩ rfl rfl (Nat.le_of_ble_eq_true rfl) (Nat.le_of_ble_eq_true rfl) (Nat.le_of_ble_eq_true rfl) ?_
          rintro x45 _ _ ⟨o0x45, o1x45, p0x45, rfl, rfl⟩
          have p0x45 := p0x45 r0_5 R_r0_5
          have gx45 := rg x45
          try simp only [e38, e39, e40] at p0x45
          try have q0x45 := congrArg Int32.toInt p0x45
          refine k_aload_n C rfl rfl rfl ?_
          refine k_aload_n C rfl rfl rfl ?_
          refine k_iload_n C rfl rfl rfl ?_
          refine k_iload C rfl rfl rfl ?_
          refine c_VI C (a_X12_of hI36 H_r0 (by omega) (by omega) (by omega) (by omega)) rfl rfl rfl rfl rfl ⟨_, rfl, rfl, T_r0, Nat.le_of_ble_eq_true rfl⟩ rfl rfl (Nat.le_of_ble_eq_true rfl) (Nat.le_of_ble_eq_true rfl) (Nat.le_of_ble_eq_true rfl) ?_
          rintro x46 _ _ ⟨o0x46, o1x46, p0x46, rfl, rfl⟩
          have p0x46 := p0x46 r0_5 R_r0_5
          have gx46 := rg x46
          try simp only [e38, e39, e40] at p0x46
          try have q0x46 := congrArg Int32.toInt p0x46
          refine k_aload_n C rfl rfl rfl ?_
          refine k_iload_n C rfl rfl rfl ?_
          refine k_iload C rfl rfl rfl ?_
          refine c_VI C (a_X12_of hI36 H_r0 (by omega) (by omega) (by omega) (by omega)) rfl rfl rfl rfl rfl ⟨_, rfl, rfl, T_r0, Nat.le_of_ble_eq_true rfl⟩ rfl rfl (Nat.le_of_ble_eq_true rfl) (Nat.le_of_ble_eq_true rfl) (Nat.le_of_ble_eq_true rfl) ?_
          rintro x47 _ _ ⟨o0x47, o1x47, p0x47, rfl, rfl⟩
          have p0x47 := p0x47 r0_5 R_r0_5
          have gx47 := rg x47
          try simp only [e38, e39, e40] at p0x47
          try have q0x47 := congrArg Int32.toInt p0x47
          obtain ⟨x48, e49⟩ : ∃ x, I30 r0_1 0 = x := ⟨_, rfl⟩
          have gx48 := rg x48
          have ox48 := IM.pi hI36 R_r0_1 e49
          refine c_VI C (a_X12_times hI36 H_r0 (by omega) (by omega) (by omega) (by omega)) rfl rfl rfl rfl rfl ⟨_, rfl, rfl, T_r0, Nat.le_of_ble_eq_true rfl⟩ rfl rfl (Nat.le_of_ble_eq_true rfl) (Nat.le_of_ble_eq_true rfl) (Nat.le_of_ble_eq_true rfl) ?_
          rintro x50 _ _ ⟨o0x50, o1x50, p0x50, p1x50, p2x50, p3x50, rfl, rfl⟩
          have p0x50 := p0x50 r0_1 R_r0_1
          have p2x50 := p2x50 r0_1 R_r0_1
          have p3x50 := p3x50 r0_1 R_r0_1
          have gx50 := rg x50
          try simp only [e38, e39, e40, e49] at p0x50
          try have q0x50 := congrArg Int32.toInt p0x50
          try simp only [e38, e39, e40, e49] at p1x50
          try have q1x50 := congrArg Int32.toInt p1x50
          try simp only [e38, e39, e40, e49] at p2x50
          try have q2x50 := congrArg Int32.toInt p2x50
          try simp only [e38, e39, e40, e49] at p3x50
          try have q3x50 := congrArg Int32.toInt p3x50
          refine c_VI C (a_X12_plus hI36 H_r0 (by omega) (by omega) (by omega) (by omega)) rfl rfl rfl rfl rfl ⟨_, rfl, rfl, T_r0, Nat.le_of_ble_eq_true rfl⟩ rfl rfl (Nat.le_of_ble_eq_true rfl) (Nat.le_of_ble_eq_true rfl) (Nat.le_of_ble_eq_true rfl) ?_
          rintro x51 _ _ ⟨o0x51, o1x51, p0x51, p1x51, p2x51, rfl, rfl⟩
          have p0x51 := p0x51 r0_1 R_r0_1
          have p2x51 := p2x51 r0_1 R_r0_1
          have gx51 := rg x51
          try simp only [e38, e39, e40, e49] at p0x51
          try have q0x51 := congrArg Int32.toInt p0x51
          try simp only [e38, e39, e40, e49] at p1x51
          try have q1x51 := congrArg Int32.toInt p1x51
          try simp only [e38, e39, e40, e49] at p2x51
          try have q2x51 := congrArg Int32.toInt p2x51
          refine c_VV C (a_X12_put hI36 H_r0 (by omega) (by omega) (by omega) (by omega) (by omega) (by omega)) rfl rfl rfl rfl rfl ⟨_, rfl, rfl, T_r0, Nat.le_of_ble_eq_true rfl⟩ rfl rfl (Nat.le_of_ble_eq_true rfl) (Nat.le_of_ble_eq_true rfl) (Nat.le_of_ble_eq_true rfl) ?_
          rintro I53 L54 ⟨p0v52, p1v52, hI53, S55⟩
          have p0v52 := p0v52 r0_5 R_r0_5
          have p1v52 := p1v52 r0_5 R_r0_5
          have F56 : ∀ r : Nat, (r < 41 * n3.toNatClampNeg ∨ 41 * n3.toNatClampNeg + 41 ≤ r) → I53 r0_5 r = I30 r0_5 r := fun r z0 => p1v52 r (by first | exact z0)
          have e57 := CM.j S55 R_r0_4 (by decide) e38
          have e58 := CM.j S55 R_r0_4 (by decide) e39
          have e59 := CM.j S55 R_r0_4 (by decide) e40
          have e60 := CM.j S55 R_r0_1 (by decide) e49
          try simp only [e38, e39, e40, e49] at p0v52
          try have q0v52 := congrArg Int32.toInt p0v52
          refine z_iinc C (z := 1) (lw := fun x61 => [(5, .int x61), (0, .ref r0), (1, .int n1), (2, .int n2), (3, .int n3), (4, .int x17)]) rfl rfl rfl (Nat.le_of_ble_eq_true rfl) rfl ⟨by omega, by omega⟩ (fun _ => rfl) (fun x61 ex61 => ?_)
          show V 91 [(5, .int x61), (0, .ref r0), (1, .int n1), (2, .int n2), (3, .int n3), (4, .int x17)] _ _ _ _
          refine k_goto C (pc2 := 35) rfl rfl ?_
          refine k_sub S [(0, .ref r0), (1, .int n1), (2, .int n2), (3, .int n3), (4, .int x17), (5, .int x61)] (List.forall_mem_cons.mpr ⟨List.mem_of_getElem? (i := 1) rfl, List.forall_mem_cons.mpr ⟨List.mem_of_getElem? (i := 2) rfl, List.forall_mem_cons.mpr ⟨List.mem_of_getElem? (i := 3) rfl, List.forall_mem_cons.mpr ⟨List.mem_of_getElem? (i := 4) rfl, List.forall_mem_cons.mpr ⟨List.mem_of_getElem? (i := 5) rfl, List.forall_mem_cons.mpr ⟨List.mem_of_getElem? (i := 0) rfl, fun _ h => nomatch h⟩⟩⟩⟩⟩⟩) ?_
          exact ihJ28 _ (MN.lt hmnn29 (by omega) (by omega)) I53 L54 x61 rfl hI53 (CM.cons S35 (CM.mono S55 (by decide) (by decide)) (by decide) (by decide)) (fun r z0 => ((F56 r z0).trans (F37 r z0))) (by omega) (by omega)
      refine k_istore C (lw := [(5, .int x27), (0, .ref r0), (1, .int n1), (2, .int n2), (3, .int n3), (4, .int x17)]) rfl rfl (Nat.le_of_ble_eq_true rfl) rfl ?_
      refine k_sub S [(0, .ref r0), (1, .int n1), (2, .int n2), (3, .int n3), (4, .int x17), (5, .int x27)] (List.forall_mem_cons.mpr ⟨List.mem_of_getElem? (i := 1) rfl, List.forall_mem_cons.mpr ⟨List.mem_of_getElem? (i := 2) rfl, List.forall_mem_cons.mpr ⟨List.mem_of_getElem? (i := 3) rfl, List.forall_mem_cons.mpr ⟨List.mem_of_getElem? (i := 4) rfl, List.forall_mem_cons.mpr ⟨List.mem_of_getElem? (i := 5) rfl, List.forall_mem_cons.mpr ⟨List.mem_of_getElem? (i := 0) rfl, fun _ h => nomatch h⟩⟩⟩⟩⟩⟩) ?_
      exact J28 _ I15 L16 x27 rfl hI21 CM.rf (fun r z0 => rfl) (by omega) (by omega)
  refine k_istore C (lw := [(4, .int x12), (0, .ref r0), (1, .int n1), (2, .int n2), (3, .int n3)]) rfl rfl (Nat.le_of_ble_eq_true rfl) rfl ?_
  refine k_sub S [(0, .ref r0), (1, .int n1), (2, .int n2), (3, .int n3), (4, .int x12)] (List.forall_mem_cons.mpr ⟨List.mem_of_getElem? (i := 1) rfl, List.forall_mem_cons.mpr ⟨List.mem_of_getElem? (i := 2) rfl, List.forall_mem_cons.mpr ⟨List.mem_of_getElem? (i := 3) rfl, List.forall_mem_cons.mpr ⟨List.mem_of_getElem? (i := 4) rfl, List.forall_mem_cons.mpr ⟨List.mem_of_getElem? (i := 0) rfl, fun _ h => nomatch h⟩⟩⟩⟩⟩) ?_
  exact J13 _ I3 L4 x12 rfl hI3 CM.rf (fun r z0 => rfl) (by omega) (by omega)

theorem a_X12_differs {d : Nat} {T N : Nat → Nat} {I : IT} {L : LT} {R : RT} {A : Nat → Prop} {r0 : Nat} {n1 n2 n3 n4 : Int32} (hI : IM R r0 I) (H_r0 : (h_MD T N R A) r0) : Ex (d + 4) 206 [.ref r0, .int n1, .int n2, .int n3, .int n4] (T, N, I, L, R) 0 0 (pI T N R (fun x9 I9 L9 => (-18 ≤ x9.toInt) ∧ (x9.toInt ≤ 18) ∧ (I = I9 ∧ L = L9))) := by
  refine ⟨_, rfl, Nat.le_of_ble_eq_true rfl, fun V C S => ?_⟩
  show V 0 [(0, .ref r0), (1, .int n1), (2, .int n2), (3, .int n3), (4, .int n4)] [] (T, N, I, L, R) 0 0
  have gn1 := rg n1
  have gn2 := rg n2
  have gn3 := rg n3
  have gn4 := rg n4
  obtain ⟨T_r0, A_r0, ⟨r0_1, R_r0_1, H_r0_1⟩, ⟨r0_2, R_r0_2, H_r0_2⟩, ⟨r0_4, R_r0_4, H_r0_4⟩, ⟨r0_5, R_r0_5, H_r0_5⟩, ⟨r0_10, R_r0_10, H_r0_10⟩, ⟨r0_18, R_r0_18, H_r0_18⟩, ⟨r0_20, R_r0_20, H_r0_20⟩, ⟨r0_21, R_r0_21, H_r0_21⟩, ⟨r0_22, R_r0_22, H_r0_22⟩, ⟨r0_23, R_r0_23, H_r0_23⟩, ⟨r0_25, R_r0_25, H_r0_25⟩, ⟨r0_26, R_r0_26, H_r0_26⟩, ⟨r0_27, R_r0_27, H_r0_27⟩, ⟨r0_28, R_r0_28, H_r0_28⟩, ⟨r0_34, R_r0_34, H_r0_34⟩, J_r0, Y_r0⟩ := id H_r0
  have G_r0 : mF T R r0 := ⟨J_r0, Y_r0, T_r0⟩
  refine z_iconst C (z := 1) rfl rfl rfl (fun x1 ex1 => ?_)
  refine k_istore C (lw := [(5, .int x1), (0, .ref r0), (1, .int n1), (2, .int n2), (3, .int n3), (4, .int n4)]) rfl rfl (Nat.le_of_ble_eq_true rfl) rfl ?_
  refine z_iconst C (z := 0) rfl rfl rfl (fun x2 ex2 => ?_)
  have J3 : ∀ (nn4 : Nat) (x5 : Int32) (x8 : Int32), (MN (2147483647 - x8.toInt) nn4) → (-18 ≤ x5.toInt) → (x5.toInt ≤ 18) → (0 ≤ x8.toInt) → V 6 [(0, .ref r0), (1, .int n1), (2, .int n2), (3, .int n3), (4, .int n4), (5, .int x5), (6, .int x8)] [] (T, N, I, L, R) 0 0 := by
    intro nn4
    induction nn4 using Nat.strongRecOn with
    | _ nn4 ihJ3 =>
      intro x5 x8 hmnn4 b6 b7 b9
      have gx5 := rg x5
      have gx8 := rg x8
      refine k_iload C rfl rfl rfl ?_
      refine k_iload_n C rfl rfl rfl ?_
      refine b_icmp_ge C (t := 37) rfl rfl rfl (fun c10 => ?_) (fun c10 => ?_)
      · skip
        refine z_iconst C (z := 0) rfl rfl rfl (fun x11 ex11 => ?_)
        have J12 : ∀ (nn13 : Nat) (x14 : Int32) (x17 : Int32), (MN (2147483647 - x17.toInt) nn13) → (-18 ≤ x14.toInt) → (x14.toInt ≤ 18) → (0 ≤ x17.toInt) → V 40 [(0, .ref r0), (2, .int n2), (4, .int n4), (5, .int x14), (6, .int x17)] [] (T, N, I, L, R) 0 0 := by
          intro nn13
          induction nn13 using Nat.strongRecOn with
          | _ nn13 ihJ12 =>
            intro x14 x17 hmnn13 b15 b16 b18
            have gx14 := rg x14
            have gx17 := rg x17
            refine k_iload C rfl rfl rfl ?_
            refine k_iload C rfl rfl rfl ?_
            refine b_icmp_ge C (t := 70) rfl rfl rfl (fun c19 => ?_) (fun c19 => ?_)
            · skip
              refine k_iload C rfl rfl rfl ?_
              exact k_iret C rfl (Or.inl rfl) (Nat.le_of_ble_eq_true rfl) (Nat.le_of_ble_eq_true rfl) ⟨_, _, _, rfl, rfl, by omega, by omega, rfl, rfl⟩
            refine k_aload_n C rfl rfl rfl ?_
            refine k_iload C rfl rfl rfl ?_
            refine k_aload_n C rfl rfl rfl ?_
            refine k_iload_n C rfl rfl rfl ?_
            refine k_iload C rfl rfl rfl ?_
            refine zt_isub C rfl rfl (fun x20 => ?_)
            have gx20 := rg x20
            refine z_i2l C rfl rfl (fun lg21 elg21 => ?_)
            obtain ⟨x22, e23⟩ : ∃ x, I r0_1 0 = x := ⟨_, rfl⟩
            have gx22 := rg x22
            have ox22 := IM.pi hI R_r0_1 e23
            refine c_VI C (a_X12_mod hI H_r0) rfl rfl rfl rfl rfl ⟨_, rfl, rfl, T_r0, Nat.le_of_ble_eq_true rfl⟩ rfl rfl (Nat.le_of_ble_eq_true rfl) (Nat.le_of_ble_eq_true rfl) (Nat.le_of_ble_eq_true rfl) ?_
            rintro x24 _ _ ⟨o0x24, o1x24, p0x24, rfl, rfl⟩
            have p0x24 := p0x24 r0_1 R_r0_1
            have gx24 := rg x24
            try simp only [e23] at p0x24
            try have q0x24 := congrArg Int32.toInt p0x24
            refine c_VI C (a_X12_times hI H_r0 (by omega) (by omega) (by omega) (by omega)) rfl rfl rfl rfl rfl ⟨_, rfl, rfl, T_r0, Nat.le_of_ble_eq_true rfl⟩ rfl rfl (Nat.le_of_ble_eq_true rfl) (Nat.le_of_ble_eq_true rfl) (Nat.le_of_ble_eq_true rfl) ?_
            rintro x25 _ _ ⟨o0x25, o1x25, p0x25, p1x25, p2x25, p3x25, rfl, rfl⟩
            have p0x25 := p0x25 r0_1 R_r0_1
            have p2x25 := p2x25 r0_1 R_r0_1
            have p3x25 := p3x25 r0_1 R_r0_1
            have gx25 := rg x25
            try simp only [e23] at p0x25
            try have q0x25 := congrArg Int32.toInt p0x25
            try simp only [e23] at p1x25
            try have q1x25 := congrArg Int32.toInt p1x25
            try simp only [e23] at p2x25
            try have q2x25 := congrArg Int32.toInt p2x25
            try simp only [e23] at p3x25
            try have q3x25 := congrArg Int32.toInt p3x25
            refine k_istore C (lw := [(5, .int x25), (0, .ref r0), (2, .int n2), (4, .int n4), (6, .int x17)]) rfl rfl (Nat.le_of_ble_eq_true rfl) rfl ?_
            refine z_iinc C (z := 1) (lw := fun x26 => [(6, .int x26), (5, .int x25), (0, .ref r0), (2, .int n2), (4, .int n4)]) rfl rfl rfl (Nat.le_of_ble_eq_true rfl) rfl ⟨by omega, by omega⟩ (fun _ => rfl) (fun x26 ex26 => ?_)
            show V 67 [(6, .int x26), (5, .int x25), (0, .ref r0), (2, .int n2), (4, .int n4)] _ _ _ _
            refine k_goto C (pc2 := 40) rfl rfl ?_
            refine k_sub S [(0, .ref r0), (2, .int n2), (4, .int n4), (5, .int x25), (6, .int x26)] (List.forall_mem_cons.mpr ⟨List.mem_of_getElem? (i := 2) rfl, List.forall_mem_cons.mpr ⟨List.mem_of_getElem? (i := 3) rfl, List.forall_mem_cons.mpr ⟨List.mem_of_getElem? (i := 4) rfl, List.forall_mem_cons.mpr ⟨List.mem_of_getElem? (i := 1) rfl, List.forall_mem_cons.mpr ⟨List.mem_of_getElem? (i := 0) rfl, fun _ h => nomatch h⟩⟩⟩⟩⟩) ?_
            exact ihJ12 _ (MN.lt hmnn13 (by omega) (by omega)) x25 x26 rfl (by omega) (by omega) (by omega)
        refine k_istore C (lw := [(6, .int x11), (0, .ref r0), (1, .int n1), (2, .int n2), (3, .int n3), (4, .int n4), (5, .int x5)]) rfl rfl (Nat.le_of_ble_eq_true rfl) rfl ?_
        refine k_sub S [(0, .ref r0), (2, .int n2), (4, .int n4), (5, .int x5), (6, .int x11)] (List.forall_mem_cons.mpr ⟨List.mem_of_getElem? (i := 1) rfl, List.forall_mem_cons.mpr ⟨List.mem_of_getElem? (i := 3) rfl, List.forall_mem_cons.mpr ⟨List.mem_of_getElem? (i := 5) rfl, List.forall_mem_cons.mpr ⟨List.mem_of_getElem? (i := 6) rfl, List.forall_mem_cons.mpr ⟨List.mem_of_getElem? (i := 0) rfl, fun _ h => nomatch h⟩⟩⟩⟩⟩) ?_
        exact J12 _ x5 x11 rfl (by omega) (by omega) (by omega)
      refine k_aload_n C rfl rfl rfl ?_
      refine k_iload C rfl rfl rfl ?_
      refine k_aload_n C rfl rfl rfl ?_
      refine k_iload_n C rfl rfl rfl ?_
      refine k_iload_n C rfl rfl rfl ?_
      refine zt_isub C rfl rfl (fun x27 => ?_)
      have gx27 := rg x27
      refine k_iload C rfl rfl rfl ?_
      refine zt_isub C rfl rfl (fun x28 => ?_)
      have gx28 := rg x28
      refine z_i2l C rfl rfl (fun lg29 elg29 => ?_)
      obtain ⟨x30, e31⟩ : ∃ x, I r0_1 0 = x := ⟨_, rfl⟩
      have gx30 := rg x30
      have ox30 := IM.pi hI R_r0_1 e31
      refine c_VI C (a_X12_mod hI H_r0) rfl rfl rfl rfl rfl ⟨_, rfl, rfl, T_r0, Nat.le_of_ble_eq_true rfl⟩ rfl rfl (Nat.le_of_ble_eq_true rfl) (Nat.le_of_ble_eq_true rfl) (Nat.le_of_ble_eq_true rfl) ?_
      rintro x32 _ _ ⟨o0x32, o1x32, p0x32, rfl, rfl⟩
      have p0x32 := p0x32 r0_1 R_r0_1
      have gx32 := rg x32
      try simp only [e31] at p0x32
      try have q0x32 := congrArg Int32.toInt p0x32
      refine c_VI C (a_X12_times hI H_r0 (by omega) (by omega) (by omega) (by omega)) rfl rfl rfl rfl rfl ⟨_, rfl, rfl, T_r0, Nat.le_of_ble_eq_true rfl⟩ rfl rfl (Nat.le_of_ble_eq_true rfl) (Nat.le_of_ble_eq_true rfl) (Nat.le_of_ble_eq_true rfl) ?_
      rintro x33 _ _ ⟨o0x33, o1x33, p0x33, p1x33, p2x33, p3x33, rfl, rfl⟩
      have p0x33 := p0x33 r0_1 R_r0_1
      have p2x33 := p2x33 r0_1 R_r0_1
      have p3x33 := p3x33 r0_1 R_r0_1
      have gx33 := rg x33
      try simp only [e31] at p0x33
      try have q0x33 := congrArg Int32.toInt p0x33
      try simp only [e31] at p1x33
      try have q1x33 := congrArg Int32.toInt p1x33
      try simp only [e31] at p2x33
      try have q2x33 := congrArg Int32.toInt p2x33
      try simp only [e31] at p3x33
      try have q3x33 := congrArg Int32.toInt p3x33
      refine k_istore C (lw := [(5, .int x33), (0, .ref r0), (1, .int n1), (2, .int n2), (3, .int n3), (4, .int n4), (6, .int x8)]) rfl rfl (Nat.le_of_ble_eq_true rfl) rfl ?_
      refine z_iinc C (z := 1) (lw := fun x34 => [(6, .int x34), (5, .int x33), (0, .ref r0), (1, .int n1), (2, .int n2), (3, .int n3), (4, .int n4)]) rfl rfl rfl (Nat.le_of_ble_eq_true rfl) rfl ⟨by omega, by omega⟩ (fun _ => rfl) (fun x34 ex34 => ?_)
      show V 34 [(6, .int x34), (5, .int x33), (0, .ref r0), (1, .int n1), (2, .int n2), (3, .int n3), (4, .int n4)] _ _ _ _
      refine k_goto C (pc2 := 6) rfl rfl ?_
      refine k_sub S [(0, .ref r0), (1, .int n1), (2, .int n2), (3, .int n3), (4, .int n4), (5, .int x33), (6, .int x34)] (List.forall_mem_cons.mpr ⟨List.mem_of_getElem? (i := 2) rfl, List.forall_mem_cons.mpr ⟨List.mem_of_getElem? (i := 3) rfl, List.forall_mem_cons.mpr ⟨List.mem_of_getElem? (i := 4) rfl, List.forall_mem_cons.mpr ⟨List.mem_of_getElem? (i := 5) rfl, List.forall_mem_cons.mpr ⟨List.mem_of_getElem? (i := 6) rfl, List.forall_mem_cons.mpr ⟨List.mem_of_getElem? (i := 1) rfl, List.forall_mem_cons.mpr ⟨List.mem_of_getElem? (i := 0) rfl, fun _ h => nomatch h⟩⟩⟩⟩⟩⟩⟩) ?_
      exact ihJ3 _ (MN.lt hmnn4 (by omega) (by omega)) x33 x34 rfl (by omega) (by omega) (by omega)
  refine k_istore C (lw := [(6, .int x2), (5, .int x1), (0, .ref r0), (1, .int n1), (2, .int n2), (3, .int n3), (4, .int n4)]) rfl rfl (Nat.le_of_ble_eq_true rfl) rfl ?_
  refine k_sub S [(0, .ref r0), (1, .int n1), (2, .int n2), (3, .int n3), (4, .int n4), (5, .int x1), (6, .int x2)] (List.forall_mem_cons.mpr ⟨List.mem_of_getElem? (i := 2) rfl, List.forall_mem_cons.mpr ⟨List.mem_of_getElem? (i := 3) rfl, List.forall_mem_cons.mpr ⟨List.mem_of_getElem? (i := 4) rfl, List.forall_mem_cons.mpr ⟨List.mem_of_getElem? (i := 5) rfl, List.forall_mem_cons.mpr ⟨List.mem_of_getElem? (i := 6) rfl, List.forall_mem_cons.mpr ⟨List.mem_of_getElem? (i := 1) rfl, List.forall_mem_cons.mpr ⟨List.mem_of_getElem? (i := 0) rfl, fun _ h => nomatch h⟩⟩⟩⟩⟩⟩⟩) ?_
  exact J3 _ x1 x2 rfl (by omega) (by omega) (by omega)

theorem a_X12_differentiates {d : Nat} {T N : Nat → Nat} {I : IT} {L : LT} {R : RT} {A : Nat → Prop} {r0 : Nat} {n1 n2 n3 n4 : Int32} (hI : IM R r0 I) (H_r0 : (h_MD T N R A) r0) (b0_n1 : 0 ≤ n1.toInt) (b1_n1 : n1.toInt ≤ 47) (b0_n2 : 0 ≤ n2.toInt) (b1_n2 : n2.toInt ≤ 40) (b0_n3 : 0 ≤ n3.toInt) (b1_n3 : n3.toInt ≤ 40) (b0_n4 : 0 ≤ n4.toInt) (b1_n4 : n4.toInt ≤ 47) (hp0 : n1.toInt ≠ n4.toInt) (hp1 : ∀ a4, R r0 4 = some a4 → n2.toInt + n3.toInt ≤ (I a4 n1.toNatClampNeg).toInt) : Ex (d + 5) 207 [.ref r0, .int n1, .int n2, .int n3, .int n4] (T, N, I, L, R) 0 0 (pV T N R (fun I9 L9 => (∀ a4, R r0 4 = some a4 → (I9 a4 n4.toNatClampNeg).toInt = (I a4 n1.toNatClampNeg).toInt - n2.toInt - n3.toInt) ∧ (∀ a1 a4 a5, R r0 1 = some a1 → R r0 4 = some a4 → R r0 5 = some a5 → QN I9 a5 n4.toNatClampNeg ((I9 a4 n4.toNatClampNeg).toInt + 1) (I a1 0).toInt) ∧ (∀ a4, R r0 4 = some a4 → ∀ r : Nat, r ≠ n4.toNatClampNeg → I9 a4 r = I a4 r) ∧ (∀ a5, R r0 5 = some a5 → ∀ r : Nat, (r < 41 * n4.toNatClampNeg ∨ 41 * n4.toNatClampNeg + 41 ≤ r) → I9 a5 r = I a5 r) ∧ (IM R r0 I9 ∧ CM A R r0 [] [4, 5] I L I9 L9))) := by
  refine ⟨_, rfl, Nat.le_of_ble_eq_true rfl, fun V C S => ?_⟩
  show V 0 [(0, .ref r0), (1, .int n1), (2, .int n2), (3, .int n3), (4, .int n4)] [] (T, N, I, L, R) 0 0
  have gn1 := rg n1
  have gn2 := rg n2
  have gn3 := rg n3
  have gn4 := rg n4
  obtain ⟨T_r0, A_r0, ⟨r0_1, R_r0_1, H_r0_1⟩, ⟨r0_2, R_r0_2, H_r0_2⟩, ⟨r0_4, R_r0_4, H_r0_4⟩, ⟨r0_5, R_r0_5, H_r0_5⟩, ⟨r0_10, R_r0_10, H_r0_10⟩, ⟨r0_18, R_r0_18, H_r0_18⟩, ⟨r0_20, R_r0_20, H_r0_20⟩, ⟨r0_21, R_r0_21, H_r0_21⟩, ⟨r0_22, R_r0_22, H_r0_22⟩, ⟨r0_23, R_r0_23, H_r0_23⟩, ⟨r0_25, R_r0_25, H_r0_25⟩, ⟨r0_26, R_r0_26, H_r0_26⟩, ⟨r0_27, R_r0_27, H_r0_27⟩, ⟨r0_28, R_r0_28, H_r0_28⟩, ⟨r0_34, R_r0_34, H_r0_34⟩, J_r0, Y_r0⟩ := id H_r0
  have G_r0 : mF T R r0 := ⟨J_r0, Y_r0, T_r0⟩
  obtain ⟨w_r0_4_n1, k0_r0_4_n1⟩ : ∃ x, I r0_4 n1.toNatClampNeg = x := ⟨_, rfl⟩
  have gw_r0_4_n1 := rg w_r0_4_n1
  have ow_r0_4_n1 := IM.dgR hI R_r0_4 k0_r0_4_n1
  obtain ⟨w_r0_1_0, k0_r0_1_0⟩ : ∃ x, I r0_1 0 = x := ⟨_, rfl⟩
  have gw_r0_1_0 := rg w_r0_1_0
  have ow_r0_1_0 := IM.pi hI R_r0_1 k0_r0_1_0
  have hp1 := hp1 r0_4 R_r0_4
  try simp only [k0_r0_4_n1, k0_r0_1_0] at hp0
  try simp only [k0_r0_4_n1, k0_r0_1_0] at hp1
  refine k_aload_n C rfl rfl rfl ?_
  refine k_iload C rfl rfl rfl ?_
  refine k_aload_n C rfl rfl rfl ?_
  refine g_R C rfl rfl rfl T_r0 rfl R_r0_4 ?_
  refine k_iload_n C rfl rfl rfl ?_
  obtain ⟨T_r0_4, N_r0_4, A_r0_4⟩ := id H_r0_4
  refine a_I C rfl rfl T_r0_4 (by rw [N_r0_4]; exact vpi (by omega) (by omega)) k0_r0_4_n1 ?_
  refine k_iload_n C rfl rfl rfl ?_
  refine z_isub C rfl rfl ⟨by omega, by omega⟩ (fun x1 ex1 => ?_)
  refine k_iload_n C rfl rfl rfl ?_
  refine z_isub C rfl rfl ⟨by omega, by omega⟩ (fun x2 ex2 => ?_)
  refine c_VV C (a_X12_clears hI H_r0 (by omega) (by omega) (by omega) (by omega)) rfl rfl rfl rfl rfl ⟨_, rfl, rfl, T_r0, Nat.le_of_ble_eq_true rfl⟩ rfl rfl (Nat.le_of_ble_eq_true rfl) (Nat.le_of_ble_eq_true rfl) (Nat.le_of_ble_eq_true rfl) ?_
  rintro I4 L5 ⟨p0v3, p1v3, p2v3, p3v3, hI4, S6⟩
  have p0v3 := p0v3 r0_4 R_r0_4
  have p1v3 := p1v3 r0_5 R_r0_5
  have p2v3 := p2v3 r0_4 R_r0_4
  have p3v3 := p3v3 r0_5 R_r0_5
  have F7 : ∀ r : Nat, r ≠ n4.toNatClampNeg → I4 r0_4 r = I r0_4 r := fun r z0 => p2v3 r (by first | exact z0)
  have F8 : ∀ r : Nat, (r < 41 * n4.toNatClampNeg ∨ 41 * n4.toNatClampNeg + 41 ≤ r) → I4 r0_5 r = I r0_5 r := fun r z0 => p3v3 r (by first | exact z0)
  have e9 := (p2v3 n1.toNatClampNeg (by first | decide | exact ncne (by omega) (by omega) (by omega) | exact nckn (by omega) (by omega) | exact (nckn (by omega) (by omega)).symm)).trans k0_r0_4_n1
  have e10 := CM.j S6 R_r0_1 (by decide) k0_r0_1_0
  obtain ⟨x11, e12⟩ : ∃ x, I4 r0_4 n4.toNatClampNeg = x := ⟨_, rfl⟩
  have gx11 := rg x11
  have ox11 := IM.dgR hI4 R_r0_4 e12
  try simp only [k0_r0_4_n1, k0_r0_1_0, e12] at p0v3
  try have q0v3 := congrArg Int32.toInt p0v3
  try simp only [k0_r0_4_n1, k0_r0_1_0, e12] at p1v3
  try have q1v3 := congrArg Int32.toInt p1v3
  have hQ := QN.le (n' := w_r0_4_n1.toInt - n2.toInt - n3.toInt + 1) (QN.az (p := w_r0_1_0.toInt) p1v3 (by omega)) (by omega)
  refine k_iload_n C rfl rfl rfl ?_
  have J13 : ∀ (nn14 : Nat) (I15 : IT) (L16 : LT) (x17 : Int32), (MN (41 - x17.toInt) nn14) → (IM R r0 I15) → (CM A R r0 [] [5] I4 L5 I15 L16) → (∀ r : Nat, (r < 41 * n4.toNatClampNeg ∨ 41 * n4.toNatClampNeg + 41 ≤ r) → I15 r0_5 r = I4 r0_5 r) → (0 ≤ x17.toInt) → (x17.toInt ≤ 41) → (n3.toInt ≤ x17.toInt) → (QN I15 r0_5 n4.toNatClampNeg (w_r0_4_n1.toInt - n2.toInt - n3.toInt + 1) w_r0_1_0.toInt) → V 19 [(0, .ref r0), (1, .int n1), (2, .int n2), (3, .int n3), (4, .int n4), (5, .int x17)] [] (T, N, I15, L16, R) 0 0 := by
    intro nn14
    induction nn14 using Nat.strongRecOn with
    | _ nn14 ihJ13 =>
      intro I15 L16 x17 hmnn14 hI21 S20 F22 b18 b19 ff19_0 ff19_1
      have gx17 := rg x17
      have e23 := CM.j S20 R_r0_4 (by decide) e9
      have e24 := CM.j S20 R_r0_1 (by decide) e10
      have e25 := CM.j S20 R_r0_4 (by decide) e12
      refine k_iload C rfl rfl rfl ?_
      refine k_aload_n C rfl rfl rfl ?_
      refine g_R C rfl rfl rfl T_r0 rfl R_r0_4 ?_
      refine k_iload_n C rfl rfl rfl ?_
      refine a_I C rfl rfl T_r0_4 (by rw [N_r0_4]; exact vpi (by omega) (by omega)) e23 ?_
      refine k_iload_n C rfl rfl rfl ?_
      refine z_isub C rfl rfl ⟨by omega, by omega⟩ (fun x26 ex26 => ?_)
      refine b_icmp_gt C (t := 73) rfl rfl rfl (fun c27 => ?_) (fun c27 => ?_)
      · skip
        exact k_vret C rfl rfl (Nat.le_of_ble_eq_true rfl) (Nat.le_of_ble_eq_true rfl) ⟨_, _, rfl, rfl, fun a4 h4 => by cases (R_r0_4.symm.trans h4); first | omega | (simp only [e23, e24, e25, k0_r0_4_n1, k0_r0_1_0] <;> omega), fun a1 a4 a5 h1 h4 h5 => by cases (R_r0_1.symm.trans h1); cases (R_r0_4.symm.trans h4); cases (R_r0_5.symm.trans h5); simp only [e25, k0_r0_1_0]; exact QN.le ff19_1 (by omega), fun a4 h4 => by cases (R_r0_4.symm.trans h4); exact (fun r z0 => ((congrFun (CM.j0 S20 R_r0_4 (by decide)) r).trans (F7 r z0))), fun a5 h5 => by cases (R_r0_5.symm.trans h5); exact (fun r z0 => ((F22 r z0).trans (F8 r z0))), hI21, (CM.cons S6 (CM.mono S20 (by decide) (by decide)) (by decide) (by decide))⟩
      refine k_aload_n C rfl rfl rfl ?_
      refine k_iload C rfl rfl rfl ?_
      refine k_iload C rfl rfl rfl ?_
      refine k_iload_n C rfl rfl rfl ?_
      refine z_isub C rfl rfl ⟨by omega, by omega⟩ (fun x28 ex28 => ?_)
      refine k_aload_n C rfl rfl rfl ?_
      refine k_aload_n C rfl rfl rfl ?_
      refine k_iload_n C rfl rfl rfl ?_
      refine k_iload C rfl rfl rfl ?_
      refine c_VI C (a_X12_of hI21 H_r0 (by omega) (by omega) (by omega) (by omega)) rfl rfl rfl rfl rfl ⟨_, rfl, rfl, T_r0, Nat.le_of_ble_eq_true rfl⟩ rfl rfl (Nat.le_of_ble_eq_true rfl) (Nat.le_of_ble_eq_true rfl) (Nat.le_of_ble_eq_true rfl) ?_
      rintro x29 _ _ ⟨o0x29, o1x29, p0x29, rfl, rfl⟩
      have p0x29 := p0x29 r0_5 R_r0_5
      have gx29 := rg x29
      try simp only [e23, e24, e25] at p0x29
      try have q0x29 := congrArg Int32.toInt p0x29
      refine k_aload_n C rfl rfl rfl ?_
      refine k_aload_n C rfl rfl rfl ?_
      refine g_R C rfl rfl rfl T_r0 rfl R_r0_4 ?_
      refine k_iload_n C rfl rfl rfl ?_
      refine a_I C rfl rfl T_r0_4 (by rw [N_r0_4]; exact vpi (by omega) (by omega)) e23 ?_
      refine k_iload C rfl rfl rfl ?_
      refine k_iload_n C rfl rfl rfl ?_
      refine k_iload_n C rfl rfl rfl ?_
      refine c_VI C (a_X12_differs hI21 H_r0) rfl rfl rfl rfl rfl ⟨_, rfl, rfl, T_r0, Nat.le_of_ble_eq_true rfl⟩ rfl rfl (Nat.le_of_ble_eq_true rfl) (Nat.le_of_ble_eq_true rfl) (Nat.le_of_ble_eq_true rfl) ?_
      rintro x30 _ _ ⟨o0x30, o1x30, rfl, rfl⟩
      have gx30 := rg x30
      refine c_VI C (a_X12_times hI21 H_r0 (by omega) (by omega) (by omega) (by omega)) rfl rfl rfl rfl rfl ⟨_, rfl, rfl, T_r0, Nat.le_of_ble_eq_true rfl⟩ rfl rfl (Nat.le_of_ble_eq_true rfl) (Nat.le_of_ble_eq_true rfl) (Nat.le_of_ble_eq_true rfl) ?_
      rintro x31 _ _ ⟨o0x31, o1x31, p0x31, p1x31, p2x31, p3x31, rfl, rfl⟩
      have p0x31 := p0x31 r0_1 R_r0_1
      have p2x31 := p2x31 r0_1 R_r0_1
      have p3x31 := p3x31 r0_1 R_r0_1
      have gx31 := rg x31
      try simp only [e23, e24, e25] at p0x31
      try have q0x31 := congrArg Int32.toInt p0x31
      try simp only [e23, e24, e25] at p1x31
      try have q1x31 := congrArg Int32.toInt p1x31
      try simp only [e23, e24, e25] at p2x31
      try have q2x31 := congrArg Int32.toInt p2x31
      try simp only [e23, e24, e25] at p3x31
      try have q3x31 := congrArg Int32.toInt p3x31
      refine c_VV C (a_X12_put hI21 H_r0 (by omega) (by omega) (by omega) (by omega) (by omega) (by omega)) rfl rfl rfl rfl rfl ⟨_, rfl, rfl, T_r0, Nat.le_of_ble_eq_true rfl⟩ rfl rfl (Nat.le_of_ble_eq_true rfl) (Nat.le_of_ble_eq_true rfl) (Nat.le_of_ble_eq_true rfl) ?_
      rintro I33 L34 ⟨p0v32, p1v32, hI33, S35⟩
      have p0v32 := p0v32 r0_5 R_r0_5
      have p1v32 := p1v32 r0_5 R_r0_5
      have F36 : ∀ r : Nat, (r < 41 * n4.toNatClampNeg ∨ 41 * n4.toNatClampNeg + 41 ≤ r) → I33 r0_5 r = I15 r0_5 r := fun r z0 => p1v32 r (by first | exact z0)
      have e37 := CM.j S35 R_r0_4 (by decide) e23
      have e38 := CM.j S35 R_r0_1 (by decide) e24
      have e39 := CM.j S35 R_r0_4 (by decide) e25
      try simp only [e23, e24, e25] at p0v32
      try have q0v32 := congrArg Int32.toInt p0v32
      have hP := p0v32
      refine z_iinc C (z := 1) (lw := fun x40 => [(5, .int x40), (0, .ref r0), (1, .int n1), (2, .int n2), (3, .int n3), (4, .int n4)]) rfl rfl rfl (Nat.le_of_ble_eq_true rfl) rfl ⟨by omega, by omega⟩ (fun _ => rfl) (fun x40 ex40 => ?_)
      show V 70 [(5, .int x40), (0, .ref r0), (1, .int n1), (2, .int n2), (3, .int n3), (4, .int n4)] _ _ _ _
      refine k_goto C (pc2 := 19) rfl rfl ?_
      refine k_sub S [(0, .ref r0), (1, .int n1), (2, .int n2), (3, .int n3), (4, .int n4), (5, .int x40)] (List.forall_mem_cons.mpr ⟨List.mem_of_getElem? (i := 1) rfl, List.forall_mem_cons.mpr ⟨List.mem_of_getElem? (i := 2) rfl, List.forall_mem_cons.mpr ⟨List.mem_of_getElem? (i := 3) rfl, List.forall_mem_cons.mpr ⟨List.mem_of_getElem? (i := 4) rfl, List.forall_mem_cons.mpr ⟨List.mem_of_getElem? (i := 5) rfl, List.forall_mem_cons.mpr ⟨List.mem_of_getElem? (i := 0) rfl, fun _ h => nomatch h⟩⟩⟩⟩⟩⟩) ?_
      exact ihJ13 _ (MN.lt hmnn14 (by omega) (by omega)) I33 L34 x40 rfl hI33 (CM.cons S20 (CM.mono S35 (by decide) (by decide)) (by decide) (by decide)) (fun r z0 => ((F36 r z0).trans (F22 r z0))) (by omega) (by omega) (by omega) (by exact QN.put ff19_1 hP (by omega) (by omega))
  refine k_istore C (lw := [(5, .int n3), (0, .ref r0), (1, .int n1), (2, .int n2), (3, .int n3), (4, .int n4)]) rfl rfl (Nat.le_of_ble_eq_true rfl) rfl ?_
  refine k_sub S [(0, .ref r0), (1, .int n1), (2, .int n2), (3, .int n3), (4, .int n4), (5, .int n3)] (List.forall_mem_cons.mpr ⟨List.mem_of_getElem? (i := 1) rfl, List.forall_mem_cons.mpr ⟨List.mem_of_getElem? (i := 2) rfl, List.forall_mem_cons.mpr ⟨List.mem_of_getElem? (i := 3) rfl, List.forall_mem_cons.mpr ⟨List.mem_of_getElem? (i := 4) rfl, List.forall_mem_cons.mpr ⟨List.mem_of_getElem? (i := 5) rfl, List.forall_mem_cons.mpr ⟨List.mem_of_getElem? (i := 0) rfl, fun _ h => nomatch h⟩⟩⟩⟩⟩⟩) ?_
  exact J13 _ I4 L5 n3 rfl hI4 CM.rf (fun r z0 => rfl) (by omega) (by omega) (by omega) (by exact hQ)

theorem a_X12_over {d : Nat} {T N : Nat → Nat} {I : IT} {L : LT} {R : RT} {n0 n1 : Int32}  (b0_n0 : 0 ≤ n0.toInt) (b1_n0 : n0.toInt ≤ 40) (b0_n1 : 0 ≤ n1.toInt) (b1_n1 : n1.toInt ≤ 40) : Ex (d + 1) 208 [.int n0, .int n1] (T, N, I, L, R) 0 0 (pI T N R (fun x9 I9 L9 => (I = I9 ∧ L = L9))) := by
  refine ⟨_, rfl, Nat.le_of_ble_eq_true rfl, fun V C S => ?_⟩
  show V 0 [(0, .int n0), (1, .int n1)] [] (T, N, I, L, R) 0 0
  have gn0 := rg n0
  have gn1 := rg n1
  refine z_iconst C (z := 1) rfl rfl rfl (fun x1 ex1 => ?_)
  refine k_istore_n C (lw := [(2, .int x1), (0, .int n0), (1, .int n1)]) rfl rfl (Nat.le_of_ble_eq_true rfl) rfl ?_
  refine z_iconst C (z := 1) rfl rfl rfl (fun x2 ex2 => ?_)
  have J3 : ∀ (nn4 : Nat) (x5 : Int32) (x6 : Int32), (MN (41 - x6.toInt) nn4) → (1 ≤ x6.toInt) → (x6.toInt ≤ 41) → V 4 [(0, .int n0), (1, .int n1), (2, .int x5), (3, .int x6)] [] (T, N, I, L, R) 0 0 := by
    intro nn4
    induction nn4 using Nat.strongRecOn with
    | _ nn4 ihJ3 =>
      intro x5 x6 hmnn4 b7 b8
      have gx5 := rg x5
      have gx6 := rg x6
      refine k_iload_n C rfl rfl rfl ?_
      refine k_iload_n C rfl rfl rfl ?_
      refine b_icmp_gt C (t := 25) rfl rfl rfl (fun c9 => ?_) (fun c9 => ?_)
      · skip
        refine k_iload_n C rfl rfl rfl ?_
        exact k_iret C rfl (Or.inl rfl) (Nat.le_of_ble_eq_true rfl) (Nat.le_of_ble_eq_true rfl) ⟨_, _, _, rfl, rfl, rfl, rfl⟩
      refine k_iload_n C rfl rfl rfl ?_
      refine k_iload_n C rfl rfl rfl ?_
      refine k_iload_n C rfl rfl rfl ?_
      refine z_isub C rfl rfl ⟨by omega, by omega⟩ (fun x10 ex10 => ?_)
      refine k_iload_n C rfl rfl rfl ?_
      refine z_iadd C rfl rfl ⟨by omega, by omega⟩ (fun x11 ex11 => ?_)
      refine zt_imul C rfl rfl (fun x12 => ?_)
      have gx12 := rg x12
      refine k_iload_n C rfl rfl rfl ?_
      refine zt_idiv C rfl rfl (by omega) (fun x13 => ?_)
      have gx13 := rg x13
      refine k_istore_n C (lw := [(2, .int x13), (0, .int n0), (1, .int n1), (3, .int x6)]) rfl rfl (Nat.le_of_ble_eq_true rfl) rfl ?_
      refine z_iinc C (z := 1) (lw := fun x14 => [(3, .int x14), (2, .int x13), (0, .int n0), (1, .int n1)]) rfl rfl rfl (Nat.le_of_ble_eq_true rfl) rfl ⟨by omega, by omega⟩ (fun _ => rfl) (fun x14 ex14 => ?_)
      show V 22 [(3, .int x14), (2, .int x13), (0, .int n0), (1, .int n1)] _ _ _ _
      refine k_goto C (pc2 := 4) rfl rfl ?_
      refine k_sub S [(0, .int n0), (1, .int n1), (2, .int x13), (3, .int x14)] (List.forall_mem_cons.mpr ⟨List.mem_of_getElem? (i := 2) rfl, List.forall_mem_cons.mpr ⟨List.mem_of_getElem? (i := 3) rfl, List.forall_mem_cons.mpr ⟨List.mem_of_getElem? (i := 1) rfl, List.forall_mem_cons.mpr ⟨List.mem_of_getElem? (i := 0) rfl, fun _ h => nomatch h⟩⟩⟩⟩) ?_
      exact ihJ3 _ (MN.lt hmnn4 (by omega) (by omega)) x13 x14 rfl (by omega) (by omega)
  refine k_istore_n C (lw := [(3, .int x2), (2, .int x1), (0, .int n0), (1, .int n1)]) rfl rfl (Nat.le_of_ble_eq_true rfl) rfl ?_
  refine k_sub S [(0, .int n0), (1, .int n1), (2, .int x1), (3, .int x2)] (List.forall_mem_cons.mpr ⟨List.mem_of_getElem? (i := 2) rfl, List.forall_mem_cons.mpr ⟨List.mem_of_getElem? (i := 3) rfl, List.forall_mem_cons.mpr ⟨List.mem_of_getElem? (i := 1) rfl, List.forall_mem_cons.mpr ⟨List.mem_of_getElem? (i := 0) rfl, fun _ h => nomatch h⟩⟩⟩⟩) ?_
  exact J3 _ x1 x2 rfl (by omega) (by omega)

theorem a_X12_overlaps {d : Nat} {T N : Nat → Nat} {I : IT} {L : LT} {R : RT} {A : Nat → Prop} {r0 : Nat} {n1 n2 n3 n4 : Int32} (hI : IM R r0 I) (H_r0 : (h_MD T N R A) r0) (b0_n1 : 0 ≤ n1.toInt) (b1_n1 : n1.toInt ≤ 41) (b0_n2 : 0 ≤ n2.toInt) (b1_n2 : n2.toInt ≤ 41) (b0_n3 : 0 ≤ n3.toInt) (b1_n3 : n3.toInt ≤ 40) (b0_n4 : 42 ≤ n4.toInt) (b1_n4 : n4.toInt ≤ 43) (hp0 : ∀ a4, R r0 4 = some a4 → n3.toInt ≤ (I a4 n1.toNatClampNeg).toInt) (hp1 : ∀ a4, R r0 4 = some a4 → n3.toInt ≤ (I a4 n2.toNatClampNeg).toInt) (hp2 : ∀ a4, R r0 4 = some a4 → (I a4 n1.toNatClampNeg).toInt + (I a4 n2.toNatClampNeg).toInt - 2 * n3.toInt ≤ 40) : Ex (d + 6) 209 [.ref r0, .int n1, .int n2, .int n3, .int n4] (T, N, I, L, R) 0 0 (pV T N R (fun I9 L9 => (∀ a4, R r0 4 = some a4 → ∀ r : Nat, r ≠ n4.toNatClampNeg → r ≠ 45 → r ≠ 46 → r ≠ 47 → I9 a4 r = I a4 r) ∧ (∀ a5, R r0 5 = some a5 → ∀ r : Nat, (r < 41 * n4.toNatClampNeg ∨ 41 * n4.toNatClampNeg + 41 ≤ r) → (r < 41 * 45 ∨ 41 * 45 + 41 ≤ r) → (r < 41 * 46 ∨ 41 * 46 + 41 ≤ r) → (r < 41 * 47 ∨ 41 * 47 + 41 ≤ r) → I9 a5 r = I a5 r) ∧ (IM R r0 I9 ∧ CM A R r0 [] [4, 5] I L I9 L9))) := by
  refine ⟨_, rfl, Nat.le_of_ble_eq_true rfl, fun V C S => ?_⟩
  show V 0 [(0, .ref r0), (1, .int n1), (2, .int n2), (3, .int n3), (4, .int n4)] [] (T, N, I, L, R) 0 0
  have gn1 := rg n1
  have gn2 := rg n2
  have gn3 := rg n3
  have gn4 := rg n4
  obtain ⟨T_r0, A_r0, ⟨r0_1, R_r0_1, H_r0_1⟩, ⟨r0_2, R_r0_2, H_r0_2⟩, ⟨r0_4, R_r0_4, H_r0_4⟩, ⟨r0_5, R_r0_5, H_r0_5⟩, ⟨r0_10, R_r0_10, H_r0_10⟩, ⟨r0_18, R_r0_18, H_r0_18⟩, ⟨r0_20, R_r0_20, H_r0_20⟩, ⟨r0_21, R_r0_21, H_r0_21⟩, ⟨r0_22, R_r0_22, H_r0_22⟩, ⟨r0_23, R_r0_23, H_r0_23⟩, ⟨r0_25, R_r0_25, H_r0_25⟩, ⟨r0_26, R_r0_26, H_r0_26⟩, ⟨r0_27, R_r0_27, H_r0_27⟩, ⟨r0_28, R_r0_28, H_r0_28⟩, ⟨r0_34, R_r0_34, H_r0_34⟩, J_r0, Y_r0⟩ := id H_r0
  have G_r0 : mF T R r0 := ⟨J_r0, Y_r0, T_r0⟩
  obtain ⟨w_r0_4_n1, k0_r0_4_n1⟩ : ∃ x, I r0_4 n1.toNatClampNeg = x := ⟨_, rfl⟩
  have gw_r0_4_n1 := rg w_r0_4_n1
  have ow_r0_4_n1 := IM.dgR hI R_r0_4 k0_r0_4_n1
  obtain ⟨w_r0_4_n2, k0_r0_4_n2⟩ : ∃ x, I r0_4 n2.toNatClampNeg = x := ⟨_, rfl⟩
  have gw_r0_4_n2 := rg w_r0_4_n2
  have ow_r0_4_n2 := IM.dgR hI R_r0_4 k0_r0_4_n2
  have hp0 := hp0 r0_4 R_r0_4
  have hp1 := hp1 r0_4 R_r0_4
  have hp2 := hp2 r0_4 R_r0_4
  try simp only [k0_r0_4_n1, k0_r0_4_n2] at hp0
  try simp only [k0_r0_4_n1, k0_r0_4_n2] at hp1
  try simp only [k0_r0_4_n1, k0_r0_4_n2] at hp2
  refine k_aload_n C rfl rfl rfl ?_
  refine k_iload C rfl rfl rfl ?_
  refine k_aload_n C rfl rfl rfl ?_
  refine g_R C rfl rfl rfl T_r0 rfl R_r0_4 ?_
  refine k_iload_n C rfl rfl rfl ?_
  obtain ⟨T_r0_4, N_r0_4, A_r0_4⟩ := id H_r0_4
  refine a_I C rfl rfl T_r0_4 (by rw [N_r0_4]; exact vpi (by omega) (by omega)) k0_r0_4_n1 ?_
  refine k_aload_n C rfl rfl rfl ?_
  refine g_R C rfl rfl rfl T_r0 rfl R_r0_4 ?_
  refine k_iload_n C rfl rfl rfl ?_
  refine a_I C rfl rfl T_r0_4 (by rw [N_r0_4]; exact vpi (by omega) (by omega)) k0_r0_4_n2 ?_
  refine z_iadd C rfl rfl ⟨by omega, by omega⟩ (fun x1 ex1 => ?_)
  refine z_iconst C (z := 2) rfl rfl rfl (fun x2 ex2 => ?_)
  refine k_iload_n C rfl rfl rfl ?_
  refine z_imulL C (c := 2) rfl rfl (by omega) ⟨by omega, by omega⟩ (fun x3 ex3 => ?_)
  refine z_isub C rfl rfl ⟨by omega, by omega⟩ (fun x4 ex4 => ?_)
  refine c_VV C (a_X12_clears hI H_r0 (by omega) (by omega) (by omega) (by omega)) rfl rfl rfl rfl rfl ⟨_, rfl, rfl, T_r0, Nat.le_of_ble_eq_true rfl⟩ rfl rfl (Nat.le_of_ble_eq_true rfl) (Nat.le_of_ble_eq_true rfl) (Nat.le_of_ble_eq_true rfl) ?_
  rintro I6 L7 ⟨p0v5, p1v5, p2v5, p3v5, hI6, S8⟩
  have p0v5 := p0v5 r0_4 R_r0_4
  have p1v5 := p1v5 r0_5 R_r0_5
  have p2v5 := p2v5 r0_4 R_r0_4
  have p3v5 := p3v5 r0_5 R_r0_5
  have F9 : ∀ r : Nat, r ≠ n4.toNatClampNeg → r ≠ 45 → r ≠ 46 → r ≠ 47 → I6 r0_4 r = I r0_4 r := fun r z0 z1 z2 z3 => p2v5 r (by first | exact z0 | exact z1 | exact z2 | exact z3)
  have F10 : ∀ r : Nat, (r < 41 * n4.toNatClampNeg ∨ 41 * n4.toNatClampNeg + 41 ≤ r) → (r < 41 * 45 ∨ 41 * 45 + 41 ≤ r) → (r < 41 * 46 ∨ 41 * 46 + 41 ≤ r) → (r < 41 * 47 ∨ 41 * 47 + 41 ≤ r) → I6 r0_5 r = I r0_5 r := fun r z0 z1 z2 z3 => p3v5 r (by first | exact z0 | exact z1 | exact z2 | exact z3)
  have e11 := (p2v5 n1.toNatClampNeg (by first | decide | exact ncne (by omega) (by omega) (by omega) | exact nckn (by omega) (by omega) | exact (nckn (by omega) (by omega)).symm)).trans k0_r0_4_n1
  have e12 := (p2v5 n2.toNatClampNeg (by first | decide | exact ncne (by omega) (by omega) (by omega) | exact nckn (by omega) (by omega) | exact (nckn (by omega) (by omega)).symm)).trans k0_r0_4_n2
  obtain ⟨x13, e14⟩ : ∃ x, I6 r0_4 n4.toNatClampNeg = x := ⟨_, rfl⟩
  have gx13 := rg x13
  have ox13 := IM.dgR hI6 R_r0_4 e14
  try simp only [k0_r0_4_n1, k0_r0_4_n2, e14] at p0v5
  try have q0v5 := congrArg Int32.toInt p0v5
  try simp only [k0_r0_4_n1, k0_r0_4_n2, e14] at p1v5
  try have q1v5 := congrArg Int32.toInt p1v5
  refine z_iconst C (z := 0) rfl rfl rfl (fun x15 ex15 => ?_)
  have J16 : ∀ (nn17 : Nat) (I18 : IT) (L19 : LT) (x20 : Int32), (MN (41 - x20.toInt) nn17) → (IM R r0 I18) → (CM A R r0 [] [4, 5] I6 L7 I18 L19) → (∀ r : Nat, r ≠ n4.toNatClampNeg → r ≠ 45 → r ≠ 46 → r ≠ 47 → I18 r0_4 r = I6 r0_4 r) → (∀ r : Nat, (r < 41 * n4.toNatClampNeg ∨ 41 * n4.toNatClampNeg + 41 ≤ r) → (r < 41 * 45 ∨ 41 * 45 + 41 ≤ r) → (r < 41 * 46 ∨ 41 * 46 + 41 ≤ r) → (r < 41 * 47 ∨ 41 * 47 + 41 ≤ r) → I18 r0_5 r = I6 r0_5 r) → (0 ≤ x20.toInt) → (x20.toInt ≤ 41) → V 26 [(0, .ref r0), (1, .int n1), (2, .int n2), (3, .int n3), (4, .int n4), (5, .int x20)] [] (T, N, I18, L19, R) 0 0 := by
    intro nn17
    induction nn17 using Nat.strongRecOn with
    | _ nn17 ihJ16 =>
      intro I18 L19 x20 hmnn17 hI24 S23 F25 F26 b21 b22
      have gx20 := rg x20
      have e27 := (F25 n1.toNatClampNeg (by first | decide | exact ncne (by omega) (by omega) (by omega) | exact nckn (by omega) (by omega) | exact (nckn (by omega) (by omega)).symm) (by first | decide | exact ncne (by omega) (by omega) (by omega) | exact nckn (by omega) (by omega) | exact (nckn (by omega) (by omega)).symm) (by first | decide | exact ncne (by omega) (by omega) (by omega) | exact nckn (by omega) (by omega) | exact (nckn (by omega) (by omega)).symm) (by first | decide | exact ncne (by omega) (by omega) (by omega) | exact nckn (by omega) (by omega) | exact (nckn (by omega) (by omega)).symm)).trans e11
      have e28 := (F25 n2.toNatClampNeg (by first | decide | exact ncne (by omega) (by omega) (by omega) | exact nckn (by omega) (by omega) | exact (nckn (by omega) (by omega)).symm) (by first | decide | exact ncne (by omega) (by omega) (by omega) | exact nckn (by omega) (by omega) | exact (nckn (by omega) (by omega)).symm) (by first | decide | exact ncne (by omega) (by omega) (by omega) | exact nckn (by omega) (by omega) | exact (nckn (by omega) (by omega)).symm) (by first | decide | exact ncne (by omega) (by omega) (by omega) | exact nckn (by omega) (by omega) | exact (nckn (by omega) (by omega)).symm)).trans e12
      refine k_iload C rfl rfl rfl ?_
      refine k_iload_n C rfl rfl rfl ?_
      refine b_icmp_gt C (t := 160) rfl rfl rfl (fun c29 => ?_) (fun c29 => ?_)
      · skip
        exact k_vret C rfl rfl (Nat.le_of_ble_eq_true rfl) (Nat.le_of_ble_eq_true rfl) ⟨_, _, rfl, rfl, fun a4 h4 => by cases (R_r0_4.symm.trans h4); exact (fun r z0 z1 z2 z3 => ((F25 r z0 z1 z2 z3).trans (F9 r z0 z1 z2 z3))), fun a5 h5 => by cases (R_r0_5.symm.trans h5); exact (fun r z0 z1 z2 z3 => ((F26 r z0 z1 z2 z3).trans (F10 r z0 z1 z2 z3))), hI24, (CM.cons S8 (CM.mono S23 (by decide) (by decide)) (by decide) (by decide))⟩
      refine k_aload_n C rfl rfl rfl ?_
      refine k_iload_n C rfl rfl rfl ?_
      refine k_iload_n C rfl rfl rfl ?_
      refine k_iload C rfl rfl rfl ?_
      refine z_isub C rfl rfl ⟨by omega, by omega⟩ (fun x30 ex30 => ?_)
      refine k_iload C rfl rfl rfl ?_
      refine z_bipush C (z := 45) rfl rfl rfl (fun x31 ex31 => ?_)
      obtain ⟨x32, e33⟩ : ∃ x, I18 r0_1 0 = x := ⟨_, rfl⟩
      have gx32 := rg x32
      have ox32 := IM.pi hI24 R_r0_1 e33
      have q34 : x31.toNatClampNeg = 45 := nck (by omega)
      refine c_VV C (a_X12_differentiates hI24 H_r0 (by omega) (by omega) (by omega) (by omega) (by omega) (by omega) (by omega) (by omega) (by first | omega | (simp only [q34, e27, e28, e33] <;> omega)) (fun a4 h4 => by cases (R_r0_4.symm.trans h4); first | omega | (simp only [q34, e27, e28, e33] <;> omega))) rfl rfl rfl rfl rfl ⟨_, rfl, rfl, T_r0, Nat.le_of_ble_eq_true rfl⟩ rfl rfl (Nat.le_of_ble_eq_true rfl) (Nat.le_of_ble_eq_true rfl) (Nat.le_of_ble_eq_true rfl) ?_
      rintro I36 L37 ⟨p0v35, p1v35, p2v35, p3v35, hI36, S38⟩
      have p0v35 := p0v35 r0_4 R_r0_4
      have p1v35 := p1v35 r0_1 r0_4 r0_5 R_r0_1 R_r0_4 R_r0_5
      have p2v35 := p2v35 r0_4 R_r0_4
      have p3v35 := p3v35 r0_5 R_r0_5
      try simp only [q34] at p2v35
      have F39 : ∀ r : Nat, r ≠ n4.toNatClampNeg → r ≠ 45 → r ≠ 46 → r ≠ 47 → I36 r0_4 r = I18 r0_4 r := fun r z0 z1 z2 z3 => p2v35 r (by first | exact z0 | exact z1 | exact z2 | exact z3)
      try simp only [q34] at p3v35
      have F40 : ∀ r : Nat, (r < 41 * n4.toNatClampNeg ∨ 41 * n4.toNatClampNeg + 41 ≤ r) → (r < 41 * 45 ∨ 41 * 45 + 41 ≤ r) → (r < 41 * 46 ∨ 41 * 46 + 41 ≤ r) → (r < 41 * 47 ∨ 41 * 47 + 41 ≤ r) → I36 r0_5 r = I18 r0_5 r := fun r z0 z1 z2 z3 => p3v35 r (by first | exact z0 | exact z1 | exact z2 | exact z3)
      have e41 := (p2v35 n1.toNatClampNeg (by first | decide | exact ncne (by omega) (by omega) (by omega) | exact nckn (by omega) (by omega) | exact (nckn (by omega) (by omega)).symm)).trans e27
      have e42 := (p2v35 n2.toNatClampNeg (by first | decide | exact ncne (by omega) (by omega) (by omega) | exact nckn (by omega) (by omega) | exact (nckn (by omega) (by omega)).symm)).trans e28
      have e43 := CM.j S38 R_r0_1 (by decide) e33
      obtain ⟨x44, e45⟩ : ∃ x, I36 r0_4 45 = x := ⟨_, rfl⟩
      have gx44 := rg x44
      have ox44 := IM.dgR hI36 R_r0_4 e45
      try simp only [q34, e27, e28, e33, e45] at p0v35
      try have q0v35 := congrArg Int32.toInt p0v35
      try simp only [q34, e27, e28, e33, e45] at p1v35
      try have q1v35 := congrArg Int32.toInt p1v35
      refine k_aload_n C rfl rfl rfl ?_
      refine k_iload_n C rfl rfl rfl ?_
      refine k_iload C rfl rfl rfl ?_
      refine k_iload_n C rfl rfl rfl ?_
      refine k_iload C rfl rfl rfl ?_
      refine z_isub C rfl rfl ⟨by omega, by omega⟩ (fun x46 ex46 => ?_)
      refine z_bipush C (z := 46) rfl rfl rfl (fun x47 ex47 => ?_)
      have q48 : x47.toNatClampNeg = 46 := nck (by omega)
      refine c_VV C (a_X12_differentiates hI36 H_r0 (by omega) (by omega) (by omega) (by omega) (by omega) (by omega) (by omega) (by omega) (by first | omega | (simp only [q48, e41, e42, e43, e45] <;> omega)) (fun a4 h4 => by cases (R_r0_4.symm.trans h4); first | omega | (simp only [q48, e41, e42, e43, e45] <;> omega))) rfl rfl rfl rfl rfl ⟨_, rfl, rfl, T_r0, Nat.le_of_ble_eq_true rfl⟩ rfl rfl (Nat.le_of_ble_eq_true rfl) (Nat.le_of_ble_eq_true rfl) (Nat.le_of_ble_eq_true rfl) ?_
      rintro I50 L51 ⟨p0v49, p1v49, p2v49, p3v49, hI50, S52⟩
      have p0v49 := p0v49 r0_4 R_r0_4
      have p1v49 := p1v49 r0_1 r0_4 r0_5 R_r0_1 R_r0_4 R_r0_5
      have p2v49 := p2v49 r0_4 R_r0_4
      have p3v49 := p3v49 r0_5 R_r0_5
      try simp only [q48] at p2v49
      have F53 : ∀ r : Nat, r ≠ n4.toNatClampNeg → r ≠ 45 → r ≠ 46 → r ≠ 47 → I50 r0_4 r = I36 r0_4 r := fun r z0 z1 z2 z3 => p2v49 r (by first | exact z0 | exact z1 | exact z2 | exact z3)
      try simp only [q48] at p3v49
      have F54 : ∀ r : Nat, (r < 41 * n4.toNatClampNeg ∨ 41 * n4.toNatClampNeg + 41 ≤ r) → (r < 41 * 45 ∨ 41 * 45 + 41 ≤ r) → (r < 41 * 46 ∨ 41 * 46 + 41 ≤ r) → (r < 41 * 47 ∨ 41 * 47 + 41 ≤ r) → I50 r0_5 r = I36 r0_5 r := fun r z0 z1 z2 z3 => p3v49 r (by first | exact z0 | exact z1 | exact z2 | exact z3)
      have e55 := (p2v49 n1.toNatClampNeg (by first | decide | exact ncne (by omega) (by omega) (by omega) | exact nckn (by omega) (by omega) | exact (nckn (by omega) (by omega)).symm)).trans e41
      have e56 := (p2v49 n2.toNatClampNeg (by first | decide | exact ncne (by omega) (by omega) (by omega) | exact nckn (by omega) (by omega) | exact (nckn (by omega) (by omega)).symm)).trans e42
      have e57 := CM.j S52 R_r0_1 (by decide) e43
      have e58 := (p2v49 45 (by first | decide | exact ncne (by omega) (by omega) (by omega) | exact nckn (by omega) (by omega) | exact (nckn (by omega) (by omega)).symm)).trans e45
      obtain ⟨x59, e60⟩ : ∃ x, I50 r0_4 46 = x := ⟨_, rfl⟩
      have gx59 := rg x59
      have ox59 := IM.dgR hI50 R_r0_4 e60
      try simp only [q48, e41, e42, e43, e45, e60] at p0v49
      try have q0v49 := congrArg Int32.toInt p0v49
      try simp only [q48, e41, e42, e43, e45, e60] at p1v49
      try have q1v49 := congrArg Int32.toInt p1v49
      refine k_aload_n C rfl rfl rfl ?_
      refine z_bipush C (z := 45) rfl rfl rfl (fun x61 ex61 => ?_)
      refine z_bipush C (z := 46) rfl rfl rfl (fun x62 ex62 => ?_)
      refine z_bipush C (z := 47) rfl rfl rfl (fun x63 ex63 => ?_)
      have q64 : x61.toNatClampNeg = 45 := nck (by omega)
      have q65 : x62.toNatClampNeg = 46 := nck (by omega)
      have q66 : x63.toNatClampNeg = 47 := nck (by omega)
      refine c_VV C (a_X12_multiplies hI50 H_r0 (by omega) (by omega) (by omega) (by omega) (by omega) (by omega) (by first | omega | (simp only [q64, q65, q66, e55, e56, e57, e58, e60] <;> omega)) (by first | omega | (simp only [q64, q65, q66, e55, e56, e57, e58, e60] <;> omega)) (fun a4 h4 => by cases (R_r0_4.symm.trans h4); first | omega | (simp only [q64, q65, q66, e55, e56, e57, e58, e60] <;> omega))) rfl rfl rfl rfl rfl ⟨_, rfl, rfl, T_r0, Nat.le_of_ble_eq_true rfl⟩ rfl rfl (Nat.le_of_ble_eq_true rfl) (Nat.le_of_ble_eq_true rfl) (Nat.le_of_ble_eq_true rfl) ?_
      rintro I68 L69 ⟨p0v67, p1v67, hI68, S70⟩
      have p0v67 := p0v67 r0_4 R_r0_4
      have p1v67 := p1v67 r0_5 R_r0_5
      try simp only [q64, q65, q66] at p0v67
      have F71 : ∀ r : Nat, r ≠ n4.toNatClampNeg → r ≠ 45 → r ≠ 46 → r ≠ 47 → I68 r0_4 r = I50 r0_4 r := fun r z0 z1 z2 z3 => p0v67 r (by first | exact z0 | exact z1 | exact z2 | exact z3)
      try simp only [q64, q65, q66] at p1v67
      have F72 : ∀ r : Nat, (r < 41 * n4.toNatClampNeg ∨ 41 * n4.toNatClampNeg + 41 ≤ r) → (r < 41 * 45 ∨ 41 * 45 + 41 ≤ r) → (r < 41 * 46 ∨ 41 * 46 + 41 ≤ r) → (r < 41 * 47 ∨ 41 * 47 + 41 ≤ r) → I68 r0_5 r = I50 r0_5 r := fun r z0 z1 z2 z3 => p1v67 r (by first | exact z0 | exact z1 | exact z2 | exact z3)
      have e73 := (p0v67 n1.toNatClampNeg (by first | decide | exact ncne (by omega) (by omega) (by omega) | exact nckn (by omega) (by omega) | exact (nckn (by omega) (by omega)).symm)).trans e55
      have e74 := (p0v67 n2.toNatClampNeg (by first | decide | exact ncne (by omega) (by omega) (by omega) | exact nckn (by omega) (by omega) | exact (nckn (by omega) (by omega)).symm)).trans e56
      have e75 := CM.j S70 R_r0_1 (by decide) e57
      have e76 := (p0v67 45 (by first | decide | exact ncne (by omega) (by omega) (by omega) | exact nckn (by omega) (by omega) | exact (nckn (by omega) (by omega)).symm)).trans e58
      have e77 := (p0v67 46 (by first | decide | exact ncne (by omega) (by omega) (by omega) | exact nckn (by omega) (by omega) | exact (nckn (by omega) (by omega)).symm)).trans e60
      refine k_aload_n C rfl rfl rfl ?_
      refine k_iload C rfl rfl rfl ?_
      refine z_iconst C (z := 2) rfl rfl rfl (fun x78 ex78 => ?_)
      refine z_iremR C (c := 2) rfl rfl (by omega) (by omega) (by omega) (fun x79 ex79 => ?_)
      refine b_if_ne C (t := 86) rfl rfl rfl (fun c80 => ?_) (fun c80 => ?_)
      · skip
        refine k_iload_n C rfl rfl rfl ?_
        refine k_iload C rfl rfl rfl ?_
        refine c_SI C (a_X12_over (by omega) (by omega) (by omega) (by omega)) rfl rfl rfl rfl rfl rfl rfl (Nat.le_of_ble_eq_true rfl) (Nat.le_of_ble_eq_true rfl) (Nat.le_of_ble_eq_true rfl) ?_
        rintro x81 _ _ ⟨rfl, rfl⟩
        have gx81 := rg x81
        refine zt_ineg C rfl rfl (fun x82 => ?_)
        have gx82 := rg x82
        refine z_i2l C rfl rfl (fun lg83 elg83 => ?_)
        refine c_VI C (a_X12_mod hI68 H_r0) rfl rfl rfl rfl rfl ⟨_, rfl, rfl, T_r0, Nat.le_of_ble_eq_true rfl⟩ rfl rfl (Nat.le_of_ble_eq_true rfl) (Nat.le_of_ble_eq_true rfl) (Nat.le_of_ble_eq_true rfl) ?_
        rintro x84 _ _ ⟨o0x84, o1x84, p0x84, rfl, rfl⟩
        have p0x84 := p0x84 r0_1 R_r0_1
        have gx84 := rg x84
        try simp only [e73, e74, e75, e76, e77] at p0x84
        try have q0x84 := congrArg Int32.toInt p0x84
        refine k_istore C (lw := [(6, .int x84), (0, .ref r0), (1, .int n1), (2, .int n2), (3, .int n3), (4, .int n4), (5, .int x20)]) rfl rfl (Nat.le_of_ble_eq_true rfl) rfl ?_
        refine z_iconst C (z := 0) rfl rfl rfl (fun x85 ex85 => ?_)
        have J86 : ∀ (nn87 : Nat) (I88 : IT) (L89 : LT) (x90 : Int32), (MN (41 - x90.toInt) nn87) → (IM R r0 I88) → (CM A R r0 [] [5] I68 L69 I88 L89) → (∀ r : Nat, (r < 41 * n4.toNatClampNeg ∨ 41 * n4.toNatClampNeg + 41 ≤ r) → (r < 41 * 45 ∨ 41 * 45 + 41 ≤ r) → (r < 41 * 46 ∨ 41 * 46 + 41 ≤ r) → (r < 41 * 47 ∨ 41 * 47 + 41 ≤ r) → I88 r0_5 r = I68 r0_5 r) → (0 ≤ x90.toInt) → (x90.toInt ≤ 41) → V 102 [(0, .ref r0), (1, .int n1), (2, .int n2), (3, .int n3), (4, .int n4), (5, .int x20), (6, .int x84), (7, .int x90)] [] (T, N, I88, L89, R) 0 0 := by
          intro nn87
          induction nn87 using Nat.strongRecOn with
          | _ nn87 ihJ86 =>
            intro I88 L89 x90 hmnn87 hI94 S93 F95 b91 b92
            have gx90 := rg x90
            have e96 := CM.j S93 R_r0_4 (by decide) e73
            have e97 := CM.j S93 R_r0_4 (by decide) e74
            have e98 := CM.j S93 R_r0_1 (by decide) e75
            have e99 := CM.j S93 R_r0_4 (by decide) e76
            have e100 := CM.j S93 R_r0_4 (by decide) e77
            refine k_iload C rfl rfl rfl ?_
            refine k_aload_n C rfl rfl rfl ?_
            refine g_R C rfl rfl rfl T_r0 rfl R_r0_4 ?_
            refine k_iload C rfl rfl rfl ?_
            refine z_aI C rfl rfl T_r0_4 N_r0_4 (by omega) (by omega) (fun x101 ex101 => ?_)
            have gx101 := rg x101
            have ox101 := IM.dgR hI94 R_r0_4 ex101
            refine b_icmp_gt C (t := 154) rfl rfl rfl (fun c102 => ?_) (fun c102 => ?_)
            · skip
              refine z_iinc C (z := 1) (lw := fun x103 => [(5, .int x103), (0, .ref r0), (1, .int n1), (2, .int n2), (3, .int n3), (4, .int n4), (6, .int x84), (7, .int x90)]) rfl rfl rfl (Nat.le_of_ble_eq_true rfl) rfl ⟨by omega, by omega⟩ (fun _ => rfl) (fun x103 ex103 => ?_)
              show V 157 [(5, .int x103), (0, .ref r0), (1, .int n1), (2, .int n2), (3, .int n3), (4, .int n4), (6, .int x84), (7, .int x90)] _ _ _ _
              refine k_goto C (pc2 := 26) rfl rfl ?_
              refine k_sub S [(0, .ref r0), (1, .int n1), (2, .int n2), (3, .int n3), (4, .int n4), (5, .int x103)] (List.forall_mem_cons.mpr ⟨List.mem_of_getElem? (i := 1) rfl, List.forall_mem_cons.mpr ⟨List.mem_of_getElem? (i := 2) rfl, List.forall_mem_cons.mpr ⟨List.mem_of_getElem? (i := 3) rfl, List.forall_mem_cons.mpr ⟨List.mem_of_getElem? (i := 4) rfl, List.forall_mem_cons.mpr ⟨List.mem_of_getElem? (i := 5) rfl, List.forall_mem_cons.mpr ⟨List.mem_of_getElem? (i := 0) rfl, fun _ h => nomatch h⟩⟩⟩⟩⟩⟩) ?_
              exact ihJ16 _ (MN.lt hmnn17 (by omega) (by omega)) I88 L89 x103 rfl hI94 (CM.cons S23 (CM.cons S38 (CM.cons S52 (CM.cons S70 (CM.mono S93 (by decide) (by decide)) (by decide) (by decide)) (by decide) (by decide)) (by decide) (by decide)) (by decide) (by decide)) (fun r z0 z1 z2 z3 => ((congrFun (CM.j0 S93 R_r0_4 (by decide)) r).trans ((F71 r z0 z1 z2 z3).trans ((F53 r z0 z1 z2 z3).trans ((F39 r z0 z1 z2 z3).trans (F25 r z0 z1 z2 z3)))))) (fun r z0 z1 z2 z3 => ((F95 r z0 z1 z2 z3).trans ((F72 r z0 z1 z2 z3).trans ((F54 r z0 z1 z2 z3).trans ((F40 r z0 z1 z2 z3).trans (F26 r z0 z1 z2 z3)))))) (by omega) (by omega)
            refine k_aload_n C rfl rfl rfl ?_
            refine k_iload C rfl rfl rfl ?_
            refine k_iload C rfl rfl rfl ?_
            refine k_aload_n C rfl rfl rfl ?_
            refine k_aload_n C rfl rfl rfl ?_
            refine k_iload C rfl rfl rfl ?_
            refine k_iload C rfl rfl rfl ?_
            refine c_VI C (a_X12_of hI94 H_r0 (by omega) (by omega) (by omega) (by omega)) rfl rfl rfl rfl rfl ⟨_, rfl, rfl, T_r0, Nat.le_of_ble_eq_true rfl⟩ rfl rfl (Nat.le_of_ble_eq_true rfl) (Nat.le_of_ble_eq_true rfl) (Nat.le_of_ble_eq_true rfl) ?_
            rintro x104 _ _ ⟨o0x104, o1x104, p0x104, rfl, rfl⟩
            have p0x104 := p0x104 r0_5 R_r0_5
            have gx104 := rg x104
            try simp only [e96, e97, e98, e99, e100, ex101] at p0x104
            try have q0x104 := congrArg Int32.toInt p0x104
            refine k_aload_n C rfl rfl rfl ?_
            refine k_iload C rfl rfl rfl ?_
            refine k_aload_n C rfl rfl rfl ?_
            refine z_bipush C (z := 47) rfl rfl rfl (fun x105 ex105 => ?_)
            refine k_iload C rfl rfl rfl ?_
            have q106 : x105.toNatClampNeg = 47 := nck (by omega)
            refine c_VI C (a_X12_of hI94 H_r0 (by omega) (by omega) (by omega) (by omega)) rfl rfl rfl rfl rfl ⟨_, rfl, rfl, T_r0, Nat.le_of_ble_eq_true rfl⟩ rfl rfl (Nat.le_of_ble_eq_true rfl) (Nat.le_of_ble_eq_true rfl) (Nat.le_of_ble_eq_true rfl) ?_
            rintro x107 _ _ ⟨o0x107, o1x107, p0x107, rfl, rfl⟩
            have p0x107 := p0x107 r0_5 R_r0_5
            have gx107 := rg x107
            try simp only [q106, e96, e97, e98, e99, e100, ex101] at p0x107
            try have q0x107 := congrArg Int32.toInt p0x107
            refine c_VI C (a_X12_times hI94 H_r0 (by omega) (by omega) (by omega) (by omega)) rfl rfl rfl rfl rfl ⟨_, rfl, rfl, T_r0, Nat.le_of_ble_eq_true rfl⟩ rfl rfl (Nat.le_of_ble_eq_true rfl) (Nat.le_of_ble_eq_true rfl) (Nat.le_of_ble_eq_true rfl) ?_
            rintro x108 _ _ ⟨o0x108, o1x108, p0x108, p1x108, p2x108, p3x108, rfl, rfl⟩
            have p0x108 := p0x108 r0_1 R_r0_1
            have p2x108 := p2x108 r0_1 R_r0_1
            have p3x108 := p3x108 r0_1 R_r0_1
            have gx108 := rg x108
            try simp only [e96, e97, e98, e99, e100, ex101] at p0x108
            try have q0x108 := congrArg Int32.toInt p0x108
            try simp only [e96, e97, e98, e99, e100, ex101] at p1x108
            try have q1x108 := congrArg Int32.toInt p1x108
            try simp only [e96, e97, e98, e99, e100, ex101] at p2x108
            try have q2x108 := congrArg Int32.toInt p2x108
            try simp only [e96, e97, e98, e99, e100, ex101] at p3x108
            try have q3x108 := congrArg Int32.toInt p3x108
            refine c_VI C (a_X12_plus hI94 H_r0 (by omega) (by omega) (by omega) (by omega)) rfl rfl rfl rfl rfl ⟨_, rfl, rfl, T_r0, Nat.le_of_ble_eq_true rfl⟩ rfl rfl (Nat.le_of_ble_eq_true rfl) (Nat.le_of_ble_eq_true rfl) (Nat.le_of_ble_eq_true rfl) ?_
            rintro x109 _ _ ⟨o0x109, o1x109, p0x109, p1x109, p2x109, rfl, rfl⟩
            have p0x109 := p0x109 r0_1 R_r0_1
            have p2x109 := p2x109 r0_1 R_r0_1
            have gx109 := rg x109
            try simp only [e96, e97, e98, e99, e100, ex101] at p0x109
            try have q0x109 := congrArg Int32.toInt p0x109
            try simp only [e96, e97, e98, e99, e100, ex101] at p1x109
            try have q1x109 := congrArg Int32.toInt p1x109
            try simp only [e96, e97, e98, e99, e100, ex101] at p2x109
            try have q2x109 := congrArg Int32.toInt p2x109
            refine c_VV C (a_X12_put hI94 H_r0 (by omega) (by omega) (by omega) (by omega) (by omega) (by omega)) rfl rfl rfl rfl rfl ⟨_, rfl, rfl, T_r0, Nat.le_of_ble_eq_true rfl⟩ rfl rfl (Nat.le_of_ble_eq_true rfl) (Nat.le_of_ble_eq_true rfl) (Nat.le_of_ble_eq_true rfl) ?_
            rintro I111 L112 ⟨p0v110, p1v110, hI111, S113⟩
            have p0v110 := p0v110 r0_5 R_r0_5
            have p1v110 := p1v110 r0_5 R_r0_5
            have F114 : ∀ r : Nat, (r < 41 * n4.toNatClampNeg ∨ 41 * n4.toNatClampNeg + 41 ≤ r) → (r < 41 * 45 ∨ 41 * 45 + 41 ≤ r) → (r < 41 * 46 ∨ 41 * 46 + 41 ≤ r) → (r < 41 * 47 ∨ 41 * 47 + 41 ≤ r) → I111 r0_5 r = I88 r0_5 r := fun r z0 z1 z2 z3 => p1v110 r (by first | exact z0 | exact z1 | exact z2 | exact z3)
            have e115 := CM.j S113 R_r0_4 (by decide) e96
            have e116 := CM.j S113 R_r0_4 (by decide) e97
            have e117 := CM.j S113 R_r0_1 (by decide) e98
            have e118 := CM.j S113 R_r0_4 (by decide) e99
            have e119 := CM.j S113 R_r0_4 (by decide) e100
            have e120 := CM.j S113 R_r0_4 (by decide) ex101
            try simp only [e96, e97, e98, e99, e100, ex101] at p0v110
            try have q0v110 := congrArg Int32.toInt p0v110
            refine z_iinc C (z := 1) (lw := fun x121 => [(7, .int x121), (0, .ref r0), (1, .int n1), (2, .int n2), (3, .int n3), (4, .int n4), (5, .int x20), (6, .int x84)]) rfl rfl rfl (Nat.le_of_ble_eq_true rfl) rfl ⟨by omega, by omega⟩ (fun _ => rfl) (fun x121 ex121 => ?_)
            show V 151 [(7, .int x121), (0, .ref r0), (1, .int n1), (2, .int n2), (3, .int n3), (4, .int n4), (5, .int x20), (6, .int x84)] _ _ _ _
            refine k_goto C (pc2 := 102) rfl rfl ?_
            refine k_sub S [(0, .ref r0), (1, .int n1), (2, .int n2), (3, .int n3), (4, .int n4), (5, .int x20), (6, .int x84), (7, .int x121)] (List.forall_mem_cons.mpr ⟨List.mem_of_getElem? (i := 1) rfl, List.forall_mem_cons.mpr ⟨List.mem_of_getElem? (i := 2) rfl, List.forall_mem_cons.mpr ⟨List.mem_of_getElem? (i := 3) rfl, List.forall_mem_cons.mpr ⟨List.mem_of_getElem? (i := 4) rfl, List.forall_mem_cons.mpr ⟨List.mem_of_getElem? (i := 5) rfl, List.forall_mem_cons.mpr ⟨List.mem_of_getElem? (i := 6) rfl, List.forall_mem_cons.mpr ⟨List.mem_of_getElem? (i := 7) rfl, List.forall_mem_cons.mpr ⟨List.mem_of_getElem? (i := 0) rfl, fun _ h => nomatch h⟩⟩⟩⟩⟩⟩⟩⟩) ?_
            exact ihJ86 _ (MN.lt hmnn87 (by omega) (by omega)) I111 L112 x121 rfl hI111 (CM.cons S93 (CM.mono S113 (by decide) (by decide)) (by decide) (by decide)) (fun r z0 z1 z2 z3 => ((F114 r z0 z1 z2 z3).trans (F95 r z0 z1 z2 z3))) (by omega) (by omega)
        refine k_istore C (lw := [(7, .int x85), (6, .int x84), (0, .ref r0), (1, .int n1), (2, .int n2), (3, .int n3), (4, .int n4), (5, .int x20)]) rfl rfl (Nat.le_of_ble_eq_true rfl) rfl ?_
        refine k_sub S [(0, .ref r0), (1, .int n1), (2, .int n2), (3, .int n3), (4, .int n4), (5, .int x20), (6, .int x84), (7, .int x85)] (List.forall_mem_cons.mpr ⟨List.mem_of_getElem? (i := 2) rfl, List.forall_mem_cons.mpr ⟨List.mem_of_getElem? (i := 3) rfl, List.forall_mem_cons.mpr ⟨List.mem_of_getElem? (i := 4) rfl, List.forall_mem_cons.mpr ⟨List.mem_of_getElem? (i := 5) rfl, List.forall_mem_cons.mpr ⟨List.mem_of_getElem? (i := 6) rfl, List.forall_mem_cons.mpr ⟨List.mem_of_getElem? (i := 7) rfl, List.forall_mem_cons.mpr ⟨List.mem_of_getElem? (i := 1) rfl, List.forall_mem_cons.mpr ⟨List.mem_of_getElem? (i := 0) rfl, fun _ h => nomatch h⟩⟩⟩⟩⟩⟩⟩⟩) ?_
        exact J86 _ I68 L69 x85 rfl hI68 CM.rf (fun r z0 z1 z2 z3 => rfl) (by omega) (by omega)
      refine k_iload_n C rfl rfl rfl ?_
      refine k_iload C rfl rfl rfl ?_
      refine c_SI C (a_X12_over (by omega) (by omega) (by omega) (by omega)) rfl rfl rfl rfl rfl rfl rfl (Nat.le_of_ble_eq_true rfl) (Nat.le_of_ble_eq_true rfl) (Nat.le_of_ble_eq_true rfl) ?_
      rintro x122 _ _ ⟨rfl, rfl⟩
      have gx122 := rg x122
      refine z_i2l C rfl rfl (fun lg123 elg123 => ?_)
      refine k_goto C (pc2 := 94) rfl rfl ?_
      refine c_VI C (a_X12_mod hI68 H_r0) rfl rfl rfl rfl rfl ⟨_, rfl, rfl, T_r0, Nat.le_of_ble_eq_true rfl⟩ rfl rfl (Nat.le_of_ble_eq_true rfl) (Nat.le_of_ble_eq_true rfl) (Nat.le_of_ble_eq_true rfl) ?_
      rintro x124 _ _ ⟨o0x124, o1x124, p0x124, rfl, rfl⟩
      have p0x124 := p0x124 r0_1 R_r0_1
      have gx124 := rg x124
      try simp only [e73, e74, e75, e76, e77] at p0x124
      try have q0x124 := congrArg Int32.toInt p0x124
      refine k_istore C (lw := [(6, .int x124), (0, .ref r0), (1, .int n1), (2, .int n2), (3, .int n3), (4, .int n4), (5, .int x20)]) rfl rfl (Nat.le_of_ble_eq_true rfl) rfl ?_
      refine z_iconst C (z := 0) rfl rfl rfl (fun x125 ex125 => ?_)
      have J126 : ∀ (nn127 : Nat) (I128 : IT) (L129 : LT) (x130 : Int32), (MN (41 - x130.toInt) nn127) → (IM R r0 I128) → (CM A R r0 [] [5] I68 L69 I128 L129) → (∀ r : Nat, (r < 41 * n4.toNatClampNeg ∨ 41 * n4.toNatClampNeg + 41 ≤ r) → (r < 41 * 45 ∨ 41 * 45 + 41 ≤ r) → (r < 41 * 46 ∨ 41 * 46 + 41 ≤ r) → (r < 41 * 47 ∨ 41 * 47 + 41 ≤ r) → I128 r0_5 r = I68 r0_5 r) → (0 ≤ x130.toInt) → (x130.toInt ≤ 41) → V 102 [(0, .ref r0), (1, .int n1), (2, .int n2), (3, .int n3), (4, .int n4), (5, .int x20), (6, .int x124), (7, .int x130)] [] (T, N, I128, L129, R) 0 0 := by
        intro nn127
        induction nn127 using Nat.strongRecOn with
        | _ nn127 ihJ126 =>
          intro I128 L129 x130 hmnn127 hI134 S133 F135 b131 b132
          have gx130 := rg x130
          have e136 := CM.j S133 R_r0_4 (by decide) e73
          have e137 := CM.j S133 R_r0_4 (by decide) e74
          have e138 := CM.j S133 R_r0_1 (by decide) e75
          have e139 := CM.j S133 R_r0_4 (by decide) e76
          have e140 := CM.j S133 R_r0_4 (by decide) e77
          refine k_iload C rfl rfl rfl ?_
          refine k_aload_n C rfl rfl rfl ?_
          refine g_R C rfl rfl rfl T_r0 rfl R_r0_4 ?_
          refine k_iload C rfl rfl rfl ?_
          refine z_aI C rfl rfl T_r0_4 N_r0_4 (by omega) (by omega) (fun x141 ex141 => ?_)
          have gx141 := rg x141
          have ox141 := IM.dgR hI134 R_r0_4 ex141
          refine b_icmp_gt C (t := 154) rfl rfl rfl (fun c142 => ?_) (fun c142 => ?_)
          · skip
            refine z_iinc C (z := 1) (lw := fun x143 => [(5, .int x143), (0, .ref r0), (1, .int n1), (2, .int n2), (3, .int n3), (4, .int n4), (6, .int x124), (7, .int x130)]) rfl rfl rfl (Nat.le_of_ble_eq_true rfl) rfl ⟨by omega, by omega⟩ (fun _ => rfl) (fun x143 ex143 => ?_)
            show V 157 [(5, .int x143), (0, .ref r0), (1, .int n1), (2, .int n2), (3, .int n3), (4, .int n4), (6, .int x124), (7, .int x130)] _ _ _ _
            refine k_goto C (pc2 := 26) rfl rfl ?_
            refine k_sub S [(0, .ref r0), (1, .int n1), (2, .int n2), (3, .int n3), (4, .int n4), (5, .int x143)] (List.forall_mem_cons.mpr ⟨List.mem_of_getElem? (i := 1) rfl, List.forall_mem_cons.mpr ⟨List.mem_of_getElem? (i := 2) rfl, List.forall_mem_cons.mpr ⟨List.mem_of_getElem? (i := 3) rfl, List.forall_mem_cons.mpr ⟨List.mem_of_getElem? (i := 4) rfl, List.forall_mem_cons.mpr ⟨List.mem_of_getElem? (i := 5) rfl, List.forall_mem_cons.mpr ⟨List.mem_of_getElem? (i := 0) rfl, fun _ h => nomatch h⟩⟩⟩⟩⟩⟩) ?_
            exact ihJ16 _ (MN.lt hmnn17 (by omega) (by omega)) I128 L129 x143 rfl hI134 (CM.cons S23 (CM.cons S38 (CM.cons S52 (CM.cons S70 (CM.mono S133 (by decide) (by decide)) (by decide) (by decide)) (by decide) (by decide)) (by decide) (by decide)) (by decide) (by decide)) (fun r z0 z1 z2 z3 => ((congrFun (CM.j0 S133 R_r0_4 (by decide)) r).trans ((F71 r z0 z1 z2 z3).trans ((F53 r z0 z1 z2 z3).trans ((F39 r z0 z1 z2 z3).trans (F25 r z0 z1 z2 z3)))))) (fun r z0 z1 z2 z3 => ((F135 r z0 z1 z2 z3).trans ((F72 r z0 z1 z2 z3).trans ((F54 r z0 z1 z2 z3).trans ((F40 r z0 z1 z2 z3).trans (F26 r z0 z1 z2 z3)))))) (by omega) (by omega)
          refine k_aload_n C rfl rfl rfl ?_
          refine k_iload C rfl rfl rfl ?_
          refine k_iload C rfl rfl rfl ?_
          refine k_aload_n C rfl rfl rfl ?_
          refine k_aload_n C rfl rfl rfl ?_
          refine k_iload C rfl rfl rfl ?_
          refine k_iload C rfl rfl rfl ?_
          refine c_VI C (a_X12_of hI134 H_r0 (by omega) (by omega) (by omega) (by omega)) rfl rfl rfl rfl rfl ⟨_, rfl, rfl, T_r0, Nat.le_of_ble_eq_true rfl⟩ rfl rfl (Nat.le_of_ble_eq_true rfl) (Nat.le_of_ble_eq_true rfl) (Nat.le_of_ble_eq_true rfl) ?_
          rintro x144 _ _ ⟨o0x144, o1x144, p0x144, rfl, rfl⟩
          have p0x144 := p0x144 r0_5 R_r0_5
          have gx144 := rg x144
          try simp only [e136, e137, e138, e139, e140, ex141] at p0x144
          try have q0x144 := congrArg Int32.toInt p0x144
          refine k_aload_n C rfl rfl rfl ?_
          refine k_iload C rfl rfl rfl ?_
          refine k_aload_n C rfl rfl rfl ?_
          refine z_bipush C (z := 47) rfl rfl rfl (fun x145 ex145 => ?_)
          refine k_iload C rfl rfl rfl ?_
          have q146 : x145.toNatClampNeg = 47 := nck (by omega)
          refine c_VI C (a_X12_of hI134 H_r0 (by omega) (by omega) (by omega) (by omega)) rfl rfl rfl rfl rfl ⟨_, rfl, rfl, T_r0, Nat.le_of_ble_eq_true rfl⟩ rfl rfl (Nat.le_of_ble_eq_true rfl) (Nat.le_of_ble_eq_true rfl) (Nat.le_of_ble_eq_true rfl) ?_
          rintro x147 _ _ ⟨o0x147, o1x147, p0x147, rfl, rfl⟩
          have p0x147 := p0x147 r0_5 R_r0_5
          have gx147 := rg x147
          try simp only [q146, e136, e137, e138, e139, e140, ex141] at p0x147
          try have q0x147 := congrArg Int32.toInt p0x147
          refine c_VI C (a_X12_times hI134 H_r0 (by omega) (by omega) (by omega) (by omega)) rfl rfl rfl rfl rfl ⟨_, rfl, rfl, T_r0, Nat.le_of_ble_eq_true rfl⟩ rfl rfl (Nat.le_of_ble_eq_true rfl) (Nat.le_of_ble_eq_true rfl) (Nat.le_of_ble_eq_true rfl) ?_
          rintro x148 _ _ ⟨o0x148, o1x148, p0x148, p1x148, p2x148, p3x148, rfl, rfl⟩
          have p0x148 := p0x148 r0_1 R_r0_1
          have p2x148 := p2x148 r0_1 R_r0_1
          have p3x148 := p3x148 r0_1 R_r0_1
          have gx148 := rg x148
          try simp only [e136, e137, e138, e139, e140, ex141] at p0x148
          try have q0x148 := congrArg Int32.toInt p0x148
          try simp only [e136, e137, e138, e139, e140, ex141] at p1x148
          try have q1x148 := congrArg Int32.toInt p1x148
          try simp only [e136, e137, e138, e139, e140, ex141] at p2x148
          try have q2x148 := congrArg Int32.toInt p2x148
          try simp only [e136, e137, e138, e139, e140, ex141] at p3x148
          try have q3x148 := congrArg Int32.toInt p3x148
          refine c_VI C (a_X12_plus hI134 H_r0 (by omega) (by omega) (by omega) (by omega)) rfl rfl rfl rfl rfl ⟨_, rfl, rfl, T_r0, Nat.le_of_ble_eq_true rfl⟩ rfl rfl (Nat.le_of_ble_eq_true rfl) (Nat.le_of_ble_eq_true rfl) (Nat.le_of_ble_eq_true rfl) ?_
          rintro x149 _ _ ⟨o0x149, o1x149, p0x149, p1x149, p2x149, rfl, rfl⟩
          have p0x149 := p0x149 r0_1 R_r0_1
          have p2x149 := p2x149 r0_1 R_r0_1
          have gx149 := rg x149
          try simp only [e136, e137, e138, e139, e140, ex141] at p0x149
          try have q0x149 := congrArg Int32.toInt p0x149
          try simp only [e136, e137, e138, e139, e140, ex141] at p1x149
          try have q1x149 := congrArg Int32.toInt p1x149
          try simp only [e136, e137, e138, e139, e140, ex141] at p2x149
          try have q2x149 := congrArg Int32.toInt p2x149
          refine c_VV C (a_X12_put hI134 H_r0 (by omega) (by omega) (by omega) (by omega) (by omega) (by omega)) rfl rfl rfl rfl rfl ⟨_, rfl, rfl, T_r0, Nat.le_of_ble_eq_true rfl⟩ rfl rfl (Nat.le_of_ble_eq_true rfl) (Nat.le_of_ble_eq_true rfl) (Nat.le_of_ble_eq_true rfl) ?_
          rintro I151 L152 ⟨p0v150, p1v150, hI151, S153⟩
          have p0v150 := p0v150 r0_5 R_r0_5
          have p1v150 := p1v150 r0_5 R_r0_5
          have F154 : ∀ r : Nat, (r < 41 * n4.toNatClampNeg ∨ 41 * n4.toNatClampNeg + 41 ≤ r) → (r < 41 * 45 ∨ 41 * 45 + 41 ≤ r) → (r < 41 * 46 ∨ 41 * 46 + 41 ≤ r) → (r < 41 * 47 ∨ 41 * 47 + 41 ≤ r) → I151 r0_5 r = I128 r0_5 r := fun r z0 z1 z2 z3 => p1v150 r (by first | exact z0 | exact z1 | exact z2 | exact z3)
          have e155 := CM.j S153 R_r0_4 (by decide) e136
          have e156 := CM.j S153 R_r0_4 (by decide) e137
          have e157 := CM.j S153 R_r0_1 (by decide) e138
          have e158 := CM.j S153 R_r0_4 (by decide) e139
          have e159 := CM.j S153 R_r0_4 (by decide) e140
          have e160 := CM.j S153 R_r0_4 (by decide) ex141
          try simp only [e136, e137, e138, e139, e140, ex141] at p0v150
          try have q0v150 := congrArg Int32.toInt p0v150
          refine z_iinc C (z := 1) (lw := fun x161 => [(7, .int x161), (0, .ref r0), (1, .int n1), (2, .int n2), (3, .int n3), (4, .int n4), (5, .int x20), (6, .int x124)]) rfl rfl rfl (Nat.le_of_ble_eq_true rfl) rfl ⟨by omega, by omega⟩ (fun _ => rfl) (fun x161 ex161 => ?_)
          show V 151 [(7, .int x161), (0, .ref r0), (1, .int n1), (2, .int n2), (3, .int n3), (4, .int n4), (5, .int x20), (6, .int x124)] _ _ _ _
          refine k_goto C (pc2 := 102) rfl rfl ?_
          refine k_sub S [(0, .ref r0), (1, .int n1), (2, .int n2), (3, .int n3), (4, .int n4), (5, .int x20), (6, .int x124), (7, .int x161)] (List.forall_mem_cons.mpr ⟨List.mem_of_getElem? (i := 1) rfl, List.forall_mem_cons.mpr ⟨List.mem_of_getElem? (i := 2) rfl, List.forall_mem_cons.mpr ⟨List.mem_of_getElem? (i := 3) rfl, List.forall_mem_cons.mpr ⟨List.mem_of_getElem? (i := 4) rfl, List.forall_mem_cons.mpr ⟨List.mem_of_getElem? (i := 5) rfl, List.forall_mem_cons.mpr ⟨List.mem_of_getElem? (i := 6) rfl, List.forall_mem_cons.mpr ⟨List.mem_of_getElem? (i := 7) rfl, List.forall_mem_cons.mpr ⟨List.mem_of_getElem? (i := 0) rfl, fun _ h => nomatch h⟩⟩⟩⟩⟩⟩⟩⟩) ?_
          exact ihJ126 _ (MN.lt hmnn127 (by omega) (by omega)) I151 L152 x161 rfl hI151 (CM.cons S133 (CM.mono S153 (by decide) (by decide)) (by decide) (by decide)) (fun r z0 z1 z2 z3 => ((F154 r z0 z1 z2 z3).trans (F135 r z0 z1 z2 z3))) (by omega) (by omega)
      refine k_istore C (lw := [(7, .int x125), (6, .int x124), (0, .ref r0), (1, .int n1), (2, .int n2), (3, .int n3), (4, .int n4), (5, .int x20)]) rfl rfl (Nat.le_of_ble_eq_true rfl) rfl ?_
      refine k_sub S [(0, .ref r0), (1, .int n1), (2, .int n2), (3, .int n3), (4, .int n4), (5, .int x20), (6, .int x124), (7, .int x125)] (List.forall_mem_cons.mpr ⟨List.mem_of_getElem? (i := 2) rfl, List.forall_mem_cons.mpr ⟨List.mem_of_getElem? (i := 3) rfl, List.forall_mem_cons.mpr ⟨List.mem_of_getElem? (i := 4) rfl, List.forall_mem_cons.mpr ⟨List.mem_of_getElem? (i := 5) rfl, List.forall_mem_cons.mpr ⟨List.mem_of_getElem? (i := 6) rfl, List.forall_mem_cons.mpr ⟨List.mem_of_getElem? (i := 7) rfl, List.forall_mem_cons.mpr ⟨List.mem_of_getElem? (i := 1) rfl, List.forall_mem_cons.mpr ⟨List.mem_of_getElem? (i := 0) rfl, fun _ h => nomatch h⟩⟩⟩⟩⟩⟩⟩⟩) ?_
      exact J126 _ I68 L69 x125 rfl hI68 CM.rf (fun r z0 z1 z2 z3 => rfl) (by omega) (by omega)
  refine k_istore C (lw := [(5, .int x15), (0, .ref r0), (1, .int n1), (2, .int n2), (3, .int n3), (4, .int n4)]) rfl rfl (Nat.le_of_ble_eq_true rfl) rfl ?_
  refine k_sub S [(0, .ref r0), (1, .int n1), (2, .int n2), (3, .int n3), (4, .int n4), (5, .int x15)] (List.forall_mem_cons.mpr ⟨List.mem_of_getElem? (i := 1) rfl, List.forall_mem_cons.mpr ⟨List.mem_of_getElem? (i := 2) rfl, List.forall_mem_cons.mpr ⟨List.mem_of_getElem? (i := 3) rfl, List.forall_mem_cons.mpr ⟨List.mem_of_getElem? (i := 4) rfl, List.forall_mem_cons.mpr ⟨List.mem_of_getElem? (i := 5) rfl, List.forall_mem_cons.mpr ⟨List.mem_of_getElem? (i := 0) rfl, fun _ h => nomatch h⟩⟩⟩⟩⟩⟩) ?_
  exact J16 _ I6 L7 x15 rfl hI6 CM.rf (fun r z0 z1 z2 z3 => rfl) (fun r z0 z1 z2 z3 => rfl) (by omega) (by omega)

theorem a_X12_takesTable {d : Nat} {T N : Nat → Nat} {I : IT} {L : LT} {R : RT} {A : Nat → Prop} {r0 : Nat} {n1 n2 n3 n4 : Int32} (hI : IM R r0 I) (H_r0 : (h_MD T N R A) r0) (b0_n1 : -18 ≤ n1.toInt) (b1_n1 : n1.toInt ≤ 18) (b0_n2 : -18 ≤ n2.toInt) (b1_n2 : n2.toInt ≤ 18) (b0_n3 : -18 ≤ n3.toInt) (b1_n3 : n3.toInt ≤ 18) (b0_n4 : -18 ≤ n4.toInt) (b1_n4 : n4.toInt ≤ 18) : Ex (d + 1) 210 [.ref r0, .int n1, .int n2, .int n3, .int n4] (T, N, I, L, R) 0 0 (pV T N R (fun I9 L9 => (IM R r0 I9 ∧ CM A R r0 [6, 7, 8, 9] [] I L I9 L9))) := by
  refine ⟨_, rfl, Nat.le_of_ble_eq_true rfl, fun V C S => ?_⟩
  show V 0 [(0, .ref r0), (1, .int n1), (2, .int n2), (3, .int n3), (4, .int n4)] [] (T, N, I, L, R) 0 0
  have gn1 := rg n1
  have gn2 := rg n2
  have gn3 := rg n3
  have gn4 := rg n4
  obtain ⟨T_r0, A_r0, ⟨r0_1, R_r0_1, H_r0_1⟩, ⟨r0_2, R_r0_2, H_r0_2⟩, ⟨r0_4, R_r0_4, H_r0_4⟩, ⟨r0_5, R_r0_5, H_r0_5⟩, ⟨r0_10, R_r0_10, H_r0_10⟩, ⟨r0_18, R_r0_18, H_r0_18⟩, ⟨r0_20, R_r0_20, H_r0_20⟩, ⟨r0_21, R_r0_21, H_r0_21⟩, ⟨r0_22, R_r0_22, H_r0_22⟩, ⟨r0_23, R_r0_23, H_r0_23⟩, ⟨r0_25, R_r0_25, H_r0_25⟩, ⟨r0_26, R_r0_26, H_r0_26⟩, ⟨r0_27, R_r0_27, H_r0_27⟩, ⟨r0_28, R_r0_28, H_r0_28⟩, ⟨r0_34, R_r0_34, H_r0_34⟩, J_r0, Y_r0⟩ := id H_r0
  have G_r0 : mF T R r0 := ⟨J_r0, Y_r0, T_r0⟩
  refine k_aload_n C rfl rfl rfl ?_
  refine k_iload_n C rfl rfl rfl ?_
  refine z_pI C rfl rfl rfl T_r0 (Or.inr rfl) rfl (fun I1 uI1 => ?_)
  have hI1 : IM R r0 I1 := IM.fld hI G_r0 ⟨(fun h => absurd h (by decide)), (fun h => absurd h (by decide)), (fun h => absurd h (by decide)), (fun h => absurd h (by decide)), (fun _ => ⟨by omega, by omega⟩)⟩ uI1
  have S2 : CM A R r0 [6] [] I L I1 L := CM.f G_r0 A_r0 uI1
  have e3 := u2_e uI1
  refine k_aload_n C rfl rfl rfl ?_
  refine k_iload_n C rfl rfl rfl ?_
  refine z_pI C rfl rfl rfl T_r0 (Or.inr rfl) rfl (fun I4 uI4 => ?_)
  have hI4 : IM R r0 I4 := IM.fld hI1 G_r0 ⟨(fun h => absurd h (by decide)), (fun h => absurd h (by decide)), (fun h => absurd h (by decide)), (fun h => absurd h (by decide)), (fun _ => ⟨by omega, by omega⟩)⟩ uI4
  have S5 : CM A R r0 [7] [] I1 L I4 L := CM.f G_r0 A_r0 uI4
  have e6 := u2_j uI4 (by first | decide | exact ncne (by omega) (by omega) (by omega) | exact nckn (by omega) (by omega) | exact (nckn (by omega) (by omega)).symm) e3
  have e7 := u2_e uI4
  refine k_aload_n C rfl rfl rfl ?_
  refine k_iload_n C rfl rfl rfl ?_
  refine z_pI C rfl rfl rfl T_r0 (Or.inr rfl) rfl (fun I8 uI8 => ?_)
  have hI8 : IM R r0 I8 := IM.fld hI4 G_r0 ⟨(fun h => absurd h (by decide)), (fun h => absurd h (by decide)), (fun h => absurd h (by decide)), (fun h => absurd h (by decide)), (fun _ => ⟨by omega, by omega⟩)⟩ uI8
  have S9 : CM A R r0 [8] [] I4 L I8 L := CM.f G_r0 A_r0 uI8
  have e10 := u2_j uI8 (by first | decide | exact ncne (by omega) (by omega) (by omega) | exact nckn (by omega) (by omega) | exact (nckn (by omega) (by omega)).symm) e6
  have e11 := u2_j uI8 (by first | decide | exact ncne (by omega) (by omega) (by omega) | exact nckn (by omega) (by omega) | exact (nckn (by omega) (by omega)).symm) e7
  have e12 := u2_e uI8
  refine k_aload_n C rfl rfl rfl ?_
  refine k_iload C rfl rfl rfl ?_
  refine z_pI C rfl rfl rfl T_r0 (Or.inr rfl) rfl (fun I13 uI13 => ?_)
  have hI13 : IM R r0 I13 := IM.fld hI8 G_r0 ⟨(fun h => absurd h (by decide)), (fun h => absurd h (by decide)), (fun h => absurd h (by decide)), (fun h => absurd h (by decide)), (fun _ => ⟨by omega, by omega⟩)⟩ uI13
  have S14 : CM A R r0 [9] [] I8 L I13 L := CM.f G_r0 A_r0 uI13
  have e15 := u2_j uI13 (by first | decide | exact ncne (by omega) (by omega) (by omega) | exact nckn (by omega) (by omega) | exact (nckn (by omega) (by omega)).symm) e10
  have e16 := u2_j uI13 (by first | decide | exact ncne (by omega) (by omega) (by omega) | exact nckn (by omega) (by omega) | exact (nckn (by omega) (by omega)).symm) e11
  have e17 := u2_j uI13 (by first | decide | exact ncne (by omega) (by omega) (by omega) | exact nckn (by omega) (by omega) | exact (nckn (by omega) (by omega)).symm) e12
  have e18 := u2_e uI13
  exact k_vret C rfl rfl (Nat.le_of_ble_eq_true rfl) (Nat.le_of_ble_eq_true rfl) ⟨_, _, rfl, rfl, hI13, (CM.cons S2 (CM.cons S5 (CM.cons S9 (CM.mono S14 (by decide) (by decide)) (by decide) (by decide)) (by decide) (by decide)) (by decide) (by decide))⟩

theorem a_X12_tables {d : Nat} {T N : Nat → Nat} {I : IT} {L : LT} {R : RT} {A : Nat → Prop} {r0 : Nat} {n1 : Int32} (hI : IM R r0 I) (H_r0 : (h_MD T N R A) r0) (b0_n1 : 0 ≤ n1.toInt) (b1_n1 : n1.toInt ≤ 7) : Ex (d + 2) 211 [.ref r0, .int n1] (T, N, I, L, R) 0 0 (pV T N R (fun I9 L9 => (IM R r0 I9 ∧ CM A R r0 [6, 7, 8, 9] [] I L I9 L9))) := by
  refine ⟨_, rfl, Nat.le_of_ble_eq_true rfl, fun V C S => ?_⟩
  show V 0 [(0, .ref r0), (1, .int n1)] [] (T, N, I, L, R) 0 0
  have gn1 := rg n1
  obtain ⟨T_r0, A_r0, ⟨r0_1, R_r0_1, H_r0_1⟩, ⟨r0_2, R_r0_2, H_r0_2⟩, ⟨r0_4, R_r0_4, H_r0_4⟩, ⟨r0_5, R_r0_5, H_r0_5⟩, ⟨r0_10, R_r0_10, H_r0_10⟩, ⟨r0_18, R_r0_18, H_r0_18⟩, ⟨r0_20, R_r0_20, H_r0_20⟩, ⟨r0_21, R_r0_21, H_r0_21⟩, ⟨r0_22, R_r0_22, H_r0_22⟩, ⟨r0_23, R_r0_23, H_r0_23⟩, ⟨r0_25, R_r0_25, H_r0_25⟩, ⟨r0_26, R_r0_26, H_r0_26⟩, ⟨r0_27, R_r0_27, H_r0_27⟩, ⟨r0_28, R_r0_28, H_r0_28⟩, ⟨r0_34, R_r0_34, H_r0_34⟩, J_r0, Y_r0⟩ := id H_r0
  have G_r0 : mF T R r0 := ⟨J_r0, Y_r0, T_r0⟩
  refine k_aload_n C rfl rfl rfl ?_
  refine k_aload_n C rfl rfl rfl ?_
  refine k_iload_n C rfl rfl rfl ?_
  refine z_iconst C (z := 0) rfl rfl rfl (fun x1 ex1 => ?_)
  have q2 : x1.toNatClampNeg = 0 := nck (by omega)
  refine c_VI C (a_X12_ofTable hI H_r0 (by omega) (by omega) (by omega) (by omega)) rfl rfl rfl rfl rfl ⟨_, rfl, rfl, T_r0, Nat.le_of_ble_eq_true rfl⟩ rfl rfl (Nat.le_of_ble_eq_true rfl) (Nat.le_of_ble_eq_true rfl) (Nat.le_of_ble_eq_true rfl) ?_
  rintro x3 _ _ ⟨o0x3, o1x3, p0x3, rfl, rfl⟩
  have p0x3 := p0x3 r0_1 R_r0_1
  have gx3 := rg x3
  try simp only [q2] at p0x3
  try have q0x3 := congrArg Int32.toInt p0x3
  refine k_aload_n C rfl rfl rfl ?_
  refine k_iload_n C rfl rfl rfl ?_
  refine z_iconst C (z := 1) rfl rfl rfl (fun x4 ex4 => ?_)
  have q5 : x4.toNatClampNeg = 1 := nck (by omega)
  refine c_VI C (a_X12_ofTable hI H_r0 (by omega) (by omega) (by omega) (by omega)) rfl rfl rfl rfl rfl ⟨_, rfl, rfl, T_r0, Nat.le_of_ble_eq_true rfl⟩ rfl rfl (Nat.le_of_ble_eq_true rfl) (Nat.le_of_ble_eq_true rfl) (Nat.le_of_ble_eq_true rfl) ?_
  rintro x6 _ _ ⟨o0x6, o1x6, p0x6, rfl, rfl⟩
  have p0x6 := p0x6 r0_1 R_r0_1
  have gx6 := rg x6
  try simp only [q5] at p0x6
  try have q0x6 := congrArg Int32.toInt p0x6
  refine k_aload_n C rfl rfl rfl ?_
  refine k_iload_n C rfl rfl rfl ?_
  refine z_iconst C (z := 2) rfl rfl rfl (fun x7 ex7 => ?_)
  have q8 : x7.toNatClampNeg = 2 := nck (by omega)
  refine c_VI C (a_X12_ofTable hI H_r0 (by omega) (by omega) (by omega) (by omega)) rfl rfl rfl rfl rfl ⟨_, rfl, rfl, T_r0, Nat.le_of_ble_eq_true rfl⟩ rfl rfl (Nat.le_of_ble_eq_true rfl) (Nat.le_of_ble_eq_true rfl) (Nat.le_of_ble_eq_true rfl) ?_
  rintro x9 _ _ ⟨o0x9, o1x9, p0x9, rfl, rfl⟩
  have p0x9 := p0x9 r0_1 R_r0_1
  have gx9 := rg x9
  try simp only [q8] at p0x9
  try have q0x9 := congrArg Int32.toInt p0x9
  refine k_aload_n C rfl rfl rfl ?_
  refine k_iload_n C rfl rfl rfl ?_
  refine z_iconst C (z := 3) rfl rfl rfl (fun x10 ex10 => ?_)
  have q11 : x10.toNatClampNeg = 3 := nck (by omega)
  refine c_VI C (a_X12_ofTable hI H_r0 (by omega) (by omega) (by omega) (by omega)) rfl rfl rfl rfl rfl ⟨_, rfl, rfl, T_r0, Nat.le_of_ble_eq_true rfl⟩ rfl rfl (Nat.le_of_ble_eq_true rfl) (Nat.le_of_ble_eq_true rfl) (Nat.le_of_ble_eq_true rfl) ?_
  rintro x12 _ _ ⟨o0x12, o1x12, p0x12, rfl, rfl⟩
  have p0x12 := p0x12 r0_1 R_r0_1
  have gx12 := rg x12
  try simp only [q11] at p0x12
  try have q0x12 := congrArg Int32.toInt p0x12
  refine c_VV C (a_X12_takesTable hI H_r0 (by omega) (by omega) (by omega) (by omega) (by omega) (by omega) (by omega) (by omega)) rfl rfl rfl rfl rfl ⟨_, rfl, rfl, T_r0, Nat.le_of_ble_eq_true rfl⟩ rfl rfl (Nat.le_of_ble_eq_true rfl) (Nat.le_of_ble_eq_true rfl) (Nat.le_of_ble_eq_true rfl) ?_
  rintro I14 L15 ⟨hI14, S16⟩
  exact k_vret C rfl rfl (Nat.le_of_ble_eq_true rfl) (Nat.le_of_ble_eq_true rfl) ⟨_, _, rfl, rfl, hI14, (CM.mono S16 (by decide) (by decide))⟩

theorem a_X12_detNow {d : Nat} {T N : Nat → Nat} {I : IT} {L : LT} {R : RT} {A : Nat → Prop} {r0 : Nat} (hI : IM R r0 I) (H_r0 : (h_MD T N R A) r0) : Ex (d + 3) 212 [.ref r0] (T, N, I, L, R) 0 0 (pI T N R (fun x9 I9 L9 => (-18 ≤ x9.toInt) ∧ (x9.toInt ≤ 18) ∧ (I = I9 ∧ L = L9))) := by
  refine ⟨_, rfl, Nat.le_of_ble_eq_true rfl, fun V C S => ?_⟩
  show V 0 [(0, .ref r0)] [] (T, N, I, L, R) 0 0
  obtain ⟨T_r0, A_r0, ⟨r0_1, R_r0_1, H_r0_1⟩, ⟨r0_2, R_r0_2, H_r0_2⟩, ⟨r0_4, R_r0_4, H_r0_4⟩, ⟨r0_5, R_r0_5, H_r0_5⟩, ⟨r0_10, R_r0_10, H_r0_10⟩, ⟨r0_18, R_r0_18, H_r0_18⟩, ⟨r0_20, R_r0_20, H_r0_20⟩, ⟨r0_21, R_r0_21, H_r0_21⟩, ⟨r0_22, R_r0_22, H_r0_22⟩, ⟨r0_23, R_r0_23, H_r0_23⟩, ⟨r0_25, R_r0_25, H_r0_25⟩, ⟨r0_26, R_r0_26, H_r0_26⟩, ⟨r0_27, R_r0_27, H_r0_27⟩, ⟨r0_28, R_r0_28, H_r0_28⟩, ⟨r0_34, R_r0_34, H_r0_34⟩, J_r0, Y_r0⟩ := id H_r0
  have G_r0 : mF T R r0 := ⟨J_r0, Y_r0, T_r0⟩
  refine k_aload_n C rfl rfl rfl ?_
  refine k_aload_n C rfl rfl rfl ?_
  refine k_aload_n C rfl rfl rfl ?_
  refine z_gI C rfl rfl rfl T_r0 rfl (fun x1 ex1 => ?_)
  have gx1 := rg x1
  have ox1 := IM.f6 hI ex1
  refine k_aload_n C rfl rfl rfl ?_
  refine z_gI C rfl rfl rfl T_r0 rfl (fun x2 ex2 => ?_)
  have gx2 := rg x2
  have ox2 := IM.f9 hI ex2
  obtain ⟨x3, e4⟩ : ∃ x, I r0_1 0 = x := ⟨_, rfl⟩
  have gx3 := rg x3
  have ox3 := IM.pi hI R_r0_1 e4
  refine c_VI C (a_X12_times hI H_r0 (by omega) (by omega) (by omega) (by omega)) rfl rfl rfl rfl rfl ⟨_, rfl, rfl, T_r0, Nat.le_of_ble_eq_true rfl⟩ rfl rfl (Nat.le_of_ble_eq_true rfl) (Nat.le_of_ble_eq_true rfl) (Nat.le_of_ble_eq_true rfl) ?_
  rintro x5 _ _ ⟨o0x5, o1x5, p0x5, p1x5, p2x5, p3x5, rfl, rfl⟩
  have p0x5 := p0x5 r0_1 R_r0_1
  have p2x5 := p2x5 r0_1 R_r0_1
  have p3x5 := p3x5 r0_1 R_r0_1
  have gx5 := rg x5
  try simp only [ex1, ex2, e4] at p0x5
  try have q0x5 := congrArg Int32.toInt p0x5
  try simp only [ex1, ex2, e4] at p1x5
  try have q1x5 := congrArg Int32.toInt p1x5
  try simp only [ex1, ex2, e4] at p2x5
  try have q2x5 := congrArg Int32.toInt p2x5
  try simp only [ex1, ex2, e4] at p3x5
  try have q3x5 := congrArg Int32.toInt p3x5
  refine k_aload_n C rfl rfl rfl ?_
  refine k_aload_n C rfl rfl rfl ?_
  refine z_gI C rfl rfl rfl T_r0 rfl (fun x6 ex6 => ?_)
  have gx6 := rg x6
  have ox6 := IM.f7 hI ex6
  refine k_aload_n C rfl rfl rfl ?_
  refine z_gI C rfl rfl rfl T_r0 rfl (fun x7 ex7 => ?_)
  have gx7 := rg x7
  have ox7 := IM.f8 hI ex7
  refine c_VI C (a_X12_times hI H_r0 (by omega) (by omega) (by omega) (by omega)) rfl rfl rfl rfl rfl ⟨_, rfl, rfl, T_r0, Nat.le_of_ble_eq_true rfl⟩ rfl rfl (Nat.le_of_ble_eq_true rfl) (Nat.le_of_ble_eq_true rfl) (Nat.le_of_ble_eq_true rfl) ?_
  rintro x8 _ _ ⟨o0x8, o1x8, p0x8, p1x8, p2x8, p3x8, rfl, rfl⟩
  have p0x8 := p0x8 r0_1 R_r0_1
  have p2x8 := p2x8 r0_1 R_r0_1
  have p3x8 := p3x8 r0_1 R_r0_1
  have gx8 := rg x8
  try simp only [ex1, ex2, e4, ex6, ex7] at p0x8
  try have q0x8 := congrArg Int32.toInt p0x8
  try simp only [ex1, ex2, e4, ex6, ex7] at p1x8
  try have q1x8 := congrArg Int32.toInt p1x8
  try simp only [ex1, ex2, e4, ex6, ex7] at p2x8
  try have q2x8 := congrArg Int32.toInt p2x8
  try simp only [ex1, ex2, e4, ex6, ex7] at p3x8
  try have q3x8 := congrArg Int32.toInt p3x8
  refine c_VI C (a_X12_less hI H_r0 (by omega) (by omega) (by omega) (by omega)) rfl rfl rfl rfl rfl ⟨_, rfl, rfl, T_r0, Nat.le_of_ble_eq_true rfl⟩ rfl rfl (Nat.le_of_ble_eq_true rfl) (Nat.le_of_ble_eq_true rfl) (Nat.le_of_ble_eq_true rfl) ?_
  rintro x9 _ _ ⟨o0x9, o1x9, p0x9, p1x9, p2x9, p3x9, rfl, rfl⟩
  have p0x9 := p0x9 r0_1 R_r0_1
  have p2x9 := p2x9 r0_1 R_r0_1
  have p3x9 := p3x9 r0_1 R_r0_1
  have gx9 := rg x9
  try simp only [ex1, ex2, e4, ex6, ex7] at p0x9
  try have q0x9 := congrArg Int32.toInt p0x9
  try simp only [ex1, ex2, e4, ex6, ex7] at p1x9
  try have q1x9 := congrArg Int32.toInt p1x9
  try simp only [ex1, ex2, e4, ex6, ex7] at p2x9
  try have q2x9 := congrArg Int32.toInt p2x9
  try simp only [ex1, ex2, e4, ex6, ex7] at p3x9
  try have q3x9 := congrArg Int32.toInt p3x9
  exact k_iret C rfl (Or.inl rfl) (Nat.le_of_ble_eq_true rfl) (Nat.le_of_ble_eq_true rfl) ⟨_, _, _, rfl, rfl, by omega, by omega, rfl, rfl⟩

theorem a_X12_widens {d : Nat} {T N : Nat → Nat} {I : IT} {L : LT} {R : RT} {A : Nat → Prop} {r0 : Nat} {n1 n2 n3 : Int32} (hI : IM R r0 I) (H_r0 : (h_MD T N R A) r0) (b0_n1 : 0 ≤ n1.toInt) (b1_n1 : n1.toInt ≤ 47) (b0_n2 : -18 ≤ n2.toInt) (b1_n2 : n2.toInt ≤ 18) (b0_n3 : -18 ≤ n3.toInt) (b1_n3 : n3.toInt ≤ 18) (hp0 : ∀ a4, R r0 4 = some a4 → (I a4 n1.toNatClampNeg).toInt ≤ 39) : Ex (d + 3) 213 [.ref r0, .int n1, .int n2, .int n3] (T, N, I, L, R) 0 0 (pV T N R (fun I9 L9 => (∀ a4, R r0 4 = some a4 → (I9 a4 n1.toNatClampNeg).toInt = (I a4 n1.toNatClampNeg).toInt + 1) ∧ (∀ a4, R r0 4 = some a4 → ∀ r : Nat, r ≠ n1.toNatClampNeg → I9 a4 r = I a4 r) ∧ (∀ a5, R r0 5 = some a5 → ∀ r : Nat, (r < 41 * n1.toNatClampNeg ∨ 41 * n1.toNatClampNeg + 41 ≤ r) → I9 a5 r = I a5 r) ∧ (IM R r0 I9 ∧ CM A R r0 [] [4, 5] I L I9 L9))) := by
  refine ⟨_, rfl, Nat.le_of_ble_eq_true rfl, fun V C S => ?_⟩
  show V 0 [(0, .ref r0), (1, .int n1), (2, .int n2), (3, .int n3)] [] (T, N, I, L, R) 0 0
  have gn1 := rg n1
  have gn2 := rg n2
  have gn3 := rg n3
  obtain ⟨T_r0, A_r0, ⟨r0_1, R_r0_1, H_r0_1⟩, ⟨r0_2, R_r0_2, H_r0_2⟩, ⟨r0_4, R_r0_4, H_r0_4⟩, ⟨r0_5, R_r0_5, H_r0_5⟩, ⟨r0_10, R_r0_10, H_r0_10⟩, ⟨r0_18, R_r0_18, H_r0_18⟩, ⟨r0_20, R_r0_20, H_r0_20⟩, ⟨r0_21, R_r0_21, H_r0_21⟩, ⟨r0_22, R_r0_22, H_r0_22⟩, ⟨r0_23, R_r0_23, H_r0_23⟩, ⟨r0_25, R_r0_25, H_r0_25⟩, ⟨r0_26, R_r0_26, H_r0_26⟩, ⟨r0_27, R_r0_27, H_r0_27⟩, ⟨r0_28, R_r0_28, H_r0_28⟩, ⟨r0_34, R_r0_34, H_r0_34⟩, J_r0, Y_r0⟩ := id H_r0
  have G_r0 : mF T R r0 := ⟨J_r0, Y_r0, T_r0⟩
  obtain ⟨w_r0_4_n1, k0_r0_4_n1⟩ : ∃ x, I r0_4 n1.toNatClampNeg = x := ⟨_, rfl⟩
  have gw_r0_4_n1 := rg w_r0_4_n1
  have ow_r0_4_n1 := IM.dgR hI R_r0_4 k0_r0_4_n1
  have hp0 := hp0 r0_4 R_r0_4
  try simp only [k0_r0_4_n1] at hp0
  refine k_aload_n C rfl rfl rfl ?_
  refine k_iload_n C rfl rfl rfl ?_
  refine k_aload_n C rfl rfl rfl ?_
  refine g_R C rfl rfl rfl T_r0 rfl R_r0_4 ?_
  refine k_iload_n C rfl rfl rfl ?_
  obtain ⟨T_r0_4, N_r0_4, A_r0_4⟩ := id H_r0_4
  refine a_I C rfl rfl T_r0_4 (by rw [N_r0_4]; exact vpi (by omega) (by omega)) k0_r0_4_n1 ?_
  refine z_iconst C (z := 1) rfl rfl rfl (fun x1 ex1 => ?_)
  refine z_iadd C rfl rfl ⟨by omega, by omega⟩ (fun x2 ex2 => ?_)
  refine z_iconst C (z := 0) rfl rfl rfl (fun x3 ex3 => ?_)
  have q4 : x3.toNatClampNeg = 0 := nck (by omega)
  refine c_VV C (a_X12_put hI H_r0 (by omega) (by omega) (by omega) (by omega) (by omega) (by omega)) rfl rfl rfl rfl rfl ⟨_, rfl, rfl, T_r0, Nat.le_of_ble_eq_true rfl⟩ rfl rfl (Nat.le_of_ble_eq_true rfl) (Nat.le_of_ble_eq_true rfl) (Nat.le_of_ble_eq_true rfl) ?_
  rintro I6 L7 ⟨p0v5, p1v5, hI6, S8⟩
  have p0v5 := p0v5 r0_5 R_r0_5
  have p1v5 := p1v5 r0_5 R_r0_5
  try simp only [q4] at p1v5
  have F9 : ∀ r : Nat, (r < 41 * n1.toNatClampNeg ∨ 41 * n1.toNatClampNeg + 41 ≤ r) → I6 r0_5 r = I r0_5 r := fun r z0 => p1v5 r (by first | exact z0)
  have e10 := CM.j S8 R_r0_4 (by decide) k0_r0_4_n1
  try simp only [q4, k0_r0_4_n1] at p0v5
  try have q0v5 := congrArg Int32.toInt p0v5
  refine k_aload_n C rfl rfl rfl ?_
  refine g_R C rfl rfl rfl T_r0 rfl R_r0_4 ?_
  refine k_iload_n C rfl rfl rfl ?_
  refine k_dup2 C rfl rfl rfl rfl ?_
  refine a_I C rfl rfl T_r0_4 (by rw [N_r0_4]; exact vpi (by omega) (by omega)) e10 ?_
  refine z_iconst C (z := 1) rfl rfl rfl (fun x11 ex11 => ?_)
  refine z_iadd C rfl rfl ⟨by omega, by omega⟩ (fun x12 ex12 => ?_)
  refine z_sI C rfl rfl T_r0_4 N_r0_4 (by omega) (by omega) (fun I13 uI13 => ?_)
  have hI13 : IM R r0 I13 := IM.arr hI6 G_r0 R_r0_4 ⟨(fun _ => ⟨by omega, by omega⟩), (fun h => absurd h (by decide)), (fun h => absurd h (by decide))⟩ (fun h => absurd h (by decide)) uI13
  have S14 : CM A R r0 [] [4] I6 L7 I13 L7 := CM.a G_r0 R_r0_4 A_r0_4 uI13
  have F15 : ∀ r : Nat, r ≠ n1.toNatClampNeg → I13 r0_4 r = I6 r0_4 r := fun r z0 => by rw [uI13]; first | exact u2_k z0
  have e17 := u2_e uI13
  refine k_aload_n C rfl rfl rfl ?_
  refine g_R C rfl rfl rfl T_r0 rfl R_r0_4 ?_
  refine k_iload_n C rfl rfl rfl ?_
  refine a_I C rfl rfl T_r0_4 (by rw [N_r0_4]; exact vpi (by omega) (by omega)) e17 ?_
  have J18 : ∀ (nn19 : Nat) (I20 : IT) (L21 : LT) (x22 : Int32) (x28 : Int32), (MN (x22.toInt - (-1)) nn19) → (IM R r0 I20) → (CM A R r0 [] [5] I13 L7 I20 L21) → (∀ r : Nat, (r < 41 * n1.toNatClampNeg ∨ 41 * n1.toNatClampNeg + 41 ≤ r) → I20 r0_5 r = I13 r0_5 r) → (-1 ≤ x22.toInt) → (x22.toInt ≤ 40) → (I20 r0_4 n1.toNatClampNeg = x28) → (0 ≤ x28.toInt) → (x28.toInt ≤ 40) → (x28.toInt = w_r0_4_n1.toInt + 1) → V 32 [(0, .ref r0), (1, .int n1), (2, .int n2), (3, .int n3), (4, .int x22)] [] (T, N, I20, L21, R) 0 0 := by
    intro nn19
    induction nn19 using Nat.strongRecOn with
    | _ nn19 ihJ18 =>
      intro I20 L21 x22 x28 hmnn19 hI26 S25 F27 b23 b24 e29 b30 b31 ff32_0
      have gx22 := rg x22
      have gx28 := rg x28
      have e32 := CM.j S25 R_r0_4 (by decide) e17
      refine k_iload C rfl rfl rfl ?_
      refine b_if_lt C (t := 89) rfl rfl rfl (fun c33 => ?_) (fun c33 => ?_)
      · skip
        exact k_vret C rfl rfl (Nat.le_of_ble_eq_true rfl) (Nat.le_of_ble_eq_true rfl) ⟨_, _, rfl, rfl, fun a4 h4 => by cases (R_r0_4.symm.trans h4); first | omega | (simp only [e29, k0_r0_4_n1] <;> omega), fun a4 h4 => by cases (R_r0_4.symm.trans h4); exact (fun r z0 => ((congrFun (CM.j0 S25 R_r0_4 (by decide)) r).trans ((F15 r z0).trans (congrFun (CM.j0 S8 R_r0_4 (by decide)) r)))), fun a5 h5 => by cases (R_r0_5.symm.trans h5); exact (fun r z0 => ((F27 r z0).trans ((congrFun (CM.j0 S14 R_r0_5 (by decide)) r).trans (F9 r z0)))), hI26, (CM.cons S8 (CM.cons S14 (CM.mono S25 (by decide) (by decide)) (by decide) (by decide)) (by decide) (by decide))⟩
      refine k_aload_n C rfl rfl rfl ?_
      refine k_iload_n C rfl rfl rfl ?_
      refine k_iload C rfl rfl rfl ?_
      refine k_aload_n C rfl rfl rfl ?_
      refine k_aload_n C rfl rfl rfl ?_
      refine k_aload_n C rfl rfl rfl ?_
      refine k_iload_n C rfl rfl rfl ?_
      refine k_iload C rfl rfl rfl ?_
      refine c_VI C (a_X12_of hI26 H_r0 (by omega) (by omega) (by omega) (by omega)) rfl rfl rfl rfl rfl ⟨_, rfl, rfl, T_r0, Nat.le_of_ble_eq_true rfl⟩ rfl rfl (Nat.le_of_ble_eq_true rfl) (Nat.le_of_ble_eq_true rfl) (Nat.le_of_ble_eq_true rfl) ?_
      rintro x34 _ _ ⟨o0x34, o1x34, p0x34, rfl, rfl⟩
      have p0x34 := p0x34 r0_5 R_r0_5
      have gx34 := rg x34
      try simp only [e29] at p0x34
      try have q0x34 := congrArg Int32.toInt p0x34
      refine k_iload_n C rfl rfl rfl ?_
      obtain ⟨x35, e36⟩ : ∃ x, I20 r0_1 0 = x := ⟨_, rfl⟩
      have gx35 := rg x35
      have ox35 := IM.pi hI26 R_r0_1 e36
      refine c_VI C (a_X12_times hI26 H_r0 (by omega) (by omega) (by omega) (by omega)) rfl rfl rfl rfl rfl ⟨_, rfl, rfl, T_r0, Nat.le_of_ble_eq_true rfl⟩ rfl rfl (Nat.le_of_ble_eq_true rfl) (Nat.le_of_ble_eq_true rfl) (Nat.le_of_ble_eq_true rfl) ?_
      rintro x37 _ _ ⟨o0x37, o1x37, p0x37, p1x37, p2x37, p3x37, rfl, rfl⟩
      have p0x37 := p0x37 r0_1 R_r0_1
      have p2x37 := p2x37 r0_1 R_r0_1
      have p3x37 := p3x37 r0_1 R_r0_1
      have gx37 := rg x37
      try simp only [e29, e36] at p0x37
      try have q0x37 := congrArg Int32.toInt p0x37
      try simp only [e29, e36] at p1x37
      try have q1x37 := congrArg Int32.toInt p1x37
      try simp only [e29, e36] at p2x37
      try have q2x37 := congrArg Int32.toInt p2x37
      try simp only [e29, e36] at p3x37
      try have q3x37 := congrArg Int32.toInt p3x37
      refine k_iload C rfl rfl rfl ?_
      refine b_if_le C (t := 76) rfl rfl rfl (fun c38 => ?_) (fun c38 => ?_)
      · skip
        refine z_iconst C (z := 0) rfl rfl rfl (fun x39 ex39 => ?_)
        have q40 : x39.toNatClampNeg = 0 := nck (by omega)
        refine c_VI C (a_X12_plus hI26 H_r0 (by omega) (by omega) (by omega) (by omega)) rfl rfl rfl rfl rfl ⟨_, rfl, rfl, T_r0, Nat.le_of_ble_eq_true rfl⟩ rfl rfl (Nat.le_of_ble_eq_true rfl) (Nat.le_of_ble_eq_true rfl) (Nat.le_of_ble_eq_true rfl) ?_
        rintro x41 _ _ ⟨o0x41, o1x41, p0x41, p1x41, p2x41, rfl, rfl⟩
        have p0x41 := p0x41 r0_1 R_r0_1
        have p2x41 := p2x41 r0_1 R_r0_1
        have gx41 := rg x41
        try simp only [q40, e29, e36] at p0x41
        try have q0x41 := congrArg Int32.toInt p0x41
        try simp only [q40, e29, e36] at p1x41
        try have q1x41 := congrArg Int32.toInt p1x41
        try simp only [q40, e29, e36] at p2x41
        try have q2x41 := congrArg Int32.toInt p2x41
        have q42 : x22.toNatClampNeg = 0 := nck (by omega)
        refine c_VV C (a_X12_put hI26 H_r0 (by omega) (by omega) (by omega) (by omega) (by omega) (by omega)) rfl rfl rfl rfl rfl ⟨_, rfl, rfl, T_r0, Nat.le_of_ble_eq_true rfl⟩ rfl rfl (Nat.le_of_ble_eq_true rfl) (Nat.le_of_ble_eq_true rfl) (Nat.le_of_ble_eq_true rfl) ?_
        rintro I44 L45 ⟨p0v43, p1v43, hI44, S46⟩
        have p0v43 := p0v43 r0_5 R_r0_5
        have p1v43 := p1v43 r0_5 R_r0_5
        try simp only [q42] at p1v43
        have F47 : ∀ r : Nat, (r < 41 * n1.toNatClampNeg ∨ 41 * n1.toNatClampNeg + 41 ≤ r) → I44 r0_5 r = I20 r0_5 r := fun r z0 => p1v43 r (by first | exact z0)
        have e48 := CM.j S46 R_r0_4 (by decide) e29
        have e49 := CM.j S46 R_r0_1 (by decide) e36
        try simp only [q42, e29, e36] at p0v43
        try have q0v43 := congrArg Int32.toInt p0v43
        refine z_iinc C (z := -1) (lw := fun x50 => [(4, .int x50), (0, .ref r0), (1, .int n1), (2, .int n2), (3, .int n3)]) rfl rfl rfl (Nat.le_of_ble_eq_true rfl) rfl ⟨by omega, by omega⟩ (fun _ => rfl) (fun x50 ex50 => ?_)
        show V 86 [(4, .int x50), (0, .ref r0), (1, .int n1), (2, .int n2), (3, .int n3)] _ _ _ _
        refine k_goto C (pc2 := 32) rfl rfl ?_
        refine k_sub S [(0, .ref r0), (1, .int n1), (2, .int n2), (3, .int n3), (4, .int x50)] (List.forall_mem_cons.mpr ⟨List.mem_of_getElem? (i := 1) rfl, List.forall_mem_cons.mpr ⟨List.mem_of_getElem? (i := 2) rfl, List.forall_mem_cons.mpr ⟨List.mem_of_getElem? (i := 3) rfl, List.forall_mem_cons.mpr ⟨List.mem_of_getElem? (i := 4) rfl, List.forall_mem_cons.mpr ⟨List.mem_of_getElem? (i := 0) rfl, fun _ h => nomatch h⟩⟩⟩⟩⟩) ?_
        exact ihJ18 _ (MN.lt hmnn19 (by omega) (by omega)) I44 L45 x50 x28 rfl hI44 (CM.cons S25 (CM.mono S46 (by decide) (by decide)) (by decide) (by decide)) (fun r z0 => ((F47 r z0).trans (F27 r z0))) (by omega) (by omega) e48 (by omega) (by omega) (by omega)
      refine k_aload_n C rfl rfl rfl ?_
      refine k_aload_n C rfl rfl rfl ?_
      refine k_iload_n C rfl rfl rfl ?_
      refine k_iload C rfl rfl rfl ?_
      refine z_iconst C (z := 1) rfl rfl rfl (fun x51 ex51 => ?_)
      refine z_isub C rfl rfl ⟨by omega, by omega⟩ (fun x52 ex52 => ?_)
      refine c_VI C (a_X12_of hI26 H_r0 (by omega) (by omega) (by omega) (by omega)) rfl rfl rfl rfl rfl ⟨_, rfl, rfl, T_r0, Nat.le_of_ble_eq_true rfl⟩ rfl rfl (Nat.le_of_ble_eq_true rfl) (Nat.le_of_ble_eq_true rfl) (Nat.le_of_ble_eq_true rfl) ?_
      rintro x53 _ _ ⟨o0x53, o1x53, p0x53, rfl, rfl⟩
      have p0x53 := p0x53 r0_5 R_r0_5
      have gx53 := rg x53
      try simp only [e29, e36] at p0x53
      try have q0x53 := congrArg Int32.toInt p0x53
      refine k_iload_n C rfl rfl rfl ?_
      refine c_VI C (a_X12_times hI26 H_r0 (by omega) (by omega) (by omega) (by omega)) rfl rfl rfl rfl rfl ⟨_, rfl, rfl, T_r0, Nat.le_of_ble_eq_true rfl⟩ rfl rfl (Nat.le_of_ble_eq_true rfl) (Nat.le_of_ble_eq_true rfl) (Nat.le_of_ble_eq_true rfl) ?_
      rintro x54 _ _ ⟨o0x54, o1x54, p0x54, p1x54, p2x54, p3x54, rfl, rfl⟩
      have p0x54 := p0x54 r0_1 R_r0_1
      have p2x54 := p2x54 r0_1 R_r0_1
      have p3x54 := p3x54 r0_1 R_r0_1
      have gx54 := rg x54
      try simp only [e29, e36] at p0x54
      try have q0x54 := congrArg Int32.toInt p0x54
      try simp only [e29, e36] at p1x54
      try have q1x54 := congrArg Int32.toInt p1x54
      try simp only [e29, e36] at p2x54
      try have q2x54 := congrArg Int32.toInt p2x54
      try simp only [e29, e36] at p3x54
      try have q3x54 := congrArg Int32.toInt p3x54
      refine k_goto C (pc2 := 77) rfl rfl ?_
      refine c_VI C (a_X12_plus hI26 H_r0 (by omega) (by omega) (by omega) (by omega)) rfl rfl rfl rfl rfl ⟨_, rfl, rfl, T_r0, Nat.le_of_ble_eq_true rfl⟩ rfl rfl (Nat.le_of_ble_eq_true rfl) (Nat.le_of_ble_eq_true rfl) (Nat.le_of_ble_eq_true rfl) ?_
      rintro x55 _ _ ⟨o0x55, o1x55, p0x55, p1x55, p2x55, rfl, rfl⟩
      have p0x55 := p0x55 r0_1 R_r0_1
      have p2x55 := p2x55 r0_1 R_r0_1
      have gx55 := rg x55
      try simp only [e29, e36] at p0x55
      try have q0x55 := congrArg Int32.toInt p0x55
      try simp only [e29, e36] at p1x55
      try have q1x55 := congrArg Int32.toInt p1x55
      try simp only [e29, e36] at p2x55
      try have q2x55 := congrArg Int32.toInt p2x55
      refine c_VV C (a_X12_put hI26 H_r0 (by omega) (by omega) (by omega) (by omega) (by omega) (by omega)) rfl rfl rfl rfl rfl ⟨_, rfl, rfl, T_r0, Nat.le_of_ble_eq_true rfl⟩ rfl rfl (Nat.le_of_ble_eq_true rfl) (Nat.le_of_ble_eq_true rfl) (Nat.le_of_ble_eq_true rfl) ?_
      rintro I57 L58 ⟨p0v56, p1v56, hI57, S59⟩
      have p0v56 := p0v56 r0_5 R_r0_5
      have p1v56 := p1v56 r0_5 R_r0_5
      have F60 : ∀ r : Nat, (r < 41 * n1.toNatClampNeg ∨ 41 * n1.toNatClampNeg + 41 ≤ r) → I57 r0_5 r = I20 r0_5 r := fun r z0 => p1v56 r (by first | exact z0)
      have e61 := CM.j S59 R_r0_4 (by decide) e29
      have e62 := CM.j S59 R_r0_1 (by decide) e36
      try simp only [e29, e36] at p0v56
      try have q0v56 := congrArg Int32.toInt p0v56
      refine z_iinc C (z := -1) (lw := fun x63 => [(4, .int x63), (0, .ref r0), (1, .int n1), (2, .int n2), (3, .int n3)]) rfl rfl rfl (Nat.le_of_ble_eq_true rfl) rfl ⟨by omega, by omega⟩ (fun _ => rfl) (fun x63 ex63 => ?_)
      show V 86 [(4, .int x63), (0, .ref r0), (1, .int n1), (2, .int n2), (3, .int n3)] _ _ _ _
      refine k_goto C (pc2 := 32) rfl rfl ?_
      refine k_sub S [(0, .ref r0), (1, .int n1), (2, .int n2), (3, .int n3), (4, .int x63)] (List.forall_mem_cons.mpr ⟨List.mem_of_getElem? (i := 1) rfl, List.forall_mem_cons.mpr ⟨List.mem_of_getElem? (i := 2) rfl, List.forall_mem_cons.mpr ⟨List.mem_of_getElem? (i := 3) rfl, List.forall_mem_cons.mpr ⟨List.mem_of_getElem? (i := 4) rfl, List.forall_mem_cons.mpr ⟨List.mem_of_getElem? (i := 0) rfl, fun _ h => nomatch h⟩⟩⟩⟩⟩) ?_
      exact ihJ18 _ (MN.lt hmnn19 (by omega) (by omega)) I57 L58 x63 x28 rfl hI57 (CM.cons S25 (CM.mono S59 (by decide) (by decide)) (by decide) (by decide)) (fun r z0 => ((F60 r z0).trans (F27 r z0))) (by omega) (by omega) e61 (by omega) (by omega) (by omega)
  refine k_istore C (lw := [(4, .int x12), (0, .ref r0), (1, .int n1), (2, .int n2), (3, .int n3)]) rfl rfl (Nat.le_of_ble_eq_true rfl) rfl ?_
  refine k_sub S [(0, .ref r0), (1, .int n1), (2, .int n2), (3, .int n3), (4, .int x12)] (List.forall_mem_cons.mpr ⟨List.mem_of_getElem? (i := 1) rfl, List.forall_mem_cons.mpr ⟨List.mem_of_getElem? (i := 2) rfl, List.forall_mem_cons.mpr ⟨List.mem_of_getElem? (i := 3) rfl, List.forall_mem_cons.mpr ⟨List.mem_of_getElem? (i := 4) rfl, List.forall_mem_cons.mpr ⟨List.mem_of_getElem? (i := 0) rfl, fun _ h => nomatch h⟩⟩⟩⟩⟩) ?_
  exact J18 _ I13 L7 x12 x12 rfl hI13 CM.rf (fun r z0 => rfl) (by omega) (by omega) e17 (by omega) (by omega) (by omega)

theorem a_X12_mixes {d : Nat} {T N : Nat → Nat} {I : IT} {L : LT} {R : RT} {A : Nat → Prop} {r0 : Nat} {n1 n2 : Int32} (hI : IM R r0 I) (H_r0 : (h_MD T N R A) r0) (b0_n1 : 0 ≤ n1.toInt) (b1_n1 : n1.toInt ≤ 43) (b0_n2 : 0 ≤ n2.toInt) (b1_n2 : n2.toInt ≤ 44) : Ex (d + 4) 214 [.ref r0, .int n1, .int n2] (T, N, I, L, R) 0 0 (pV T N R (fun I9 L9 => (∀ a4, R r0 4 = some a4 → (I9 a4 n2.toNatClampNeg).toInt = (I a4 n1.toNatClampNeg).toInt) ∧ (∀ a1 a4 a5, R r0 1 = some a1 → R r0 4 = some a4 → R r0 5 = some a5 → QN I9 a5 n2.toNatClampNeg ((I9 a4 n2.toNatClampNeg).toInt + 1) (I a1 0).toInt) ∧ (∀ a4, R r0 4 = some a4 → ∀ r : Nat, r ≠ n2.toNatClampNeg → r ≠ 45 → I9 a4 r = I a4 r) ∧ (∀ a5, R r0 5 = some a5 → ∀ r : Nat, (r < 41 * n2.toNatClampNeg ∨ 41 * n2.toNatClampNeg + 41 ≤ r) → (r < 41 * 45 ∨ 41 * 45 + 41 ≤ r) → I9 a5 r = I a5 r) ∧ (IM R r0 I9 ∧ CM A R r0 [] [4, 5] I L I9 L9))) := by
  refine ⟨_, rfl, Nat.le_of_ble_eq_true rfl, fun V C S => ?_⟩
  show V 0 [(0, .ref r0), (1, .int n1), (2, .int n2)] [] (T, N, I, L, R) 0 0
  have gn1 := rg n1
  have gn2 := rg n2
  obtain ⟨T_r0, A_r0, ⟨r0_1, R_r0_1, H_r0_1⟩, ⟨r0_2, R_r0_2, H_r0_2⟩, ⟨r0_4, R_r0_4, H_r0_4⟩, ⟨r0_5, R_r0_5, H_r0_5⟩, ⟨r0_10, R_r0_10, H_r0_10⟩, ⟨r0_18, R_r0_18, H_r0_18⟩, ⟨r0_20, R_r0_20, H_r0_20⟩, ⟨r0_21, R_r0_21, H_r0_21⟩, ⟨r0_22, R_r0_22, H_r0_22⟩, ⟨r0_23, R_r0_23, H_r0_23⟩, ⟨r0_25, R_r0_25, H_r0_25⟩, ⟨r0_26, R_r0_26, H_r0_26⟩, ⟨r0_27, R_r0_27, H_r0_27⟩, ⟨r0_28, R_r0_28, H_r0_28⟩, ⟨r0_34, R_r0_34, H_r0_34⟩, J_r0, Y_r0⟩ := id H_r0
  have G_r0 : mF T R r0 := ⟨J_r0, Y_r0, T_r0⟩
  obtain ⟨w_r0_4_n1, k0_r0_4_n1⟩ : ∃ x, I r0_4 n1.toNatClampNeg = x := ⟨_, rfl⟩
  have gw_r0_4_n1 := rg w_r0_4_n1
  have ow_r0_4_n1 := IM.dgR hI R_r0_4 k0_r0_4_n1
  obtain ⟨w_r0_1_0, k0_r0_1_0⟩ : ∃ x, I r0_1 0 = x := ⟨_, rfl⟩
  have gw_r0_1_0 := rg w_r0_1_0
  have ow_r0_1_0 := IM.pi hI R_r0_1 k0_r0_1_0
  have hn2 := ncz (x := n2) (by omega)
  refine k_aload_n C rfl rfl rfl ?_
  refine g_R C rfl rfl rfl T_r0 rfl R_r0_4 ?_
  refine k_iload_n C rfl rfl rfl ?_
  obtain ⟨T_r0_4, N_r0_4, A_r0_4⟩ := id H_r0_4
  refine a_I C rfl rfl T_r0_4 (by rw [N_r0_4]; exact vpi (by omega) (by omega)) k0_r0_4_n1 ?_
  refine k_istore_n C (lw := [(3, .int w_r0_4_n1), (0, .ref r0), (1, .int n1), (2, .int n2)]) rfl rfl (Nat.le_of_ble_eq_true rfl) rfl ?_
  refine k_aload_n C rfl rfl rfl ?_
  refine k_iload_n C rfl rfl rfl ?_
  refine k_iload_n C rfl rfl rfl ?_
  refine c_VV C (a_X12_clears hI H_r0 (by omega) (by omega) (by omega) (by omega)) rfl rfl rfl rfl rfl ⟨_, rfl, rfl, T_r0, Nat.le_of_ble_eq_true rfl⟩ rfl rfl (Nat.le_of_ble_eq_true rfl) (Nat.le_of_ble_eq_true rfl) (Nat.le_of_ble_eq_true rfl) ?_
  rintro I2 L3 ⟨p0v1, p1v1, p2v1, p3v1, hI2, S4⟩
  have p0v1 := p0v1 r0_4 R_r0_4
  have p1v1 := p1v1 r0_5 R_r0_5
  have p2v1 := p2v1 r0_4 R_r0_4
  have p3v1 := p3v1 r0_5 R_r0_5
  have F5 : ∀ r : Nat, r ≠ n2.toNatClampNeg → r ≠ 45 → I2 r0_4 r = I r0_4 r := fun r z0 z1 => p2v1 r (by first | exact z0 | exact z1)
  have F6 : ∀ r : Nat, (r < 41 * n2.toNatClampNeg ∨ 41 * n2.toNatClampNeg + 41 ≤ r) → (r < 41 * 45 ∨ 41 * 45 + 41 ≤ r) → I2 r0_5 r = I r0_5 r := fun r z0 z1 => p3v1 r (by first | exact z0 | exact z1)
  have e8 := CM.j S4 R_r0_1 (by decide) k0_r0_1_0
  obtain ⟨x9, e10⟩ : ∃ x, I2 r0_4 n2.toNatClampNeg = x := ⟨_, rfl⟩
  have gx9 := rg x9
  have ox9 := IM.dgR hI2 R_r0_4 e10
  try simp only [k0_r0_4_n1, k0_r0_1_0, e10] at p0v1
  try have q0v1 := congrArg Int32.toInt p0v1
  try simp only [k0_r0_4_n1, k0_r0_1_0, e10] at p1v1
  try have q1v1 := congrArg Int32.toInt p1v1
  have hQ := QN.le (n' := w_r0_4_n1.toInt + 1) (QN.az (p := w_r0_1_0.toInt) p1v1 (by omega)) (by omega)
  refine z_iconst C (z := 0) rfl rfl rfl (fun x11 ex11 => ?_)
  have J12 : ∀ (nn13 : Nat) (I14 : IT) (L15 : LT) (x16 : Int32) (x23 : Int32), (MN (41 - x16.toInt) nn13) → (IM R r0 I14) → (CM A R r0 [] [4, 5] I2 L3 I14 L15) → (∀ r : Nat, r ≠ n2.toNatClampNeg → r ≠ 45 → I14 r0_4 r = I2 r0_4 r) → (∀ r : Nat, (r < 41 * n2.toNatClampNeg ∨ 41 * n2.toNatClampNeg + 41 ≤ r) → (r < 41 * 45 ∨ 41 * 45 + 41 ≤ r) → I14 r0_5 r = I2 r0_5 r) → (0 ≤ x16.toInt) → (x16.toInt ≤ 41) → (I14 r0_4 n2.toNatClampNeg = x23) → (0 ≤ x23.toInt) → (x23.toInt ≤ 40) → (x23.toInt = w_r0_4_n1.toInt) → (QN I14 r0_5 n2.toNatClampNeg (w_r0_4_n1.toInt + 1) w_r0_1_0.toInt) → V 16 [(0, .ref r0), (1, .int n1), (2, .int n2), (3, .int w_r0_4_n1), (4, .int x16)] [] (T, N, I14, L15, R) 0 0 := by
    intro nn13
    induction nn13 using Nat.strongRecOn with
    | _ nn13 ihJ12 =>
      intro I14 L15 x16 x23 hmnn13 hI20 S19 F21 F22 b17 b18 e24 b25 b26 ff16_0 ff16_1
      have gx16 := rg x16
      have gx23 := rg x23
      have e27 := CM.j S19 R_r0_1 (by decide) e8
      refine k_iload C rfl rfl rfl ?_
      refine k_iload_n C rfl rfl rfl ?_
      refine b_icmp_gt C (t := 152) rfl rfl rfl (fun c28 => ?_) (fun c28 => ?_)
      · skip
        exact k_vret C rfl rfl (Nat.le_of_ble_eq_true rfl) (Nat.le_of_ble_eq_true rfl) ⟨_, _, rfl, rfl, fun a4 h4 => by cases (R_r0_4.symm.trans h4); first | omega | (simp only [e27, e24, k0_r0_4_n1, k0_r0_1_0] <;> omega), fun a1 a4 a5 h1 h4 h5 => by cases (R_r0_1.symm.trans h1); cases (R_r0_4.symm.trans h4); cases (R_r0_5.symm.trans h5); simp only [e24, k0_r0_1_0]; exact QN.le ff16_1 (by omega), fun a4 h4 => by cases (R_r0_4.symm.trans h4); exact (fun r z0 z1 => ((F21 r z0 z1).trans (F5 r z0 z1))), fun a5 h5 => by cases (R_r0_5.symm.trans h5); exact (fun r z0 z1 => ((F22 r z0 z1).trans (F6 r z0 z1))), hI20, (CM.cons S4 (CM.mono S19 (by decide) (by decide)) (by decide) (by decide))⟩
      refine k_aload_n C rfl rfl rfl ?_
      refine z_bipush C (z := 45) rfl rfl rfl (fun x29 ex29 => ?_)
      refine z_iconst C (z := 0) rfl rfl rfl (fun x30 ex30 => ?_)
      have q31 : x29.toNatClampNeg = 45 := nck (by omega)
      have q32 : x30.toNatClampNeg = 0 := nck (by omega)
      refine c_VV C (a_X12_clears hI20 H_r0 (by omega) (by omega) (by omega) (by omega)) rfl rfl rfl rfl rfl ⟨_, rfl, rfl, T_r0, Nat.le_of_ble_eq_true rfl⟩ rfl rfl (Nat.le_of_ble_eq_true rfl) (Nat.le_of_ble_eq_true rfl) (Nat.le_of_ble_eq_true rfl) ?_
      rintro I34 L35 ⟨p0v33, p1v33, p2v33, p3v33, hI34, S36⟩
      have p0v33 := p0v33 r0_4 R_r0_4
      have p1v33 := p1v33 r0_5 R_r0_5
      have p2v33 := p2v33 r0_4 R_r0_4
      have p3v33 := p3v33 r0_5 R_r0_5
      try simp only [q31, q32] at p2v33
      have F37 : ∀ r : Nat, r ≠ n2.toNatClampNeg → r ≠ 45 → I34 r0_4 r = I14 r0_4 r := fun r z0 z1 => p2v33 r (by first | exact z0 | exact z1)
      try simp only [q31, q32] at p3v33
      have F38 : ∀ r : Nat, (r < 41 * n2.toNatClampNeg ∨ 41 * n2.toNatClampNeg + 41 ≤ r) → (r < 41 * 45 ∨ 41 * 45 + 41 ≤ r) → I34 r0_5 r = I14 r0_5 r := fun r z0 z1 => p3v33 r (by first | exact z0 | exact z1)
      have e39 := CM.j S36 R_r0_1 (by decide) e27
      have e40 := (p2v33 n2.toNatClampNeg (by first | decide | exact ncne (by omega) (by omega) (by omega) | exact nckn (by omega) (by omega) | exact (nckn (by omega) (by omega)).symm)).trans e24
      obtain ⟨x41, e42⟩ : ∃ x, I34 r0_4 45 = x := ⟨_, rfl⟩
      have gx41 := rg x41
      have ox41 := IM.dgR hI34 R_r0_4 e42
      try simp only [q31, q32, e27, e24, e42] at p0v33
      try have q0v33 := congrArg Int32.toInt p0v33
      try simp only [q31, q32, e27, e24, e42] at p1v33
      try have q1v33 := congrArg Int32.toInt p1v33
      have hQ := ff16_1
      have hQ := QN.sm hQ (fun k hk => p3v33 (41 * n2.toNatClampNeg + k) (by omega)) (by omega)
      refine k_aload_n C rfl rfl rfl ?_
      refine z_bipush C (z := 45) rfl rfl rfl (fun x43 ex43 => ?_)
      refine z_iconst C (z := 0) rfl rfl rfl (fun x44 ex44 => ?_)
      refine k_aload_n C rfl rfl rfl ?_
      refine k_iload_n C rfl rfl rfl ?_
      refine k_iload C rfl rfl rfl ?_
      refine c_VI C (a_X12_of hI34 H_r0 (by omega) (by omega) (by omega) (by omega)) rfl rfl rfl rfl rfl ⟨_, rfl, rfl, T_r0, Nat.le_of_ble_eq_true rfl⟩ rfl rfl (Nat.le_of_ble_eq_true rfl) (Nat.le_of_ble_eq_true rfl) (Nat.le_of_ble_eq_true rfl) ?_
      rintro x45 _ _ ⟨o0x45, o1x45, p0x45, rfl, rfl⟩
      have p0x45 := p0x45 r0_5 R_r0_5
      have gx45 := rg x45
      try simp only [e39, e40, e42] at p0x45
      try have q0x45 := congrArg Int32.toInt p0x45
      have q46 : x43.toNatClampNeg = 45 := nck (by omega)
      have q47 : x44.toNatClampNeg = 0 := nck (by omega)
      refine c_VV C (a_X12_put hI34 H_r0 (by omega) (by omega) (by omega) (by omega) (by omega) (by omega)) rfl rfl rfl rfl rfl ⟨_, rfl, rfl, T_r0, Nat.le_of_ble_eq_true rfl⟩ rfl rfl (Nat.le_of_ble_eq_true rfl) (Nat.le_of_ble_eq_true rfl) (Nat.le_of_ble_eq_true rfl) ?_
      rintro I49 L50 ⟨p0v48, p1v48, hI49, S51⟩
      have p0v48 := p0v48 r0_5 R_r0_5
      have p1v48 := p1v48 r0_5 R_r0_5
      try simp only [q46, q47] at p1v48
      have F52 : ∀ r : Nat, (r < 41 * n2.toNatClampNeg ∨ 41 * n2.toNatClampNeg + 41 ≤ r) → (r < 41 * 45 ∨ 41 * 45 + 41 ≤ r) → I49 r0_5 r = I34 r0_5 r := fun r z0 z1 => p1v48 r (by first | exact z0 | exact z1)
      have e53 := CM.j S51 R_r0_1 (by decide) e39
      have e54 := CM.j S51 R_r0_4 (by decide) e40
      have e55 := CM.j S51 R_r0_4 (by decide) e42
      try simp only [q46, q47, e39, e40, e42] at p0v48
      try have q0v48 := congrArg Int32.toInt p0v48
      have hQ := QN.sm hQ (fun k hk => p1v48 (41 * n2.toNatClampNeg + k) (by omega)) (by omega)
      refine z_iconst C (z := 0) rfl rfl rfl (fun x56 ex56 => ?_)
      have J57 : ∀ (nn58 : Nat) (I59 : IT) (L60 : LT) (x61 : Int32) (x68 : Int32) (x72 : Int32), (MN (40 - x61.toInt) nn58) → (IM R r0 I59) → (CM A R r0 [] [4, 5] I49 L50 I59 L60) → (∀ r : Nat, r ≠ n2.toNatClampNeg → r ≠ 45 → I59 r0_4 r = I49 r0_4 r) → (∀ r : Nat, (r < 41 * n2.toNatClampNeg ∨ 41 * n2.toNatClampNeg + 41 ≤ r) → (r < 41 * 45 ∨ 41 * 45 + 41 ≤ r) → I59 r0_5 r = I49 r0_5 r) → (0 ≤ x61.toInt) → (x61.toInt ≤ 40) → (I59 r0_4 n2.toNatClampNeg = x68) → (0 ≤ x68.toInt) → (x68.toInt ≤ 40) → (I59 r0_4 45 = x72) → (0 ≤ x72.toInt) → (x72.toInt ≤ 40) → (x68.toInt = w_r0_4_n1.toInt) → (x72.toInt = x61.toInt) → (x61.toInt ≤ w_r0_4_n1.toInt - x16.toInt) → (QN I59 r0_5 n2.toNatClampNeg (w_r0_4_n1.toInt + 1) w_r0_1_0.toInt) → V 46 [(0, .ref r0), (1, .int n1), (2, .int n2), (3, .int w_r0_4_n1), (4, .int x16), (5, .int x61)] [] (T, N, I59, L60, R) 0 0 := by
        intro nn58
        induction nn58 using Nat.strongRecOn with
        | _ nn58 ihJ57 =>
          intro I59 L60 x61 x68 x72 hmnn58 hI65 S64 F66 F67 b62 b63 e69 b70 b71 e73 b74 b75 ff46_0 ff46_1 ff46_2 ff46_3
          have gx61 := rg x61
          have gx68 := rg x68
          have gx72 := rg x72
          have e76 := CM.j S64 R_r0_1 (by decide) e53
          refine k_iload C rfl rfl rfl ?_
          refine k_iload_n C rfl rfl rfl ?_
          refine k_iload C rfl rfl rfl ?_
          refine z_isub C rfl rfl ⟨by omega, by omega⟩ (fun x77 ex77 => ?_)
          refine b_icmp_ge C (t := 75) rfl rfl rfl (fun c78 => ?_) (fun c78 => ?_)
          · skip
            refine z_iconst C (z := 0) rfl rfl rfl (fun x79 ex79 => ?_)
            have J80 : ∀ (nn81 : Nat) (I82 : IT) (L83 : LT) (x84 : Int32) (x91 : Int32) (x95 : Int32), (MN (40 - x84.toInt) nn81) → (IM R r0 I82) → (CM A R r0 [] [4, 5] I59 L60 I82 L83) → (∀ r : Nat, r ≠ n2.toNatClampNeg → r ≠ 45 → I82 r0_4 r = I59 r0_4 r) → (∀ r : Nat, (r < 41 * n2.toNatClampNeg ∨ 41 * n2.toNatClampNeg + 41 ≤ r) → (r < 41 * 45 ∨ 41 * 45 + 41 ≤ r) → I82 r0_5 r = I59 r0_5 r) → (0 ≤ x84.toInt) → (x84.toInt ≤ 40) → (I82 r0_4 n2.toNatClampNeg = x91) → (0 ≤ x91.toInt) → (x91.toInt ≤ 40) → (I82 r0_4 45 = x95) → (0 ≤ x95.toInt) → (x95.toInt ≤ 40) → (x91.toInt = w_r0_4_n1.toInt) → (x95.toInt = w_r0_4_n1.toInt - x16.toInt + x84.toInt) → (QN I82 r0_5 n2.toNatClampNeg (w_r0_4_n1.toInt + 1) w_r0_1_0.toInt) → V 78 [(0, .ref r0), (1, .int n1), (2, .int n2), (3, .int w_r0_4_n1), (4, .int x16), (5, .int x84)] [] (T, N, I82, L83, R) 0 0 := by
              intro nn81
              induction nn81 using Nat.strongRecOn with
              | _ nn81 ihJ80 =>
                intro I82 L83 x84 x91 x95 hmnn81 hI88 S87 F89 F90 b85 b86 e92 b93 b94 e96 b97 b98 ff78_0 ff78_1 ff78_2
                have gx84 := rg x84
                have gx91 := rg x91
                have gx95 := rg x95
                have e99 := CM.j S87 R_r0_1 (by decide) e76
                refine k_iload C rfl rfl rfl ?_
                refine k_iload C rfl rfl rfl ?_
                refine b_icmp_ge C (t := 105) rfl rfl rfl (fun c100 => ?_) (fun c100 => ?_)
                · skip
                  refine z_iconst C (z := 0) rfl rfl rfl (fun x101 ex101 => ?_)
                  have J102 : ∀ (nn103 : Nat) (I104 : IT) (L105 : LT) (x106 : Int32) (x112 : Int32), (MN (41 - x106.toInt) nn103) → (IM R r0 I104) → (CM A R r0 [] [5] I82 L83 I104 L105) → (∀ r : Nat, (r < 41 * n2.toNatClampNeg ∨ 41 * n2.toNatClampNeg + 41 ≤ r) → (r < 41 * 45 ∨ 41 * 45 + 41 ≤ r) → I104 r0_5 r = I82 r0_5 r) → (0 ≤ x106.toInt) → (x106.toInt ≤ 41) → (I104 r0_4 n2.toNatClampNeg = x112) → (0 ≤ x112.toInt) → (x112.toInt ≤ 40) → (x112.toInt = w_r0_4_n1.toInt) → (QN I104 r0_5 n2.toNatClampNeg (w_r0_4_n1.toInt + 1) w_r0_1_0.toInt) → V 108 [(0, .ref r0), (1, .int n1), (2, .int n2), (3, .int w_r0_4_n1), (4, .int x16), (5, .int x106)] [] (T, N, I104, L105, R) 0 0 := by
                    intro nn103
                    induction nn103 using Nat.strongRecOn with
                    | _ nn103 ihJ102 =>
                      intro I104 L105 x106 x112 hmnn103 hI110 S109 F111 b107 b108 e113 b114 b115 ff108_0 ff108_1
                      have gx106 := rg x106
                      have gx112 := rg x112
                      have e116 := CM.j S109 R_r0_1 (by decide) e99
                      have e117 := CM.j S109 R_r0_4 (by decide) e92
                      have e118 := CM.j S109 R_r0_4 (by decide) e96
                      refine k_iload C rfl rfl rfl ?_
                      refine k_iload_n C rfl rfl rfl ?_
                      refine b_icmp_gt C (t := 146) rfl rfl rfl (fun c119 => ?_) (fun c119 => ?_)
                      · skip
                        refine z_iinc C (z := 1) (lw := fun x120 => [(4, .int x120), (0, .ref r0), (1, .int n1), (2, .int n2), (3, .int w_r0_4_n1), (5, .int x106)]) rfl rfl rfl (Nat.le_of_ble_eq_true rfl) rfl ⟨by omega, by omega⟩ (fun _ => rfl) (fun x120 ex120 => ?_)
                        show V 149 [(4, .int x120), (0, .ref r0), (1, .int n1), (2, .int n2), (3, .int w_r0_4_n1), (5, .int x106)] _ _ _ _
                        refine k_goto C (pc2 := 16) rfl rfl ?_
                        refine k_sub S [(0, .ref r0), (1, .int n1), (2, .int n2), (3, .int w_r0_4_n1), (4, .int x120)] (List.forall_mem_cons.mpr ⟨List.mem_of_getElem? (i := 1) rfl, List.forall_mem_cons.mpr ⟨List.mem_of_getElem? (i := 2) rfl, List.forall_mem_cons.mpr ⟨List.mem_of_getElem? (i := 3) rfl, List.forall_mem_cons.mpr ⟨List.mem_of_getElem? (i := 4) rfl, List.forall_mem_cons.mpr ⟨List.mem_of_getElem? (i := 0) rfl, fun _ h => nomatch h⟩⟩⟩⟩⟩) ?_
                        exact ihJ12 _ (MN.lt hmnn13 (by omega) (by omega)) I104 L105 x120 x112 rfl hI110 (CM.cons S19 (CM.cons S36 (CM.cons S51 (CM.cons S64 (CM.cons S87 (CM.mono S109 (by decide) (by decide)) (by decide) (by decide)) (by decide) (by decide)) (by decide) (by decide)) (by decide) (by decide)) (by decide) (by decide)) (fun r z0 z1 => ((congrFun (CM.j0 S109 R_r0_4 (by decide)) r).trans ((F89 r z0 z1).trans ((F66 r z0 z1).trans ((congrFun (CM.j0 S51 R_r0_4 (by decide)) r).trans ((F37 r z0 z1).trans (F21 r z0 z1))))))) (fun r z0 z1 => ((F111 r z0 z1).trans ((F90 r z0 z1).trans ((F67 r z0 z1).trans ((F52 r z0 z1).trans ((F38 r z0 z1).trans (F22 r z0 z1))))))) (by omega) (by omega) e113 (by omega) (by omega) (by omega) (by exact ff108_1)
                      refine k_aload_n C rfl rfl rfl ?_
                      refine k_iload_n C rfl rfl rfl ?_
                      refine k_iload C rfl rfl rfl ?_
                      refine k_aload_n C rfl rfl rfl ?_
                      refine k_aload_n C rfl rfl rfl ?_
                      refine k_iload_n C rfl rfl rfl ?_
                      refine k_iload C rfl rfl rfl ?_
                      refine c_VI C (a_X12_of hI110 H_r0 (by omega) (by omega) (by omega) (by omega)) rfl rfl rfl rfl rfl ⟨_, rfl, rfl, T_r0, Nat.le_of_ble_eq_true rfl⟩ rfl rfl (Nat.le_of_ble_eq_true rfl) (Nat.le_of_ble_eq_true rfl) (Nat.le_of_ble_eq_true rfl) ?_
                      rintro x121 _ _ ⟨o0x121, o1x121, p0x121, rfl, rfl⟩
                      have p0x121 := p0x121 r0_5 R_r0_5
                      have gx121 := rg x121
                      try simp only [e116, e113, e118] at p0x121
                      try have q0x121 := congrArg Int32.toInt p0x121
                      refine k_aload_n C rfl rfl rfl ?_
                      refine z_bipush C (z := 45) rfl rfl rfl (fun x122 ex122 => ?_)
                      refine k_iload C rfl rfl rfl ?_
                      have q123 : x122.toNatClampNeg = 45 := nck (by omega)
                      refine c_VI C (a_X12_of hI110 H_r0 (by omega) (by omega) (by omega) (by omega)) rfl rfl rfl rfl rfl ⟨_, rfl, rfl, T_r0, Nat.le_of_ble_eq_true rfl⟩ rfl rfl (Nat.le_of_ble_eq_true rfl) (Nat.le_of_ble_eq_true rfl) (Nat.le_of_ble_eq_true rfl) ?_
                      rintro x124 _ _ ⟨o0x124, o1x124, p0x124, rfl, rfl⟩
                      have p0x124 := p0x124 r0_5 R_r0_5
                      have gx124 := rg x124
                      try simp only [q123, e116, e113, e118] at p0x124
                      try have q0x124 := congrArg Int32.toInt p0x124
                      refine c_VI C (a_X12_plus hI110 H_r0 (by omega) (by omega) (by omega) (by omega)) rfl rfl rfl rfl rfl ⟨_, rfl, rfl, T_r0, Nat.le_of_ble_eq_true rfl⟩ rfl rfl (Nat.le_of_ble_eq_true rfl) (Nat.le_of_ble_eq_true rfl) (Nat.le_of_ble_eq_true rfl) ?_
                      rintro x125 _ _ ⟨o0x125, o1x125, p0x125, p1x125, p2x125, rfl, rfl⟩
                      have p0x125 := p0x125 r0_1 R_r0_1
                      have p2x125 := p2x125 r0_1 R_r0_1
                      have gx125 := rg x125
                      try simp only [e116, e113, e118] at p0x125
                      try have q0x125 := congrArg Int32.toInt p0x125
                      try simp only [e116, e113, e118] at p1x125
                      try have q1x125 := congrArg Int32.toInt p1x125
                      try simp only [e116, e113, e118] at p2x125
                      try have q2x125 := congrArg Int32.toInt p2x125
                      refine c_VV C (a_X12_put hI110 H_r0 (by omega) (by omega) (by omega) (by omega) (by omega) (by omega)) rfl rfl rfl rfl rfl ⟨_, rfl, rfl, T_r0, Nat.le_of_ble_eq_true rfl⟩ rfl rfl (Nat.le_of_ble_eq_true rfl) (Nat.le_of_ble_eq_true rfl) (Nat.le_of_ble_eq_true rfl) ?_
                      rintro I127 L128 ⟨p0v126, p1v126, hI127, S129⟩
                      have p0v126 := p0v126 r0_5 R_r0_5
                      have p1v126 := p1v126 r0_5 R_r0_5
                      have F130 : ∀ r : Nat, (r < 41 * n2.toNatClampNeg ∨ 41 * n2.toNatClampNeg + 41 ≤ r) → (r < 41 * 45 ∨ 41 * 45 + 41 ≤ r) → I127 r0_5 r = I104 r0_5 r := fun r z0 z1 => p1v126 r (by first | exact z0 | exact z1)
                      have e131 := CM.j S129 R_r0_1 (by decide) e116
                      have e132 := CM.j S129 R_r0_4 (by decide) e113
                      have e133 := CM.j S129 R_r0_4 (by decide) e118
                      try simp only [e116, e113, e118] at p0v126
                      try have q0v126 := congrArg Int32.toInt p0v126
                      have hP := p0v126
                      refine z_iinc C (z := 1) (lw := fun x134 => [(5, .int x134), (0, .ref r0), (1, .int n1), (2, .int n2), (3, .int w_r0_4_n1), (4, .int x16)]) rfl rfl rfl (Nat.le_of_ble_eq_true rfl) rfl ⟨by omega, by omega⟩ (fun _ => rfl) (fun x134 ex134 => ?_)
                      show V 143 [(5, .int x134), (0, .ref r0), (1, .int n1), (2, .int n2), (3, .int w_r0_4_n1), (4, .int x16)] _ _ _ _
                      refine k_goto C (pc2 := 108) rfl rfl ?_
                      refine k_sub S [(0, .ref r0), (1, .int n1), (2, .int n2), (3, .int w_r0_4_n1), (4, .int x16), (5, .int x134)] (List.forall_mem_cons.mpr ⟨List.mem_of_getElem? (i := 1) rfl, List.forall_mem_cons.mpr ⟨List.mem_of_getElem? (i := 2) rfl, List.forall_mem_cons.mpr ⟨List.mem_of_getElem? (i := 3) rfl, List.forall_mem_cons.mpr ⟨List.mem_of_getElem? (i := 4) rfl, List.forall_mem_cons.mpr ⟨List.mem_of_getElem? (i := 5) rfl, List.forall_mem_cons.mpr ⟨List.mem_of_getElem? (i := 0) rfl, fun _ h => nomatch h⟩⟩⟩⟩⟩⟩) ?_
                      exact ihJ102 _ (MN.lt hmnn103 (by omega) (by omega)) I127 L128 x134 x112 rfl hI127 (CM.cons S109 (CM.mono S129 (by decide) (by decide)) (by decide) (by decide)) (fun r z0 z1 => ((F130 r z0 z1).trans (F111 r z0 z1))) (by omega) (by omega) e132 (by omega) (by omega) (by omega) (by exact QN.put ff108_1 hP (by omega) (by omega))
                  refine k_istore C (lw := [(5, .int x101), (0, .ref r0), (1, .int n1), (2, .int n2), (3, .int w_r0_4_n1), (4, .int x16)]) rfl rfl (Nat.le_of_ble_eq_true rfl) rfl ?_
                  refine k_sub S [(0, .ref r0), (1, .int n1), (2, .int n2), (3, .int w_r0_4_n1), (4, .int x16), (5, .int x101)] (List.forall_mem_cons.mpr ⟨List.mem_of_getElem? (i := 1) rfl, List.forall_mem_cons.mpr ⟨List.mem_of_getElem? (i := 2) rfl, List.forall_mem_cons.mpr ⟨List.mem_of_getElem? (i := 3) rfl, List.forall_mem_cons.mpr ⟨List.mem_of_getElem? (i := 4) rfl, List.forall_mem_cons.mpr ⟨List.mem_of_getElem? (i := 5) rfl, List.forall_mem_cons.mpr ⟨List.mem_of_getElem? (i := 0) rfl, fun _ h => nomatch h⟩⟩⟩⟩⟩⟩) ?_
                  exact J102 _ I82 L83 x101 x91 rfl hI88 CM.rf (fun r z0 z1 => rfl) (by omega) (by omega) e92 (by omega) (by omega) (by omega) (by exact ff78_2)
                refine k_aload_n C rfl rfl rfl ?_
                refine z_bipush C (z := 45) rfl rfl rfl (fun x135 ex135 => ?_)
                refine k_aload_n C rfl rfl rfl ?_
                refine z_gI C rfl rfl rfl T_r0 rfl (fun x136 ex136 => ?_)
                have gx136 := rg x136
                have ox136 := IM.f8 hI88 ex136
                refine k_aload_n C rfl rfl rfl ?_
                refine z_gI C rfl rfl rfl T_r0 rfl (fun x137 ex137 => ?_)
                have gx137 := rg x137
                have ox137 := IM.f9 hI88 ex137
                have q138 : x135.toNatClampNeg = 45 := nck (by omega)
                refine c_VV C (a_X12_widens hI88 H_r0 (by omega) (by omega) (by omega) (by omega) (by omega) (by omega) (fun a4 h4 => by cases (R_r0_4.symm.trans h4); first | omega | (simp only [q138, e99, e92, e96, ex136, ex137] <;> omega))) rfl rfl rfl rfl rfl ⟨_, rfl, rfl, T_r0, Nat.le_of_ble_eq_true rfl⟩ rfl rfl (Nat.le_of_ble_eq_true rfl) (Nat.le_of_ble_eq_true rfl) (Nat.le_of_ble_eq_true rfl) ?_
                rintro I140 L141 ⟨p0v139, p1v139, p2v139, hI140, S142⟩
                have p0v139 := p0v139 r0_4 R_r0_4
                have p1v139 := p1v139 r0_4 R_r0_4
                have p2v139 := p2v139 r0_5 R_r0_5
                try simp only [q138] at p1v139
                have F143 : ∀ r : Nat, r ≠ n2.toNatClampNeg → r ≠ 45 → I140 r0_4 r = I82 r0_4 r := fun r z0 z1 => p1v139 r (by first | exact z0 | exact z1)
                try simp only [q138] at p2v139
                have F144 : ∀ r : Nat, (r < 41 * n2.toNatClampNeg ∨ 41 * n2.toNatClampNeg + 41 ≤ r) → (r < 41 * 45 ∨ 41 * 45 + 41 ≤ r) → I140 r0_5 r = I82 r0_5 r := fun r z0 z1 => p2v139 r (by first | exact z0 | exact z1)
                have e145 := CM.j S142 R_r0_1 (by decide) e99
                have e146 := (p1v139 n2.toNatClampNeg (by first | decide | exact ncne (by omega) (by omega) (by omega) | exact nckn (by omega) (by omega) | exact (nckn (by omega) (by omega)).symm)).trans e92
                have e148 := CM.k S142 (by decide) ex136
                have e149 := CM.k S142 (by decide) ex137
                obtain ⟨x150, e151⟩ : ∃ x, I140 r0_4 45 = x := ⟨_, rfl⟩
                have gx150 := rg x150
                have ox150 := IM.dgR hI140 R_r0_4 e151
                try simp only [q138, e99, e92, e96, ex136, ex137, e151] at p0v139
                try have q0v139 := congrArg Int32.toInt p0v139
                have hQ := ff78_2
                have hQ := QN.sm hQ (fun k hk => p2v139 (41 * n2.toNatClampNeg + k) (by omega)) (by omega)
                refine z_iinc C (z := 1) (lw := fun x152 => [(5, .int x152), (0, .ref r0), (1, .int n1), (2, .int n2), (3, .int w_r0_4_n1), (4, .int x16)]) rfl rfl rfl (Nat.le_of_ble_eq_true rfl) rfl ⟨by omega, by omega⟩ (fun _ => rfl) (fun x152 ex152 => ?_)
                show V 102 [(5, .int x152), (0, .ref r0), (1, .int n1), (2, .int n2), (3, .int w_r0_4_n1), (4, .int x16)] _ _ _ _
                refine k_goto C (pc2 := 78) rfl rfl ?_
                refine k_sub S [(0, .ref r0), (1, .int n1), (2, .int n2), (3, .int w_r0_4_n1), (4, .int x16), (5, .int x152)] (List.forall_mem_cons.mpr ⟨List.mem_of_getElem? (i := 1) rfl, List.forall_mem_cons.mpr ⟨List.mem_of_getElem? (i := 2) rfl, List.forall_mem_cons.mpr ⟨List.mem_of_getElem? (i := 3) rfl, List.forall_mem_cons.mpr ⟨List.mem_of_getElem? (i := 4) rfl, List.forall_mem_cons.mpr ⟨List.mem_of_getElem? (i := 5) rfl, List.forall_mem_cons.mpr ⟨List.mem_of_getElem? (i := 0) rfl, fun _ h => nomatch h⟩⟩⟩⟩⟩⟩) ?_
                exact ihJ80 _ (MN.lt hmnn81 (by omega) (by omega)) I140 L141 x152 x91 x150 rfl hI140 (CM.cons S87 (CM.mono S142 (by decide) (by decide)) (by decide) (by decide)) (fun r z0 z1 => ((F143 r z0 z1).trans (F89 r z0 z1))) (fun r z0 z1 => ((F144 r z0 z1).trans (F90 r z0 z1))) (by omega) (by omega) e146 (by omega) (by omega) e151 (by omega) (by omega) (by omega) (by omega) (by exact hQ)
            refine k_istore C (lw := [(5, .int x79), (0, .ref r0), (1, .int n1), (2, .int n2), (3, .int w_r0_4_n1), (4, .int x16)]) rfl rfl (Nat.le_of_ble_eq_true rfl) rfl ?_
            refine k_sub S [(0, .ref r0), (1, .int n1), (2, .int n2), (3, .int w_r0_4_n1), (4, .int x16), (5, .int x79)] (List.forall_mem_cons.mpr ⟨List.mem_of_getElem? (i := 1) rfl, List.forall_mem_cons.mpr ⟨List.mem_of_getElem? (i := 2) rfl, List.forall_mem_cons.mpr ⟨List.mem_of_getElem? (i := 3) rfl, List.forall_mem_cons.mpr ⟨List.mem_of_getElem? (i := 4) rfl, List.forall_mem_cons.mpr ⟨List.mem_of_getElem? (i := 5) rfl, List.forall_mem_cons.mpr ⟨List.mem_of_getElem? (i := 0) rfl, fun _ h => nomatch h⟩⟩⟩⟩⟩⟩) ?_
            exact J80 _ I59 L60 x79 x68 x72 rfl hI65 CM.rf (fun r z0 z1 => rfl) (fun r z0 z1 => rfl) (by omega) (by omega) e69 (by omega) (by omega) e73 (by omega) (by omega) (by omega) (by omega) (by exact ff46_3)
          refine k_aload_n C rfl rfl rfl ?_
          refine z_bipush C (z := 45) rfl rfl rfl (fun x153 ex153 => ?_)
          refine k_aload_n C rfl rfl rfl ?_
          refine z_gI C rfl rfl rfl T_r0 rfl (fun x154 ex154 => ?_)
          have gx154 := rg x154
          have ox154 := IM.f6 hI65 ex154
          refine k_aload_n C rfl rfl rfl ?_
          refine z_gI C rfl rfl rfl T_r0 rfl (fun x155 ex155 => ?_)
          have gx155 := rg x155
          have ox155 := IM.f7 hI65 ex155
          have q156 : x153.toNatClampNeg = 45 := nck (by omega)
          refine c_VV C (a_X12_widens hI65 H_r0 (by omega) (by omega) (by omega) (by omega) (by omega) (by omega) (fun a4 h4 => by cases (R_r0_4.symm.trans h4); first | omega | (simp only [q156, e76, e69, e73, ex154, ex155] <;> omega))) rfl rfl rfl rfl rfl ⟨_, rfl, rfl, T_r0, Nat.le_of_ble_eq_true rfl⟩ rfl rfl (Nat.le_of_ble_eq_true rfl) (Nat.le_of_ble_eq_true rfl) (Nat.le_of_ble_eq_true rfl) ?_
          rintro I158 L159 ⟨p0v157, p1v157, p2v157, hI158, S160⟩
          have p0v157 := p0v157 r0_4 R_r0_4
          have p1v157 := p1v157 r0_4 R_r0_4
          have p2v157 := p2v157 r0_5 R_r0_5
          try simp only [q156] at p1v157
          have F161 : ∀ r : Nat, r ≠ n2.toNatClampNeg → r ≠ 45 → I158 r0_4 r = I59 r0_4 r := fun r z0 z1 => p1v157 r (by first | exact z0 | exact z1)
          try simp only [q156] at p2v157
          have F162 : ∀ r : Nat, (r < 41 * n2.toNatClampNeg ∨ 41 * n2.toNatClampNeg + 41 ≤ r) → (r < 41 * 45 ∨ 41 * 45 + 41 ≤ r) → I158 r0_5 r = I59 r0_5 r := fun r z0 z1 => p2v157 r (by first | exact z0 | exact z1)
          have e163 := CM.j S160 R_r0_1 (by decide) e76
          have e164 := (p1v157 n2.toNatClampNeg (by first | decide | exact ncne (by omega) (by omega) (by omega) | exact nckn (by omega) (by omega) | exact (nckn (by omega) (by omega)).symm)).trans e69
          have e166 := CM.k S160 (by decide) ex154
          have e167 := CM.k S160 (by decide) ex155
          obtain ⟨x168, e169⟩ : ∃ x, I158 r0_4 45 = x := ⟨_, rfl⟩
          have gx168 := rg x168
          have ox168 := IM.dgR hI158 R_r0_4 e169
          try simp only [q156, e76, e69, e73, ex154, ex155, e169] at p0v157
          try have q0v157 := congrArg Int32.toInt p0v157
          have hQ := ff46_3
          have hQ := QN.sm hQ (fun k hk => p2v157 (41 * n2.toNatClampNeg + k) (by omega)) (by omega)
          refine z_iinc C (z := 1) (lw := fun x170 => [(5, .int x170), (0, .ref r0), (1, .int n1), (2, .int n2), (3, .int w_r0_4_n1), (4, .int x16)]) rfl rfl rfl (Nat.le_of_ble_eq_true rfl) rfl ⟨by omega, by omega⟩ (fun _ => rfl) (fun x170 ex170 => ?_)
          show V 72 [(5, .int x170), (0, .ref r0), (1, .int n1), (2, .int n2), (3, .int w_r0_4_n1), (4, .int x16)] _ _ _ _
          refine k_goto C (pc2 := 46) rfl rfl ?_
          refine k_sub S [(0, .ref r0), (1, .int n1), (2, .int n2), (3, .int w_r0_4_n1), (4, .int x16), (5, .int x170)] (List.forall_mem_cons.mpr ⟨List.mem_of_getElem? (i := 1) rfl, List.forall_mem_cons.mpr ⟨List.mem_of_getElem? (i := 2) rfl, List.forall_mem_cons.mpr ⟨List.mem_of_getElem? (i := 3) rfl, List.forall_mem_cons.mpr ⟨List.mem_of_getElem? (i := 4) rfl, List.forall_mem_cons.mpr ⟨List.mem_of_getElem? (i := 5) rfl, List.forall_mem_cons.mpr ⟨List.mem_of_getElem? (i := 0) rfl, fun _ h => nomatch h⟩⟩⟩⟩⟩⟩) ?_
          exact ihJ57 _ (MN.lt hmnn58 (by omega) (by omega)) I158 L159 x170 x68 x168 rfl hI158 (CM.cons S64 (CM.mono S160 (by decide) (by decide)) (by decide) (by decide)) (fun r z0 z1 => ((F161 r z0 z1).trans (F66 r z0 z1))) (fun r z0 z1 => ((F162 r z0 z1).trans (F67 r z0 z1))) (by omega) (by omega) e164 (by omega) (by omega) e169 (by omega) (by omega) (by omega) (by omega) (by omega) (by exact hQ)
      refine k_istore C (lw := [(5, .int x56), (0, .ref r0), (1, .int n1), (2, .int n2), (3, .int w_r0_4_n1), (4, .int x16)]) rfl rfl (Nat.le_of_ble_eq_true rfl) rfl ?_
      refine k_sub S [(0, .ref r0), (1, .int n1), (2, .int n2), (3, .int w_r0_4_n1), (4, .int x16), (5, .int x56)] (List.forall_mem_cons.mpr ⟨List.mem_of_getElem? (i := 1) rfl, List.forall_mem_cons.mpr ⟨List.mem_of_getElem? (i := 2) rfl, List.forall_mem_cons.mpr ⟨List.mem_of_getElem? (i := 3) rfl, List.forall_mem_cons.mpr ⟨List.mem_of_getElem? (i := 4) rfl, List.forall_mem_cons.mpr ⟨List.mem_of_getElem? (i := 5) rfl, List.forall_mem_cons.mpr ⟨List.mem_of_getElem? (i := 0) rfl, fun _ h => nomatch h⟩⟩⟩⟩⟩⟩) ?_
      exact J57 _ I49 L50 x56 x23 x41 rfl hI49 CM.rf (fun r z0 z1 => rfl) (fun r z0 z1 => rfl) (by omega) (by omega) e54 (by omega) (by omega) e55 (by omega) (by omega) (by omega) (by omega) (by omega) (by exact hQ)
  refine k_istore C (lw := [(4, .int x11), (3, .int w_r0_4_n1), (0, .ref r0), (1, .int n1), (2, .int n2)]) rfl rfl (Nat.le_of_ble_eq_true rfl) rfl ?_
  refine k_sub S [(0, .ref r0), (1, .int n1), (2, .int n2), (3, .int w_r0_4_n1), (4, .int x11)] (List.forall_mem_cons.mpr ⟨List.mem_of_getElem? (i := 2) rfl, List.forall_mem_cons.mpr ⟨List.mem_of_getElem? (i := 3) rfl, List.forall_mem_cons.mpr ⟨List.mem_of_getElem? (i := 4) rfl, List.forall_mem_cons.mpr ⟨List.mem_of_getElem? (i := 1) rfl, List.forall_mem_cons.mpr ⟨List.mem_of_getElem? (i := 0) rfl, fun _ h => nomatch h⟩⟩⟩⟩⟩) ?_
  exact J12 _ I2 L3 x11 x9 rfl hI2 CM.rf (fun r z0 z1 => rfl) (fun r z0 z1 => rfl) (by omega) (by omega) e10 (by omega) (by omega) (by omega) (by exact hQ)

theorem a_X12_valueAt {d : Nat} {T N : Nat → Nat} {I : IT} {L : LT} {R : RT} {A : Nat → Prop} {r0 : Nat} {n1 n2 n3 : Int32} (hI : IM R r0 I) (H_r0 : (h_MD T N R A) r0) (b0_n1 : 0 ≤ n1.toInt) (b1_n1 : n1.toInt ≤ 47) (b0_n2 : -18 ≤ n2.toInt) (b1_n2 : n2.toInt ≤ 18) (b0_n3 : -18 ≤ n3.toInt) (b1_n3 : n3.toInt ≤ 18) : Ex (d + 4) 215 [.ref r0, .int n1, .int n2, .int n3] (T, N, I, L, R) 0 0 (pI T N R (fun x9 I9 L9 => (-18 ≤ x9.toInt) ∧ (x9.toInt ≤ 18) ∧ (I = I9 ∧ L = L9))) := by
  refine ⟨_, rfl, Nat.le_of_ble_eq_true rfl, fun V C S => ?_⟩
  show V 0 [(0, .ref r0), (1, .int n1), (2, .int n2), (3, .int n3)] [] (T, N, I, L, R) 0 0
  have gn1 := rg n1
  have gn2 := rg n2
  have gn3 := rg n3
  obtain ⟨T_r0, A_r0, ⟨r0_1, R_r0_1, H_r0_1⟩, ⟨r0_2, R_r0_2, H_r0_2⟩, ⟨r0_4, R_r0_4, H_r0_4⟩, ⟨r0_5, R_r0_5, H_r0_5⟩, ⟨r0_10, R_r0_10, H_r0_10⟩, ⟨r0_18, R_r0_18, H_r0_18⟩, ⟨r0_20, R_r0_20, H_r0_20⟩, ⟨r0_21, R_r0_21, H_r0_21⟩, ⟨r0_22, R_r0_22, H_r0_22⟩, ⟨r0_23, R_r0_23, H_r0_23⟩, ⟨r0_25, R_r0_25, H_r0_25⟩, ⟨r0_26, R_r0_26, H_r0_26⟩, ⟨r0_27, R_r0_27, H_r0_27⟩, ⟨r0_28, R_r0_28, H_r0_28⟩, ⟨r0_34, R_r0_34, H_r0_34⟩, J_r0, Y_r0⟩ := id H_r0
  have G_r0 : mF T R r0 := ⟨J_r0, Y_r0, T_r0⟩
  refine z_iconst C (z := 0) rfl rfl rfl (fun x1 ex1 => ?_)
  refine k_istore C (lw := [(4, .int x1), (0, .ref r0), (1, .int n1), (2, .int n2), (3, .int n3)]) rfl rfl (Nat.le_of_ble_eq_true rfl) rfl ?_
  refine z_iconst C (z := 0) rfl rfl rfl (fun x2 ex2 => ?_)
  have J3 : ∀ (nn4 : Nat) (x5 : Int32) (x8 : Int32), (MN (41 - x8.toInt) nn4) → (-18 ≤ x5.toInt) → (x5.toInt ≤ 18) → (0 ≤ x8.toInt) → (x8.toInt ≤ 41) → V 6 [(0, .ref r0), (1, .int n1), (2, .int n2), (3, .int n3), (4, .int x5), (5, .int x8)] [] (T, N, I, L, R) 0 0 := by
    intro nn4
    induction nn4 using Nat.strongRecOn with
    | _ nn4 ihJ3 =>
      intro x5 x8 hmnn4 b6 b7 b9 b10
      have gx5 := rg x5
      have gx8 := rg x8
      refine k_iload C rfl rfl rfl ?_
      refine k_aload_n C rfl rfl rfl ?_
      refine g_R C rfl rfl rfl T_r0 rfl R_r0_4 ?_
      refine k_iload_n C rfl rfl rfl ?_
      obtain ⟨T_r0_4, N_r0_4, A_r0_4⟩ := id H_r0_4
      refine z_aI C rfl rfl T_r0_4 N_r0_4 (by omega) (by omega) (fun x11 ex11 => ?_)
      have gx11 := rg x11
      have ox11 := IM.dgR hI R_r0_4 ex11
      refine b_icmp_gt C (t := 67) rfl rfl rfl (fun c12 => ?_) (fun c12 => ?_)
      · skip
        refine k_iload C rfl rfl rfl ?_
        exact k_iret C rfl (Or.inl rfl) (Nat.le_of_ble_eq_true rfl) (Nat.le_of_ble_eq_true rfl) ⟨_, _, _, rfl, rfl, by omega, by omega, rfl, rfl⟩
      refine k_aload_n C rfl rfl rfl ?_
      refine k_iload C rfl rfl rfl ?_
      refine k_aload_n C rfl rfl rfl ?_
      refine k_aload_n C rfl rfl rfl ?_
      refine k_iload_n C rfl rfl rfl ?_
      refine k_iload C rfl rfl rfl ?_
      refine c_VI C (a_X12_of hI H_r0 (by omega) (by omega) (by omega) (by omega)) rfl rfl rfl rfl rfl ⟨_, rfl, rfl, T_r0, Nat.le_of_ble_eq_true rfl⟩ rfl rfl (Nat.le_of_ble_eq_true rfl) (Nat.le_of_ble_eq_true rfl) (Nat.le_of_ble_eq_true rfl) ?_
      rintro x13 _ _ ⟨o0x13, o1x13, p0x13, rfl, rfl⟩
      have p0x13 := p0x13 r0_5 R_r0_5
      have gx13 := rg x13
      try simp only [ex11] at p0x13
      try have q0x13 := congrArg Int32.toInt p0x13
      refine k_aload_n C rfl rfl rfl ?_
      refine k_aload_n C rfl rfl rfl ?_
      refine k_iload_n C rfl rfl rfl ?_
      refine k_aload_n C rfl rfl rfl ?_
      refine g_R C rfl rfl rfl T_r0 rfl R_r0_4 ?_
      refine k_iload_n C rfl rfl rfl ?_
      refine a_I C rfl rfl T_r0_4 (by rw [N_r0_4]; exact vpi (by omega) (by omega)) ex11 ?_
      refine k_iload C rfl rfl rfl ?_
      refine z_isub C rfl rfl ⟨by omega, by omega⟩ (fun x14 ex14 => ?_)
      obtain ⟨x15, e16⟩ : ∃ x, I r0_1 0 = x := ⟨_, rfl⟩
      have gx15 := rg x15
      have ox15 := IM.pi hI R_r0_1 e16
      refine c_VI C (a_X12_power hI H_r0 (by omega) (by omega)) rfl rfl rfl rfl rfl ⟨_, rfl, rfl, T_r0, Nat.le_of_ble_eq_true rfl⟩ rfl rfl (Nat.le_of_ble_eq_true rfl) (Nat.le_of_ble_eq_true rfl) (Nat.le_of_ble_eq_true rfl) ?_
      rintro x17 _ _ ⟨o0x17, o1x17, p0x17, rfl, rfl⟩
      have p0x17 := p0x17 r0_1 R_r0_1
      have gx17 := rg x17
      try simp only [ex11, e16] at p0x17
      try have q0x17 := congrArg Int32.toInt p0x17
      refine k_aload_n C rfl rfl rfl ?_
      refine k_iload_n C rfl rfl rfl ?_
      refine k_iload C rfl rfl rfl ?_
      refine c_VI C (a_X12_power hI H_r0 (by omega) (by omega)) rfl rfl rfl rfl rfl ⟨_, rfl, rfl, T_r0, Nat.le_of_ble_eq_true rfl⟩ rfl rfl (Nat.le_of_ble_eq_true rfl) (Nat.le_of_ble_eq_true rfl) (Nat.le_of_ble_eq_true rfl) ?_
      rintro x18 _ _ ⟨o0x18, o1x18, p0x18, rfl, rfl⟩
      have p0x18 := p0x18 r0_1 R_r0_1
      have gx18 := rg x18
      try simp only [ex11, e16] at p0x18
      try have q0x18 := congrArg Int32.toInt p0x18
      refine c_VI C (a_X12_times hI H_r0 (by omega) (by omega) (by omega) (by omega)) rfl rfl rfl rfl rfl ⟨_, rfl, rfl, T_r0, Nat.le_of_ble_eq_true rfl⟩ rfl rfl (Nat.le_of_ble_eq_true rfl) (Nat.le_of_ble_eq_true rfl) (Nat.le_of_ble_eq_true rfl) ?_
      rintro x19 _ _ ⟨o0x19, o1x19, p0x19, p1x19, p2x19, p3x19, rfl, rfl⟩
      have p0x19 := p0x19 r0_1 R_r0_1
      have p2x19 := p2x19 r0_1 R_r0_1
      have p3x19 := p3x19 r0_1 R_r0_1
      have gx19 := rg x19
      try simp only [ex11, e16] at p0x19
      try have q0x19 := congrArg Int32.toInt p0x19
      try simp only [ex11, e16] at p1x19
      try have q1x19 := congrArg Int32.toInt p1x19
      try simp only [ex11, e16] at p2x19
      try have q2x19 := congrArg Int32.toInt p2x19
      try simp only [ex11, e16] at p3x19
      try have q3x19 := congrArg Int32.toInt p3x19
      refine c_VI C (a_X12_times hI H_r0 (by omega) (by omega) (by omega) (by omega)) rfl rfl rfl rfl rfl ⟨_, rfl, rfl, T_r0, Nat.le_of_ble_eq_true rfl⟩ rfl rfl (Nat.le_of_ble_eq_true rfl) (Nat.le_of_ble_eq_true rfl) (Nat.le_of_ble_eq_true rfl) ?_
      rintro x20 _ _ ⟨o0x20, o1x20, p0x20, p1x20, p2x20, p3x20, rfl, rfl⟩
      have p0x20 := p0x20 r0_1 R_r0_1
      have p2x20 := p2x20 r0_1 R_r0_1
      have p3x20 := p3x20 r0_1 R_r0_1
      have gx20 := rg x20
      try simp only [ex11, e16] at p0x20
      try have q0x20 := congrArg Int32.toInt p0x20
      try simp only [ex11, e16] at p1x20
      try have q1x20 := congrArg Int32.toInt p1x20
      try simp only [ex11, e16] at p2x20
      try have q2x20 := congrArg Int32.toInt p2x20
      try simp only [ex11, e16] at p3x20
      try have q3x20 := congrArg Int32.toInt p3x20
      refine c_VI C (a_X12_plus hI H_r0 (by omega) (by omega) (by omega) (by omega)) rfl rfl rfl rfl rfl ⟨_, rfl, rfl, T_r0, Nat.le_of_ble_eq_true rfl⟩ rfl rfl (Nat.le_of_ble_eq_true rfl) (Nat.le_of_ble_eq_true rfl) (Nat.le_of_ble_eq_true rfl) ?_
      rintro x21 _ _ ⟨o0x21, o1x21, p0x21, p1x21, p2x21, rfl, rfl⟩
      have p0x21 := p0x21 r0_1 R_r0_1
      have p2x21 := p2x21 r0_1 R_r0_1
      have gx21 := rg x21
      try simp only [ex11, e16] at p0x21
      try have q0x21 := congrArg Int32.toInt p0x21
      try simp only [ex11, e16] at p1x21
      try have q1x21 := congrArg Int32.toInt p1x21
      try simp only [ex11, e16] at p2x21
      try have q2x21 := congrArg Int32.toInt p2x21
      refine k_istore C (lw := [(4, .int x21), (0, .ref r0), (1, .int n1), (2, .int n2), (3, .int n3), (5, .int x8)]) rfl rfl (Nat.le_of_ble_eq_true rfl) rfl ?_
      refine z_iinc C (z := 1) (lw := fun x22 => [(5, .int x22), (4, .int x21), (0, .ref r0), (1, .int n1), (2, .int n2), (3, .int n3)]) rfl rfl rfl (Nat.le_of_ble_eq_true rfl) rfl ⟨by omega, by omega⟩ (fun _ => rfl) (fun x22 ex22 => ?_)
      show V 64 [(5, .int x22), (4, .int x21), (0, .ref r0), (1, .int n1), (2, .int n2), (3, .int n3)] _ _ _ _
      refine k_goto C (pc2 := 6) rfl rfl ?_
      refine k_sub S [(0, .ref r0), (1, .int n1), (2, .int n2), (3, .int n3), (4, .int x21), (5, .int x22)] (List.forall_mem_cons.mpr ⟨List.mem_of_getElem? (i := 2) rfl, List.forall_mem_cons.mpr ⟨List.mem_of_getElem? (i := 3) rfl, List.forall_mem_cons.mpr ⟨List.mem_of_getElem? (i := 4) rfl, List.forall_mem_cons.mpr ⟨List.mem_of_getElem? (i := 5) rfl, List.forall_mem_cons.mpr ⟨List.mem_of_getElem? (i := 1) rfl, List.forall_mem_cons.mpr ⟨List.mem_of_getElem? (i := 0) rfl, fun _ h => nomatch h⟩⟩⟩⟩⟩⟩) ?_
      exact ihJ3 _ (MN.lt hmnn4 (by omega) (by omega)) x21 x22 rfl (by omega) (by omega) (by omega) (by omega)
  refine k_istore C (lw := [(5, .int x2), (4, .int x1), (0, .ref r0), (1, .int n1), (2, .int n2), (3, .int n3)]) rfl rfl (Nat.le_of_ble_eq_true rfl) rfl ?_
  refine k_sub S [(0, .ref r0), (1, .int n1), (2, .int n2), (3, .int n3), (4, .int x1), (5, .int x2)] (List.forall_mem_cons.mpr ⟨List.mem_of_getElem? (i := 2) rfl, List.forall_mem_cons.mpr ⟨List.mem_of_getElem? (i := 3) rfl, List.forall_mem_cons.mpr ⟨List.mem_of_getElem? (i := 4) rfl, List.forall_mem_cons.mpr ⟨List.mem_of_getElem? (i := 5) rfl, List.forall_mem_cons.mpr ⟨List.mem_of_getElem? (i := 1) rfl, List.forall_mem_cons.mpr ⟨List.mem_of_getElem? (i := 0) rfl, fun _ h => nomatch h⟩⟩⟩⟩⟩⟩) ?_
  exact J3 _ x1 x2 rfl (by omega) (by omega) (by omega) (by omega)

theorem a_X12_joins {d : Nat} {T N : Nat → Nat} {I : IT} {L : LT} {R : RT} {A : Nat → Prop} {r0 : Nat} {n1 n2 n3 n4 : Int32} (hI : IM R r0 I) (H_r0 : (h_MD T N R A) r0) (b0_n2 : 0 ≤ n2.toInt) (b1_n2 : n2.toInt ≤ 999) (b0_n3 : 0 ≤ n3.toInt) (b1_n3 : n3.toInt ≤ 39) (b0_n4 : 0 ≤ n4.toInt) (b1_n4 : n4.toInt ≤ 39) : Ex (d + 7) 251 [.ref r0, .int n1, .int n2, .int n3, .int n4] (T, N, I, L, R) 0 0 (pI T N R (fun x9 I9 L9 => (0 ≤ x9.toInt) ∧ (x9.toInt ≤ 1) ∧ (∀ a4, R r0 4 = some a4 → ∀ r : Nat, r ≠ n3.toNatClampNeg → r ≠ 43 → r ≠ 45 → r ≠ 46 → r ≠ 47 → I9 a4 r = I a4 r) ∧ (∀ a5, R r0 5 = some a5 → ∀ r : Nat, (r < 41 * n3.toNatClampNeg ∨ 41 * n3.toNatClampNeg + 41 ≤ r) → (r < 41 * 43 ∨ 41 * 43 + 41 ≤ r) → (r < 41 * 45 ∨ 41 * 45 + 41 ≤ r) → (r < 41 * 46 ∨ 41 * 46 + 41 ≤ r) → (r < 41 * 47 ∨ 41 * 47 + 41 ≤ r) → I9 a5 r = I a5 r) ∧ (IM R r0 I9 ∧ CM A R r0 [] [4, 5] I L I9 L9))) := by
  refine ⟨_, rfl, Nat.le_of_ble_eq_true rfl, fun V C S => ?_⟩
  show V 0 [(0, .ref r0), (1, .int n1), (2, .int n2), (3, .int n3), (4, .int n4)] [] (T, N, I, L, R) 0 0
  have gn1 := rg n1
  have gn2 := rg n2
  have gn3 := rg n3
  have gn4 := rg n4
  obtain ⟨T_r0, A_r0, ⟨r0_1, R_r0_1, H_r0_1⟩, ⟨r0_2, R_r0_2, H_r0_2⟩, ⟨r0_4, R_r0_4, H_r0_4⟩, ⟨r0_5, R_r0_5, H_r0_5⟩, ⟨r0_10, R_r0_10, H_r0_10⟩, ⟨r0_18, R_r0_18, H_r0_18⟩, ⟨r0_20, R_r0_20, H_r0_20⟩, ⟨r0_21, R_r0_21, H_r0_21⟩, ⟨r0_22, R_r0_22, H_r0_22⟩, ⟨r0_23, R_r0_23, H_r0_23⟩, ⟨r0_25, R_r0_25, H_r0_25⟩, ⟨r0_26, R_r0_26, H_r0_26⟩, ⟨r0_27, R_r0_27, H_r0_27⟩, ⟨r0_28, R_r0_28, H_r0_28⟩, ⟨r0_34, R_r0_34, H_r0_34⟩, J_r0, Y_r0⟩ := id H_r0
  have G_r0 : mF T R r0 := ⟨J_r0, Y_r0, T_r0⟩
  obtain ⟨w_r0_4_n3, k0_r0_4_n3⟩ : ∃ x, I r0_4 n3.toNatClampNeg = x := ⟨_, rfl⟩
  have gw_r0_4_n3 := rg w_r0_4_n3
  have ow_r0_4_n3 := IM.dgR hI R_r0_4 k0_r0_4_n3
  obtain ⟨w_r0_4_n4, k0_r0_4_n4⟩ : ∃ x, I r0_4 n4.toNatClampNeg = x := ⟨_, rfl⟩
  have gw_r0_4_n4 := rg w_r0_4_n4
  have ow_r0_4_n4 := IM.dgR hI R_r0_4 k0_r0_4_n4
  refine k_iload_n C rfl rfl rfl ?_
  refine z_iconst C (z := 2) rfl rfl rfl (fun x1 ex1 => ?_)
  refine b_icmp_ne C (t := 71) rfl rfl rfl (fun c2 => ?_) (fun c2 => ?_)
  · skip
    refine k_iload_n C rfl rfl rfl ?_
    refine z_iconst C (z := 3) rfl rfl rfl (fun x3 ex3 => ?_)
    refine b_icmp_ne C (t := 98) rfl rfl rfl (fun c4 => ?_) (fun c4 => ?_)
    · skip
      refine k_iload_n C rfl rfl rfl ?_
      refine k_aload_n C rfl rfl rfl ?_
      refine g_R C rfl rfl rfl T_r0 rfl R_r0_4 ?_
      refine k_iload_n C rfl rfl rfl ?_
      obtain ⟨T_r0_4, N_r0_4, A_r0_4⟩ := id H_r0_4
      refine a_I C rfl rfl T_r0_4 (by rw [N_r0_4]; exact vpi (by omega) (by omega)) k0_r0_4_n3 ?_
      refine b_icmp_gt C (t := 142) rfl rfl rfl (fun c5 => ?_) (fun c5 => ?_)
      · skip
        refine z_iconst C (z := 0) rfl rfl rfl (fun x6 ex6 => ?_)
        exact k_iret C rfl (Or.inr ⟨rfl, z01 (by omega) (by omega)⟩) (Nat.le_of_ble_eq_true rfl) (Nat.le_of_ble_eq_true rfl) ⟨_, _, _, rfl, rfl, by omega, by omega, fun a4 h4 => by cases (R_r0_4.symm.trans h4); exact (fun r z0 z1 z2 z3 z4 => rfl), fun a5 h5 => by cases (R_r0_5.symm.trans h5); exact (fun r z0 z1 z2 z3 z4 => rfl), hI, CM.rf⟩
      refine k_iload_n C rfl rfl rfl ?_
      refine k_aload_n C rfl rfl rfl ?_
      refine g_R C rfl rfl rfl T_r0 rfl R_r0_4 ?_
      refine k_iload C rfl rfl rfl ?_
      refine a_I C rfl rfl T_r0_4 (by rw [N_r0_4]; exact vpi (by omega) (by omega)) k0_r0_4_n4 ?_
      refine b_icmp_gt C (t := 142) rfl rfl rfl (fun c7 => ?_) (fun c7 => ?_)
      · skip
        refine z_iconst C (z := 0) rfl rfl rfl (fun x8 ex8 => ?_)
        exact k_iret C rfl (Or.inr ⟨rfl, z01 (by omega) (by omega)⟩) (Nat.le_of_ble_eq_true rfl) (Nat.le_of_ble_eq_true rfl) ⟨_, _, _, rfl, rfl, by omega, by omega, fun a4 h4 => by cases (R_r0_4.symm.trans h4); exact (fun r z0 z1 z2 z3 z4 => rfl), fun a5 h5 => by cases (R_r0_5.symm.trans h5); exact (fun r z0 z1 z2 z3 z4 => rfl), hI, CM.rf⟩
      refine k_aload_n C rfl rfl rfl ?_
      refine g_R C rfl rfl rfl T_r0 rfl R_r0_4 ?_
      refine k_iload_n C rfl rfl rfl ?_
      refine a_I C rfl rfl T_r0_4 (by rw [N_r0_4]; exact vpi (by omega) (by omega)) k0_r0_4_n3 ?_
      refine k_aload_n C rfl rfl rfl ?_
      refine g_R C rfl rfl rfl T_r0 rfl R_r0_4 ?_
      refine k_iload C rfl rfl rfl ?_
      refine a_I C rfl rfl T_r0_4 (by rw [N_r0_4]; exact vpi (by omega) (by omega)) k0_r0_4_n4 ?_
      refine z_iadd C rfl rfl ⟨by omega, by omega⟩ (fun x9 ex9 => ?_)
      refine z_iconst C (z := 2) rfl rfl rfl (fun x10 ex10 => ?_)
      refine k_iload_n C rfl rfl rfl ?_
      refine z_imulL C (c := 2) rfl rfl (by omega) ⟨by omega, by omega⟩ (fun x11 ex11 => ?_)
      refine z_isub C rfl rfl ⟨by omega, by omega⟩ (fun x12 ex12 => ?_)
      refine z_bipush C (z := 41) rfl rfl rfl (fun x13 ex13 => ?_)
      refine b_icmp_lt C (t := 144) rfl rfl rfl (fun c14 => ?_) (fun c14 => ?_)
      · skip
        refine k_iload_n C rfl rfl rfl ?_
        refine z_iconst C (z := 3) rfl rfl rfl (fun x15 ex15 => ?_)
        refine b_icmp_ne C (t := 161) rfl rfl rfl (fun c16 => ?_) (fun c16 => ?_)
        · skip
          refine k_aload_n C rfl rfl rfl ?_
          refine k_iload_n C rfl rfl rfl ?_
          refine k_iload C rfl rfl rfl ?_
          refine k_iload_n C rfl rfl rfl ?_
          refine z_bipush C (z := 43) rfl rfl rfl (fun x17 ex17 => ?_)
          have q18 : x17.toNatClampNeg = 43 := nck (by omega)
          refine c_VV C (a_X12_overlaps hI H_r0 (by omega) (by omega) (by omega) (by omega) (by omega) (by omega) (by omega) (by omega) (fun a4 h4 => by cases (R_r0_4.symm.trans h4); first | omega | (simp only [q18, k0_r0_4_n3, k0_r0_4_n4] <;> omega)) (fun a4 h4 => by cases (R_r0_4.symm.trans h4); first | omega | (simp only [q18, k0_r0_4_n3, k0_r0_4_n4] <;> omega)) (fun a4 h4 => by cases (R_r0_4.symm.trans h4); first | omega | (simp only [q18, k0_r0_4_n3, k0_r0_4_n4] <;> omega))) rfl rfl rfl rfl rfl ⟨_, rfl, rfl, T_r0, Nat.le_of_ble_eq_true rfl⟩ rfl rfl (Nat.le_of_ble_eq_true rfl) (Nat.le_of_ble_eq_true rfl) (Nat.le_of_ble_eq_true rfl) ?_
          rintro I20 L21 ⟨p0v19, p1v19, hI20, S22⟩
          have p0v19 := p0v19 r0_4 R_r0_4
          have p1v19 := p1v19 r0_5 R_r0_5
          try simp only [q18] at p0v19
          have F23 : ∀ r : Nat, r ≠ n3.toNatClampNeg → r ≠ 43 → r ≠ 45 → r ≠ 46 → r ≠ 47 → I20 r0_4 r = I r0_4 r := fun r z0 z1 z2 z3 z4 => p0v19 r (by first | exact z0 | exact z1 | exact z2 | exact z3 | exact z4) (by first | exact z0 | exact z1 | exact z2 | exact z3 | exact z4) (by first | exact z0 | exact z1 | exact z2 | exact z3 | exact z4) (by first | exact z0 | exact z1 | exact z2 | exact z3 | exact z4)
          try simp only [q18] at p1v19
          have F24 : ∀ r : Nat, (r < 41 * n3.toNatClampNeg ∨ 41 * n3.toNatClampNeg + 41 ≤ r) → (r < 41 * 43 ∨ 41 * 43 + 41 ≤ r) → (r < 41 * 45 ∨ 41 * 45 + 41 ≤ r) → (r < 41 * 46 ∨ 41 * 46 + 41 ≤ r) → (r < 41 * 47 ∨ 41 * 47 + 41 ≤ r) → I20 r0_5 r = I r0_5 r := fun r z0 z1 z2 z3 z4 => p1v19 r (by first | exact z0 | exact z1 | exact z2 | exact z3 | exact z4) (by first | exact z0 | exact z1 | exact z2 | exact z3 | exact z4) (by first | exact z0 | exact z1 | exact z2 | exact z3 | exact z4) (by first | exact z0 | exact z1 | exact z2 | exact z3 | exact z4)
          have e25 := (p0v19 n3.toNatClampNeg (by first | decide | exact ncne (by omega) (by omega) (by omega) | exact nckn (by omega) (by omega) | exact (nckn (by omega) (by omega)).symm) (by first | decide | exact ncne (by omega) (by omega) (by omega) | exact nckn (by omega) (by omega) | exact (nckn (by omega) (by omega)).symm) (by first | decide | exact ncne (by omega) (by omega) (by omega) | exact nckn (by omega) (by omega) | exact (nckn (by omega) (by omega)).symm) (by first | decide | exact ncne (by omega) (by omega) (by omega) | exact nckn (by omega) (by omega) | exact (nckn (by omega) (by omega)).symm)).trans k0_r0_4_n3
          have e26 := (p0v19 n4.toNatClampNeg (by first | decide | exact ncne (by omega) (by omega) (by omega) | exact nckn (by omega) (by omega) | exact (nckn (by omega) (by omega)).symm) (by first | decide | exact ncne (by omega) (by omega) (by omega) | exact nckn (by omega) (by omega) | exact (nckn (by omega) (by omega)).symm) (by first | decide | exact ncne (by omega) (by omega) (by omega) | exact nckn (by omega) (by omega) | exact (nckn (by omega) (by omega)).symm) (by first | decide | exact ncne (by omega) (by omega) (by omega) | exact nckn (by omega) (by omega) | exact (nckn (by omega) (by omega)).symm)).trans k0_r0_4_n4
          refine k_aload_n C rfl rfl rfl ?_
          refine z_bipush C (z := 43) rfl rfl rfl (fun x27 ex27 => ?_)
          refine k_iload_n C rfl rfl rfl ?_
          obtain ⟨x28, e29⟩ : ∃ x, I20 r0_4 43 = x := ⟨_, rfl⟩
          have gx28 := rg x28
          have ox28 := IM.dgR hI20 R_r0_4 e29
          have q30 : x27.toNatClampNeg = 43 := nck (by omega)
          refine c_VV C (a_X12_copies hI20 H_r0 (by omega) (by omega) (by omega) (by omega) (by first | omega | (simp only [q30, e25, e26, e29] <;> omega))) rfl rfl rfl rfl rfl ⟨_, rfl, rfl, T_r0, Nat.le_of_ble_eq_true rfl⟩ rfl rfl (Nat.le_of_ble_eq_true rfl) (Nat.le_of_ble_eq_true rfl) (Nat.le_of_ble_eq_true rfl) ?_
          rintro I32 L33 ⟨p0v31, p1v31, p2v31, p3v31, hI32, S34⟩
          have p0v31 := p0v31 r0_4 R_r0_4
          have p1v31 := p1v31 r0_4 r0_5 R_r0_4 R_r0_5
          have p2v31 := p2v31 r0_4 R_r0_4
          have p3v31 := p3v31 r0_5 R_r0_5
          try simp only [q30] at p2v31
          have F35 : ∀ r : Nat, r ≠ n3.toNatClampNeg → r ≠ 43 → r ≠ 45 → r ≠ 46 → r ≠ 47 → I32 r0_4 r = I20 r0_4 r := fun r z0 z1 z2 z3 z4 => p2v31 r (by first | exact z0 | exact z1 | exact z2 | exact z3 | exact z4)
          try simp only [q30] at p3v31
          have F36 : ∀ r : Nat, (r < 41 * n3.toNatClampNeg ∨ 41 * n3.toNatClampNeg + 41 ≤ r) → (r < 41 * 43 ∨ 41 * 43 + 41 ≤ r) → (r < 41 * 45 ∨ 41 * 45 + 41 ≤ r) → (r < 41 * 46 ∨ 41 * 46 + 41 ≤ r) → (r < 41 * 47 ∨ 41 * 47 + 41 ≤ r) → I32 r0_5 r = I20 r0_5 r := fun r z0 z1 z2 z3 z4 => p3v31 r (by first | exact z0 | exact z1 | exact z2 | exact z3 | exact z4)
          have e39 := (p2v31 43 (by first | decide | exact ncne (by omega) (by omega) (by omega) | exact nckn (by omega) (by omega) | exact (nckn (by omega) (by omega)).symm)).trans e29
          obtain ⟨x40, e41⟩ : ∃ x, I32 r0_4 n3.toNatClampNeg = x := ⟨_, rfl⟩
          have gx40 := rg x40
          have ox40 := IM.dgR hI32 R_r0_4 e41
          try simp only [q30, e25, e26, e29, e41] at p0v31
          try have q0v31 := congrArg Int32.toInt p0v31
          try simp only [q30, e25, e26, e29, e41] at p1v31
          try have q1v31 := congrArg Int32.toInt p1v31
          refine z_iconst C (z := 1) rfl rfl rfl (fun x42 ex42 => ?_)
          exact k_iret C rfl (Or.inr ⟨rfl, z01 (by omega) (by omega)⟩) (Nat.le_of_ble_eq_true rfl) (Nat.le_of_ble_eq_true rfl) ⟨_, _, _, rfl, rfl, by omega, by omega, fun a4 h4 => by cases (R_r0_4.symm.trans h4); exact (fun r z0 z1 z2 z3 z4 => ((F35 r z0 z1 z2 z3 z4).trans (F23 r z0 z1 z2 z3 z4))), fun a5 h5 => by cases (R_r0_5.symm.trans h5); exact (fun r z0 z1 z2 z3 z4 => ((F36 r z0 z1 z2 z3 z4).trans (F24 r z0 z1 z2 z3 z4))), hI32, (CM.cons S22 (CM.mono S34 (by decide) (by decide)) (by decide) (by decide))⟩
        refine k_aload_n C rfl rfl rfl ?_
        refine k_iload_n C rfl rfl rfl ?_
        refine k_iload C rfl rfl rfl ?_
        refine z_bipush C (z := 43) rfl rfl rfl (fun x43 ex43 => ?_)
        have q44 : x43.toNatClampNeg = 43 := nck (by omega)
        refine c_VV C (a_X12_multiplies hI H_r0 (by omega) (by omega) (by omega) (by omega) (by omega) (by omega) (by first | omega | (simp only [q44, k0_r0_4_n3, k0_r0_4_n4] <;> omega)) (by first | omega | (simp only [q44, k0_r0_4_n3, k0_r0_4_n4] <;> omega)) (fun a4 h4 => by cases (R_r0_4.symm.trans h4); first | omega | (simp only [q44, k0_r0_4_n3, k0_r0_4_n4] <;> omega))) rfl rfl rfl rfl rfl ⟨_, rfl, rfl, T_r0, Nat.le_of_ble_eq_true rfl⟩ rfl rfl (Nat.le_of_ble_eq_true rfl) (Nat.le_of_ble_eq_true rfl) (Nat.le_of_ble_eq_true rfl) ?_
        rintro I46 L47 ⟨p0v45, p1v45, hI46, S48⟩
        have p0v45 := p0v45 r0_4 R_r0_4
        have p1v45 := p1v45 r0_5 R_r0_5
        try simp only [q44] at p0v45
        have F49 : ∀ r : Nat, r ≠ n3.toNatClampNeg → r ≠ 43 → r ≠ 45 → r ≠ 46 → r ≠ 47 → I46 r0_4 r = I r0_4 r := fun r z0 z1 z2 z3 z4 => p0v45 r (by first | exact z0 | exact z1 | exact z2 | exact z3 | exact z4)
        try simp only [q44] at p1v45
        have F50 : ∀ r : Nat, (r < 41 * n3.toNatClampNeg ∨ 41 * n3.toNatClampNeg + 41 ≤ r) → (r < 41 * 43 ∨ 41 * 43 + 41 ≤ r) → (r < 41 * 45 ∨ 41 * 45 + 41 ≤ r) → (r < 41 * 46 ∨ 41 * 46 + 41 ≤ r) → (r < 41 * 47 ∨ 41 * 47 + 41 ≤ r) → I46 r0_5 r = I r0_5 r := fun r z0 z1 z2 z3 z4 => p1v45 r (by first | exact z0 | exact z1 | exact z2 | exact z3 | exact z4)
        have e51 := (p0v45 n3.toNatClampNeg (by first | decide | exact ncne (by omega) (by omega) (by omega) | exact nckn (by omega) (by omega) | exact (nckn (by omega) (by omega)).symm)).trans k0_r0_4_n3
        have e52 := (p0v45 n4.toNatClampNeg (by first | decide | exact ncne (by omega) (by omega) (by omega) | exact nckn (by omega) (by omega) | exact (nckn (by omega) (by omega)).symm)).trans k0_r0_4_n4
        refine k_goto C (pc2 := 171) rfl rfl ?_
        refine k_aload_n C rfl rfl rfl ?_
        refine z_bipush C (z := 43) rfl rfl rfl (fun x53 ex53 => ?_)
        refine k_iload_n C rfl rfl rfl ?_
        obtain ⟨x54, e55⟩ : ∃ x, I46 r0_4 43 = x := ⟨_, rfl⟩
        have gx54 := rg x54
        have ox54 := IM.dgR hI46 R_r0_4 e55
        have q56 : x53.toNatClampNeg = 43 := nck (by omega)
        refine c_VV C (a_X12_copies hI46 H_r0 (by omega) (by omega) (by omega) (by omega) (by first | omega | (simp only [q56, e51, e52, e55] <;> omega))) rfl rfl rfl rfl rfl ⟨_, rfl, rfl, T_r0, Nat.le_of_ble_eq_true rfl⟩ rfl rfl (Nat.le_of_ble_eq_true rfl) (Nat.le_of_ble_eq_true rfl) (Nat.le_of_ble_eq_true rfl) ?_
        rintro I58 L59 ⟨p0v57, p1v57, p2v57, p3v57, hI58, S60⟩
        have p0v57 := p0v57 r0_4 R_r0_4
        have p1v57 := p1v57 r0_4 r0_5 R_r0_4 R_r0_5
        have p2v57 := p2v57 r0_4 R_r0_4
        have p3v57 := p3v57 r0_5 R_r0_5
        try simp only [q56] at p2v57
        have F61 : ∀ r : Nat, r ≠ n3.toNatClampNeg → r ≠ 43 → r ≠ 45 → r ≠ 46 → r ≠ 47 → I58 r0_4 r = I46 r0_4 r := fun r z0 z1 z2 z3 z4 => p2v57 r (by first | exact z0 | exact z1 | exact z2 | exact z3 | exact z4)
        try simp only [q56] at p3v57
        have F62 : ∀ r : Nat, (r < 41 * n3.toNatClampNeg ∨ 41 * n3.toNatClampNeg + 41 ≤ r) → (r < 41 * 43 ∨ 41 * 43 + 41 ≤ r) → (r < 41 * 45 ∨ 41 * 45 + 41 ≤ r) → (r < 41 * 46 ∨ 41 * 46 + 41 ≤ r) → (r < 41 * 47 ∨ 41 * 47 + 41 ≤ r) → I58 r0_5 r = I46 r0_5 r := fun r z0 z1 z2 z3 z4 => p3v57 r (by first | exact z0 | exact z1 | exact z2 | exact z3 | exact z4)
        have e65 := (p2v57 43 (by first | decide | exact ncne (by omega) (by omega) (by omega) | exact nckn (by omega) (by omega) | exact (nckn (by omega) (by omega)).symm)).trans e55
        obtain ⟨x66, e67⟩ : ∃ x, I58 r0_4 n3.toNatClampNeg = x := ⟨_, rfl⟩
        have gx66 := rg x66
        have ox66 := IM.dgR hI58 R_r0_4 e67
        try simp only [q56, e51, e52, e55, e67] at p0v57
        try have q0v57 := congrArg Int32.toInt p0v57
        try simp only [q56, e51, e52, e55, e67] at p1v57
        try have q1v57 := congrArg Int32.toInt p1v57
        refine z_iconst C (z := 1) rfl rfl rfl (fun x68 ex68 => ?_)
        exact k_iret C rfl (Or.inr ⟨rfl, z01 (by omega) (by omega)⟩) (Nat.le_of_ble_eq_true rfl) (Nat.le_of_ble_eq_true rfl) ⟨_, _, _, rfl, rfl, by omega, by omega, fun a4 h4 => by cases (R_r0_4.symm.trans h4); exact (fun r z0 z1 z2 z3 z4 => ((F61 r z0 z1 z2 z3 z4).trans (F49 r z0 z1 z2 z3 z4))), fun a5 h5 => by cases (R_r0_5.symm.trans h5); exact (fun r z0 z1 z2 z3 z4 => ((F62 r z0 z1 z2 z3 z4).trans (F50 r z0 z1 z2 z3 z4))), hI58, (CM.cons S48 (CM.mono S60 (by decide) (by decide)) (by decide) (by decide))⟩
      refine z_iconst C (z := 0) rfl rfl rfl (fun x69 ex69 => ?_)
      exact k_iret C rfl (Or.inr ⟨rfl, z01 (by omega) (by omega)⟩) (Nat.le_of_ble_eq_true rfl) (Nat.le_of_ble_eq_true rfl) ⟨_, _, _, rfl, rfl, by omega, by omega, fun a4 h4 => by cases (R_r0_4.symm.trans h4); exact (fun r z0 z1 z2 z3 z4 => rfl), fun a5 h5 => by cases (R_r0_5.symm.trans h5); exact (fun r z0 z1 z2 z3 z4 => rfl), hI, CM.rf⟩
    refine k_aload_n C rfl rfl rfl ?_
    refine g_R C rfl rfl rfl T_r0 rfl R_r0_4 ?_
    refine k_iload_n C rfl rfl rfl ?_
    obtain ⟨T_r0_4, N_r0_4, A_r0_4⟩ := id H_r0_4
    refine a_I C rfl rfl T_r0_4 (by rw [N_r0_4]; exact vpi (by omega) (by omega)) k0_r0_4_n3 ?_
    refine k_aload_n C rfl rfl rfl ?_
    refine g_R C rfl rfl rfl T_r0 rfl R_r0_4 ?_
    refine k_iload C rfl rfl rfl ?_
    refine a_I C rfl rfl T_r0_4 (by rw [N_r0_4]; exact vpi (by omega) (by omega)) k0_r0_4_n4 ?_
    refine z_iadd C rfl rfl ⟨by omega, by omega⟩ (fun x70 ex70 => ?_)
    refine z_bipush C (z := 41) rfl rfl rfl (fun x71 ex71 => ?_)
    refine b_icmp_lt C (t := 144) rfl rfl rfl (fun c72 => ?_) (fun c72 => ?_)
    · skip
      refine k_iload_n C rfl rfl rfl ?_
      refine z_iconst C (z := 3) rfl rfl rfl (fun x73 ex73 => ?_)
      refine b_icmp_ne C (t := 161) rfl rfl rfl (fun c74 => by exfalso; omega) (fun c74 => ?_)
      refine k_aload_n C rfl rfl rfl ?_
      refine k_iload_n C rfl rfl rfl ?_
      refine k_iload C rfl rfl rfl ?_
      refine z_bipush C (z := 43) rfl rfl rfl (fun x75 ex75 => ?_)
      have q76 : x75.toNatClampNeg = 43 := nck (by omega)
      refine c_VV C (a_X12_multiplies hI H_r0 (by omega) (by omega) (by omega) (by omega) (by omega) (by omega) (by first | omega | (simp only [q76, k0_r0_4_n3, k0_r0_4_n4] <;> omega)) (by first | omega | (simp only [q76, k0_r0_4_n3, k0_r0_4_n4] <;> omega)) (fun a4 h4 => by cases (R_r0_4.symm.trans h4); first | omega | (simp only [q76, k0_r0_4_n3, k0_r0_4_n4] <;> omega))) rfl rfl rfl rfl rfl ⟨_, rfl, rfl, T_r0, Nat.le_of_ble_eq_true rfl⟩ rfl rfl (Nat.le_of_ble_eq_true rfl) (Nat.le_of_ble_eq_true rfl) (Nat.le_of_ble_eq_true rfl) ?_
      rintro I78 L79 ⟨p0v77, p1v77, hI78, S80⟩
      have p0v77 := p0v77 r0_4 R_r0_4
      have p1v77 := p1v77 r0_5 R_r0_5
      try simp only [q76] at p0v77
      have F81 : ∀ r : Nat, r ≠ n3.toNatClampNeg → r ≠ 43 → r ≠ 45 → r ≠ 46 → r ≠ 47 → I78 r0_4 r = I r0_4 r := fun r z0 z1 z2 z3 z4 => p0v77 r (by first | exact z0 | exact z1 | exact z2 | exact z3 | exact z4)
      try simp only [q76] at p1v77
      have F82 : ∀ r : Nat, (r < 41 * n3.toNatClampNeg ∨ 41 * n3.toNatClampNeg + 41 ≤ r) → (r < 41 * 43 ∨ 41 * 43 + 41 ≤ r) → (r < 41 * 45 ∨ 41 * 45 + 41 ≤ r) → (r < 41 * 46 ∨ 41 * 46 + 41 ≤ r) → (r < 41 * 47 ∨ 41 * 47 + 41 ≤ r) → I78 r0_5 r = I r0_5 r := fun r z0 z1 z2 z3 z4 => p1v77 r (by first | exact z0 | exact z1 | exact z2 | exact z3 | exact z4)
      have e83 := (p0v77 n3.toNatClampNeg (by first | decide | exact ncne (by omega) (by omega) (by omega) | exact nckn (by omega) (by omega) | exact (nckn (by omega) (by omega)).symm)).trans k0_r0_4_n3
      have e84 := (p0v77 n4.toNatClampNeg (by first | decide | exact ncne (by omega) (by omega) (by omega) | exact nckn (by omega) (by omega) | exact (nckn (by omega) (by omega)).symm)).trans k0_r0_4_n4
      refine k_goto C (pc2 := 171) rfl rfl ?_
      refine k_aload_n C rfl rfl rfl ?_
      refine z_bipush C (z := 43) rfl rfl rfl (fun x85 ex85 => ?_)
      refine k_iload_n C rfl rfl rfl ?_
      obtain ⟨x86, e87⟩ : ∃ x, I78 r0_4 43 = x := ⟨_, rfl⟩
      have gx86 := rg x86
      have ox86 := IM.dgR hI78 R_r0_4 e87
      have q88 : x85.toNatClampNeg = 43 := nck (by omega)
      refine c_VV C (a_X12_copies hI78 H_r0 (by omega) (by omega) (by omega) (by omega) (by first | omega | (simp only [q88, e83, e84, e87] <;> omega))) rfl rfl rfl rfl rfl ⟨_, rfl, rfl, T_r0, Nat.le_of_ble_eq_true rfl⟩ rfl rfl (Nat.le_of_ble_eq_true rfl) (Nat.le_of_ble_eq_true rfl) (Nat.le_of_ble_eq_true rfl) ?_
      rintro I90 L91 ⟨p0v89, p1v89, p2v89, p3v89, hI90, S92⟩
      have p0v89 := p0v89 r0_4 R_r0_4
      have p1v89 := p1v89 r0_4 r0_5 R_r0_4 R_r0_5
      have p2v89 := p2v89 r0_4 R_r0_4
      have p3v89 := p3v89 r0_5 R_r0_5
      try simp only [q88] at p2v89
      have F93 : ∀ r : Nat, r ≠ n3.toNatClampNeg → r ≠ 43 → r ≠ 45 → r ≠ 46 → r ≠ 47 → I90 r0_4 r = I78 r0_4 r := fun r z0 z1 z2 z3 z4 => p2v89 r (by first | exact z0 | exact z1 | exact z2 | exact z3 | exact z4)
      try simp only [q88] at p3v89
      have F94 : ∀ r : Nat, (r < 41 * n3.toNatClampNeg ∨ 41 * n3.toNatClampNeg + 41 ≤ r) → (r < 41 * 43 ∨ 41 * 43 + 41 ≤ r) → (r < 41 * 45 ∨ 41 * 45 + 41 ≤ r) → (r < 41 * 46 ∨ 41 * 46 + 41 ≤ r) → (r < 41 * 47 ∨ 41 * 47 + 41 ≤ r) → I90 r0_5 r = I78 r0_5 r := fun r z0 z1 z2 z3 z4 => p3v89 r (by first | exact z0 | exact z1 | exact z2 | exact z3 | exact z4)
      have e97 := (p2v89 43 (by first | decide | exact ncne (by omega) (by omega) (by omega) | exact nckn (by omega) (by omega) | exact (nckn (by omega) (by omega)).symm)).trans e87
      obtain ⟨x98, e99⟩ : ∃ x, I90 r0_4 n3.toNatClampNeg = x := ⟨_, rfl⟩
      have gx98 := rg x98
      have ox98 := IM.dgR hI90 R_r0_4 e99
      try simp only [q88, e83, e84, e87, e99] at p0v89
      try have q0v89 := congrArg Int32.toInt p0v89
      try simp only [q88, e83, e84, e87, e99] at p1v89
      try have q1v89 := congrArg Int32.toInt p1v89
      refine z_iconst C (z := 1) rfl rfl rfl (fun x100 ex100 => ?_)
      exact k_iret C rfl (Or.inr ⟨rfl, z01 (by omega) (by omega)⟩) (Nat.le_of_ble_eq_true rfl) (Nat.le_of_ble_eq_true rfl) ⟨_, _, _, rfl, rfl, by omega, by omega, fun a4 h4 => by cases (R_r0_4.symm.trans h4); exact (fun r z0 z1 z2 z3 z4 => ((F93 r z0 z1 z2 z3 z4).trans (F81 r z0 z1 z2 z3 z4))), fun a5 h5 => by cases (R_r0_5.symm.trans h5); exact (fun r z0 z1 z2 z3 z4 => ((F94 r z0 z1 z2 z3 z4).trans (F82 r z0 z1 z2 z3 z4))), hI90, (CM.cons S80 (CM.mono S92 (by decide) (by decide)) (by decide) (by decide))⟩
    refine k_goto C (pc2 := 142) rfl rfl ?_
    refine z_iconst C (z := 0) rfl rfl rfl (fun x101 ex101 => ?_)
    exact k_iret C rfl (Or.inr ⟨rfl, z01 (by omega) (by omega)⟩) (Nat.le_of_ble_eq_true rfl) (Nat.le_of_ble_eq_true rfl) ⟨_, _, _, rfl, rfl, by omega, by omega, fun a4 h4 => by cases (R_r0_4.symm.trans h4); exact (fun r z0 z1 z2 z3 z4 => rfl), fun a5 h5 => by cases (R_r0_5.symm.trans h5); exact (fun r z0 z1 z2 z3 z4 => rfl), hI, CM.rf⟩
  refine k_aload_n C rfl rfl rfl ?_
  refine g_R C rfl rfl rfl T_r0 rfl R_r0_4 ?_
  refine k_iload_n C rfl rfl rfl ?_
  obtain ⟨T_r0_4, N_r0_4, A_r0_4⟩ := id H_r0_4
  refine a_I C rfl rfl T_r0_4 (by rw [N_r0_4]; exact vpi (by omega) (by omega)) k0_r0_4_n3 ?_
  refine k_aload_n C rfl rfl rfl ?_
  refine g_R C rfl rfl rfl T_r0 rfl R_r0_4 ?_
  refine k_iload C rfl rfl rfl ?_
  refine a_I C rfl rfl T_r0_4 (by rw [N_r0_4]; exact vpi (by omega) (by omega)) k0_r0_4_n4 ?_
  refine b_icmp_eq C (t := 23) rfl rfl rfl (fun c102 => ?_) (fun c102 => ?_)
  · skip
    refine z_iconst C (z := 0) rfl rfl rfl (fun x103 ex103 => ?_)
    have J104 : ∀ (nn105 : Nat) (I106 : IT) (L107 : LT) (x108 : Int32), (MN (41 - x108.toInt) nn105) → (IM R r0 I106) → (CM A R r0 [] [5] I L I106 L107) → (∀ r : Nat, (r < 41 * n3.toNatClampNeg ∨ 41 * n3.toNatClampNeg + 41 ≤ r) → (r < 41 * 43 ∨ 41 * 43 + 41 ≤ r) → (r < 41 * 45 ∨ 41 * 45 + 41 ≤ r) → (r < 41 * 46 ∨ 41 * 46 + 41 ≤ r) → (r < 41 * 47 ∨ 41 * 47 + 41 ≤ r) → I106 r0_5 r = I r0_5 r) → (0 ≤ x108.toInt) → (x108.toInt ≤ 41) → V 26 [(0, .ref r0), (3, .int n3), (4, .int n4), (5, .int x108)] [] (T, N, I106, L107, R) 0 0 := by
      intro nn105
      induction nn105 using Nat.strongRecOn with
      | _ nn105 ihJ104 =>
        intro I106 L107 x108 hmnn105 hI112 S111 F113 b109 b110
        have gx108 := rg x108
        have e114 := CM.j S111 R_r0_4 (by decide) k0_r0_4_n3
        have e115 := CM.j S111 R_r0_4 (by decide) k0_r0_4_n4
        refine k_iload C rfl rfl rfl ?_
        refine k_aload_n C rfl rfl rfl ?_
        refine g_R C rfl rfl rfl T_r0 rfl R_r0_4 ?_
        refine k_iload_n C rfl rfl rfl ?_
        refine a_I C rfl rfl T_r0_4 (by rw [N_r0_4]; exact vpi (by omega) (by omega)) e114 ?_
        refine b_icmp_gt C (t := 69) rfl rfl rfl (fun c116 => ?_) (fun c116 => ?_)
        · skip
          refine z_iconst C (z := 1) rfl rfl rfl (fun x117 ex117 => ?_)
          exact k_iret C rfl (Or.inr ⟨rfl, z01 (by omega) (by omega)⟩) (Nat.le_of_ble_eq_true rfl) (Nat.le_of_ble_eq_true rfl) ⟨_, _, _, rfl, rfl, by omega, by omega, fun a4 h4 => by cases (R_r0_4.symm.trans h4); exact (fun r z0 z1 z2 z3 z4 => (congrFun (CM.j0 S111 R_r0_4 (by decide)) r)), fun a5 h5 => by cases (R_r0_5.symm.trans h5); exact (fun r z0 z1 z2 z3 z4 => (F113 r z0 z1 z2 z3 z4)), hI112, (CM.mono S111 (by decide) (by decide))⟩
        refine k_aload_n C rfl rfl rfl ?_
        refine k_iload_n C rfl rfl rfl ?_
        refine k_iload C rfl rfl rfl ?_
        refine k_aload_n C rfl rfl rfl ?_
        refine k_aload_n C rfl rfl rfl ?_
        refine k_iload_n C rfl rfl rfl ?_
        refine k_iload C rfl rfl rfl ?_
        refine c_VI C (a_X12_of hI112 H_r0 (by omega) (by omega) (by omega) (by omega)) rfl rfl rfl rfl rfl ⟨_, rfl, rfl, T_r0, Nat.le_of_ble_eq_true rfl⟩ rfl rfl (Nat.le_of_ble_eq_true rfl) (Nat.le_of_ble_eq_true rfl) (Nat.le_of_ble_eq_true rfl) ?_
        rintro x118 _ _ ⟨o0x118, o1x118, p0x118, rfl, rfl⟩
        have p0x118 := p0x118 r0_5 R_r0_5
        have gx118 := rg x118
        try simp only [e114, e115] at p0x118
        try have q0x118 := congrArg Int32.toInt p0x118
        refine k_aload_n C rfl rfl rfl ?_
        refine k_iload C rfl rfl rfl ?_
        refine k_iload C rfl rfl rfl ?_
        refine c_VI C (a_X12_of hI112 H_r0 (by omega) (by omega) (by omega) (by omega)) rfl rfl rfl rfl rfl ⟨_, rfl, rfl, T_r0, Nat.le_of_ble_eq_true rfl⟩ rfl rfl (Nat.le_of_ble_eq_true rfl) (Nat.le_of_ble_eq_true rfl) (Nat.le_of_ble_eq_true rfl) ?_
        rintro x119 _ _ ⟨o0x119, o1x119, p0x119, rfl, rfl⟩
        have p0x119 := p0x119 r0_5 R_r0_5
        have gx119 := rg x119
        try simp only [e114, e115] at p0x119
        try have q0x119 := congrArg Int32.toInt p0x119
        obtain ⟨x120, e121⟩ : ∃ x, I106 r0_1 0 = x := ⟨_, rfl⟩
        have gx120 := rg x120
        have ox120 := IM.pi hI112 R_r0_1 e121
        refine c_VI C (a_X12_plus hI112 H_r0 (by omega) (by omega) (by omega) (by omega)) rfl rfl rfl rfl rfl ⟨_, rfl, rfl, T_r0, Nat.le_of_ble_eq_true rfl⟩ rfl rfl (Nat.le_of_ble_eq_true rfl) (Nat.le_of_ble_eq_true rfl) (Nat.le_of_ble_eq_true rfl) ?_
        rintro x122 _ _ ⟨o0x122, o1x122, p0x122, p1x122, p2x122, rfl, rfl⟩
        have p0x122 := p0x122 r0_1 R_r0_1
        have p2x122 := p2x122 r0_1 R_r0_1
        have gx122 := rg x122
        try simp only [e114, e115, e121] at p0x122
        try have q0x122 := congrArg Int32.toInt p0x122
        try simp only [e114, e115, e121] at p1x122
        try have q1x122 := congrArg Int32.toInt p1x122
        try simp only [e114, e115, e121] at p2x122
        try have q2x122 := congrArg Int32.toInt p2x122
        refine c_VV C (a_X12_put hI112 H_r0 (by omega) (by omega) (by omega) (by omega) (by omega) (by omega)) rfl rfl rfl rfl rfl ⟨_, rfl, rfl, T_r0, Nat.le_of_ble_eq_true rfl⟩ rfl rfl (Nat.le_of_ble_eq_true rfl) (Nat.le_of_ble_eq_true rfl) (Nat.le_of_ble_eq_true rfl) ?_
        rintro I124 L125 ⟨p0v123, p1v123, hI124, S126⟩
        have p0v123 := p0v123 r0_5 R_r0_5
        have p1v123 := p1v123 r0_5 R_r0_5
        have F127 : ∀ r : Nat, (r < 41 * n3.toNatClampNeg ∨ 41 * n3.toNatClampNeg + 41 ≤ r) → (r < 41 * 43 ∨ 41 * 43 + 41 ≤ r) → (r < 41 * 45 ∨ 41 * 45 + 41 ≤ r) → (r < 41 * 46 ∨ 41 * 46 + 41 ≤ r) → (r < 41 * 47 ∨ 41 * 47 + 41 ≤ r) → I124 r0_5 r = I106 r0_5 r := fun r z0 z1 z2 z3 z4 => p1v123 r (by first | exact z0 | exact z1 | exact z2 | exact z3 | exact z4)
        have e128 := CM.j S126 R_r0_4 (by decide) e114
        have e129 := CM.j S126 R_r0_4 (by decide) e115
        have e130 := CM.j S126 R_r0_1 (by decide) e121
        try simp only [e114, e115, e121] at p0v123
        try have q0v123 := congrArg Int32.toInt p0v123
        refine z_iinc C (z := 1) (lw := fun x131 => [(5, .int x131), (0, .ref r0), (3, .int n3), (4, .int n4)]) rfl rfl rfl (Nat.le_of_ble_eq_true rfl) rfl ⟨by omega, by omega⟩ (fun _ => rfl) (fun x131 ex131 => ?_)
        show V 66 [(5, .int x131), (0, .ref r0), (3, .int n3), (4, .int n4)] _ _ _ _
        refine k_goto C (pc2 := 26) rfl rfl ?_
        refine k_sub S [(0, .ref r0), (3, .int n3), (4, .int n4), (5, .int x131)] (List.forall_mem_cons.mpr ⟨List.mem_of_getElem? (i := 1) rfl, List.forall_mem_cons.mpr ⟨List.mem_of_getElem? (i := 2) rfl, List.forall_mem_cons.mpr ⟨List.mem_of_getElem? (i := 3) rfl, List.forall_mem_cons.mpr ⟨List.mem_of_getElem? (i := 0) rfl, fun _ h => nomatch h⟩⟩⟩⟩) ?_
        exact ihJ104 _ (MN.lt hmnn105 (by omega) (by omega)) I124 L125 x131 rfl hI124 (CM.cons S111 (CM.mono S126 (by decide) (by decide)) (by decide) (by decide)) (fun r z0 z1 z2 z3 z4 => ((F127 r z0 z1 z2 z3 z4).trans (F113 r z0 z1 z2 z3 z4))) (by omega) (by omega)
    refine k_istore C (lw := [(5, .int x103), (0, .ref r0), (1, .int n1), (2, .int n2), (3, .int n3), (4, .int n4)]) rfl rfl (Nat.le_of_ble_eq_true rfl) rfl ?_
    refine k_sub S [(0, .ref r0), (3, .int n3), (4, .int n4), (5, .int x103)] (List.forall_mem_cons.mpr ⟨List.mem_of_getElem? (i := 1) rfl, List.forall_mem_cons.mpr ⟨List.mem_of_getElem? (i := 4) rfl, List.forall_mem_cons.mpr ⟨List.mem_of_getElem? (i := 5) rfl, List.forall_mem_cons.mpr ⟨List.mem_of_getElem? (i := 0) rfl, fun _ h => nomatch h⟩⟩⟩⟩) ?_
    exact J104 _ I L x103 rfl hI CM.rf (fun r z0 z1 z2 z3 z4 => rfl) (by omega) (by omega)
  refine z_iconst C (z := 0) rfl rfl rfl (fun x132 ex132 => ?_)
  exact k_iret C rfl (Or.inr ⟨rfl, z01 (by omega) (by omega)⟩) (Nat.le_of_ble_eq_true rfl) (Nat.le_of_ble_eq_true rfl) ⟨_, _, _, rfl, rfl, by omega, by omega, fun a4 h4 => by cases (R_r0_4.symm.trans h4); exact (fun r z0 z1 z2 z3 z4 => rfl), fun a5 h5 => by cases (R_r0_5.symm.trans h5); exact (fun r z0 z1 z2 z3 z4 => rfl), hI, CM.rf⟩

