/-! the reference in any state: roots, powers -/
theorem a_X12_fault {d : Nat} {T N : Nat → Nat} {I : IT} {L : LT} {R : RT} {A : Nat → Prop} {r0 : Nat} (hI : IM R r0 I) (H_r0 : (h_MD T N R A) r0) : Ex (d + 1) 223 [.ref r0] (T, N, I, L, R) 0 0 (pI T N R (fun x9 I9 L9 => (IM R r0 I9 ∧ CM A R r0 [0] [] I L I9 L9))) := by
  refine ⟨_, rfl, Nat.le_of_ble_eq_true rfl, fun V C S => ?_⟩
  show V 0 [(0, .ref r0)] [] (T, N, I, L, R) 0 0
  obtain ⟨T_r0, A_r0, ⟨r0_1, R_r0_1, H_r0_1⟩, ⟨r0_2, R_r0_2, H_r0_2⟩, ⟨r0_4, R_r0_4, H_r0_4⟩, ⟨r0_5, R_r0_5, H_r0_5⟩, ⟨r0_10, R_r0_10, H_r0_10⟩, ⟨r0_18, R_r0_18, H_r0_18⟩, ⟨r0_20, R_r0_20, H_r0_20⟩, ⟨r0_21, R_r0_21, H_r0_21⟩, ⟨r0_22, R_r0_22, H_r0_22⟩, ⟨r0_23, R_r0_23, H_r0_23⟩, ⟨r0_25, R_r0_25, H_r0_25⟩, ⟨r0_26, R_r0_26, H_r0_26⟩, ⟨r0_27, R_r0_27, H_r0_27⟩, ⟨r0_28, R_r0_28, H_r0_28⟩, ⟨r0_34, R_r0_34, H_r0_34⟩, J_r0, Y_r0⟩ := id H_r0
  have G_r0 : mF T R r0 := ⟨J_r0, Y_r0, T_r0⟩
  refine k_aload_n C rfl rfl rfl ?_
  refine z_iconst C (z := 0) rfl rfl rfl (fun x1 ex1 => ?_)
  refine z_pI C rfl rfl rfl T_r0 (Or.inr rfl) rfl (fun I2 uI2 => ?_)
  have hI2 : IM R r0 I2 := IM.fld hI G_r0 ⟨(fun h => absurd h (by decide)), (fun h => absurd h (by decide)), (fun h => absurd h (by decide)), (fun h => absurd h (by decide)), (fun h => absurd h (by decide))⟩ uI2
  have S3 : CM A R r0 [0] [] I L I2 L := CM.f G_r0 A_r0 uI2
  have e4 := u2_e uI2
  refine k_aload_n C rfl rfl rfl ?_
  refine z_gI C rfl rfl rfl T_r0 rfl (fun x5 ex5 => ?_)
  have gx5 := rg x5
  exact k_iret C rfl (Or.inl rfl) (Nat.le_of_ble_eq_true rfl) (Nat.le_of_ble_eq_true rfl) ⟨_, _, _, rfl, rfl, hI2, (CM.mono S3 (by decide) (by decide))⟩

theorem a_X12_isAt {d : Nat} {T N : Nat → Nat} {I : IT} {L : LT} {R : RT} {A : Nat → Prop} {r0 : Nat} {n1 n2 : Int32} (hI : IM R r0 I) (H_r0 : (h_MD T N R A) r0) : Ex (d + 1) 218 [.ref r0, .int n1, .int n2] (T, N, I, L, R) 0 0 (pI T N R (fun x9 I9 L9 => (0 ≤ x9.toInt) ∧ (x9.toInt ≤ 1) ∧ (x9.toInt = 0 ∨ (I r0 12).toInt < (I r0 13).toInt) ∧ (I = I9 ∧ L = L9))) := by
  refine ⟨_, rfl, Nat.le_of_ble_eq_true rfl, fun V C S => ?_⟩
  show V 0 [(0, .ref r0), (1, .int n1), (2, .int n2)] [] (T, N, I, L, R) 0 0
  have gn1 := rg n1
  have gn2 := rg n2
  obtain ⟨T_r0, A_r0, ⟨r0_1, R_r0_1, H_r0_1⟩, ⟨r0_2, R_r0_2, H_r0_2⟩, ⟨r0_4, R_r0_4, H_r0_4⟩, ⟨r0_5, R_r0_5, H_r0_5⟩, ⟨r0_10, R_r0_10, H_r0_10⟩, ⟨r0_18, R_r0_18, H_r0_18⟩, ⟨r0_20, R_r0_20, H_r0_20⟩, ⟨r0_21, R_r0_21, H_r0_21⟩, ⟨r0_22, R_r0_22, H_r0_22⟩, ⟨r0_23, R_r0_23, H_r0_23⟩, ⟨r0_25, R_r0_25, H_r0_25⟩, ⟨r0_26, R_r0_26, H_r0_26⟩, ⟨r0_27, R_r0_27, H_r0_27⟩, ⟨r0_28, R_r0_28, H_r0_28⟩, ⟨r0_34, R_r0_34, H_r0_34⟩, J_r0, Y_r0⟩ := id H_r0
  have G_r0 : mF T R r0 := ⟨J_r0, Y_r0, T_r0⟩
  obtain ⟨w_r0_12, k0_r0_12⟩ : ∃ x, I r0 12 = x := ⟨_, rfl⟩
  have gw_r0_12 := rg w_r0_12
  have ow_r0_12 := IM.f12 hI k0_r0_12
  obtain ⟨w_r0_13, k0_r0_13⟩ : ∃ x, I r0 13 = x := ⟨_, rfl⟩
  have gw_r0_13 := rg w_r0_13
  have ow_r0_13 := IM.f13 hI k0_r0_13
  refine k_aload_n C rfl rfl rfl ?_
  refine g_I C rfl rfl rfl T_r0 rfl k0_r0_12 ?_
  refine k_aload_n C rfl rfl rfl ?_
  refine g_I C rfl rfl rfl T_r0 rfl k0_r0_13 ?_
  refine b_icmp_ge C (t := 41) rfl rfl rfl (fun c1 => ?_) (fun c1 => ?_)
  · skip
    refine z_iconst C (z := 0) rfl rfl rfl (fun x2 ex2 => ?_)
    exact k_iret C rfl (Or.inr ⟨rfl, z01 (by omega) (by omega)⟩) (Nat.le_of_ble_eq_true rfl) (Nat.le_of_ble_eq_true rfl) ⟨_, _, _, rfl, rfl, by omega, by omega, by first | omega | (simp only [k0_r0_12, k0_r0_13] <;> omega), rfl, rfl⟩
  refine k_aload_n C rfl rfl rfl ?_
  refine g_R C rfl rfl rfl T_r0 rfl R_r0_10 ?_
  refine k_aload_n C rfl rfl rfl ?_
  refine g_I C rfl rfl rfl T_r0 rfl k0_r0_12 ?_
  obtain ⟨T_r0_10, N_r0_10, A_r0_10⟩ := id H_r0_10
  refine z_aB C rfl rfl T_r0_10 N_r0_10 (by omega) (by omega) (fun x3 ex3 => ?_)
  have gx3 := rg x3
  refine k_iload_n C rfl rfl rfl ?_
  refine b_icmp_lt C (t := 41) rfl rfl rfl (fun c4 => ?_) (fun c4 => ?_)
  · skip
    refine z_iconst C (z := 0) rfl rfl rfl (fun x5 ex5 => ?_)
    exact k_iret C rfl (Or.inr ⟨rfl, z01 (by omega) (by omega)⟩) (Nat.le_of_ble_eq_true rfl) (Nat.le_of_ble_eq_true rfl) ⟨_, _, _, rfl, rfl, by omega, by omega, by first | omega | (simp only [k0_r0_12, k0_r0_13, ex3] <;> omega), rfl, rfl⟩
  refine k_aload_n C rfl rfl rfl ?_
  refine g_R C rfl rfl rfl T_r0 rfl R_r0_10 ?_
  refine k_aload_n C rfl rfl rfl ?_
  refine g_I C rfl rfl rfl T_r0 rfl k0_r0_12 ?_
  refine a_B C rfl rfl T_r0_10 (by rw [N_r0_10]; exact vpi (by omega) (by omega)) ex3 ?_
  refine k_iload_n C rfl rfl rfl ?_
  refine b_icmp_gt C (t := 41) rfl rfl rfl (fun c6 => ?_) (fun c6 => ?_)
  · skip
    refine z_iconst C (z := 0) rfl rfl rfl (fun x7 ex7 => ?_)
    exact k_iret C rfl (Or.inr ⟨rfl, z01 (by omega) (by omega)⟩) (Nat.le_of_ble_eq_true rfl) (Nat.le_of_ble_eq_true rfl) ⟨_, _, _, rfl, rfl, by omega, by omega, by first | omega | (simp only [k0_r0_12, k0_r0_13, ex3] <;> omega), rfl, rfl⟩
  refine z_iconst C (z := 1) rfl rfl rfl (fun x8 ex8 => ?_)
  refine k_goto C (pc2 := 42) rfl rfl ?_
  exact k_iret C rfl (Or.inr ⟨rfl, z01 (by omega) (by omega)⟩) (Nat.le_of_ble_eq_true rfl) (Nat.le_of_ble_eq_true rfl) ⟨_, _, _, rfl, rfl, by omega, by omega, by first | omega | (simp only [k0_r0_12, k0_r0_13, ex3] <;> omega), rfl, rfl⟩

theorem a_X12_blanks {d : Nat} {T N : Nat → Nat} {I : IT} {L : LT} {R : RT} {A : Nat → Prop} {r0 : Nat} (hI : IM R r0 I) (H_r0 : (h_MD T N R A) r0) : Ex (d + 2) 219 [.ref r0] (T, N, I, L, R) 0 0 (pV T N R (fun I9 L9 => (IM R r0 I9 ∧ CM A R r0 [12, 14] [] I L I9 L9))) := by
  refine ⟨_, rfl, Nat.le_of_ble_eq_true rfl, fun V C S => ?_⟩
  show V 0 [(0, .ref r0)] [] (T, N, I, L, R) 0 0
  obtain ⟨T_r0, A_r0, ⟨r0_1, R_r0_1, H_r0_1⟩, ⟨r0_2, R_r0_2, H_r0_2⟩, ⟨r0_4, R_r0_4, H_r0_4⟩, ⟨r0_5, R_r0_5, H_r0_5⟩, ⟨r0_10, R_r0_10, H_r0_10⟩, ⟨r0_18, R_r0_18, H_r0_18⟩, ⟨r0_20, R_r0_20, H_r0_20⟩, ⟨r0_21, R_r0_21, H_r0_21⟩, ⟨r0_22, R_r0_22, H_r0_22⟩, ⟨r0_23, R_r0_23, H_r0_23⟩, ⟨r0_25, R_r0_25, H_r0_25⟩, ⟨r0_26, R_r0_26, H_r0_26⟩, ⟨r0_27, R_r0_27, H_r0_27⟩, ⟨r0_28, R_r0_28, H_r0_28⟩, ⟨r0_34, R_r0_34, H_r0_34⟩, J_r0, Y_r0⟩ := id H_r0
  have G_r0 : mF T R r0 := ⟨J_r0, Y_r0, T_r0⟩
  obtain ⟨w_r0_12, k0_r0_12⟩ : ∃ x, I r0 12 = x := ⟨_, rfl⟩
  have gw_r0_12 := rg w_r0_12
  have ow_r0_12 := IM.f12 hI k0_r0_12
  obtain ⟨w_r0_13, k0_r0_13⟩ : ∃ x, I r0 13 = x := ⟨_, rfl⟩
  have gw_r0_13 := rg w_r0_13
  have ow_r0_13 := IM.f13 hI k0_r0_13
  have J1 : ∀ (nn2 : Nat) (I3 : IT) (L4 : LT) (x7 : Int32), (MN (400 - x7.toInt) nn2) → (IM R r0 I3) → (CM A R r0 [12] [] I L I3 L4) → (I3 r0 12 = x7) → (0 ≤ x7.toInt) → (x7.toInt ≤ 400) → V 0 [(0, .ref r0)] [] (T, N, I3, L4, R) 0 0 := by
    intro nn2
    induction nn2 using Nat.strongRecOn with
    | _ nn2 ihJ1 =>
      intro I3 L4 x7 hmnn2 hI6 S5 e8 b9 b10
      have gx7 := rg x7
      have e11 := CM.k S5 (by decide) k0_r0_13
      refine k_aload_n C rfl rfl rfl ?_
      refine z_bipush C (z := 32) rfl rfl rfl (fun x12 ex12 => ?_)
      refine z_bipush C (z := 32) rfl rfl rfl (fun x13 ex13 => ?_)
      have q14 : x12.toNatClampNeg = 32 := nck (by omega)
      have q15 : x13.toNatClampNeg = 32 := nck (by omega)
      refine c_VI C (a_X12_isAt hI6 H_r0) rfl rfl rfl rfl rfl ⟨_, rfl, rfl, T_r0, Nat.le_of_ble_eq_true rfl⟩ rfl rfl (Nat.le_of_ble_eq_true rfl) (Nat.le_of_ble_eq_true rfl) (Nat.le_of_ble_eq_true rfl) ?_
      rintro x16 _ _ ⟨o0x16, o1x16, p0x16, rfl, rfl⟩
      have gx16 := rg x16
      try simp only [q14, q15, e11, e8] at p0x16
      try have q0x16 := congrArg Int32.toInt p0x16
      refine b_if_eq C (t := 24) rfl rfl rfl (fun c17 => ?_) (fun c17 => ?_)
      · skip
        refine k_aload_n C rfl rfl rfl ?_
        refine k_aload_n C rfl rfl rfl ?_
        refine g_I C rfl rfl rfl T_r0 rfl e8 ?_
        refine z_pI C rfl rfl rfl T_r0 (Or.inr rfl) rfl (fun I18 uI18 => ?_)
        have hI18 : IM R r0 I18 := IM.fld hI6 G_r0 ⟨(fun _ => ⟨by omega, by omega⟩), (fun h => absurd h (by decide)), (fun h => absurd h (by decide)), (fun h => absurd h (by decide)), (fun h => absurd h (by decide))⟩ uI18
        have S19 : CM A R r0 [14] [] I3 L4 I18 L4 := CM.f G_r0 A_r0 uI18
        have e20 := u2_j uI18 (by first | decide | exact ncne (by omega) (by omega) (by omega) | exact nckn (by omega) (by omega) | exact (nckn (by omega) (by omega)).symm) e11
        have e21 := u2_j uI18 (by first | decide | exact ncne (by omega) (by omega) (by omega) | exact nckn (by omega) (by omega) | exact (nckn (by omega) (by omega)).symm) e8
        have e22 := u2_e uI18
        exact k_vret C rfl rfl (Nat.le_of_ble_eq_true rfl) (Nat.le_of_ble_eq_true rfl) ⟨_, _, rfl, rfl, hI18, (CM.cons S5 (CM.mono S19 (by decide) (by decide)) (by decide) (by decide))⟩
      refine k_aload_n C rfl rfl rfl ?_
      refine k_dup C rfl rfl rfl ?_
      refine g_I C rfl rfl rfl T_r0 rfl e8 ?_
      refine z_iconst C (z := 1) rfl rfl rfl (fun x23 ex23 => ?_)
      refine z_iadd C rfl rfl ⟨by omega, by omega⟩ (fun x24 ex24 => ?_)
      refine z_pI C rfl rfl rfl T_r0 (Or.inr rfl) rfl (fun I25 uI25 => ?_)
      have hI25 : IM R r0 I25 := IM.fld hI6 G_r0 ⟨(fun _ => ⟨by omega, by omega⟩), (fun h => absurd h (by decide)), (fun h => absurd h (by decide)), (fun h => absurd h (by decide)), (fun h => absurd h (by decide))⟩ uI25
      have S26 : CM A R r0 [12] [] I3 L4 I25 L4 := CM.f G_r0 A_r0 uI25
      have e27 := u2_j uI25 (by first | decide | exact ncne (by omega) (by omega) (by omega) | exact nckn (by omega) (by omega) | exact (nckn (by omega) (by omega)).symm) e11
      have e29 := u2_e uI25
      refine k_goto C (pc2 := 0) rfl rfl ?_
      refine k_sub S [(0, .ref r0)] (List.forall_mem_cons.mpr ⟨List.mem_of_getElem? (i := 0) rfl, fun _ h => nomatch h⟩) ?_
      exact ihJ1 _ (MN.lt hmnn2 (by omega) (by omega)) I25 L4 x24 rfl hI25 (CM.cons S5 (CM.mono S26 (by decide) (by decide)) (by decide) (by decide)) e29 (by omega) (by omega)
  refine k_sub S [(0, .ref r0)] (List.forall_mem_cons.mpr ⟨List.mem_of_getElem? (i := 0) rfl, fun _ h => nomatch h⟩) ?_
  exact J1 _ I L w_r0_12 rfl hI CM.rf k0_r0_12 (by omega) (by omega)

theorem a_X12_has {d : Nat} {T N : Nat → Nat} {I : IT} {L : LT} {R : RT} {A : Nat → Prop} {r0 : Nat} {n1 : Int32} (hI : IM R r0 I) (H_r0 : (h_MD T N R A) r0) : Ex (d + 3) 220 [.ref r0, .int n1] (T, N, I, L, R) 0 0 (pI T N R (fun x9 I9 L9 => (0 ≤ x9.toInt) ∧ (x9.toInt ≤ 1) ∧ (IM R r0 I9 ∧ CM A R r0 [12, 14] [] I L I9 L9))) := by
  refine ⟨_, rfl, Nat.le_of_ble_eq_true rfl, fun V C S => ?_⟩
  show V 0 [(0, .ref r0), (1, .int n1)] [] (T, N, I, L, R) 0 0
  have gn1 := rg n1
  obtain ⟨T_r0, A_r0, ⟨r0_1, R_r0_1, H_r0_1⟩, ⟨r0_2, R_r0_2, H_r0_2⟩, ⟨r0_4, R_r0_4, H_r0_4⟩, ⟨r0_5, R_r0_5, H_r0_5⟩, ⟨r0_10, R_r0_10, H_r0_10⟩, ⟨r0_18, R_r0_18, H_r0_18⟩, ⟨r0_20, R_r0_20, H_r0_20⟩, ⟨r0_21, R_r0_21, H_r0_21⟩, ⟨r0_22, R_r0_22, H_r0_22⟩, ⟨r0_23, R_r0_23, H_r0_23⟩, ⟨r0_25, R_r0_25, H_r0_25⟩, ⟨r0_26, R_r0_26, H_r0_26⟩, ⟨r0_27, R_r0_27, H_r0_27⟩, ⟨r0_28, R_r0_28, H_r0_28⟩, ⟨r0_34, R_r0_34, H_r0_34⟩, J_r0, Y_r0⟩ := id H_r0
  have G_r0 : mF T R r0 := ⟨J_r0, Y_r0, T_r0⟩
  refine k_aload_n C rfl rfl rfl ?_
  refine c_VV C (a_X12_blanks hI H_r0) rfl rfl rfl rfl rfl ⟨_, rfl, rfl, T_r0, Nat.le_of_ble_eq_true rfl⟩ rfl rfl (Nat.le_of_ble_eq_true rfl) (Nat.le_of_ble_eq_true rfl) (Nat.le_of_ble_eq_true rfl) ?_
  rintro I2 L3 ⟨hI2, S4⟩
  obtain ⟨x5, e6⟩ : ∃ x, I2 r0 12 = x := ⟨_, rfl⟩
  have gx5 := rg x5
  have ox5 := IM.f12 hI2 e6
  refine k_aload_n C rfl rfl rfl ?_
  refine k_iload_n C rfl rfl rfl ?_
  refine k_iload_n C rfl rfl rfl ?_
  obtain ⟨x7, e8⟩ : ∃ x, I2 r0 13 = x := ⟨_, rfl⟩
  have gx7 := rg x7
  have ox7 := IM.f13 hI2 e8
  refine c_VI C (a_X12_isAt hI2 H_r0) rfl rfl rfl rfl rfl ⟨_, rfl, rfl, T_r0, Nat.le_of_ble_eq_true rfl⟩ rfl rfl (Nat.le_of_ble_eq_true rfl) (Nat.le_of_ble_eq_true rfl) (Nat.le_of_ble_eq_true rfl) ?_
  rintro x9 _ _ ⟨o0x9, o1x9, p0x9, rfl, rfl⟩
  have gx9 := rg x9
  try simp only [e6, e8] at p0x9
  try have q0x9 := congrArg Int32.toInt p0x9
  refine b_if_ne C (t := 15) rfl rfl rfl (fun c10 => ?_) (fun c10 => ?_)
  · skip
    refine k_aload_n C rfl rfl rfl ?_
    refine k_dup C rfl rfl rfl ?_
    refine g_I C rfl rfl rfl T_r0 rfl e6 ?_
    refine z_iconst C (z := 1) rfl rfl rfl (fun x11 ex11 => ?_)
    refine z_iadd C rfl rfl ⟨by omega, by omega⟩ (fun x12 ex12 => ?_)
    refine z_pI C rfl rfl rfl T_r0 (Or.inr rfl) rfl (fun I13 uI13 => ?_)
    have hI13 : IM R r0 I13 := IM.fld hI2 G_r0 ⟨(fun _ => ⟨by omega, by omega⟩), (fun h => absurd h (by decide)), (fun h => absurd h (by decide)), (fun h => absurd h (by decide)), (fun h => absurd h (by decide))⟩ uI13
    have S14 : CM A R r0 [12] [] I2 L3 I13 L3 := CM.f G_r0 A_r0 uI13
    have e16 := u2_j uI13 (by first | decide | exact ncne (by omega) (by omega) (by omega) | exact nckn (by omega) (by omega) | exact (nckn (by omega) (by omega)).symm) e8
    have e17 := u2_e uI13
    refine z_iconst C (z := 1) rfl rfl rfl (fun x18 ex18 => ?_)
    exact k_iret C rfl (Or.inr ⟨rfl, z01 (by omega) (by omega)⟩) (Nat.le_of_ble_eq_true rfl) (Nat.le_of_ble_eq_true rfl) ⟨_, _, _, rfl, rfl, by omega, by omega, hI13, (CM.cons S4 (CM.mono S14 (by decide) (by decide)) (by decide) (by decide))⟩
  refine z_iconst C (z := 0) rfl rfl rfl (fun x19 ex19 => ?_)
  exact k_iret C rfl (Or.inr ⟨rfl, z01 (by omega) (by omega)⟩) (Nat.le_of_ble_eq_true rfl) (Nat.le_of_ble_eq_true rfl) ⟨_, _, _, rfl, rfl, by omega, by omega, hI2, (CM.mono S4 (by decide) (by decide))⟩

theorem a_X12_counts {d : Nat} {T N : Nat → Nat} {I : IT} {L : LT} {R : RT} {A : Nat → Prop} {r0 : Nat} {n1 : Int32} (hI : IM R r0 I) (H_r0 : (h_MD T N R A) r0) : Ex (d + 3) 221 [.ref r0, .int n1] (T, N, I, L, R) 0 0 (pI T N R (fun x9 I9 L9 => (0 ≤ x9.toInt) ∧ (x9.toInt ≤ 1) ∧ ((I9 r0 16).toInt = (I r0 16).toInt + x9.toInt) ∧ (IM R r0 I9 ∧ CM A R r0 [12, 14, 16] [] I L I9 L9))) := by
  refine ⟨_, rfl, Nat.le_of_ble_eq_true rfl, fun V C S => ?_⟩
  show V 0 [(0, .ref r0), (1, .int n1)] [] (T, N, I, L, R) 0 0
  have gn1 := rg n1
  obtain ⟨T_r0, A_r0, ⟨r0_1, R_r0_1, H_r0_1⟩, ⟨r0_2, R_r0_2, H_r0_2⟩, ⟨r0_4, R_r0_4, H_r0_4⟩, ⟨r0_5, R_r0_5, H_r0_5⟩, ⟨r0_10, R_r0_10, H_r0_10⟩, ⟨r0_18, R_r0_18, H_r0_18⟩, ⟨r0_20, R_r0_20, H_r0_20⟩, ⟨r0_21, R_r0_21, H_r0_21⟩, ⟨r0_22, R_r0_22, H_r0_22⟩, ⟨r0_23, R_r0_23, H_r0_23⟩, ⟨r0_25, R_r0_25, H_r0_25⟩, ⟨r0_26, R_r0_26, H_r0_26⟩, ⟨r0_27, R_r0_27, H_r0_27⟩, ⟨r0_28, R_r0_28, H_r0_28⟩, ⟨r0_34, R_r0_34, H_r0_34⟩, J_r0, Y_r0⟩ := id H_r0
  have G_r0 : mF T R r0 := ⟨J_r0, Y_r0, T_r0⟩
  obtain ⟨w_r0_16, k0_r0_16⟩ : ∃ x, I r0 16 = x := ⟨_, rfl⟩
  have gw_r0_16 := rg w_r0_16
  have ow_r0_16 := IM.f16 hI k0_r0_16
  refine k_aload_n C rfl rfl rfl ?_
  refine c_VV C (a_X12_blanks hI H_r0) rfl rfl rfl rfl rfl ⟨_, rfl, rfl, T_r0, Nat.le_of_ble_eq_true rfl⟩ rfl rfl (Nat.le_of_ble_eq_true rfl) (Nat.le_of_ble_eq_true rfl) (Nat.le_of_ble_eq_true rfl) ?_
  rintro I2 L3 ⟨hI2, S4⟩
  have e5 := CM.k S4 (by decide) k0_r0_16
  obtain ⟨x6, e7⟩ : ∃ x, I2 r0 12 = x := ⟨_, rfl⟩
  have gx6 := rg x6
  have ox6 := IM.f12 hI2 e7
  refine k_aload_n C rfl rfl rfl ?_
  refine k_iload_n C rfl rfl rfl ?_
  refine k_iload_n C rfl rfl rfl ?_
  obtain ⟨x8, e9⟩ : ∃ x, I2 r0 13 = x := ⟨_, rfl⟩
  have gx8 := rg x8
  have ox8 := IM.f13 hI2 e9
  refine c_VI C (a_X12_isAt hI2 H_r0) rfl rfl rfl rfl rfl ⟨_, rfl, rfl, T_r0, Nat.le_of_ble_eq_true rfl⟩ rfl rfl (Nat.le_of_ble_eq_true rfl) (Nat.le_of_ble_eq_true rfl) (Nat.le_of_ble_eq_true rfl) ?_
  rintro x10 _ _ ⟨o0x10, o1x10, p0x10, rfl, rfl⟩
  have gx10 := rg x10
  try simp only [e5, e7, e9] at p0x10
  try have q0x10 := congrArg Int32.toInt p0x10
  refine b_if_ne C (t := 15) rfl rfl rfl (fun c11 => ?_) (fun c11 => ?_)
  · skip
    refine k_aload_n C rfl rfl rfl ?_
    refine g_I C rfl rfl rfl T_r0 rfl e5 ?_
    refine z_bipush C (z := 40) rfl rfl rfl (fun x12 ex12 => ?_)
    refine b_icmp_ne C (t := 26) rfl rfl rfl (fun c13 => ?_) (fun c13 => ?_)
    · skip
      refine k_aload_n C rfl rfl rfl ?_
      refine k_dup C rfl rfl rfl ?_
      refine g_I C rfl rfl rfl T_r0 rfl e7 ?_
      refine z_iconst C (z := 1) rfl rfl rfl (fun x14 ex14 => ?_)
      refine z_iadd C rfl rfl ⟨by omega, by omega⟩ (fun x15 ex15 => ?_)
      refine z_pI C rfl rfl rfl T_r0 (Or.inr rfl) rfl (fun I16 uI16 => ?_)
      have hI16 : IM R r0 I16 := IM.fld hI2 G_r0 ⟨(fun _ => ⟨by omega, by omega⟩), (fun h => absurd h (by decide)), (fun h => absurd h (by decide)), (fun h => absurd h (by decide)), (fun h => absurd h (by decide))⟩ uI16
      have S17 : CM A R r0 [12] [] I2 L3 I16 L3 := CM.f G_r0 A_r0 uI16
      have e18 := u2_j uI16 (by first | decide | exact ncne (by omega) (by omega) (by omega) | exact nckn (by omega) (by omega) | exact (nckn (by omega) (by omega)).symm) e5
      have e20 := u2_j uI16 (by first | decide | exact ncne (by omega) (by omega) (by omega) | exact nckn (by omega) (by omega) | exact (nckn (by omega) (by omega)).symm) e9
      have e21 := u2_e uI16
      refine k_aload_n C rfl rfl rfl ?_
      refine k_dup C rfl rfl rfl ?_
      refine g_I C rfl rfl rfl T_r0 rfl e18 ?_
      refine z_iconst C (z := 1) rfl rfl rfl (fun x22 ex22 => ?_)
      refine z_iadd C rfl rfl ⟨by omega, by omega⟩ (fun x23 ex23 => ?_)
      refine z_pI C rfl rfl rfl T_r0 (Or.inr rfl) rfl (fun I24 uI24 => ?_)
      have hI24 : IM R r0 I24 := IM.fld hI16 G_r0 ⟨(fun h => absurd h (by decide)), (fun h => absurd h (by decide)), (fun _ => ⟨by omega, by omega⟩), (fun h => absurd h (by decide)), (fun h => absurd h (by decide))⟩ uI24
      have S25 : CM A R r0 [16] [] I16 L3 I24 L3 := CM.f G_r0 A_r0 uI24
      have e27 := u2_j uI24 (by first | decide | exact ncne (by omega) (by omega) (by omega) | exact nckn (by omega) (by omega) | exact (nckn (by omega) (by omega)).symm) e20
      have e28 := u2_j uI24 (by first | decide | exact ncne (by omega) (by omega) (by omega) | exact nckn (by omega) (by omega) | exact (nckn (by omega) (by omega)).symm) e21
      have e29 := u2_e uI24
      refine z_iconst C (z := 1) rfl rfl rfl (fun x30 ex30 => ?_)
      exact k_iret C rfl (Or.inr ⟨rfl, z01 (by omega) (by omega)⟩) (Nat.le_of_ble_eq_true rfl) (Nat.le_of_ble_eq_true rfl) ⟨_, _, _, rfl, rfl, by omega, by omega, by first | omega | (simp only [e27, e28, e29, k0_r0_16] <;> omega), hI24, (CM.cons S4 (CM.cons S17 (CM.mono S25 (by decide) (by decide)) (by decide) (by decide)) (by decide) (by decide))⟩
    refine z_iconst C (z := 0) rfl rfl rfl (fun x31 ex31 => ?_)
    exact k_iret C rfl (Or.inr ⟨rfl, z01 (by omega) (by omega)⟩) (Nat.le_of_ble_eq_true rfl) (Nat.le_of_ble_eq_true rfl) ⟨_, _, _, rfl, rfl, by omega, by omega, by first | omega | (simp only [e5, e7, e9, k0_r0_16] <;> omega), hI2, (CM.mono S4 (by decide) (by decide))⟩
  refine z_iconst C (z := 0) rfl rfl rfl (fun x32 ex32 => ?_)
  exact k_iret C rfl (Or.inr ⟨rfl, z01 (by omega) (by omega)⟩) (Nat.le_of_ble_eq_true rfl) (Nat.le_of_ble_eq_true rfl) ⟨_, _, _, rfl, rfl, by omega, by omega, by first | omega | (simp only [e5, e7, e9, k0_r0_16] <;> omega), hI2, (CM.mono S4 (by decide) (by decide))⟩

theorem a_X12_deeper {d : Nat} {T N : Nat → Nat} {I : IT} {L : LT} {R : RT} {A : Nat → Prop} {r0 : Nat} (hI : IM R r0 I) (H_r0 : (h_MD T N R A) r0) : Ex (d + 1) 225 [.ref r0] (T, N, I, L, R) 0 0 (pI T N R (fun x9 I9 L9 => (0 ≤ x9.toInt) ∧ (x9.toInt ≤ 1) ∧ (x9.toInt = 0 ∨ (I9 r0 15).toInt = (I r0 15).toInt + 1 ∧ (I r0 15).toInt ≤ 5) ∧ (IM R r0 I9 ∧ CM A R r0 [15] [] I L I9 L9))) := by
  refine ⟨_, rfl, Nat.le_of_ble_eq_true rfl, fun V C S => ?_⟩
  show V 0 [(0, .ref r0)] [] (T, N, I, L, R) 0 0
  obtain ⟨T_r0, A_r0, ⟨r0_1, R_r0_1, H_r0_1⟩, ⟨r0_2, R_r0_2, H_r0_2⟩, ⟨r0_4, R_r0_4, H_r0_4⟩, ⟨r0_5, R_r0_5, H_r0_5⟩, ⟨r0_10, R_r0_10, H_r0_10⟩, ⟨r0_18, R_r0_18, H_r0_18⟩, ⟨r0_20, R_r0_20, H_r0_20⟩, ⟨r0_21, R_r0_21, H_r0_21⟩, ⟨r0_22, R_r0_22, H_r0_22⟩, ⟨r0_23, R_r0_23, H_r0_23⟩, ⟨r0_25, R_r0_25, H_r0_25⟩, ⟨r0_26, R_r0_26, H_r0_26⟩, ⟨r0_27, R_r0_27, H_r0_27⟩, ⟨r0_28, R_r0_28, H_r0_28⟩, ⟨r0_34, R_r0_34, H_r0_34⟩, J_r0, Y_r0⟩ := id H_r0
  have G_r0 : mF T R r0 := ⟨J_r0, Y_r0, T_r0⟩
  obtain ⟨w_r0_15, k0_r0_15⟩ : ∃ x, I r0 15 = x := ⟨_, rfl⟩
  have gw_r0_15 := rg w_r0_15
  have ow_r0_15 := IM.f15 hI k0_r0_15
  refine k_aload_n C rfl rfl rfl ?_
  refine g_I C rfl rfl rfl T_r0 rfl k0_r0_15 ?_
  refine z_bipush C (z := 6) rfl rfl rfl (fun x1 ex1 => ?_)
  refine b_icmp_ne C (t := 11) rfl rfl rfl (fun c2 => ?_) (fun c2 => ?_)
  · skip
    refine k_aload_n C rfl rfl rfl ?_
    refine k_dup C rfl rfl rfl ?_
    refine g_I C rfl rfl rfl T_r0 rfl k0_r0_15 ?_
    refine z_iconst C (z := 1) rfl rfl rfl (fun x3 ex3 => ?_)
    refine z_iadd C rfl rfl ⟨by omega, by omega⟩ (fun x4 ex4 => ?_)
    refine z_pI C rfl rfl rfl T_r0 (Or.inr rfl) rfl (fun I5 uI5 => ?_)
    have hI5 : IM R r0 I5 := IM.fld hI G_r0 ⟨(fun h => absurd h (by decide)), (fun _ => ⟨by omega, by omega⟩), (fun h => absurd h (by decide)), (fun h => absurd h (by decide)), (fun h => absurd h (by decide))⟩ uI5
    have S6 : CM A R r0 [15] [] I L I5 L := CM.f G_r0 A_r0 uI5
    have e8 := u2_e uI5
    refine z_iconst C (z := 1) rfl rfl rfl (fun x9 ex9 => ?_)
    exact k_iret C rfl (Or.inr ⟨rfl, z01 (by omega) (by omega)⟩) (Nat.le_of_ble_eq_true rfl) (Nat.le_of_ble_eq_true rfl) ⟨_, _, _, rfl, rfl, by omega, by omega, by first | omega | (simp only [e8, k0_r0_15] <;> omega), hI5, (CM.mono S6 (by decide) (by decide))⟩
  refine z_iconst C (z := 0) rfl rfl rfl (fun x10 ex10 => ?_)
  exact k_iret C rfl (Or.inr ⟨rfl, z01 (by omega) (by omega)⟩) (Nat.le_of_ble_eq_true rfl) (Nat.le_of_ble_eq_true rfl) ⟨_, _, _, rfl, rfl, by omega, by omega, by first | omega | (simp only [k0_r0_15] <;> omega), hI, CM.rf⟩

theorem a_X12_number {d : Nat} {T N : Nat → Nat} {I : IT} {L : LT} {R : RT} {A : Nat → Prop} {r0 : Nat} {n1 : Int32} (hI : IM R r0 I) (H_r0 : (h_MD T N R A) r0) : Ex (d + 3) 222 [.ref r0, .int n1] (T, N, I, L, R) 0 0 (pI T N R (fun x9 I9 L9 => (x9.toInt = -1 ∨ x9.toInt ≤ n1.toInt) ∧ (IM R r0 I9 ∧ CM A R r0 [12, 14] [] I L I9 L9))) := by
  refine ⟨_, rfl, Nat.le_of_ble_eq_true rfl, fun V C S => ?_⟩
  show V 0 [(0, .ref r0), (1, .int n1)] [] (T, N, I, L, R) 0 0
  have gn1 := rg n1
  obtain ⟨T_r0, A_r0, ⟨r0_1, R_r0_1, H_r0_1⟩, ⟨r0_2, R_r0_2, H_r0_2⟩, ⟨r0_4, R_r0_4, H_r0_4⟩, ⟨r0_5, R_r0_5, H_r0_5⟩, ⟨r0_10, R_r0_10, H_r0_10⟩, ⟨r0_18, R_r0_18, H_r0_18⟩, ⟨r0_20, R_r0_20, H_r0_20⟩, ⟨r0_21, R_r0_21, H_r0_21⟩, ⟨r0_22, R_r0_22, H_r0_22⟩, ⟨r0_23, R_r0_23, H_r0_23⟩, ⟨r0_25, R_r0_25, H_r0_25⟩, ⟨r0_26, R_r0_26, H_r0_26⟩, ⟨r0_27, R_r0_27, H_r0_27⟩, ⟨r0_28, R_r0_28, H_r0_28⟩, ⟨r0_34, R_r0_34, H_r0_34⟩, J_r0, Y_r0⟩ := id H_r0
  have G_r0 : mF T R r0 := ⟨J_r0, Y_r0, T_r0⟩
  obtain ⟨w_r0_12, k0_r0_12⟩ : ∃ x, I r0 12 = x := ⟨_, rfl⟩
  have gw_r0_12 := rg w_r0_12
  have ow_r0_12 := IM.f12 hI k0_r0_12
  refine k_aload_n C rfl rfl rfl ?_
  refine c_VV C (a_X12_blanks hI H_r0) rfl rfl rfl rfl rfl ⟨_, rfl, rfl, T_r0, Nat.le_of_ble_eq_true rfl⟩ rfl rfl (Nat.le_of_ble_eq_true rfl) (Nat.le_of_ble_eq_true rfl) (Nat.le_of_ble_eq_true rfl) ?_
  rintro I2 L3 ⟨hI2, S4⟩
  obtain ⟨x6, e7⟩ : ∃ x, I2 r0 12 = x := ⟨_, rfl⟩
  have gx6 := rg x6
  have ox6 := IM.f12 hI2 e7
  refine z_iconst C (z := 0) rfl rfl rfl (fun x8 ex8 => ?_)
  have J9 : ∀ (nn10 : Nat) (I11 : IT) (L12 : LT) (x13 : Int32) (x16 : Int32), (MN (400 - x16.toInt) nn10) → (IM R r0 I11) → (CM A R r0 [12] [] I2 L3 I11 L12) → (I11 r0 12 = x16) → (0 ≤ x16.toInt) → (x16.toInt ≤ 400) → V 6 [(0, .ref r0), (1, .int n1), (2, .int x13)] [] (T, N, I11, L12, R) 0 0 := by
    intro nn10
    induction nn10 using Nat.strongRecOn with
    | _ nn10 ihJ9 =>
      intro I11 L12 x13 x16 hmnn10 hI15 S14 e17 b18 b19
      have gx13 := rg x13
      have gx16 := rg x16
      refine k_aload_n C rfl rfl rfl ?_
      refine z_bipush C (z := 48) rfl rfl rfl (fun x20 ex20 => ?_)
      refine z_bipush C (z := 57) rfl rfl rfl (fun x21 ex21 => ?_)
      obtain ⟨x22, e23⟩ : ∃ x, I11 r0 13 = x := ⟨_, rfl⟩
      have gx22 := rg x22
      have ox22 := IM.f13 hI15 e23
      have q24 : x20.toNatClampNeg = 48 := nck (by omega)
      have q25 : x21.toNatClampNeg = 57 := nck (by omega)
      refine c_VI C (a_X12_isAt hI15 H_r0) rfl rfl rfl rfl rfl ⟨_, rfl, rfl, T_r0, Nat.le_of_ble_eq_true rfl⟩ rfl rfl (Nat.le_of_ble_eq_true rfl) (Nat.le_of_ble_eq_true rfl) (Nat.le_of_ble_eq_true rfl) ?_
      rintro x26 _ _ ⟨o0x26, o1x26, p0x26, rfl, rfl⟩
      have gx26 := rg x26
      try simp only [q24, q25, e17, e23] at p0x26
      try have q0x26 := congrArg Int32.toInt p0x26
      refine b_if_eq C (t := 65) rfl rfl rfl (fun c27 => ?_) (fun c27 => ?_)
      · skip
        refine k_aload_n C rfl rfl rfl ?_
        refine g_I C rfl rfl rfl T_r0 rfl e17 ?_
        refine k_aload_n C rfl rfl rfl ?_
        refine z_gI C rfl rfl rfl T_r0 rfl (fun x28 ex28 => ?_)
        have gx28 := rg x28
        have ox28 := IM.f14 hI15 ex28
        refine b_icmp_eq C (t := 94) rfl rfl rfl (fun c29 => ?_) (fun c29 => ?_)
        · skip
          refine z_iconst C (z := -1) rfl rfl rfl (fun x30 ex30 => ?_)
          refine k_goto C (pc2 := 99) rfl rfl ?_
          exact k_iret C rfl (Or.inl rfl) (Nat.le_of_ble_eq_true rfl) (Nat.le_of_ble_eq_true rfl) ⟨_, _, _, rfl, rfl, by first | omega | (simp only [e17, e23, ex28, k0_r0_12] <;> omega), hI15, (CM.cons S4 (CM.mono S14 (by decide) (by decide)) (by decide) (by decide))⟩
        refine k_aload_n C rfl rfl rfl ?_
        refine g_I C rfl rfl rfl T_r0 rfl e17 ?_
        refine k_aload_n C rfl rfl rfl ?_
        refine g_I C rfl rfl rfl T_r0 rfl ex28 ?_
        refine z_isub C rfl rfl ⟨by omega, by omega⟩ (fun x31 ex31 => ?_)
        refine z_iconst C (z := 3) rfl rfl rfl (fun x32 ex32 => ?_)
        refine b_icmp_gt C (t := 94) rfl rfl rfl (fun c33 => ?_) (fun c33 => ?_)
        · skip
          refine z_iconst C (z := -1) rfl rfl rfl (fun x34 ex34 => ?_)
          refine k_goto C (pc2 := 99) rfl rfl ?_
          exact k_iret C rfl (Or.inl rfl) (Nat.le_of_ble_eq_true rfl) (Nat.le_of_ble_eq_true rfl) ⟨_, _, _, rfl, rfl, by first | omega | (simp only [e17, e23, ex28, k0_r0_12] <;> omega), hI15, (CM.cons S4 (CM.mono S14 (by decide) (by decide)) (by decide) (by decide))⟩
        refine k_iload_n C rfl rfl rfl ?_
        refine k_iload_n C rfl rfl rfl ?_
        refine b_icmp_le C (t := 98) rfl rfl rfl (fun c35 => ?_) (fun c35 => ?_)
        · skip
          refine k_iload_n C rfl rfl rfl ?_
          exact k_iret C rfl (Or.inl rfl) (Nat.le_of_ble_eq_true rfl) (Nat.le_of_ble_eq_true rfl) ⟨_, _, _, rfl, rfl, by first | omega | (simp only [e17, e23, ex28, k0_r0_12] <;> omega), hI15, (CM.cons S4 (CM.mono S14 (by decide) (by decide)) (by decide) (by decide))⟩
        refine z_iconst C (z := -1) rfl rfl rfl (fun x36 ex36 => ?_)
        refine k_goto C (pc2 := 99) rfl rfl ?_
        exact k_iret C rfl (Or.inl rfl) (Nat.le_of_ble_eq_true rfl) (Nat.le_of_ble_eq_true rfl) ⟨_, _, _, rfl, rfl, by first | omega | (simp only [e17, e23, ex28, k0_r0_12] <;> omega), hI15, (CM.cons S4 (CM.mono S14 (by decide) (by decide)) (by decide) (by decide))⟩
      refine k_aload_n C rfl rfl rfl ?_
      refine g_I C rfl rfl rfl T_r0 rfl e17 ?_
      refine k_aload_n C rfl rfl rfl ?_
      refine z_gI C rfl rfl rfl T_r0 rfl (fun x37 ex37 => ?_)
      have gx37 := rg x37
      have ox37 := IM.f14 hI15 ex37
      refine z_isub C rfl rfl ⟨by omega, by omega⟩ (fun x38 ex38 => ?_)
      refine z_iconst C (z := 3) rfl rfl rfl (fun x39 ex39 => ?_)
      refine b_icmp_ge C (t := 50) rfl rfl rfl (fun c40 => ?_) (fun c40 => ?_)
      · skip
        refine k_iload_n C rfl rfl rfl ?_
        refine k_istore_n C (lw := [(2, .int x13), (0, .ref r0), (1, .int n1)]) rfl rfl (Nat.le_of_ble_eq_true rfl) rfl ?_
        refine k_aload_n C rfl rfl rfl ?_
        refine k_dup C rfl rfl rfl ?_
        refine g_I C rfl rfl rfl T_r0 rfl e17 ?_
        refine z_iconst C (z := 1) rfl rfl rfl (fun x41 ex41 => ?_)
        refine z_iadd C rfl rfl ⟨by omega, by omega⟩ (fun x42 ex42 => ?_)
        refine z_pI C rfl rfl rfl T_r0 (Or.inr rfl) rfl (fun I43 uI43 => ?_)
        have hI43 : IM R r0 I43 := IM.fld hI15 G_r0 ⟨(fun _ => ⟨by omega, by omega⟩), (fun h => absurd h (by decide)), (fun h => absurd h (by decide)), (fun h => absurd h (by decide)), (fun h => absurd h (by decide))⟩ uI43
        have S44 : CM A R r0 [12] [] I11 L12 I43 L12 := CM.f G_r0 A_r0 uI43
        have e46 := u2_j uI43 (by first | decide | exact ncne (by omega) (by omega) (by omega) | exact nckn (by omega) (by omega) | exact (nckn (by omega) (by omega)).symm) e23
        have e47 := u2_j uI43 (by first | decide | exact ncne (by omega) (by omega) (by omega) | exact nckn (by omega) (by omega) | exact (nckn (by omega) (by omega)).symm) ex37
        have e48 := u2_e uI43
        refine k_goto C (pc2 := 6) rfl rfl ?_
        refine k_sub S [(0, .ref r0), (1, .int n1), (2, .int x13)] (List.forall_mem_cons.mpr ⟨List.mem_of_getElem? (i := 1) rfl, List.forall_mem_cons.mpr ⟨List.mem_of_getElem? (i := 2) rfl, List.forall_mem_cons.mpr ⟨List.mem_of_getElem? (i := 0) rfl, fun _ h => nomatch h⟩⟩⟩) ?_
        exact ihJ9 _ (MN.lt hmnn10 (by omega) (by omega)) I43 L12 x13 x42 rfl hI43 (CM.cons S14 (CM.mono S44 (by decide) (by decide)) (by decide) (by decide)) e48 (by omega) (by omega)
      refine z_bipush C (z := 10) rfl rfl rfl (fun x49 ex49 => ?_)
      refine k_iload_n C rfl rfl rfl ?_
      refine zt_imul C rfl rfl (fun x50 => ?_)
      have gx50 := rg x50
      refine k_aload_n C rfl rfl rfl ?_
      refine g_R C rfl rfl rfl T_r0 rfl R_r0_10 ?_
      refine k_aload_n C rfl rfl rfl ?_
      refine g_I C rfl rfl rfl T_r0 rfl e17 ?_
      obtain ⟨T_r0_10, N_r0_10, A_r0_10⟩ := id H_r0_10
      refine z_aB C rfl rfl T_r0_10 N_r0_10 (by omega) (by omega) (fun x51 ex51 => ?_)
      have gx51 := rg x51
      refine zt_iadd C rfl rfl (fun x52 => ?_)
      have gx52 := rg x52
      refine z_bipush C (z := 48) rfl rfl rfl (fun x53 ex53 => ?_)
      refine zt_isub C rfl rfl (fun x54 => ?_)
      have gx54 := rg x54
      refine k_goto C (pc2 := 51) rfl rfl ?_
      refine k_istore_n C (lw := [(2, .int x54), (0, .ref r0), (1, .int n1)]) rfl rfl (Nat.le_of_ble_eq_true rfl) rfl ?_
      refine k_aload_n C rfl rfl rfl ?_
      refine k_dup C rfl rfl rfl ?_
      refine g_I C rfl rfl rfl T_r0 rfl e17 ?_
      refine z_iconst C (z := 1) rfl rfl rfl (fun x55 ex55 => ?_)
      refine z_iadd C rfl rfl ⟨by omega, by omega⟩ (fun x56 ex56 => ?_)
      refine z_pI C rfl rfl rfl T_r0 (Or.inr rfl) rfl (fun I57 uI57 => ?_)
      have hI57 : IM R r0 I57 := IM.fld hI15 G_r0 ⟨(fun _ => ⟨by omega, by omega⟩), (fun h => absurd h (by decide)), (fun h => absurd h (by decide)), (fun h => absurd h (by decide)), (fun h => absurd h (by decide))⟩ uI57
      have S58 : CM A R r0 [12] [] I11 L12 I57 L12 := CM.f G_r0 A_r0 uI57
      have e60 := u2_j uI57 (by first | decide | exact ncne (by omega) (by omega) (by omega) | exact nckn (by omega) (by omega) | exact (nckn (by omega) (by omega)).symm) e23
      have e61 := u2_j uI57 (by first | decide | exact ncne (by omega) (by omega) (by omega) | exact nckn (by omega) (by omega) | exact (nckn (by omega) (by omega)).symm) ex37
      have e62 := u2_n uI57 (mF.ne G_r0 R_r0_10) ex51
      have e63 := u2_e uI57
      refine k_goto C (pc2 := 6) rfl rfl ?_
      refine k_sub S [(0, .ref r0), (1, .int n1), (2, .int x54)] (List.forall_mem_cons.mpr ⟨List.mem_of_getElem? (i := 1) rfl, List.forall_mem_cons.mpr ⟨List.mem_of_getElem? (i := 2) rfl, List.forall_mem_cons.mpr ⟨List.mem_of_getElem? (i := 0) rfl, fun _ h => nomatch h⟩⟩⟩) ?_
      exact ihJ9 _ (MN.lt hmnn10 (by omega) (by omega)) I57 L12 x54 x56 rfl hI57 (CM.cons S14 (CM.mono S58 (by decide) (by decide)) (by decide) (by decide)) e63 (by omega) (by omega)
  refine k_istore_n C (lw := [(2, .int x8), (0, .ref r0), (1, .int n1)]) rfl rfl (Nat.le_of_ble_eq_true rfl) rfl ?_
  refine k_sub S [(0, .ref r0), (1, .int n1), (2, .int x8)] (List.forall_mem_cons.mpr ⟨List.mem_of_getElem? (i := 1) rfl, List.forall_mem_cons.mpr ⟨List.mem_of_getElem? (i := 2) rfl, List.forall_mem_cons.mpr ⟨List.mem_of_getElem? (i := 0) rfl, fun _ h => nomatch h⟩⟩⟩) ?_
  exact J9 _ I2 L3 x8 x6 rfl hI2 CM.rf e7 (by omega) (by omega)

theorem a_X12_noPoint {d : Nat} {T N : Nat → Nat} {I : IT} {L : LT} {R : RT} {A : Nat → Prop} {r0 : Nat} {n1 : Int32} (hI : IM R r0 I) (H_r0 : (h_MD T N R A) r0) : Ex (d + 2) 267 [.ref r0, .int n1] (T, N, I, L, R) 0 0 (pI T N R (fun x9 I9 L9 => (0 ≤ x9.toInt) ∧ (x9.toInt ≤ 1) ∧ (∀ a1, R r0 1 = some a1 → x9.toInt = 1 ∨ x9.toInt = 0 ∧ 0 ≤ n1.toInt ∧ n1.toInt ≤ (I a1 0).toInt) ∧ (I = I9 ∧ L = L9))) := by
  refine ⟨_, rfl, Nat.le_of_ble_eq_true rfl, fun V C S => ?_⟩
  show V 0 [(0, .ref r0), (1, .int n1)] [] (T, N, I, L, R) 0 0
  have gn1 := rg n1
  obtain ⟨T_r0, A_r0, ⟨r0_1, R_r0_1, H_r0_1⟩, ⟨r0_2, R_r0_2, H_r0_2⟩, ⟨r0_4, R_r0_4, H_r0_4⟩, ⟨r0_5, R_r0_5, H_r0_5⟩, ⟨r0_10, R_r0_10, H_r0_10⟩, ⟨r0_18, R_r0_18, H_r0_18⟩, ⟨r0_20, R_r0_20, H_r0_20⟩, ⟨r0_21, R_r0_21, H_r0_21⟩, ⟨r0_22, R_r0_22, H_r0_22⟩, ⟨r0_23, R_r0_23, H_r0_23⟩, ⟨r0_25, R_r0_25, H_r0_25⟩, ⟨r0_26, R_r0_26, H_r0_26⟩, ⟨r0_27, R_r0_27, H_r0_27⟩, ⟨r0_28, R_r0_28, H_r0_28⟩, ⟨r0_34, R_r0_34, H_r0_34⟩, J_r0, Y_r0⟩ := id H_r0
  have G_r0 : mF T R r0 := ⟨J_r0, Y_r0, T_r0⟩
  obtain ⟨w_r0_1_0, k0_r0_1_0⟩ : ∃ x, I r0_1 0 = x := ⟨_, rfl⟩
  have gw_r0_1_0 := rg w_r0_1_0
  have ow_r0_1_0 := IM.pi hI R_r0_1 k0_r0_1_0
  refine k_iload_n C rfl rfl rfl ?_
  refine z_iconst C (z := 0) rfl rfl rfl (fun x1 ex1 => ?_)
  refine k_aload_n C rfl rfl rfl ?_
  refine c_VI C (a_X12_p hI H_r0) rfl rfl rfl rfl rfl ⟨_, rfl, rfl, T_r0, Nat.le_of_ble_eq_true rfl⟩ rfl rfl (Nat.le_of_ble_eq_true rfl) (Nat.le_of_ble_eq_true rfl) (Nat.le_of_ble_eq_true rfl) ?_
  rintro x2 _ _ ⟨o0x2, o1x2, p0x2, rfl, rfl⟩
  have p0x2 := p0x2 r0_1 R_r0_1
  have gx2 := rg x2
  try simp only [k0_r0_1_0, k0_r0_1_0] at p0x2
  try have q0x2 := congrArg Int32.toInt p0x2
  have q3 : x1.toNatClampNeg = 0 := nck (by omega)
  refine c_SI C a_X12_in rfl rfl rfl rfl rfl rfl rfl (Nat.le_of_ble_eq_true rfl) (Nat.le_of_ble_eq_true rfl) (Nat.le_of_ble_eq_true rfl) ?_
  rintro x4 _ _ ⟨o0x4, o1x4, p0x4, rfl, rfl⟩
  have gx4 := rg x4
  try simp only [q3, k0_r0_1_0] at p0x4
  try have q0x4 := congrArg Int32.toInt p0x4
  refine b_if_ne C (t := 16) rfl rfl rfl (fun c5 => ?_) (fun c5 => ?_)
  · skip
    refine z_iconst C (z := 0) rfl rfl rfl (fun x6 ex6 => ?_)
    exact k_iret C rfl (Or.inr ⟨rfl, z01 (by omega) (by omega)⟩) (Nat.le_of_ble_eq_true rfl) (Nat.le_of_ble_eq_true rfl) ⟨_, _, _, rfl, rfl, by omega, by omega, fun a1 h1 => by cases (R_r0_1.symm.trans h1); first | omega | (simp only [k0_r0_1_0] <;> omega), rfl, rfl⟩
  refine z_iconst C (z := 1) rfl rfl rfl (fun x7 ex7 => ?_)
  refine k_goto C (pc2 := 17) rfl rfl ?_
  exact k_iret C rfl (Or.inr ⟨rfl, z01 (by omega) (by omega)⟩) (Nat.le_of_ble_eq_true rfl) (Nat.le_of_ble_eq_true rfl) ⟨_, _, _, rfl, rfl, by omega, by omega, fun a1 h1 => by cases (R_r0_1.symm.trans h1); first | omega | (simp only [k0_r0_1_0] <;> omega), rfl, rfl⟩

theorem a_X12_told {d : Nat} {T N : Nat → Nat} {I : IT} {L : LT} {R : RT} {A : Nat → Prop} {r0 : Nat} {n1 n2 : Int32} (hI : IM R r0 I) (H_r0 : (h_MD T N R A) r0) : Ex (d + 3) 239 [.ref r0, .int n1, .int n2] (T, N, I, L, R) 0 0 (pI T N R (fun x9 I9 L9 => (-18 ≤ x9.toInt) ∧ (x9.toInt ≤ 18) ∧ (IM R r0 I9 ∧ CM A R r0 [0] [] I L I9 L9))) := by
  refine ⟨_, rfl, Nat.le_of_ble_eq_true rfl, fun V C S => ?_⟩
  show V 0 [(0, .ref r0), (1, .int n1), (2, .int n2)] [] (T, N, I, L, R) 0 0
  have gn1 := rg n1
  have gn2 := rg n2
  obtain ⟨T_r0, A_r0, ⟨r0_1, R_r0_1, H_r0_1⟩, ⟨r0_2, R_r0_2, H_r0_2⟩, ⟨r0_4, R_r0_4, H_r0_4⟩, ⟨r0_5, R_r0_5, H_r0_5⟩, ⟨r0_10, R_r0_10, H_r0_10⟩, ⟨r0_18, R_r0_18, H_r0_18⟩, ⟨r0_20, R_r0_20, H_r0_20⟩, ⟨r0_21, R_r0_21, H_r0_21⟩, ⟨r0_22, R_r0_22, H_r0_22⟩, ⟨r0_23, R_r0_23, H_r0_23⟩, ⟨r0_25, R_r0_25, H_r0_25⟩, ⟨r0_26, R_r0_26, H_r0_26⟩, ⟨r0_27, R_r0_27, H_r0_27⟩, ⟨r0_28, R_r0_28, H_r0_28⟩, ⟨r0_34, R_r0_34, H_r0_34⟩, J_r0, Y_r0⟩ := id H_r0
  have G_r0 : mF T R r0 := ⟨J_r0, Y_r0, T_r0⟩
  refine k_aload_n C rfl rfl rfl ?_
  refine z_iconst C (z := 0) rfl rfl rfl (fun x1 ex1 => ?_)
  refine z_pI C rfl rfl rfl T_r0 (Or.inr rfl) rfl (fun I2 uI2 => ?_)
  have hI2 : IM R r0 I2 := IM.fld hI G_r0 ⟨(fun h => absurd h (by decide)), (fun h => absurd h (by decide)), (fun h => absurd h (by decide)), (fun h => absurd h (by decide)), (fun h => absurd h (by decide))⟩ uI2
  have S3 : CM A R r0 [0] [] I L I2 L := CM.f G_r0 A_r0 uI2
  have e4 := u2_e uI2
  refine k_aload_n C rfl rfl rfl ?_
  refine k_aload_n C rfl rfl rfl ?_
  refine k_iload_n C rfl rfl rfl ?_
  refine c_VI C (a_X12_noTable hI2 H_r0) rfl rfl rfl rfl rfl ⟨_, rfl, rfl, T_r0, Nat.le_of_ble_eq_true rfl⟩ rfl rfl (Nat.le_of_ble_eq_true rfl) (Nat.le_of_ble_eq_true rfl) (Nat.le_of_ble_eq_true rfl) ?_
  rintro x5 _ _ ⟨o0x5, o1x5, p0x5, rfl, rfl⟩
  have p0x5 := p0x5 r0_1 R_r0_1
  have gx5 := rg x5
  obtain ⟨x6, e7⟩ : ∃ x, I2 r0_1 2 = x := ⟨_, rfl⟩
  have gx6 := rg x6
  have ox6 := IM.c2 hI2 R_r0_1 e7
  try simp only [e4, e7] at p0x5
  try have q0x5 := congrArg Int32.toInt p0x5
  refine z_iconst C (z := 1) rfl rfl rfl (fun x8 ex8 => ?_)
  have q9 : x8.toNatClampNeg = 1 := nck (by omega)
  refine c_VI C (a_X12_throwsIf hI2 H_r0 (by omega) (by omega)) rfl rfl rfl rfl rfl ⟨_, rfl, rfl, T_r0, Nat.le_of_ble_eq_true rfl⟩ rfl rfl (Nat.le_of_ble_eq_true rfl) (Nat.le_of_ble_eq_true rfl) (Nat.le_of_ble_eq_true rfl) ?_
  rintro x10 I11 L12 ⟨o0x10, o1x10, p0x10, hI11, S13⟩
  have e15 := CM.j S13 R_r0_1 (by decide) e7
  have gx10 := rg x10
  try simp only [q9, e4, e7] at p0x10
  try have q0x10 := congrArg Int32.toInt p0x10
  refine b_if_eq C (t := 22) rfl rfl rfl (fun c16 => ?_) (fun c16 => ?_)
  · skip
    refine k_iload_n C rfl rfl rfl ?_
    refine z_iconst C (z := 0) rfl rfl rfl (fun x17 ex17 => ?_)
    refine z_iconst C (z := 3) rfl rfl rfl (fun x18 ex18 => ?_)
    have q19 : x17.toNatClampNeg = 0 := nck (by omega)
    have q20 : x18.toNatClampNeg = 3 := nck (by omega)
    refine c_SI C a_X12_in rfl rfl rfl rfl rfl rfl rfl (Nat.le_of_ble_eq_true rfl) (Nat.le_of_ble_eq_true rfl) (Nat.le_of_ble_eq_true rfl) ?_
    rintro x21 _ _ ⟨o0x21, o1x21, p0x21, rfl, rfl⟩
    have gx21 := rg x21
    try simp only [q19, q20, e15] at p0x21
    try have q0x21 := congrArg Int32.toInt p0x21
    refine b_if_eq C (t := 40) rfl rfl rfl (fun c22 => ?_) (fun c22 => ?_)
    · skip
      refine z_iconst C (z := -1) rfl rfl rfl (fun x23 ex23 => ?_)
      exact k_iret C rfl (Or.inl rfl) (Nat.le_of_ble_eq_true rfl) (Nat.le_of_ble_eq_true rfl) ⟨_, _, _, rfl, rfl, by omega, by omega, hI11, (CM.cons S3 (CM.mono S13 (by decide) (by decide)) (by decide) (by decide))⟩
    refine k_aload_n C rfl rfl rfl ?_
    refine k_iload_n C rfl rfl rfl ?_
    refine k_iload_n C rfl rfl rfl ?_
    refine c_VI C (a_X12_ofTable hI11 H_r0 (by omega) (by omega) (by omega) (by omega)) rfl rfl rfl rfl rfl ⟨_, rfl, rfl, T_r0, Nat.le_of_ble_eq_true rfl⟩ rfl rfl (Nat.le_of_ble_eq_true rfl) (Nat.le_of_ble_eq_true rfl) (Nat.le_of_ble_eq_true rfl) ?_
    rintro x24 _ _ ⟨o0x24, o1x24, p0x24, rfl, rfl⟩
    have p0x24 := p0x24 r0_1 R_r0_1
    have gx24 := rg x24
    try simp only [e15] at p0x24
    try have q0x24 := congrArg Int32.toInt p0x24
    refine k_goto C (pc2 := 41) rfl rfl ?_
    exact k_iret C rfl (Or.inl rfl) (Nat.le_of_ble_eq_true rfl) (Nat.le_of_ble_eq_true rfl) ⟨_, _, _, rfl, rfl, by omega, by omega, hI11, (CM.cons S3 (CM.mono S13 (by decide) (by decide)) (by decide) (by decide))⟩
  refine z_iconst C (z := 0) rfl rfl rfl (fun x25 ex25 => ?_)
  refine k_goto C (pc2 := 41) rfl rfl ?_
  exact k_iret C rfl (Or.inl rfl) (Nat.le_of_ble_eq_true rfl) (Nat.le_of_ble_eq_true rfl) ⟨_, _, _, rfl, rfl, by omega, by omega, hI11, (CM.cons S3 (CM.mono S13 (by decide) (by decide)) (by decide) (by decide))⟩

theorem a_X12_det {d : Nat} {T N : Nat → Nat} {I : IT} {L : LT} {R : RT} {A : Nat → Prop} {r0 : Nat} {n1 : Int32} (hI : IM R r0 I) (H_r0 : (h_MD T N R A) r0) : Ex (d + 4) 240 [.ref r0, .int n1] (T, N, I, L, R) 0 0 (pI T N R (fun x9 I9 L9 => (-18 ≤ x9.toInt) ∧ (x9.toInt ≤ 18) ∧ (IM R r0 I9 ∧ CM A R r0 [0, 6, 7, 8, 9] [] I L I9 L9))) := by
  refine ⟨_, rfl, Nat.le_of_ble_eq_true rfl, fun V C S => ?_⟩
  show V 0 [(0, .ref r0), (1, .int n1)] [] (T, N, I, L, R) 0 0
  have gn1 := rg n1
  obtain ⟨T_r0, A_r0, ⟨r0_1, R_r0_1, H_r0_1⟩, ⟨r0_2, R_r0_2, H_r0_2⟩, ⟨r0_4, R_r0_4, H_r0_4⟩, ⟨r0_5, R_r0_5, H_r0_5⟩, ⟨r0_10, R_r0_10, H_r0_10⟩, ⟨r0_18, R_r0_18, H_r0_18⟩, ⟨r0_20, R_r0_20, H_r0_20⟩, ⟨r0_21, R_r0_21, H_r0_21⟩, ⟨r0_22, R_r0_22, H_r0_22⟩, ⟨r0_23, R_r0_23, H_r0_23⟩, ⟨r0_25, R_r0_25, H_r0_25⟩, ⟨r0_26, R_r0_26, H_r0_26⟩, ⟨r0_27, R_r0_27, H_r0_27⟩, ⟨r0_28, R_r0_28, H_r0_28⟩, ⟨r0_34, R_r0_34, H_r0_34⟩, J_r0, Y_r0⟩ := id H_r0
  have G_r0 : mF T R r0 := ⟨J_r0, Y_r0, T_r0⟩
  refine k_aload_n C rfl rfl rfl ?_
  refine z_iconst C (z := 0) rfl rfl rfl (fun x1 ex1 => ?_)
  refine z_pI C rfl rfl rfl T_r0 (Or.inr rfl) rfl (fun I2 uI2 => ?_)
  have hI2 : IM R r0 I2 := IM.fld hI G_r0 ⟨(fun h => absurd h (by decide)), (fun h => absurd h (by decide)), (fun h => absurd h (by decide)), (fun h => absurd h (by decide)), (fun h => absurd h (by decide))⟩ uI2
  have S3 : CM A R r0 [0] [] I L I2 L := CM.f G_r0 A_r0 uI2
  have e4 := u2_e uI2
  refine k_aload_n C rfl rfl rfl ?_
  refine k_aload_n C rfl rfl rfl ?_
  refine k_iload_n C rfl rfl rfl ?_
  refine c_VI C (a_X12_noTable hI2 H_r0) rfl rfl rfl rfl rfl ⟨_, rfl, rfl, T_r0, Nat.le_of_ble_eq_true rfl⟩ rfl rfl (Nat.le_of_ble_eq_true rfl) (Nat.le_of_ble_eq_true rfl) (Nat.le_of_ble_eq_true rfl) ?_
  rintro x5 _ _ ⟨o0x5, o1x5, p0x5, rfl, rfl⟩
  have p0x5 := p0x5 r0_1 R_r0_1
  have gx5 := rg x5
  obtain ⟨x6, e7⟩ : ∃ x, I2 r0_1 2 = x := ⟨_, rfl⟩
  have gx6 := rg x6
  have ox6 := IM.c2 hI2 R_r0_1 e7
  try simp only [e4, e7] at p0x5
  try have q0x5 := congrArg Int32.toInt p0x5
  refine z_iconst C (z := 1) rfl rfl rfl (fun x8 ex8 => ?_)
  have q9 : x8.toNatClampNeg = 1 := nck (by omega)
  refine c_VI C (a_X12_throwsIf hI2 H_r0 (by omega) (by omega)) rfl rfl rfl rfl rfl ⟨_, rfl, rfl, T_r0, Nat.le_of_ble_eq_true rfl⟩ rfl rfl (Nat.le_of_ble_eq_true rfl) (Nat.le_of_ble_eq_true rfl) (Nat.le_of_ble_eq_true rfl) ?_
  rintro x10 I11 L12 ⟨o0x10, o1x10, p0x10, hI11, S13⟩
  have e15 := CM.j S13 R_r0_1 (by decide) e7
  have gx10 := rg x10
  try simp only [q9, e4, e7] at p0x10
  try have q0x10 := congrArg Int32.toInt p0x10
  refine b_if_eq C (t := 20) rfl rfl rfl (fun c16 => ?_) (fun c16 => ?_)
  · skip
    refine k_aload_n C rfl rfl rfl ?_
    refine k_iload_n C rfl rfl rfl ?_
    refine c_VV C (a_X12_tables hI11 H_r0 (by omega) (by omega)) rfl rfl rfl rfl rfl ⟨_, rfl, rfl, T_r0, Nat.le_of_ble_eq_true rfl⟩ rfl rfl (Nat.le_of_ble_eq_true rfl) (Nat.le_of_ble_eq_true rfl) (Nat.le_of_ble_eq_true rfl) ?_
    rintro I18 L19 ⟨hI18, S20⟩
    have e21 := CM.j S20 R_r0_1 (by decide) e15
    refine k_aload_n C rfl rfl rfl ?_
    refine c_VI C (a_X12_detNow hI18 H_r0) rfl rfl rfl rfl rfl ⟨_, rfl, rfl, T_r0, Nat.le_of_ble_eq_true rfl⟩ rfl rfl (Nat.le_of_ble_eq_true rfl) (Nat.le_of_ble_eq_true rfl) (Nat.le_of_ble_eq_true rfl) ?_
    rintro x22 _ _ ⟨o0x22, o1x22, rfl, rfl⟩
    have gx22 := rg x22
    exact k_iret C rfl (Or.inl rfl) (Nat.le_of_ble_eq_true rfl) (Nat.le_of_ble_eq_true rfl) ⟨_, _, _, rfl, rfl, by omega, by omega, hI18, (CM.cons S3 (CM.cons S13 (CM.mono S20 (by decide) (by decide)) (by decide) (by decide)) (by decide) (by decide))⟩
  refine z_iconst C (z := 0) rfl rfl rfl (fun x23 ex23 => ?_)
  exact k_iret C rfl (Or.inl rfl) (Nat.le_of_ble_eq_true rfl) (Nat.le_of_ble_eq_true rfl) ⟨_, _, _, rfl, rfl, by omega, by omega, hI11, (CM.cons S3 (CM.mono S13 (by decide) (by decide)) (by decide) (by decide))⟩

theorem a_X12_look {d : Nat} {T N : Nat → Nat} {I : IT} {L : LT} {R : RT} {A : Nat → Prop} {r0 : Nat} {n1 n2 : Int32} (hI : IM R r0 I) (H_r0 : (h_MD T N R A) r0) : Ex (d + 3) 241 [.ref r0, .int n1, .int n2] (T, N, I, L, R) 0 0 (pI T N R (fun x9 I9 L9 => (-18 ≤ x9.toInt) ∧ (x9.toInt ≤ 18) ∧ (IM R r0 I9 ∧ CM A R r0 [0] [] I L I9 L9))) := by
  refine ⟨_, rfl, Nat.le_of_ble_eq_true rfl, fun V C S => ?_⟩
  show V 0 [(0, .ref r0), (1, .int n1), (2, .int n2)] [] (T, N, I, L, R) 0 0
  have gn1 := rg n1
  have gn2 := rg n2
  obtain ⟨T_r0, A_r0, ⟨r0_1, R_r0_1, H_r0_1⟩, ⟨r0_2, R_r0_2, H_r0_2⟩, ⟨r0_4, R_r0_4, H_r0_4⟩, ⟨r0_5, R_r0_5, H_r0_5⟩, ⟨r0_10, R_r0_10, H_r0_10⟩, ⟨r0_18, R_r0_18, H_r0_18⟩, ⟨r0_20, R_r0_20, H_r0_20⟩, ⟨r0_21, R_r0_21, H_r0_21⟩, ⟨r0_22, R_r0_22, H_r0_22⟩, ⟨r0_23, R_r0_23, H_r0_23⟩, ⟨r0_25, R_r0_25, H_r0_25⟩, ⟨r0_26, R_r0_26, H_r0_26⟩, ⟨r0_27, R_r0_27, H_r0_27⟩, ⟨r0_28, R_r0_28, H_r0_28⟩, ⟨r0_34, R_r0_34, H_r0_34⟩, J_r0, Y_r0⟩ := id H_r0
  have G_r0 : mF T R r0 := ⟨J_r0, Y_r0, T_r0⟩
  refine k_aload_n C rfl rfl rfl ?_
  refine z_iconst C (z := 0) rfl rfl rfl (fun x1 ex1 => ?_)
  refine z_pI C rfl rfl rfl T_r0 (Or.inr rfl) rfl (fun I2 uI2 => ?_)
  have hI2 : IM R r0 I2 := IM.fld hI G_r0 ⟨(fun h => absurd h (by decide)), (fun h => absurd h (by decide)), (fun h => absurd h (by decide)), (fun h => absurd h (by decide)), (fun h => absurd h (by decide))⟩ uI2
  have S3 : CM A R r0 [0] [] I L I2 L := CM.f G_r0 A_r0 uI2
  have e4 := u2_e uI2
  refine k_aload_n C rfl rfl rfl ?_
  refine k_aload_n C rfl rfl rfl ?_
  refine k_iload_n C rfl rfl rfl ?_
  refine c_VI C (a_X12_noForm hI2 H_r0) rfl rfl rfl rfl rfl ⟨_, rfl, rfl, T_r0, Nat.le_of_ble_eq_true rfl⟩ rfl rfl (Nat.le_of_ble_eq_true rfl) (Nat.le_of_ble_eq_true rfl) (Nat.le_of_ble_eq_true rfl) ?_
  rintro x5 _ _ ⟨o0x5, o1x5, p0x5, rfl, rfl⟩
  have p0x5 := p0x5 r0_1 R_r0_1
  have gx5 := rg x5
  obtain ⟨x6, e7⟩ : ∃ x, I2 r0_1 1 = x := ⟨_, rfl⟩
  have gx6 := rg x6
  have ox6 := IM.c1 hI2 R_r0_1 e7
  try simp only [e4, e7] at p0x5
  try have q0x5 := congrArg Int32.toInt p0x5
  refine z_iconst C (z := 1) rfl rfl rfl (fun x8 ex8 => ?_)
  have q9 : x8.toNatClampNeg = 1 := nck (by omega)
  refine c_VI C (a_X12_throwsIf hI2 H_r0 (by omega) (by omega)) rfl rfl rfl rfl rfl ⟨_, rfl, rfl, T_r0, Nat.le_of_ble_eq_true rfl⟩ rfl rfl (Nat.le_of_ble_eq_true rfl) (Nat.le_of_ble_eq_true rfl) (Nat.le_of_ble_eq_true rfl) ?_
  rintro x10 I11 L12 ⟨o0x10, o1x10, p0x10, hI11, S13⟩
  have e15 := CM.j S13 R_r0_1 (by decide) e7
  have gx10 := rg x10
  try simp only [q9, e4, e7] at p0x10
  try have q0x10 := congrArg Int32.toInt p0x10
  refine b_if_eq C (t := 20) rfl rfl rfl (fun c16 => ?_) (fun c16 => ?_)
  · skip
    refine k_iload_n C rfl rfl rfl ?_
    refine z_iconst C (z := -1) rfl rfl rfl (fun x17 ex17 => ?_)
    refine b_icmp_ne C (t := 33) rfl rfl rfl (fun c18 => ?_) (fun c18 => ?_)
    · skip
      refine k_iload_n C rfl rfl rfl ?_
      refine z_iconst C (z := 0) rfl rfl rfl (fun x19 ex19 => ?_)
      refine k_aload_n C rfl rfl rfl ?_
      refine k_iload_n C rfl rfl rfl ?_
      refine c_VI C (a_X12_degreeOf hI11 H_r0 (by omega) (by omega)) rfl rfl rfl rfl rfl ⟨_, rfl, rfl, T_r0, Nat.le_of_ble_eq_true rfl⟩ rfl rfl (Nat.le_of_ble_eq_true rfl) (Nat.le_of_ble_eq_true rfl) (Nat.le_of_ble_eq_true rfl) ?_
      rintro x20 _ _ ⟨o0x20, o1x20, p0x20, rfl, rfl⟩
      have p0x20 := p0x20 r0_1 R_r0_1
      have gx20 := rg x20
      obtain ⟨x21, e22⟩ : ∃ x, I11 r0_1 (6 + 10 * n1.toNatClampNeg) = x := ⟨_, rfl⟩
      have gx21 := rg x21
      try simp only [e15, e22] at p0x20
      try have q0x20 := congrArg Int32.toInt p0x20
      have q23 : x19.toNatClampNeg = 0 := nck (by omega)
      refine c_SI C a_X12_in rfl rfl rfl rfl rfl rfl rfl (Nat.le_of_ble_eq_true rfl) (Nat.le_of_ble_eq_true rfl) (Nat.le_of_ble_eq_true rfl) ?_
      rintro x24 _ _ ⟨o0x24, o1x24, p0x24, rfl, rfl⟩
      have gx24 := rg x24
      try simp only [q23, e15, e22] at p0x24
      try have q0x24 := congrArg Int32.toInt p0x24
      refine b_if_eq C (t := 55) rfl rfl rfl (fun c25 => ?_) (fun c25 => ?_)
      · skip
        refine z_iconst C (z := -1) rfl rfl rfl (fun x26 ex26 => ?_)
        exact k_iret C rfl (Or.inl rfl) (Nat.le_of_ble_eq_true rfl) (Nat.le_of_ble_eq_true rfl) ⟨_, _, _, rfl, rfl, by omega, by omega, hI11, (CM.cons S3 (CM.mono S13 (by decide) (by decide)) (by decide) (by decide))⟩
      refine k_aload_n C rfl rfl rfl ?_
      refine k_iload_n C rfl rfl rfl ?_
      refine k_iload_n C rfl rfl rfl ?_
      refine c_VI C (a_X12_numberOf hI11 H_r0 (by omega) (by omega) (by omega) (by omega)) rfl rfl rfl rfl rfl ⟨_, rfl, rfl, T_r0, Nat.le_of_ble_eq_true rfl⟩ rfl rfl (Nat.le_of_ble_eq_true rfl) (Nat.le_of_ble_eq_true rfl) (Nat.le_of_ble_eq_true rfl) ?_
      rintro x27 _ _ ⟨o0x27, o1x27, p0x27, rfl, rfl⟩
      have p0x27 := p0x27 r0_1 R_r0_1
      have gx27 := rg x27
      try simp only [e15, e22] at p0x27
      try have q0x27 := congrArg Int32.toInt p0x27
      refine k_goto C (pc2 := 56) rfl rfl ?_
      exact k_iret C rfl (Or.inl rfl) (Nat.le_of_ble_eq_true rfl) (Nat.le_of_ble_eq_true rfl) ⟨_, _, _, rfl, rfl, by omega, by omega, hI11, (CM.cons S3 (CM.mono S13 (by decide) (by decide)) (by decide) (by decide))⟩
    refine k_aload_n C rfl rfl rfl ?_
    refine k_iload_n C rfl rfl rfl ?_
    refine c_VI C (a_X12_degreeOf hI11 H_r0 (by omega) (by omega)) rfl rfl rfl rfl rfl ⟨_, rfl, rfl, T_r0, Nat.le_of_ble_eq_true rfl⟩ rfl rfl (Nat.le_of_ble_eq_true rfl) (Nat.le_of_ble_eq_true rfl) (Nat.le_of_ble_eq_true rfl) ?_
    rintro x28 _ _ ⟨o0x28, o1x28, p0x28, rfl, rfl⟩
    have p0x28 := p0x28 r0_1 R_r0_1
    have gx28 := rg x28
    obtain ⟨x29, e30⟩ : ∃ x, I11 r0_1 (6 + 10 * n1.toNatClampNeg) = x := ⟨_, rfl⟩
    have gx29 := rg x29
    try simp only [e15, e30] at p0x28
    try have q0x28 := congrArg Int32.toInt p0x28
    refine k_goto C (pc2 := 56) rfl rfl ?_
    exact k_iret C rfl (Or.inl rfl) (Nat.le_of_ble_eq_true rfl) (Nat.le_of_ble_eq_true rfl) ⟨_, _, _, rfl, rfl, by omega, by omega, hI11, (CM.cons S3 (CM.mono S13 (by decide) (by decide)) (by decide) (by decide))⟩
  refine z_iconst C (z := 0) rfl rfl rfl (fun x31 ex31 => ?_)
  exact k_iret C rfl (Or.inl rfl) (Nat.le_of_ble_eq_true rfl) (Nat.le_of_ble_eq_true rfl) ⟨_, _, _, rfl, rfl, by omega, by omega, hI11, (CM.cons S3 (CM.mono S13 (by decide) (by decide)) (by decide) (by decide))⟩

theorem a_X12_at {d : Nat} {T N : Nat → Nat} {I : IT} {L : LT} {R : RT} {A : Nat → Prop} {r0 : Nat} {n1 n2 n3 : Int32} (hI : IM R r0 I) (H_r0 : (h_MD T N R A) r0) : Ex (d + 5) 242 [.ref r0, .int n1, .int n2, .int n3] (T, N, I, L, R) 0 0 (pI T N R (fun x9 I9 L9 => (-18 ≤ x9.toInt) ∧ (x9.toInt ≤ 18) ∧ (IM R r0 I9 ∧ CM A R r0 [0] [4, 5] I L I9 L9))) := by
  refine ⟨_, rfl, Nat.le_of_ble_eq_true rfl, fun V C S => ?_⟩
  show V 0 [(0, .ref r0), (1, .int n1), (2, .int n2), (3, .int n3)] [] (T, N, I, L, R) 0 0
  have gn1 := rg n1
  have gn2 := rg n2
  have gn3 := rg n3
  obtain ⟨T_r0, A_r0, ⟨r0_1, R_r0_1, H_r0_1⟩, ⟨r0_2, R_r0_2, H_r0_2⟩, ⟨r0_4, R_r0_4, H_r0_4⟩, ⟨r0_5, R_r0_5, H_r0_5⟩, ⟨r0_10, R_r0_10, H_r0_10⟩, ⟨r0_18, R_r0_18, H_r0_18⟩, ⟨r0_20, R_r0_20, H_r0_20⟩, ⟨r0_21, R_r0_21, H_r0_21⟩, ⟨r0_22, R_r0_22, H_r0_22⟩, ⟨r0_23, R_r0_23, H_r0_23⟩, ⟨r0_25, R_r0_25, H_r0_25⟩, ⟨r0_26, R_r0_26, H_r0_26⟩, ⟨r0_27, R_r0_27, H_r0_27⟩, ⟨r0_28, R_r0_28, H_r0_28⟩, ⟨r0_34, R_r0_34, H_r0_34⟩, J_r0, Y_r0⟩ := id H_r0
  have G_r0 : mF T R r0 := ⟨J_r0, Y_r0, T_r0⟩
  refine k_aload_n C rfl rfl rfl ?_
  refine z_iconst C (z := 0) rfl rfl rfl (fun x1 ex1 => ?_)
  refine z_pI C rfl rfl rfl T_r0 (Or.inr rfl) rfl (fun I2 uI2 => ?_)
  have hI2 : IM R r0 I2 := IM.fld hI G_r0 ⟨(fun h => absurd h (by decide)), (fun h => absurd h (by decide)), (fun h => absurd h (by decide)), (fun h => absurd h (by decide)), (fun h => absurd h (by decide))⟩ uI2
  have S3 : CM A R r0 [0] [] I L I2 L := CM.f G_r0 A_r0 uI2
  have e4 := u2_e uI2
  refine k_aload_n C rfl rfl rfl ?_
  refine k_aload_n C rfl rfl rfl ?_
  refine k_iload_n C rfl rfl rfl ?_
  refine c_VI C (a_X12_noForm hI2 H_r0) rfl rfl rfl rfl rfl ⟨_, rfl, rfl, T_r0, Nat.le_of_ble_eq_true rfl⟩ rfl rfl (Nat.le_of_ble_eq_true rfl) (Nat.le_of_ble_eq_true rfl) (Nat.le_of_ble_eq_true rfl) ?_
  rintro x5 _ _ ⟨o0x5, o1x5, p0x5, rfl, rfl⟩
  have p0x5 := p0x5 r0_1 R_r0_1
  have gx5 := rg x5
  obtain ⟨x6, e7⟩ : ∃ x, I2 r0_1 1 = x := ⟨_, rfl⟩
  have gx6 := rg x6
  have ox6 := IM.c1 hI2 R_r0_1 e7
  try simp only [e4, e7] at p0x5
  try have q0x5 := congrArg Int32.toInt p0x5
  refine z_iconst C (z := 1) rfl rfl rfl (fun x8 ex8 => ?_)
  have q9 : x8.toNatClampNeg = 1 := nck (by omega)
  refine c_VI C (a_X12_throwsIf hI2 H_r0 (by omega) (by omega)) rfl rfl rfl rfl rfl ⟨_, rfl, rfl, T_r0, Nat.le_of_ble_eq_true rfl⟩ rfl rfl (Nat.le_of_ble_eq_true rfl) (Nat.le_of_ble_eq_true rfl) (Nat.le_of_ble_eq_true rfl) ?_
  rintro x10 I11 L12 ⟨o0x10, o1x10, p0x10, hI11, S13⟩
  have e15 := CM.j S13 R_r0_1 (by decide) e7
  have gx10 := rg x10
  try simp only [q9, e4, e7] at p0x10
  try have q0x10 := congrArg Int32.toInt p0x10
  refine b_if_eq C (t := 20) rfl rfl rfl (fun c16 => ?_) (fun c16 => ?_)
  · skip
    refine k_aload_n C rfl rfl rfl ?_
    refine z_bipush C (z := 40) rfl rfl rfl (fun x17 ex17 => ?_)
    refine k_iload_n C rfl rfl rfl ?_
    obtain ⟨x18, e19⟩ : ∃ x, I11 r0_1 (6 + 10 * n1.toNatClampNeg) = x := ⟨_, rfl⟩
    have gx18 := rg x18
    obtain ⟨x20, e21⟩ : ∃ x, I11 r0_1 0 = x := ⟨_, rfl⟩
    have gx20 := rg x20
    have ox20 := IM.pi hI11 R_r0_1 e21
    have q22 : x17.toNatClampNeg = 40 := nck (by omega)
    refine c_VV C (a_X12_takes hI11 H_r0 (by omega) (by omega) (by omega) (by omega)) rfl rfl rfl rfl rfl ⟨_, rfl, rfl, T_r0, Nat.le_of_ble_eq_true rfl⟩ rfl rfl (Nat.le_of_ble_eq_true rfl) (Nat.le_of_ble_eq_true rfl) (Nat.le_of_ble_eq_true rfl) ?_
    rintro I24 L25 ⟨p0v23, p1v23, p2v23, p3v23, p4v23, hI24, S26⟩
    have p0v23 := p0v23 r0_4 R_r0_4
    have p1v23 := p1v23 r0_1 r0_4 R_r0_1 R_r0_4
    have p2v23 := p2v23 r0_1 r0_4 r0_5 R_r0_1 R_r0_4 R_r0_5
    have p3v23 := p3v23 r0_4 R_r0_4
    have p4v23 := p4v23 r0_5 R_r0_5
    try simp only [q22] at p3v23
    try simp only [q22] at p4v23
    have e27 := CM.j S26 R_r0_1 (by decide) e15
    have e28 := CM.j S26 R_r0_1 (by decide) e19
    have e29 := CM.j S26 R_r0_1 (by decide) e21
    obtain ⟨x30, e31⟩ : ∃ x, I24 r0_4 40 = x := ⟨_, rfl⟩
    have gx30 := rg x30
    have ox30 := IM.dgR hI24 R_r0_4 e31
    try simp only [q22, e15, e19, e21, e31] at p0v23
    try have q0v23 := congrArg Int32.toInt p0v23
    try simp only [q22, e15, e19, e21, e31] at p1v23
    try have q1v23 := congrArg Int32.toInt p1v23
    try simp only [q22, e15, e19, e21, e31] at p2v23
    try have q2v23 := congrArg Int32.toInt p2v23
    refine k_aload_n C rfl rfl rfl ?_
    refine z_bipush C (z := 40) rfl rfl rfl (fun x32 ex32 => ?_)
    refine k_aload_n C rfl rfl rfl ?_
    refine k_iload_n C rfl rfl rfl ?_
    refine z_i2l C rfl rfl (fun lg33 elg33 => ?_)
    refine c_VI C (a_X12_mod hI24 H_r0) rfl rfl rfl rfl rfl ⟨_, rfl, rfl, T_r0, Nat.le_of_ble_eq_true rfl⟩ rfl rfl (Nat.le_of_ble_eq_true rfl) (Nat.le_of_ble_eq_true rfl) (Nat.le_of_ble_eq_true rfl) ?_
    rintro x34 _ _ ⟨o0x34, o1x34, p0x34, rfl, rfl⟩
    have p0x34 := p0x34 r0_1 R_r0_1
    have gx34 := rg x34
    try simp only [e27, e28, e29, e31] at p0x34
    try have q0x34 := congrArg Int32.toInt p0x34
    refine k_aload_n C rfl rfl rfl ?_
    refine k_iload_n C rfl rfl rfl ?_
    refine z_i2l C rfl rfl (fun lg35 elg35 => ?_)
    refine c_VI C (a_X12_mod hI24 H_r0) rfl rfl rfl rfl rfl ⟨_, rfl, rfl, T_r0, Nat.le_of_ble_eq_true rfl⟩ rfl rfl (Nat.le_of_ble_eq_true rfl) (Nat.le_of_ble_eq_true rfl) (Nat.le_of_ble_eq_true rfl) ?_
    rintro x36 _ _ ⟨o0x36, o1x36, p0x36, rfl, rfl⟩
    have p0x36 := p0x36 r0_1 R_r0_1
    have gx36 := rg x36
    try simp only [e27, e28, e29, e31] at p0x36
    try have q0x36 := congrArg Int32.toInt p0x36
    refine c_VI C (a_X12_valueAt hI24 H_r0 (by omega) (by omega) (by omega) (by omega) (by omega) (by omega)) rfl rfl rfl rfl rfl ⟨_, rfl, rfl, T_r0, Nat.le_of_ble_eq_true rfl⟩ rfl rfl (Nat.le_of_ble_eq_true rfl) (Nat.le_of_ble_eq_true rfl) (Nat.le_of_ble_eq_true rfl) ?_
    rintro x37 _ _ ⟨o0x37, o1x37, rfl, rfl⟩
    have gx37 := rg x37
    exact k_iret C rfl (Or.inl rfl) (Nat.le_of_ble_eq_true rfl) (Nat.le_of_ble_eq_true rfl) ⟨_, _, _, rfl, rfl, by omega, by omega, hI24, (CM.cons S3 (CM.cons S13 (CM.mono S26 (by decide) (by decide)) (by decide) (by decide)) (by decide) (by decide))⟩
  refine z_iconst C (z := 0) rfl rfl rfl (fun x38 ex38 => ?_)
  exact k_iret C rfl (Or.inl rfl) (Nat.le_of_ble_eq_true rfl) (Nat.le_of_ble_eq_true rfl) ⟨_, _, _, rfl, rfl, by omega, by omega, hI11, (CM.cons S3 (CM.mono S13 (by decide) (by decide)) (by decide) (by decide))⟩

theorem a_X12_stepOf {d : Nat} {T N : Nat → Nat} {I : IT} {L : LT} {R : RT} {A : Nat → Prop} {r0 : Nat} {n1 n2 : Int32} (hI : IM R r0 I) (H_r0 : (h_MD T N R A) r0) (b0_n1 : 0 ≤ n1.toInt) (b1_n1 : n1.toInt ≤ 7) (b0_n2 : 0 ≤ n2.toInt) (b1_n2 : n2.toInt ≤ 198) : Ex (d + 1) 248 [.ref r0, .int n1, .int n2] (T, N, I, L, R) 0 0 (pI T N R (fun x9 I9 L9 => (∀ a1, R r0 1 = some a1 → x9.toInt = (I a1 (198 + 401 * n1.toNatClampNeg + 1 + 2 * n2.toNatClampNeg)).toInt) ∧ (I = I9 ∧ L = L9))) := by
  refine ⟨_, rfl, Nat.le_of_ble_eq_true rfl, fun V C S => ?_⟩
  show V 0 [(0, .ref r0), (1, .int n1), (2, .int n2)] [] (T, N, I, L, R) 0 0
  have gn1 := rg n1
  have gn2 := rg n2
  obtain ⟨T_r0, A_r0, ⟨r0_1, R_r0_1, H_r0_1⟩, ⟨r0_2, R_r0_2, H_r0_2⟩, ⟨r0_4, R_r0_4, H_r0_4⟩, ⟨r0_5, R_r0_5, H_r0_5⟩, ⟨r0_10, R_r0_10, H_r0_10⟩, ⟨r0_18, R_r0_18, H_r0_18⟩, ⟨r0_20, R_r0_20, H_r0_20⟩, ⟨r0_21, R_r0_21, H_r0_21⟩, ⟨r0_22, R_r0_22, H_r0_22⟩, ⟨r0_23, R_r0_23, H_r0_23⟩, ⟨r0_25, R_r0_25, H_r0_25⟩, ⟨r0_26, R_r0_26, H_r0_26⟩, ⟨r0_27, R_r0_27, H_r0_27⟩, ⟨r0_28, R_r0_28, H_r0_28⟩, ⟨r0_34, R_r0_34, H_r0_34⟩, J_r0, Y_r0⟩ := id H_r0
  have G_r0 : mF T R r0 := ⟨J_r0, Y_r0, T_r0⟩
  refine k_aload_n C rfl rfl rfl ?_
  refine g_R C rfl rfl rfl T_r0 rfl R_r0_1 ?_
  refine z_sipush C (z := 198) rfl rfl rfl (fun x1 ex1 => ?_)
  refine z_sipush C (z := 401) rfl rfl rfl (fun x2 ex2 => ?_)
  refine k_iload_n C rfl rfl rfl ?_
  refine z_imulL C (c := 401) rfl rfl (by omega) ⟨by omega, by omega⟩ (fun x3 ex3 => ?_)
  refine z_iadd C rfl rfl ⟨by omega, by omega⟩ (fun x4 ex4 => ?_)
  refine z_iconst C (z := 1) rfl rfl rfl (fun x5 ex5 => ?_)
  refine z_iadd C rfl rfl ⟨by omega, by omega⟩ (fun x6 ex6 => ?_)
  refine z_iconst C (z := 2) rfl rfl rfl (fun x7 ex7 => ?_)
  refine k_iload_n C rfl rfl rfl ?_
  refine z_imulL C (c := 2) rfl rfl (by omega) ⟨by omega, by omega⟩ (fun x8 ex8 => ?_)
  refine z_iadd C rfl rfl ⟨by omega, by omega⟩ (fun x9 ex9 => ?_)
  obtain ⟨T_r0_1, N_r0_1, A_r0_1⟩ := id H_r0_1
  refine z_aI C rfl rfl T_r0_1 N_r0_1 (by omega) (by omega) (fun x10 ex10 => ?_)
  have gx10 := rg x10
  have jj : x9.toNatClampNeg = 198 + 401 * n1.toNatClampNeg + 1 + 2 * n2.toNatClampNeg := by (have h_n1 := ncz (x := n1) (by omega)); (have h_n2 := ncz (x := n2) (by omega)); have hj := ncz (x := x9) (by omega); omega
  have ee := ex10; rw [jj] at ee
  exact k_iret C rfl (Or.inl rfl) (Nat.le_of_ble_eq_true rfl) (Nat.le_of_ble_eq_true rfl) ⟨_, _, _, rfl, rfl, fun a1 h1 => by cases (R_r0_1.symm.trans h1); rw [ee], rfl, rfl⟩

theorem a_X12_toldBy {d : Nat} {T N : Nat → Nat} {I : IT} {L : LT} {R : RT} {A : Nat → Prop} {r0 : Nat} {n1 n2 : Int32} (hI : IM R r0 I) (H_r0 : (h_MD T N R A) r0) (b0_n1 : 0 ≤ n1.toInt) (b1_n1 : n1.toInt ≤ 7) (b0_n2 : 0 ≤ n2.toInt) (b1_n2 : n2.toInt ≤ 198) : Ex (d + 1) 249 [.ref r0, .int n1, .int n2] (T, N, I, L, R) 0 0 (pI T N R (fun x9 I9 L9 => (∀ a1, R r0 1 = some a1 → x9.toInt = (I a1 (198 + 401 * n1.toNatClampNeg + 2 + 2 * n2.toNatClampNeg)).toInt) ∧ (I = I9 ∧ L = L9))) := by
  refine ⟨_, rfl, Nat.le_of_ble_eq_true rfl, fun V C S => ?_⟩
  show V 0 [(0, .ref r0), (1, .int n1), (2, .int n2)] [] (T, N, I, L, R) 0 0
  have gn1 := rg n1
  have gn2 := rg n2
  obtain ⟨T_r0, A_r0, ⟨r0_1, R_r0_1, H_r0_1⟩, ⟨r0_2, R_r0_2, H_r0_2⟩, ⟨r0_4, R_r0_4, H_r0_4⟩, ⟨r0_5, R_r0_5, H_r0_5⟩, ⟨r0_10, R_r0_10, H_r0_10⟩, ⟨r0_18, R_r0_18, H_r0_18⟩, ⟨r0_20, R_r0_20, H_r0_20⟩, ⟨r0_21, R_r0_21, H_r0_21⟩, ⟨r0_22, R_r0_22, H_r0_22⟩, ⟨r0_23, R_r0_23, H_r0_23⟩, ⟨r0_25, R_r0_25, H_r0_25⟩, ⟨r0_26, R_r0_26, H_r0_26⟩, ⟨r0_27, R_r0_27, H_r0_27⟩, ⟨r0_28, R_r0_28, H_r0_28⟩, ⟨r0_34, R_r0_34, H_r0_34⟩, J_r0, Y_r0⟩ := id H_r0
  have G_r0 : mF T R r0 := ⟨J_r0, Y_r0, T_r0⟩
  refine k_aload_n C rfl rfl rfl ?_
  refine g_R C rfl rfl rfl T_r0 rfl R_r0_1 ?_
  refine z_sipush C (z := 198) rfl rfl rfl (fun x1 ex1 => ?_)
  refine z_sipush C (z := 401) rfl rfl rfl (fun x2 ex2 => ?_)
  refine k_iload_n C rfl rfl rfl ?_
  refine z_imulL C (c := 401) rfl rfl (by omega) ⟨by omega, by omega⟩ (fun x3 ex3 => ?_)
  refine z_iadd C rfl rfl ⟨by omega, by omega⟩ (fun x4 ex4 => ?_)
  refine z_iconst C (z := 2) rfl rfl rfl (fun x5 ex5 => ?_)
  refine z_iadd C rfl rfl ⟨by omega, by omega⟩ (fun x6 ex6 => ?_)
  refine z_iconst C (z := 2) rfl rfl rfl (fun x7 ex7 => ?_)
  refine k_iload_n C rfl rfl rfl ?_
  refine z_imulL C (c := 2) rfl rfl (by omega) ⟨by omega, by omega⟩ (fun x8 ex8 => ?_)
  refine z_iadd C rfl rfl ⟨by omega, by omega⟩ (fun x9 ex9 => ?_)
  obtain ⟨T_r0_1, N_r0_1, A_r0_1⟩ := id H_r0_1
  refine z_aI C rfl rfl T_r0_1 N_r0_1 (by omega) (by omega) (fun x10 ex10 => ?_)
  have gx10 := rg x10
  have jj : x9.toNatClampNeg = 198 + 401 * n1.toNatClampNeg + 2 + 2 * n2.toNatClampNeg := by (have h_n1 := ncz (x := n1) (by omega)); (have h_n2 := ncz (x := n2) (by omega)); have hj := ncz (x := x9) (by omega); omega
  have ee := ex10; rw [jj] at ee
  exact k_iret C rfl (Or.inl rfl) (Nat.le_of_ble_eq_true rfl) (Nat.le_of_ble_eq_true rfl) ⟨_, _, _, rfl, rfl, fun a1 h1 => by cases (R_r0_1.symm.trans h1); rw [ee], rfl, rfl⟩

theorem a_X12_stepsOf {d : Nat} {T N : Nat → Nat} {I : IT} {L : LT} {R : RT} {A : Nat → Prop} {r0 : Nat} {n1 : Int32} (hI : IM R r0 I) (H_r0 : (h_MD T N R A) r0) (b0_n1 : 0 ≤ n1.toInt) (b1_n1 : n1.toInt ≤ 7) : Ex (d + 1) 250 [.ref r0, .int n1] (T, N, I, L, R) 0 0 (pI T N R (fun x9 I9 L9 => (∀ a1, R r0 1 = some a1 → x9.toInt = (I a1 (198 + 401 * n1.toNatClampNeg)).toInt) ∧ (I = I9 ∧ L = L9))) := by
  refine ⟨_, rfl, Nat.le_of_ble_eq_true rfl, fun V C S => ?_⟩
  show V 0 [(0, .ref r0), (1, .int n1)] [] (T, N, I, L, R) 0 0
  have gn1 := rg n1
  obtain ⟨T_r0, A_r0, ⟨r0_1, R_r0_1, H_r0_1⟩, ⟨r0_2, R_r0_2, H_r0_2⟩, ⟨r0_4, R_r0_4, H_r0_4⟩, ⟨r0_5, R_r0_5, H_r0_5⟩, ⟨r0_10, R_r0_10, H_r0_10⟩, ⟨r0_18, R_r0_18, H_r0_18⟩, ⟨r0_20, R_r0_20, H_r0_20⟩, ⟨r0_21, R_r0_21, H_r0_21⟩, ⟨r0_22, R_r0_22, H_r0_22⟩, ⟨r0_23, R_r0_23, H_r0_23⟩, ⟨r0_25, R_r0_25, H_r0_25⟩, ⟨r0_26, R_r0_26, H_r0_26⟩, ⟨r0_27, R_r0_27, H_r0_27⟩, ⟨r0_28, R_r0_28, H_r0_28⟩, ⟨r0_34, R_r0_34, H_r0_34⟩, J_r0, Y_r0⟩ := id H_r0
  have G_r0 : mF T R r0 := ⟨J_r0, Y_r0, T_r0⟩
  refine k_aload_n C rfl rfl rfl ?_
  refine g_R C rfl rfl rfl T_r0 rfl R_r0_1 ?_
  refine z_sipush C (z := 198) rfl rfl rfl (fun x1 ex1 => ?_)
  refine z_sipush C (z := 401) rfl rfl rfl (fun x2 ex2 => ?_)
  refine k_iload_n C rfl rfl rfl ?_
  refine z_imulL C (c := 401) rfl rfl (by omega) ⟨by omega, by omega⟩ (fun x3 ex3 => ?_)
  refine z_iadd C rfl rfl ⟨by omega, by omega⟩ (fun x4 ex4 => ?_)
  obtain ⟨T_r0_1, N_r0_1, A_r0_1⟩ := id H_r0_1
  refine z_aI C rfl rfl T_r0_1 N_r0_1 (by omega) (by omega) (fun x5 ex5 => ?_)
  have gx5 := rg x5
  have jj : x4.toNatClampNeg = 198 + 401 * n1.toNatClampNeg := by (have h_n1 := ncz (x := n1) (by omega)); have hj := ncz (x := x4) (by omega); omega
  have ee := ex5; rw [jj] at ee
  exact k_iret C rfl (Or.inl rfl) (Nat.le_of_ble_eq_true rfl) (Nat.le_of_ble_eq_true rfl) ⟨_, _, _, rfl, rfl, fun a1 h1 => by cases (R_r0_1.symm.trans h1); rw [ee], rfl, rfl⟩

theorem a_X12_oftenRoot {d : Nat} {T N : Nat → Nat} {I : IT} {L : LT} {R : RT} {A : Nat → Prop} {r0 : Nat} {n1 n2 : Int32} (hI : IM R r0 I) (H_r0 : (h_MD T N R A) r0) (b0_n1 : 40 ≤ n1.toInt) (b1_n1 : n1.toInt ≤ 41) (b0_n2 : 0 ≤ n2.toInt) (b1_n2 : n2.toInt ≤ 19) (hp0 : ∀ a4 a5, R r0 4 = some a4 → R r0 5 = some a5 → NZ I a5 n1.toNatClampNeg (I a4 n1.toNatClampNeg).toInt) (hp1 : ∀ a1, R r0 1 = some a1 → n2.toInt ≤ (I a1 0).toInt) : Ex (d + 5) 268 [.ref r0, .int n1, .int n2] (T, N, I, L, R) 0 0 (pI T N R (fun x9 I9 L9 => (∀ a4, R r0 4 = some a4 → ∀ r : Nat, r ≠ 43 → I9 a4 r = I a4 r) ∧ (∀ a5, R r0 5 = some a5 → ∀ r : Nat, (r < 41 * 43 ∨ 41 * 43 + 41 ≤ r) → I9 a5 r = I a5 r) ∧ (IM R r0 I9 ∧ CM A R r0 [] [4, 5] I L I9 L9))) := by
  refine ⟨_, rfl, Nat.le_of_ble_eq_true rfl, fun V C S => ?_⟩
  show V 0 [(0, .ref r0), (1, .int n1), (2, .int n2)] [] (T, N, I, L, R) 0 0
  have gn1 := rg n1
  have gn2 := rg n2
  obtain ⟨T_r0, A_r0, ⟨r0_1, R_r0_1, H_r0_1⟩, ⟨r0_2, R_r0_2, H_r0_2⟩, ⟨r0_4, R_r0_4, H_r0_4⟩, ⟨r0_5, R_r0_5, H_r0_5⟩, ⟨r0_10, R_r0_10, H_r0_10⟩, ⟨r0_18, R_r0_18, H_r0_18⟩, ⟨r0_20, R_r0_20, H_r0_20⟩, ⟨r0_21, R_r0_21, H_r0_21⟩, ⟨r0_22, R_r0_22, H_r0_22⟩, ⟨r0_23, R_r0_23, H_r0_23⟩, ⟨r0_25, R_r0_25, H_r0_25⟩, ⟨r0_26, R_r0_26, H_r0_26⟩, ⟨r0_27, R_r0_27, H_r0_27⟩, ⟨r0_28, R_r0_28, H_r0_28⟩, ⟨r0_34, R_r0_34, H_r0_34⟩, J_r0, Y_r0⟩ := id H_r0
  have G_r0 : mF T R r0 := ⟨J_r0, Y_r0, T_r0⟩
  obtain ⟨w_r0_4_n1, k0_r0_4_n1⟩ : ∃ x, I r0_4 n1.toNatClampNeg = x := ⟨_, rfl⟩
  have gw_r0_4_n1 := rg w_r0_4_n1
  have ow_r0_4_n1 := IM.dgR hI R_r0_4 k0_r0_4_n1
  obtain ⟨w_r0_1_0, k0_r0_1_0⟩ : ∃ x, I r0_1 0 = x := ⟨_, rfl⟩
  have gw_r0_1_0 := rg w_r0_1_0
  have ow_r0_1_0 := IM.pi hI R_r0_1 k0_r0_1_0
  have hp0 := hp0 r0_4 r0_5 R_r0_4 R_r0_5
  have hp1 := hp1 r0_1 R_r0_1
  try simp only [k0_r0_4_n1, k0_r0_1_0] at hp0
  try simp only [k0_r0_4_n1, k0_r0_1_0] at hp1
  obtain ⟨K, hK1, hK2⟩ := hp0
  refine z_iconst C (z := 0) rfl rfl rfl (fun x1 ex1 => ?_)
  refine k_istore_n C (lw := [(3, .int x1), (0, .ref r0), (1, .int n1), (2, .int n2)]) rfl rfl (Nat.le_of_ble_eq_true rfl) rfl ?_
  refine k_iload_n C rfl rfl rfl ?_
  refine k_aload_n C rfl rfl rfl ?_
  refine c_VI C (a_X12_p hI H_r0) rfl rfl rfl rfl rfl ⟨_, rfl, rfl, T_r0, Nat.le_of_ble_eq_true rfl⟩ rfl rfl (Nat.le_of_ble_eq_true rfl) (Nat.le_of_ble_eq_true rfl) (Nat.le_of_ble_eq_true rfl) ?_
  rintro x2 _ _ ⟨o0x2, o1x2, p0x2, rfl, rfl⟩
  have p0x2 := p0x2 r0_1 R_r0_1
  have gx2 := rg x2
  try simp only [k0_r0_4_n1, k0_r0_1_0, k0_r0_1_0] at p0x2
  try have q0x2 := congrArg Int32.toInt p0x2
  have J3 : ∀ (nn4 : Nat) (x5 : Int32), (MN (41 - x5.toInt) nn4) → (0 ≤ x5.toInt) → (x5.toInt ≤ 41) → (x5.toInt ≤ (K : Int)) → V 10 [(0, .ref r0), (1, .int n1), (3, .int x5)] [] (T, N, I, L, R) 0 0 := by
    intro nn4
    induction nn4 using Nat.strongRecOn with
    | _ nn4 ihJ3 =>
      intro x5 hmnn4 b6 b7 ff10_0
      have gx5 := rg x5
      refine k_aload_n C rfl rfl rfl ?_
      refine k_iload_n C rfl rfl rfl ?_
      refine k_iload_n C rfl rfl rfl ?_
      refine c_VI C (a_X12_of hI H_r0 (by omega) (by omega) (by omega) (by omega)) rfl rfl rfl rfl rfl ⟨_, rfl, rfl, T_r0, Nat.le_of_ble_eq_true rfl⟩ rfl rfl (Nat.le_of_ble_eq_true rfl) (Nat.le_of_ble_eq_true rfl) (Nat.le_of_ble_eq_true rfl) ?_
      rintro x8 _ _ ⟨o0x8, o1x8, p0x8, rfl, rfl⟩
      have p0x8 := p0x8 r0_5 R_r0_5
      have gx8 := rg x8
      try simp only [k0_r0_4_n1, k0_r0_1_0] at p0x8
      try have q0x8 := congrArg Int32.toInt p0x8
      refine b_if_ne C (t := 25) rfl rfl rfl (fun c9 => ?_) (fun c9 => ?_)
      · skip
        refine k_iload_n C rfl rfl rfl ?_
        exact k_iret C rfl (Or.inl rfl) (Nat.le_of_ble_eq_true rfl) (Nat.le_of_ble_eq_true rfl) ⟨_, _, _, rfl, rfl, fun a4 h4 => by cases (R_r0_4.symm.trans h4); exact (fun r z0 => rfl), fun a5 h5 => by cases (R_r0_5.symm.trans h5); exact (fun r z0 => rfl), hI, CM.rf⟩
      refine z_iinc C (z := 1) (lw := fun x10 => [(3, .int x10), (0, .ref r0), (1, .int n1)]) rfl rfl rfl (Nat.le_of_ble_eq_true rfl) rfl ⟨by omega, by omega⟩ (fun _ => rfl) (fun x10 ex10 => ?_)
      show V 22 [(3, .int x10), (0, .ref r0), (1, .int n1)] _ _ _ _
      refine k_goto C (pc2 := 10) rfl rfl ?_
      refine k_sub S [(0, .ref r0), (1, .int n1), (3, .int x10)] (List.forall_mem_cons.mpr ⟨List.mem_of_getElem? (i := 1) rfl, List.forall_mem_cons.mpr ⟨List.mem_of_getElem? (i := 2) rfl, List.forall_mem_cons.mpr ⟨List.mem_of_getElem? (i := 0) rfl, fun _ h => nomatch h⟩⟩⟩) ?_
      exact ihJ3 _ (MN.lt hmnn4 (by omega) (by omega)) x10 rfl (by omega) (by omega) (by (have h9 : x5.toNatClampNeg ≠ K := by (intro q; have hK3 := hK2; rw [← q] at hK3; omega)); (have h8 := ncz (x := x5) (by omega)); omega)
  refine b_icmp_ne C (t := 27) rfl rfl rfl (fun c11 => ?_) (fun c11 => ?_)
  · skip
    refine k_aload_n C rfl rfl rfl ?_
    refine k_iload_n C rfl rfl rfl ?_
    refine z_bipush C (z := 43) rfl rfl rfl (fun x12 ex12 => ?_)
    have J13 : ∀ (nn14 : Nat) (I15 : IT) (L16 : LT) (x17 : Int32) (x22 : Int32), (MN x22.toInt nn14) → (IM R r0 I15) → (CM A R r0 [] [4, 5] I L I15 L16) → (∀ r : Nat, r ≠ 43 → I15 r0_4 r = I r0_4 r) → (∀ r : Nat, (r < 41 * 43 ∨ 41 * 43 + 41 ≤ r) → I15 r0_5 r = I r0_5 r) → (I15 r0_4 43 = x22) → (0 ≤ x22.toInt) → (x22.toInt ≤ 40) → V 34 [(0, .ref r0), (2, .int n2), (3, .int x17)] [] (T, N, I15, L16, R) 0 0 := by
      intro nn14
      induction nn14 using Nat.strongRecOn with
      | _ nn14 ihJ13 =>
        intro I15 L16 x17 x22 hmnn14 hI19 S18 F20 F21 e23 b24 b25
        have gx17 := rg x17
        have gx22 := rg x22
        have e26 := (F20 n1.toNatClampNeg (by first | decide | exact ncne (by omega) (by omega) (by omega) | exact nckn (by omega) (by omega) | exact (nckn (by omega) (by omega)).symm)).trans k0_r0_4_n1
        have e27 := CM.j S18 R_r0_1 (by decide) k0_r0_1_0
        refine k_aload_n C rfl rfl rfl ?_
        refine g_R C rfl rfl rfl T_r0 rfl R_r0_4 ?_
        refine z_bipush C (z := 43) rfl rfl rfl (fun x28 ex28 => ?_)
        obtain ⟨T_r0_4, N_r0_4, A_r0_4⟩ := id H_r0_4
        refine a_I C rfl rfl T_r0_4 (by rw [N_r0_4]; exact vpi (by omega) (by omega)) ((congrArg (I15 r0_4) (nck (n := 43) (by omega))).trans e23) ?_
        refine b_if_le C (t := 128) rfl rfl rfl (fun c29 => ?_) (fun c29 => ?_)
        · skip
          refine k_iload_n C rfl rfl rfl ?_
          exact k_iret C rfl (Or.inl rfl) (Nat.le_of_ble_eq_true rfl) (Nat.le_of_ble_eq_true rfl) ⟨_, _, _, rfl, rfl, fun a4 h4 => by cases (R_r0_4.symm.trans h4); exact (fun r z0 => (F20 r z0)), fun a5 h5 => by cases (R_r0_5.symm.trans h5); exact (fun r z0 => (F21 r z0)), hI19, (CM.mono S18 (by decide) (by decide))⟩
        refine k_aload_n C rfl rfl rfl ?_
        refine z_bipush C (z := 43) rfl rfl rfl (fun x30 ex30 => ?_)
        refine k_iload_n C rfl rfl rfl ?_
        refine z_iconst C (z := 1) rfl rfl rfl (fun x31 ex31 => ?_)
        refine c_VI C (a_X12_valueAt hI19 H_r0 (by omega) (by omega) (by omega) (by omega) (by omega) (by omega)) rfl rfl rfl rfl rfl ⟨_, rfl, rfl, T_r0, Nat.le_of_ble_eq_true rfl⟩ rfl rfl (Nat.le_of_ble_eq_true rfl) (Nat.le_of_ble_eq_true rfl) (Nat.le_of_ble_eq_true rfl) ?_
        rintro x32 _ _ ⟨o0x32, o1x32, rfl, rfl⟩
        have gx32 := rg x32
        refine b_if_ne C (t := 128) rfl rfl rfl (fun c33 => ?_) (fun c33 => ?_)
        · skip
          refine k_iload_n C rfl rfl rfl ?_
          exact k_iret C rfl (Or.inl rfl) (Nat.le_of_ble_eq_true rfl) (Nat.le_of_ble_eq_true rfl) ⟨_, _, _, rfl, rfl, fun a4 h4 => by cases (R_r0_4.symm.trans h4); exact (fun r z0 => (F20 r z0)), fun a5 h5 => by cases (R_r0_5.symm.trans h5); exact (fun r z0 => (F21 r z0)), hI19, (CM.mono S18 (by decide) (by decide))⟩
        refine z_iconst C (z := 1) rfl rfl rfl (fun x34 ex34 => ?_)
        have J35 : ∀ (nn36 : Nat) (I37 : IT) (L38 : LT) (x39 : Int32), (MN (41 - x39.toInt) nn36) → (IM R r0 I37) → (CM A R r0 [] [5] I15 L16 I37 L38) → (∀ r : Nat, (r < 41 * 43 ∨ 41 * 43 + 41 ≤ r) → I37 r0_5 r = I15 r0_5 r) → (1 ≤ x39.toInt) → (x39.toInt ≤ 41) → V 58 [(0, .ref r0), (2, .int n2), (3, .int x17), (4, .int x39)] [] (T, N, I37, L38, R) 0 0 := by
          intro nn36
          induction nn36 using Nat.strongRecOn with
          | _ nn36 ihJ35 =>
            intro I37 L38 x39 hmnn36 hI43 S42 F44 b40 b41
            have gx39 := rg x39
            have e45 := CM.j S42 R_r0_4 (by decide) e26
            have e46 := CM.j S42 R_r0_1 (by decide) e27
            have e47 := CM.j S42 R_r0_4 (by decide) e23
            refine k_iload C rfl rfl rfl ?_
            refine k_aload_n C rfl rfl rfl ?_
            refine g_R C rfl rfl rfl T_r0 rfl R_r0_4 ?_
            refine z_bipush C (z := 43) rfl rfl rfl (fun x48 ex48 => ?_)
            refine a_I C rfl rfl T_r0_4 (by rw [N_r0_4]; exact vpi (by omega) (by omega)) ((congrArg (I37 r0_4) (nck (n := 43) (by omega))).trans e47) ?_
            refine b_icmp_gt C (t := 111) rfl rfl rfl (fun c49 => ?_) (fun c49 => ?_)
            · skip
              refine k_aload_n C rfl rfl rfl ?_
              refine g_R C rfl rfl rfl T_r0 rfl R_r0_4 ?_
              refine z_bipush C (z := 43) rfl rfl rfl (fun x50 ex50 => ?_)
              refine k_dup2 C rfl rfl rfl rfl ?_
              refine a_I C rfl rfl T_r0_4 (by rw [N_r0_4]; exact vpi (by omega) (by omega)) ((congrArg (I37 r0_4) (nck (n := 43) (by omega))).trans e47) ?_
              refine z_iconst C (z := 1) rfl rfl rfl (fun x51 ex51 => ?_)
              refine z_isub C rfl rfl ⟨by omega, by omega⟩ (fun x52 ex52 => ?_)
              refine z_sI C rfl rfl T_r0_4 N_r0_4 (by omega) (by omega) (fun I53 uI53 => ?_)
              have uI53 : I53 = u2 I37 r0_4 43 (x52) := by rw [uI53, nck (n := 43) (by omega)]
              have hI53 : IM R r0 I53 := IM.arr hI43 G_r0 R_r0_4 ⟨(fun _ => ⟨by omega, by omega⟩), (fun h => absurd h (by decide)), (fun h => absurd h (by decide))⟩ (fun h => absurd h (by decide)) uI53
              have S54 : CM A R r0 [] [4] I37 L38 I53 L38 := CM.a G_r0 R_r0_4 A_r0_4 uI53
              have F55 : ∀ r : Nat, r ≠ 43 → I53 r0_4 r = I37 r0_4 r := fun r z0 => by rw [uI53]; first | exact u2_k z0
              have e56 := u2_j uI53 (by first | decide | exact ncne (by omega) (by omega) (by omega) | exact nckn (by omega) (by omega) | exact (nckn (by omega) (by omega)).symm) e45
              have e57 := u2_n uI53 (mF.nq G_r0 R_r0_1 R_r0_4 (by decide)) e46
              have e59 := u2_e uI53
              refine zt_iinc C (lw := fun x60 => [(3, .int x60), (0, .ref r0), (2, .int n2), (4, .int x39)]) rfl rfl rfl (Nat.le_of_ble_eq_true rfl) (fun _ => rfl) (fun x60 => ?_)
              have gx60 := rg x60
              show V 125 [(3, .int x60), (0, .ref r0), (2, .int n2), (4, .int x39)] _ _ _ _
              refine k_goto C (pc2 := 34) rfl rfl ?_
              refine k_sub S [(0, .ref r0), (2, .int n2), (3, .int x60)] (List.forall_mem_cons.mpr ⟨List.mem_of_getElem? (i := 1) rfl, List.forall_mem_cons.mpr ⟨List.mem_of_getElem? (i := 2) rfl, List.forall_mem_cons.mpr ⟨List.mem_of_getElem? (i := 0) rfl, fun _ h => nomatch h⟩⟩⟩) ?_
              exact ihJ13 _ (MN.lt hmnn14 (by omega) (by omega)) I53 L38 x60 x52 rfl hI53 (CM.cons S18 (CM.cons S42 (CM.mono S54 (by decide) (by decide)) (by decide) (by decide)) (by decide) (by decide)) (fun r z0 => ((F55 r z0).trans ((congrFun (CM.j0 S42 R_r0_4 (by decide)) r).trans (F20 r z0)))) (fun r z0 => ((congrFun (CM.j0 S54 R_r0_5 (by decide)) r).trans ((F44 r z0).trans (F21 r z0)))) e59 (by omega) (by omega)
            refine k_aload_n C rfl rfl rfl ?_
            refine z_bipush C (z := 43) rfl rfl rfl (fun x61 ex61 => ?_)
            refine k_iload C rfl rfl rfl ?_
            refine k_aload_n C rfl rfl rfl ?_
            refine k_aload_n C rfl rfl rfl ?_
            refine z_bipush C (z := 43) rfl rfl rfl (fun x62 ex62 => ?_)
            refine k_iload C rfl rfl rfl ?_
            have q63 : x62.toNatClampNeg = 43 := nck (by omega)
            refine c_VI C (a_X12_of hI43 H_r0 (by omega) (by omega) (by omega) (by omega)) rfl rfl rfl rfl rfl ⟨_, rfl, rfl, T_r0, Nat.le_of_ble_eq_true rfl⟩ rfl rfl (Nat.le_of_ble_eq_true rfl) (Nat.le_of_ble_eq_true rfl) (Nat.le_of_ble_eq_true rfl) ?_
            rintro x64 _ _ ⟨o0x64, o1x64, p0x64, rfl, rfl⟩
            have p0x64 := p0x64 r0_5 R_r0_5
            have gx64 := rg x64
            try simp only [q63, e45, e46, e47] at p0x64
            try have q0x64 := congrArg Int32.toInt p0x64
            refine k_aload_n C rfl rfl rfl ?_
            refine k_iload_n C rfl rfl rfl ?_
            refine k_aload_n C rfl rfl rfl ?_
            refine z_bipush C (z := 43) rfl rfl rfl (fun x65 ex65 => ?_)
            refine k_iload C rfl rfl rfl ?_
            refine z_iconst C (z := 1) rfl rfl rfl (fun x66 ex66 => ?_)
            refine z_isub C rfl rfl ⟨by omega, by omega⟩ (fun x67 ex67 => ?_)
            have q68 : x65.toNatClampNeg = 43 := nck (by omega)
            refine c_VI C (a_X12_of hI43 H_r0 (by omega) (by omega) (by omega) (by omega)) rfl rfl rfl rfl rfl ⟨_, rfl, rfl, T_r0, Nat.le_of_ble_eq_true rfl⟩ rfl rfl (Nat.le_of_ble_eq_true rfl) (Nat.le_of_ble_eq_true rfl) (Nat.le_of_ble_eq_true rfl) ?_
            rintro x69 _ _ ⟨o0x69, o1x69, p0x69, rfl, rfl⟩
            have p0x69 := p0x69 r0_5 R_r0_5
            have gx69 := rg x69
            try simp only [q68, e45, e46, e47] at p0x69
            try have q0x69 := congrArg Int32.toInt p0x69
            refine c_VI C (a_X12_times hI43 H_r0 (by omega) (by omega) (by omega) (by omega)) rfl rfl rfl rfl rfl ⟨_, rfl, rfl, T_r0, Nat.le_of_ble_eq_true rfl⟩ rfl rfl (Nat.le_of_ble_eq_true rfl) (Nat.le_of_ble_eq_true rfl) (Nat.le_of_ble_eq_true rfl) ?_
            rintro x70 _ _ ⟨o0x70, o1x70, p0x70, p1x70, p2x70, p3x70, rfl, rfl⟩
            have p0x70 := p0x70 r0_1 R_r0_1
            have p2x70 := p2x70 r0_1 R_r0_1
            have p3x70 := p3x70 r0_1 R_r0_1
            have gx70 := rg x70
            try simp only [e45, e46, e47] at p0x70
            try have q0x70 := congrArg Int32.toInt p0x70
            try simp only [e45, e46, e47] at p1x70
            try have q1x70 := congrArg Int32.toInt p1x70
            try simp only [e45, e46, e47] at p2x70
            try have q2x70 := congrArg Int32.toInt p2x70
            try simp only [e45, e46, e47] at p3x70
            try have q3x70 := congrArg Int32.toInt p3x70
            refine c_VI C (a_X12_plus hI43 H_r0 (by omega) (by omega) (by omega) (by omega)) rfl rfl rfl rfl rfl ⟨_, rfl, rfl, T_r0, Nat.le_of_ble_eq_true rfl⟩ rfl rfl (Nat.le_of_ble_eq_true rfl) (Nat.le_of_ble_eq_true rfl) (Nat.le_of_ble_eq_true rfl) ?_
            rintro x71 _ _ ⟨o0x71, o1x71, p0x71, p1x71, p2x71, rfl, rfl⟩
            have p0x71 := p0x71 r0_1 R_r0_1
            have p2x71 := p2x71 r0_1 R_r0_1
            have gx71 := rg x71
            try simp only [e45, e46, e47] at p0x71
            try have q0x71 := congrArg Int32.toInt p0x71
            try simp only [e45, e46, e47] at p1x71
            try have q1x71 := congrArg Int32.toInt p1x71
            try simp only [e45, e46, e47] at p2x71
            try have q2x71 := congrArg Int32.toInt p2x71
            have q72 : x61.toNatClampNeg = 43 := nck (by omega)
            refine c_VV C (a_X12_put hI43 H_r0 (by omega) (by omega) (by omega) (by omega) (by omega) (by omega)) rfl rfl rfl rfl rfl ⟨_, rfl, rfl, T_r0, Nat.le_of_ble_eq_true rfl⟩ rfl rfl (Nat.le_of_ble_eq_true rfl) (Nat.le_of_ble_eq_true rfl) (Nat.le_of_ble_eq_true rfl) ?_
            rintro I74 L75 ⟨p0v73, p1v73, hI74, S76⟩
            have p0v73 := p0v73 r0_5 R_r0_5
            have p1v73 := p1v73 r0_5 R_r0_5
            try simp only [q72] at p1v73
            have F77 : ∀ r : Nat, (r < 41 * 43 ∨ 41 * 43 + 41 ≤ r) → I74 r0_5 r = I37 r0_5 r := fun r z0 => p1v73 r (by first | exact z0)
            have e78 := CM.j S76 R_r0_4 (by decide) e45
            have e79 := CM.j S76 R_r0_1 (by decide) e46
            have e80 := CM.j S76 R_r0_4 (by decide) e47
            try simp only [q72, e45, e46, e47] at p0v73
            try have q0v73 := congrArg Int32.toInt p0v73
            refine z_iinc C (z := 1) (lw := fun x81 => [(4, .int x81), (0, .ref r0), (2, .int n2), (3, .int x17)]) rfl rfl rfl (Nat.le_of_ble_eq_true rfl) rfl ⟨by omega, by omega⟩ (fun _ => rfl) (fun x81 ex81 => ?_)
            show V 108 [(4, .int x81), (0, .ref r0), (2, .int n2), (3, .int x17)] _ _ _ _
            refine k_goto C (pc2 := 58) rfl rfl ?_
            refine k_sub S [(0, .ref r0), (2, .int n2), (3, .int x17), (4, .int x81)] (List.forall_mem_cons.mpr ⟨List.mem_of_getElem? (i := 1) rfl, List.forall_mem_cons.mpr ⟨List.mem_of_getElem? (i := 2) rfl, List.forall_mem_cons.mpr ⟨List.mem_of_getElem? (i := 3) rfl, List.forall_mem_cons.mpr ⟨List.mem_of_getElem? (i := 0) rfl, fun _ h => nomatch h⟩⟩⟩⟩) ?_
            exact ihJ35 _ (MN.lt hmnn36 (by omega) (by omega)) I74 L75 x81 rfl hI74 (CM.cons S42 (CM.mono S76 (by decide) (by decide)) (by decide) (by decide)) (fun r z0 => ((F77 r z0).trans (F44 r z0))) (by omega) (by omega)
        refine k_istore C (lw := [(4, .int x34), (0, .ref r0), (2, .int n2), (3, .int x17)]) rfl rfl (Nat.le_of_ble_eq_true rfl) rfl ?_
        refine k_sub S [(0, .ref r0), (2, .int n2), (3, .int x17), (4, .int x34)] (List.forall_mem_cons.mpr ⟨List.mem_of_getElem? (i := 1) rfl, List.forall_mem_cons.mpr ⟨List.mem_of_getElem? (i := 2) rfl, List.forall_mem_cons.mpr ⟨List.mem_of_getElem? (i := 3) rfl, List.forall_mem_cons.mpr ⟨List.mem_of_getElem? (i := 0) rfl, fun _ h => nomatch h⟩⟩⟩⟩) ?_
        exact J35 _ I15 L16 x34 rfl hI19 CM.rf (fun r z0 => rfl) (by omega) (by omega)
    have q82 : x12.toNatClampNeg = 43 := nck (by omega)
    refine c_VV C (a_X12_copies hI H_r0 (by omega) (by omega) (by omega) (by omega) (by first | omega | (simp only [q82, k0_r0_4_n1, k0_r0_1_0] <;> omega))) rfl rfl rfl rfl rfl ⟨_, rfl, rfl, T_r0, Nat.le_of_ble_eq_true rfl⟩ rfl rfl (Nat.le_of_ble_eq_true rfl) (Nat.le_of_ble_eq_true rfl) (Nat.le_of_ble_eq_true rfl) ?_
    rintro I84 L85 ⟨p0v83, p1v83, p2v83, p3v83, hI84, S86⟩
    have p0v83 := p0v83 r0_4 R_r0_4
    have p1v83 := p1v83 r0_4 r0_5 R_r0_4 R_r0_5
    have p2v83 := p2v83 r0_4 R_r0_4
    have p3v83 := p3v83 r0_5 R_r0_5
    try simp only [q82] at p2v83
    have F87 : ∀ r : Nat, r ≠ 43 → I84 r0_4 r = I r0_4 r := fun r z0 => p2v83 r (by first | exact z0)
    try simp only [q82] at p3v83
    have F88 : ∀ r : Nat, (r < 41 * 43 ∨ 41 * 43 + 41 ≤ r) → I84 r0_5 r = I r0_5 r := fun r z0 => p3v83 r (by first | exact z0)
    have e89 := (p2v83 n1.toNatClampNeg (by first | decide | exact ncne (by omega) (by omega) (by omega) | exact nckn (by omega) (by omega) | exact (nckn (by omega) (by omega)).symm)).trans k0_r0_4_n1
    have e90 := CM.j S86 R_r0_1 (by decide) k0_r0_1_0
    obtain ⟨x91, e92⟩ : ∃ x, I84 r0_4 43 = x := ⟨_, rfl⟩
    have gx91 := rg x91
    have ox91 := IM.dgR hI84 R_r0_4 e92
    try simp only [q82, k0_r0_4_n1, k0_r0_1_0, e92] at p0v83
    try have q0v83 := congrArg Int32.toInt p0v83
    try simp only [q82, k0_r0_4_n1, k0_r0_1_0, e92] at p1v83
    try have q1v83 := congrArg Int32.toInt p1v83
    refine k_sub S [(0, .ref r0), (2, .int n2), (3, .int x1)] (List.forall_mem_cons.mpr ⟨List.mem_of_getElem? (i := 1) rfl, List.forall_mem_cons.mpr ⟨List.mem_of_getElem? (i := 3) rfl, List.forall_mem_cons.mpr ⟨List.mem_of_getElem? (i := 0) rfl, fun _ h => nomatch h⟩⟩⟩) ?_
    exact J13 _ I84 L85 x1 x91 rfl hI84 (CM.mono S86 (by decide) (by decide)) (fun r z0 => (F87 r z0)) (fun r z0 => (F88 r z0)) e92 (by omega) (by omega)
  refine k_sub S [(0, .ref r0), (1, .int n1), (3, .int x1)] (List.forall_mem_cons.mpr ⟨List.mem_of_getElem? (i := 1) rfl, List.forall_mem_cons.mpr ⟨List.mem_of_getElem? (i := 2) rfl, List.forall_mem_cons.mpr ⟨List.mem_of_getElem? (i := 0) rfl, fun _ h => nomatch h⟩⟩⟩) ?_
  exact J3 _ x1 rfl (by omega) (by omega) (by omega)

theorem a_X12_root {d : Nat} {T N : Nat → Nat} {I : IT} {L : LT} {R : RT} {A : Nat → Prop} {r0 : Nat} {n1 n2 : Int32} (hI : IM R r0 I) (H_r0 : (h_MD T N R A) r0) : Ex (d + 6) 269 [.ref r0, .int n1, .int n2] (T, N, I, L, R) 0 0 (pI T N R (fun x9 I9 L9 => (IM R r0 I9 ∧ CM A R r0 [0] [4, 5] I L I9 L9))) := by
  refine ⟨_, rfl, Nat.le_of_ble_eq_true rfl, fun V C S => ?_⟩
  show V 0 [(0, .ref r0), (1, .int n1), (2, .int n2)] [] (T, N, I, L, R) 0 0
  have gn1 := rg n1
  have gn2 := rg n2
  obtain ⟨T_r0, A_r0, ⟨r0_1, R_r0_1, H_r0_1⟩, ⟨r0_2, R_r0_2, H_r0_2⟩, ⟨r0_4, R_r0_4, H_r0_4⟩, ⟨r0_5, R_r0_5, H_r0_5⟩, ⟨r0_10, R_r0_10, H_r0_10⟩, ⟨r0_18, R_r0_18, H_r0_18⟩, ⟨r0_20, R_r0_20, H_r0_20⟩, ⟨r0_21, R_r0_21, H_r0_21⟩, ⟨r0_22, R_r0_22, H_r0_22⟩, ⟨r0_23, R_r0_23, H_r0_23⟩, ⟨r0_25, R_r0_25, H_r0_25⟩, ⟨r0_26, R_r0_26, H_r0_26⟩, ⟨r0_27, R_r0_27, H_r0_27⟩, ⟨r0_28, R_r0_28, H_r0_28⟩, ⟨r0_34, R_r0_34, H_r0_34⟩, J_r0, Y_r0⟩ := id H_r0
  have G_r0 : mF T R r0 := ⟨J_r0, Y_r0, T_r0⟩
  refine k_aload_n C rfl rfl rfl ?_
  refine z_iconst C (z := 0) rfl rfl rfl (fun x1 ex1 => ?_)
  refine z_pI C rfl rfl rfl T_r0 (Or.inr rfl) rfl (fun I2 uI2 => ?_)
  have hI2 : IM R r0 I2 := IM.fld hI G_r0 ⟨(fun h => absurd h (by decide)), (fun h => absurd h (by decide)), (fun h => absurd h (by decide)), (fun h => absurd h (by decide)), (fun h => absurd h (by decide))⟩ uI2
  have S3 : CM A R r0 [0] [] I L I2 L := CM.f G_r0 A_r0 uI2
  have e4 := u2_e uI2
  refine k_aload_n C rfl rfl rfl ?_
  refine k_aload_n C rfl rfl rfl ?_
  refine k_iload_n C rfl rfl rfl ?_
  refine c_VI C (a_X12_noForm hI2 H_r0) rfl rfl rfl rfl rfl ⟨_, rfl, rfl, T_r0, Nat.le_of_ble_eq_true rfl⟩ rfl rfl (Nat.le_of_ble_eq_true rfl) (Nat.le_of_ble_eq_true rfl) (Nat.le_of_ble_eq_true rfl) ?_
  rintro x5 _ _ ⟨o0x5, o1x5, p0x5, rfl, rfl⟩
  have p0x5 := p0x5 r0_1 R_r0_1
  have gx5 := rg x5
  obtain ⟨x6, e7⟩ : ∃ x, I2 r0_1 1 = x := ⟨_, rfl⟩
  have gx6 := rg x6
  have ox6 := IM.c1 hI2 R_r0_1 e7
  try simp only [e4, e7] at p0x5
  try have q0x5 := congrArg Int32.toInt p0x5
  refine z_iconst C (z := 1) rfl rfl rfl (fun x8 ex8 => ?_)
  have q9 : x8.toNatClampNeg = 1 := nck (by omega)
  refine c_VI C (a_X12_throwsIf hI2 H_r0 (by omega) (by omega)) rfl rfl rfl rfl rfl ⟨_, rfl, rfl, T_r0, Nat.le_of_ble_eq_true rfl⟩ rfl rfl (Nat.le_of_ble_eq_true rfl) (Nat.le_of_ble_eq_true rfl) (Nat.le_of_ble_eq_true rfl) ?_
  rintro x10 I11 L12 ⟨o0x10, o1x10, p0x10, hI11, S13⟩
  have e15 := CM.j S13 R_r0_1 (by decide) e7
  have gx10 := rg x10
  try simp only [q9, e4, e7] at p0x10
  try have q0x10 := congrArg Int32.toInt p0x10
  refine b_if_ne C (t := 31) rfl rfl rfl (fun c16 => ?_) (fun c16 => ?_)
  · skip
    refine z_iconst C (z := 0) rfl rfl rfl (fun x17 ex17 => ?_)
    exact k_iret C rfl (Or.inl rfl) (Nat.le_of_ble_eq_true rfl) (Nat.le_of_ble_eq_true rfl) ⟨_, _, _, rfl, rfl, hI11, (CM.cons S3 (CM.mono S13 (by decide) (by decide)) (by decide) (by decide))⟩
  refine k_aload_n C rfl rfl rfl ?_
  refine k_aload_n C rfl rfl rfl ?_
  refine k_iload_n C rfl rfl rfl ?_
  obtain ⟨x18, e19⟩ : ∃ x, I11 r0_1 0 = x := ⟨_, rfl⟩
  have gx18 := rg x18
  have ox18 := IM.pi hI11 R_r0_1 e19
  refine c_VI C (a_X12_noPoint hI11 H_r0) rfl rfl rfl rfl rfl ⟨_, rfl, rfl, T_r0, Nat.le_of_ble_eq_true rfl⟩ rfl rfl (Nat.le_of_ble_eq_true rfl) (Nat.le_of_ble_eq_true rfl) (Nat.le_of_ble_eq_true rfl) ?_
  rintro x20 _ _ ⟨o0x20, o1x20, p0x20, rfl, rfl⟩
  have p0x20 := p0x20 r0_1 R_r0_1
  have gx20 := rg x20
  try simp only [e15, e19] at p0x20
  try have q0x20 := congrArg Int32.toInt p0x20
  refine z_iconst C (z := 2) rfl rfl rfl (fun x21 ex21 => ?_)
  have q22 : x21.toNatClampNeg = 2 := nck (by omega)
  refine c_VI C (a_X12_throwsIf hI11 H_r0 (by omega) (by omega)) rfl rfl rfl rfl rfl ⟨_, rfl, rfl, T_r0, Nat.le_of_ble_eq_true rfl⟩ rfl rfl (Nat.le_of_ble_eq_true rfl) (Nat.le_of_ble_eq_true rfl) (Nat.le_of_ble_eq_true rfl) ?_
  rintro x23 I24 L25 ⟨o0x23, o1x23, p0x23, hI24, S26⟩
  have e27 := CM.j S26 R_r0_1 (by decide) e15
  have e28 := CM.j S26 R_r0_1 (by decide) e19
  have gx23 := rg x23
  try simp only [q22, e15, e19] at p0x23
  try have q0x23 := congrArg Int32.toInt p0x23
  refine b_if_eq C (t := 33) rfl rfl rfl (fun c29 => ?_) (fun c29 => ?_)
  · skip
    refine k_aload_n C rfl rfl rfl ?_
    refine z_bipush C (z := 40) rfl rfl rfl (fun x30 ex30 => ?_)
    refine k_iload_n C rfl rfl rfl ?_
    obtain ⟨x31, e32⟩ : ∃ x, I24 r0_1 (6 + 10 * n1.toNatClampNeg) = x := ⟨_, rfl⟩
    have gx31 := rg x31
    have q33 : x30.toNatClampNeg = 40 := nck (by omega)
    refine c_VV C (a_X12_takes hI24 H_r0 (by omega) (by omega) (by omega) (by omega)) rfl rfl rfl rfl rfl ⟨_, rfl, rfl, T_r0, Nat.le_of_ble_eq_true rfl⟩ rfl rfl (Nat.le_of_ble_eq_true rfl) (Nat.le_of_ble_eq_true rfl) (Nat.le_of_ble_eq_true rfl) ?_
    rintro I35 L36 ⟨p0v34, p1v34, p2v34, p3v34, p4v34, hI35, S37⟩
    have p0v34 := p0v34 r0_4 R_r0_4
    have p1v34 := p1v34 r0_1 r0_4 R_r0_1 R_r0_4
    have p2v34 := p2v34 r0_1 r0_4 r0_5 R_r0_1 R_r0_4 R_r0_5
    have p3v34 := p3v34 r0_4 R_r0_4
    have p4v34 := p4v34 r0_5 R_r0_5
    try simp only [q33] at p3v34
    try simp only [q33] at p4v34
    have e38 := CM.j S37 R_r0_1 (by decide) e27
    have e39 := CM.j S37 R_r0_1 (by decide) e28
    have e40 := CM.j S37 R_r0_1 (by decide) e32
    obtain ⟨x41, e42⟩ : ∃ x, I35 r0_4 40 = x := ⟨_, rfl⟩
    have gx41 := rg x41
    have ox41 := IM.dgR hI35 R_r0_4 e42
    try simp only [q33, e27, e28, e32, e42] at p0v34
    try have q0v34 := congrArg Int32.toInt p0v34
    try simp only [q33, e27, e28, e32, e42] at p1v34
    try have q1v34 := congrArg Int32.toInt p1v34
    try simp only [q33, e27, e28, e32, e42] at p2v34
    try have q2v34 := congrArg Int32.toInt p2v34
    refine k_aload_n C rfl rfl rfl ?_
    refine z_bipush C (z := 40) rfl rfl rfl (fun x43 ex43 => ?_)
    have q44 : x43.toNatClampNeg = 40 := nck (by omega)
    refine c_VI C (a_X12_isNought hI35 H_r0 (by omega) (by omega)) rfl rfl rfl rfl rfl ⟨_, rfl, rfl, T_r0, Nat.le_of_ble_eq_true rfl⟩ rfl rfl (Nat.le_of_ble_eq_true rfl) (Nat.le_of_ble_eq_true rfl) (Nat.le_of_ble_eq_true rfl) ?_
    rintro x45 _ _ ⟨o0x45, o1x45, p0x45, rfl, rfl⟩
    have p0x45 := p0x45 r0_4 r0_5 R_r0_4 R_r0_5
    have gx45 := rg x45
    try simp only [q44, e38, e39, e40, e42] at p0x45
    try have q0x45 := congrArg Int32.toInt p0x45
    have hNZ := p0x45
    refine b_if_eq C (t := 54) rfl rfl rfl (fun c46 => ?_) (fun c46 => ?_)
    · skip
      refine k_aload_n C rfl rfl rfl ?_
      refine z_bipush C (z := 40) rfl rfl rfl (fun x47 ex47 => ?_)
      refine k_iload_n C rfl rfl rfl ?_
      have q48 : x47.toNatClampNeg = 40 := nck (by omega)
      refine c_VI C (a_X12_oftenRoot hI35 H_r0 (by omega) (by omega) (by omega) (by omega) (fun a4 a5 h4 h5 => by cases (R_r0_4.symm.trans h4); cases (R_r0_5.symm.trans h5); simp only [q48, e38, e39, e40, e42]; exact hNZ (by omega)) (fun a1 h1 => by cases (R_r0_1.symm.trans h1); first | omega | (simp only [q48, e38, e39, e40, e42] <;> omega))) rfl rfl rfl rfl rfl ⟨_, rfl, rfl, T_r0, Nat.le_of_ble_eq_true rfl⟩ rfl rfl (Nat.le_of_ble_eq_true rfl) (Nat.le_of_ble_eq_true rfl) (Nat.le_of_ble_eq_true rfl) ?_
      rintro x49 I50 L51 ⟨p0x49, p1x49, hI50, S52⟩
      have p0x49 := p0x49 r0_4 R_r0_4
      have p1x49 := p1x49 r0_5 R_r0_5
      try simp only [q48] at p0x49
      try simp only [q48] at p1x49
      have e53 := CM.j S52 R_r0_1 (by decide) e38
      have e54 := CM.j S52 R_r0_1 (by decide) e39
      have e55 := CM.j S52 R_r0_1 (by decide) e40
      have e56 := (p0x49 40 (by first | decide | exact ncne (by omega) (by omega) (by omega) | exact nckn (by omega) (by omega) | exact (nckn (by omega) (by omega)).symm)).trans e42
      have gx49 := rg x49
      exact k_iret C rfl (Or.inl rfl) (Nat.le_of_ble_eq_true rfl) (Nat.le_of_ble_eq_true rfl) ⟨_, _, _, rfl, rfl, hI50, (CM.cons S3 (CM.cons S13 (CM.cons S26 (CM.cons S37 (CM.mono S52 (by decide) (by decide)) (by decide) (by decide)) (by decide) (by decide)) (by decide) (by decide)) (by decide) (by decide))⟩
    refine z_bipush C (z := 99) rfl rfl rfl (fun x57 ex57 => ?_)
    refine k_goto C (pc2 := 61) rfl rfl ?_
    exact k_iret C rfl (Or.inl rfl) (Nat.le_of_ble_eq_true rfl) (Nat.le_of_ble_eq_true rfl) ⟨_, _, _, rfl, rfl, hI35, (CM.cons S3 (CM.cons S13 (CM.cons S26 (CM.mono S37 (by decide) (by decide)) (by decide) (by decide)) (by decide) (by decide)) (by decide) (by decide))⟩
  refine z_iconst C (z := 0) rfl rfl rfl (fun x58 ex58 => ?_)
  exact k_iret C rfl (Or.inl rfl) (Nat.le_of_ble_eq_true rfl) (Nat.le_of_ble_eq_true rfl) ⟨_, _, _, rfl, rfl, hI24, (CM.cons S3 (CM.cons S13 (CM.mono S26 (by decide) (by decide)) (by decide) (by decide)) (by decide) (by decide))⟩

theorem a_X12_roots {d : Nat} {T N : Nat → Nat} {I : IT} {L : LT} {R : RT} {A : Nat → Prop} {r0 : Nat} {n1 : Int32} (hI : IM R r0 I) (H_r0 : (h_MD T N R A) r0) : Ex (d + 6) 270 [.ref r0, .int n1] (T, N, I, L, R) 0 0 (pI T N R (fun x9 I9 L9 => (IM R r0 I9 ∧ CM A R r0 [0] [4, 5] I L I9 L9))) := by
  refine ⟨_, rfl, Nat.le_of_ble_eq_true rfl, fun V C S => ?_⟩
  show V 0 [(0, .ref r0), (1, .int n1)] [] (T, N, I, L, R) 0 0
  have gn1 := rg n1
  obtain ⟨T_r0, A_r0, ⟨r0_1, R_r0_1, H_r0_1⟩, ⟨r0_2, R_r0_2, H_r0_2⟩, ⟨r0_4, R_r0_4, H_r0_4⟩, ⟨r0_5, R_r0_5, H_r0_5⟩, ⟨r0_10, R_r0_10, H_r0_10⟩, ⟨r0_18, R_r0_18, H_r0_18⟩, ⟨r0_20, R_r0_20, H_r0_20⟩, ⟨r0_21, R_r0_21, H_r0_21⟩, ⟨r0_22, R_r0_22, H_r0_22⟩, ⟨r0_23, R_r0_23, H_r0_23⟩, ⟨r0_25, R_r0_25, H_r0_25⟩, ⟨r0_26, R_r0_26, H_r0_26⟩, ⟨r0_27, R_r0_27, H_r0_27⟩, ⟨r0_28, R_r0_28, H_r0_28⟩, ⟨r0_34, R_r0_34, H_r0_34⟩, J_r0, Y_r0⟩ := id H_r0
  have G_r0 : mF T R r0 := ⟨J_r0, Y_r0, T_r0⟩
  refine k_aload_n C rfl rfl rfl ?_
  refine z_iconst C (z := 0) rfl rfl rfl (fun x1 ex1 => ?_)
  refine z_pI C rfl rfl rfl T_r0 (Or.inr rfl) rfl (fun I2 uI2 => ?_)
  have hI2 : IM R r0 I2 := IM.fld hI G_r0 ⟨(fun h => absurd h (by decide)), (fun h => absurd h (by decide)), (fun h => absurd h (by decide)), (fun h => absurd h (by decide)), (fun h => absurd h (by decide))⟩ uI2
  have S3 : CM A R r0 [0] [] I L I2 L := CM.f G_r0 A_r0 uI2
  have e4 := u2_e uI2
  refine k_aload_n C rfl rfl rfl ?_
  refine k_aload_n C rfl rfl rfl ?_
  refine k_iload_n C rfl rfl rfl ?_
  refine c_VI C (a_X12_noForm hI2 H_r0) rfl rfl rfl rfl rfl ⟨_, rfl, rfl, T_r0, Nat.le_of_ble_eq_true rfl⟩ rfl rfl (Nat.le_of_ble_eq_true rfl) (Nat.le_of_ble_eq_true rfl) (Nat.le_of_ble_eq_true rfl) ?_
  rintro x5 _ _ ⟨o0x5, o1x5, p0x5, rfl, rfl⟩
  have p0x5 := p0x5 r0_1 R_r0_1
  have gx5 := rg x5
  obtain ⟨x6, e7⟩ : ∃ x, I2 r0_1 1 = x := ⟨_, rfl⟩
  have gx6 := rg x6
  have ox6 := IM.c1 hI2 R_r0_1 e7
  try simp only [e4, e7] at p0x5
  try have q0x5 := congrArg Int32.toInt p0x5
  refine z_iconst C (z := 1) rfl rfl rfl (fun x8 ex8 => ?_)
  have q9 : x8.toNatClampNeg = 1 := nck (by omega)
  refine c_VI C (a_X12_throwsIf hI2 H_r0 (by omega) (by omega)) rfl rfl rfl rfl rfl ⟨_, rfl, rfl, T_r0, Nat.le_of_ble_eq_true rfl⟩ rfl rfl (Nat.le_of_ble_eq_true rfl) (Nat.le_of_ble_eq_true rfl) (Nat.le_of_ble_eq_true rfl) ?_
  rintro x10 I11 L12 ⟨o0x10, o1x10, p0x10, hI11, S13⟩
  have e15 := CM.j S13 R_r0_1 (by decide) e7
  have gx10 := rg x10
  try simp only [q9, e4, e7] at p0x10
  try have q0x10 := congrArg Int32.toInt p0x10
  refine b_if_eq C (t := 20) rfl rfl rfl (fun c16 => ?_) (fun c16 => ?_)
  · skip
    refine k_aload_n C rfl rfl rfl ?_
    refine z_bipush C (z := 40) rfl rfl rfl (fun x17 ex17 => ?_)
    refine k_iload_n C rfl rfl rfl ?_
    obtain ⟨x18, e19⟩ : ∃ x, I11 r0_1 (6 + 10 * n1.toNatClampNeg) = x := ⟨_, rfl⟩
    have gx18 := rg x18
    obtain ⟨x20, e21⟩ : ∃ x, I11 r0_1 0 = x := ⟨_, rfl⟩
    have gx20 := rg x20
    have ox20 := IM.pi hI11 R_r0_1 e21
    have q22 : x17.toNatClampNeg = 40 := nck (by omega)
    refine c_VV C (a_X12_takes hI11 H_r0 (by omega) (by omega) (by omega) (by omega)) rfl rfl rfl rfl rfl ⟨_, rfl, rfl, T_r0, Nat.le_of_ble_eq_true rfl⟩ rfl rfl (Nat.le_of_ble_eq_true rfl) (Nat.le_of_ble_eq_true rfl) (Nat.le_of_ble_eq_true rfl) ?_
    rintro I24 L25 ⟨p0v23, p1v23, p2v23, p3v23, p4v23, hI24, S26⟩
    have p0v23 := p0v23 r0_4 R_r0_4
    have p1v23 := p1v23 r0_1 r0_4 R_r0_1 R_r0_4
    have p2v23 := p2v23 r0_1 r0_4 r0_5 R_r0_1 R_r0_4 R_r0_5
    have p3v23 := p3v23 r0_4 R_r0_4
    have p4v23 := p4v23 r0_5 R_r0_5
    try simp only [q22] at p3v23
    try simp only [q22] at p4v23
    have e27 := CM.j S26 R_r0_1 (by decide) e15
    have e28 := CM.j S26 R_r0_1 (by decide) e19
    have e29 := CM.j S26 R_r0_1 (by decide) e21
    obtain ⟨x30, e31⟩ : ∃ x, I24 r0_4 40 = x := ⟨_, rfl⟩
    have gx30 := rg x30
    have ox30 := IM.dgR hI24 R_r0_4 e31
    try simp only [q22, e15, e19, e21, e31] at p0v23
    try have q0v23 := congrArg Int32.toInt p0v23
    try simp only [q22, e15, e19, e21, e31] at p1v23
    try have q1v23 := congrArg Int32.toInt p1v23
    try simp only [q22, e15, e19, e21, e31] at p2v23
    try have q2v23 := congrArg Int32.toInt p2v23
    refine z_iconst C (z := 0) rfl rfl rfl (fun x32 ex32 => ?_)
    refine k_istore_n C (lw := [(2, .int x32), (0, .ref r0), (1, .int n1)]) rfl rfl (Nat.le_of_ble_eq_true rfl) rfl ?_
    refine z_iconst C (z := 0) rfl rfl rfl (fun x33 ex33 => ?_)
    have J34 : ∀ (nn35 : Nat) (I36 : IT) (L37 : LT) (x38 : Int32) (x39 : Int32), (MN (20 - x39.toInt) nn35) → (IM R r0 I36) → (CM A R r0 [] [4, 5] I24 L25 I36 L37) → (0 ≤ x39.toInt) → (x39.toInt ≤ 20) → V 31 [(0, .ref r0), (2, .int x38), (3, .int x39)] [] (T, N, I36, L37, R) 0 0 := by
      intro nn35
      induction nn35 using Nat.strongRecOn with
      | _ nn35 ihJ34 =>
        intro I36 L37 x38 x39 hmnn35 hI43 S42 b40 b41
        have gx38 := rg x38
        have gx39 := rg x39
        have e44 := CM.j S42 R_r0_1 (by decide) e27
        have e45 := CM.j S42 R_r0_1 (by decide) e28
        have e46 := CM.j S42 R_r0_1 (by decide) e29
        refine k_iload_n C rfl rfl rfl ?_
        refine k_aload_n C rfl rfl rfl ?_
        refine c_VI C (a_X12_p hI43 H_r0) rfl rfl rfl rfl rfl ⟨_, rfl, rfl, T_r0, Nat.le_of_ble_eq_true rfl⟩ rfl rfl (Nat.le_of_ble_eq_true rfl) (Nat.le_of_ble_eq_true rfl) (Nat.le_of_ble_eq_true rfl) ?_
        rintro x47 _ _ ⟨o0x47, o1x47, p0x47, rfl, rfl⟩
        have p0x47 := p0x47 r0_1 R_r0_1
        have gx47 := rg x47
        try simp only [e44, e45, e46, e46] at p0x47
        try have q0x47 := congrArg Int32.toInt p0x47
        refine b_icmp_gt C (t := 74) rfl rfl rfl (fun c48 => ?_) (fun c48 => ?_)
        · skip
          refine k_iload_n C rfl rfl rfl ?_
          exact k_iret C rfl (Or.inl rfl) (Nat.le_of_ble_eq_true rfl) (Nat.le_of_ble_eq_true rfl) ⟨_, _, _, rfl, rfl, hI43, (CM.cons S3 (CM.cons S13 (CM.cons S26 (CM.mono S42 (by decide) (by decide)) (by decide) (by decide)) (by decide) (by decide)) (by decide) (by decide))⟩
        refine k_iload_n C rfl rfl rfl ?_
        refine k_aload_n C rfl rfl rfl ?_
        refine z_bipush C (z := 40) rfl rfl rfl (fun x49 ex49 => ?_)
        obtain ⟨x50, e51⟩ : ∃ x, I36 r0_4 40 = x := ⟨_, rfl⟩
        have gx50 := rg x50
        have ox50 := IM.dgR hI43 R_r0_4 e51
        have q52 : x49.toNatClampNeg = 40 := nck (by omega)
        refine c_VI C (a_X12_isNought hI43 H_r0 (by omega) (by omega)) rfl rfl rfl rfl rfl ⟨_, rfl, rfl, T_r0, Nat.le_of_ble_eq_true rfl⟩ rfl rfl (Nat.le_of_ble_eq_true rfl) (Nat.le_of_ble_eq_true rfl) (Nat.le_of_ble_eq_true rfl) ?_
        rintro x53 _ _ ⟨o0x53, o1x53, p0x53, rfl, rfl⟩
        have p0x53 := p0x53 r0_4 r0_5 R_r0_4 R_r0_5
        have gx53 := rg x53
        try simp only [q52, e44, e45, e46, e51] at p0x53
        try have q0x53 := congrArg Int32.toInt p0x53
        have hNZ := p0x53
        refine b_if_ne C (t := 59) rfl rfl rfl (fun c54 => ?_) (fun c54 => ?_)
        · skip
          refine z_iconst C (z := 1) rfl rfl rfl (fun x55 ex55 => ?_)
          refine k_iload_n C rfl rfl rfl ?_
          refine zt_ishl C rfl rfl (fun x56 => ?_)
          have gx56 := rg x56
          refine k_goto C (pc2 := 66) rfl rfl ?_
          refine zt_ior C rfl rfl (fun x57 => ?_)
          have gx57 := rg x57
          refine k_istore_n C (lw := [(2, .int x57), (0, .ref r0), (3, .int x39)]) rfl rfl (Nat.le_of_ble_eq_true rfl) rfl ?_
          refine z_iinc C (z := 1) (lw := fun x58 => [(3, .int x58), (2, .int x57), (0, .ref r0)]) rfl rfl rfl (Nat.le_of_ble_eq_true rfl) rfl ⟨by omega, by omega⟩ (fun _ => rfl) (fun x58 ex58 => ?_)
          show V 71 [(3, .int x58), (2, .int x57), (0, .ref r0)] _ _ _ _
          refine k_goto C (pc2 := 31) rfl rfl ?_
          refine k_sub S [(0, .ref r0), (2, .int x57), (3, .int x58)] (List.forall_mem_cons.mpr ⟨List.mem_of_getElem? (i := 2) rfl, List.forall_mem_cons.mpr ⟨List.mem_of_getElem? (i := 1) rfl, List.forall_mem_cons.mpr ⟨List.mem_of_getElem? (i := 0) rfl, fun _ h => nomatch h⟩⟩⟩) ?_
          exact ihJ34 _ (MN.lt hmnn35 (by omega) (by omega)) I36 L37 x57 x58 rfl hI43 (CM.mono S42 (by decide) (by decide)) (by omega) (by omega)
        refine k_aload_n C rfl rfl rfl ?_
        refine z_bipush C (z := 40) rfl rfl rfl (fun x59 ex59 => ?_)
        refine k_iload_n C rfl rfl rfl ?_
        have q60 : x59.toNatClampNeg = 40 := nck (by omega)
        refine c_VI C (a_X12_oftenRoot hI43 H_r0 (by omega) (by omega) (by omega) (by omega) (fun a4 a5 h4 h5 => by cases (R_r0_4.symm.trans h4); cases (R_r0_5.symm.trans h5); simp only [q60, e44, e45, e46, e51]; exact hNZ (by omega)) (fun a1 h1 => by cases (R_r0_1.symm.trans h1); first | omega | (simp only [q60, e44, e45, e46, e51] <;> omega))) rfl rfl rfl rfl rfl ⟨_, rfl, rfl, T_r0, Nat.le_of_ble_eq_true rfl⟩ rfl rfl (Nat.le_of_ble_eq_true rfl) (Nat.le_of_ble_eq_true rfl) (Nat.le_of_ble_eq_true rfl) ?_
        rintro x61 I62 L63 ⟨p0x61, p1x61, hI62, S64⟩
        have p0x61 := p0x61 r0_4 R_r0_4
        have p1x61 := p1x61 r0_5 R_r0_5
        try simp only [q60] at p0x61
        try simp only [q60] at p1x61
        have e65 := CM.j S64 R_r0_1 (by decide) e44
        have e66 := CM.j S64 R_r0_1 (by decide) e45
        have e67 := CM.j S64 R_r0_1 (by decide) e46
        have e68 := (p0x61 40 (by first | decide | exact ncne (by omega) (by omega) (by omega) | exact nckn (by omega) (by omega) | exact (nckn (by omega) (by omega)).symm)).trans e51
        have gx61 := rg x61
        refine b_if_le C (t := 65) rfl rfl rfl (fun c69 => ?_) (fun c69 => ?_)
        · skip
          refine z_iconst C (z := 0) rfl rfl rfl (fun x70 ex70 => ?_)
          refine zt_ior C rfl rfl (fun x71 => ?_)
          have gx71 := rg x71
          refine k_istore_n C (lw := [(2, .int x71), (0, .ref r0), (3, .int x39)]) rfl rfl (Nat.le_of_ble_eq_true rfl) rfl ?_
          refine z_iinc C (z := 1) (lw := fun x72 => [(3, .int x72), (2, .int x71), (0, .ref r0)]) rfl rfl rfl (Nat.le_of_ble_eq_true rfl) rfl ⟨by omega, by omega⟩ (fun _ => rfl) (fun x72 ex72 => ?_)
          show V 71 [(3, .int x72), (2, .int x71), (0, .ref r0)] _ _ _ _
          refine k_goto C (pc2 := 31) rfl rfl ?_
          refine k_sub S [(0, .ref r0), (2, .int x71), (3, .int x72)] (List.forall_mem_cons.mpr ⟨List.mem_of_getElem? (i := 2) rfl, List.forall_mem_cons.mpr ⟨List.mem_of_getElem? (i := 1) rfl, List.forall_mem_cons.mpr ⟨List.mem_of_getElem? (i := 0) rfl, fun _ h => nomatch h⟩⟩⟩) ?_
          exact ihJ34 _ (MN.lt hmnn35 (by omega) (by omega)) I62 L63 x71 x72 rfl hI62 (CM.cons S42 (CM.mono S64 (by decide) (by decide)) (by decide) (by decide)) (by omega) (by omega)
        refine z_iconst C (z := 1) rfl rfl rfl (fun x73 ex73 => ?_)
        refine k_iload_n C rfl rfl rfl ?_
        refine zt_ishl C rfl rfl (fun x74 => ?_)
        have gx74 := rg x74
        refine k_goto C (pc2 := 66) rfl rfl ?_
        refine zt_ior C rfl rfl (fun x75 => ?_)
        have gx75 := rg x75
        refine k_istore_n C (lw := [(2, .int x75), (0, .ref r0), (3, .int x39)]) rfl rfl (Nat.le_of_ble_eq_true rfl) rfl ?_
        refine z_iinc C (z := 1) (lw := fun x76 => [(3, .int x76), (2, .int x75), (0, .ref r0)]) rfl rfl rfl (Nat.le_of_ble_eq_true rfl) rfl ⟨by omega, by omega⟩ (fun _ => rfl) (fun x76 ex76 => ?_)
        show V 71 [(3, .int x76), (2, .int x75), (0, .ref r0)] _ _ _ _
        refine k_goto C (pc2 := 31) rfl rfl ?_
        refine k_sub S [(0, .ref r0), (2, .int x75), (3, .int x76)] (List.forall_mem_cons.mpr ⟨List.mem_of_getElem? (i := 2) rfl, List.forall_mem_cons.mpr ⟨List.mem_of_getElem? (i := 1) rfl, List.forall_mem_cons.mpr ⟨List.mem_of_getElem? (i := 0) rfl, fun _ h => nomatch h⟩⟩⟩) ?_
        exact ihJ34 _ (MN.lt hmnn35 (by omega) (by omega)) I62 L63 x75 x76 rfl hI62 (CM.cons S42 (CM.mono S64 (by decide) (by decide)) (by decide) (by decide)) (by omega) (by omega)
    refine k_istore_n C (lw := [(3, .int x33), (2, .int x32), (0, .ref r0), (1, .int n1)]) rfl rfl (Nat.le_of_ble_eq_true rfl) rfl ?_
    refine k_sub S [(0, .ref r0), (2, .int x32), (3, .int x33)] (List.forall_mem_cons.mpr ⟨List.mem_of_getElem? (i := 2) rfl, List.forall_mem_cons.mpr ⟨List.mem_of_getElem? (i := 1) rfl, List.forall_mem_cons.mpr ⟨List.mem_of_getElem? (i := 0) rfl, fun _ h => nomatch h⟩⟩⟩) ?_
    exact J34 _ I24 L25 x32 x33 rfl hI24 CM.rf (by omega) (by omega)
  refine z_iconst C (z := 0) rfl rfl rfl (fun x77 ex77 => ?_)
  exact k_iret C rfl (Or.inl rfl) (Nat.le_of_ble_eq_true rfl) (Nat.le_of_ble_eq_true rfl) ⟨_, _, _, rfl, rfl, hI11, (CM.cons S3 (CM.mono S13 (by decide) (by decide)) (by decide) (by decide))⟩

theorem a_X12_empty {d : Nat} {T N : Nat → Nat} {I : IT} {L : LT} {R : RT} {A : Nat → Prop} {r0 : Nat} {n1 : Int32} (hI : IM R r0 I) (H_r0 : (h_MD T N R A) r0) : Ex (d + 6) 271 [.ref r0, .int n1] (T, N, I, L, R) 0 0 (pI T N R (fun x9 I9 L9 => (0 ≤ x9.toInt) ∧ (x9.toInt ≤ 1) ∧ (IM R r0 I9 ∧ CM A R r0 [0] [4, 5] I L I9 L9))) := by
  refine ⟨_, rfl, Nat.le_of_ble_eq_true rfl, fun V C S => ?_⟩
  show V 0 [(0, .ref r0), (1, .int n1)] [] (T, N, I, L, R) 0 0
  have gn1 := rg n1
  obtain ⟨T_r0, A_r0, ⟨r0_1, R_r0_1, H_r0_1⟩, ⟨r0_2, R_r0_2, H_r0_2⟩, ⟨r0_4, R_r0_4, H_r0_4⟩, ⟨r0_5, R_r0_5, H_r0_5⟩, ⟨r0_10, R_r0_10, H_r0_10⟩, ⟨r0_18, R_r0_18, H_r0_18⟩, ⟨r0_20, R_r0_20, H_r0_20⟩, ⟨r0_21, R_r0_21, H_r0_21⟩, ⟨r0_22, R_r0_22, H_r0_22⟩, ⟨r0_23, R_r0_23, H_r0_23⟩, ⟨r0_25, R_r0_25, H_r0_25⟩, ⟨r0_26, R_r0_26, H_r0_26⟩, ⟨r0_27, R_r0_27, H_r0_27⟩, ⟨r0_28, R_r0_28, H_r0_28⟩, ⟨r0_34, R_r0_34, H_r0_34⟩, J_r0, Y_r0⟩ := id H_r0
  have G_r0 : mF T R r0 := ⟨J_r0, Y_r0, T_r0⟩
  refine k_aload_n C rfl rfl rfl ?_
  refine z_iconst C (z := 0) rfl rfl rfl (fun x1 ex1 => ?_)
  refine z_pI C rfl rfl rfl T_r0 (Or.inr rfl) rfl (fun I2 uI2 => ?_)
  have hI2 : IM R r0 I2 := IM.fld hI G_r0 ⟨(fun h => absurd h (by decide)), (fun h => absurd h (by decide)), (fun h => absurd h (by decide)), (fun h => absurd h (by decide)), (fun h => absurd h (by decide))⟩ uI2
  have S3 : CM A R r0 [0] [] I L I2 L := CM.f G_r0 A_r0 uI2
  have e4 := u2_e uI2
  refine k_aload_n C rfl rfl rfl ?_
  refine k_aload_n C rfl rfl rfl ?_
  refine k_iload_n C rfl rfl rfl ?_
  refine c_VI C (a_X12_noForm hI2 H_r0) rfl rfl rfl rfl rfl ⟨_, rfl, rfl, T_r0, Nat.le_of_ble_eq_true rfl⟩ rfl rfl (Nat.le_of_ble_eq_true rfl) (Nat.le_of_ble_eq_true rfl) (Nat.le_of_ble_eq_true rfl) ?_
  rintro x5 _ _ ⟨o0x5, o1x5, p0x5, rfl, rfl⟩
  have p0x5 := p0x5 r0_1 R_r0_1
  have gx5 := rg x5
  obtain ⟨x6, e7⟩ : ∃ x, I2 r0_1 1 = x := ⟨_, rfl⟩
  have gx6 := rg x6
  have ox6 := IM.c1 hI2 R_r0_1 e7
  try simp only [e4, e7] at p0x5
  try have q0x5 := congrArg Int32.toInt p0x5
  refine z_iconst C (z := 1) rfl rfl rfl (fun x8 ex8 => ?_)
  have q9 : x8.toNatClampNeg = 1 := nck (by omega)
  refine c_VI C (a_X12_throwsIf hI2 H_r0 (by omega) (by omega)) rfl rfl rfl rfl rfl ⟨_, rfl, rfl, T_r0, Nat.le_of_ble_eq_true rfl⟩ rfl rfl (Nat.le_of_ble_eq_true rfl) (Nat.le_of_ble_eq_true rfl) (Nat.le_of_ble_eq_true rfl) ?_
  rintro x10 I11 L12 ⟨o0x10, o1x10, p0x10, hI11, S13⟩
  have e15 := CM.j S13 R_r0_1 (by decide) e7
  have gx10 := rg x10
  try simp only [q9, e4, e7] at p0x10
  try have q0x10 := congrArg Int32.toInt p0x10
  refine b_if_eq C (t := 20) rfl rfl rfl (fun c16 => ?_) (fun c16 => ?_)
  · skip
    refine k_aload_n C rfl rfl rfl ?_
    refine z_bipush C (z := 40) rfl rfl rfl (fun x17 ex17 => ?_)
    refine k_iload_n C rfl rfl rfl ?_
    obtain ⟨x18, e19⟩ : ∃ x, I11 r0_1 (6 + 10 * n1.toNatClampNeg) = x := ⟨_, rfl⟩
    have gx18 := rg x18
    obtain ⟨x20, e21⟩ : ∃ x, I11 r0_1 0 = x := ⟨_, rfl⟩
    have gx20 := rg x20
    have ox20 := IM.pi hI11 R_r0_1 e21
    have q22 : x17.toNatClampNeg = 40 := nck (by omega)
    refine c_VV C (a_X12_takes hI11 H_r0 (by omega) (by omega) (by omega) (by omega)) rfl rfl rfl rfl rfl ⟨_, rfl, rfl, T_r0, Nat.le_of_ble_eq_true rfl⟩ rfl rfl (Nat.le_of_ble_eq_true rfl) (Nat.le_of_ble_eq_true rfl) (Nat.le_of_ble_eq_true rfl) ?_
    rintro I24 L25 ⟨p0v23, p1v23, p2v23, p3v23, p4v23, hI24, S26⟩
    have p0v23 := p0v23 r0_4 R_r0_4
    have p1v23 := p1v23 r0_1 r0_4 R_r0_1 R_r0_4
    have p2v23 := p2v23 r0_1 r0_4 r0_5 R_r0_1 R_r0_4 R_r0_5
    have p3v23 := p3v23 r0_4 R_r0_4
    have p4v23 := p4v23 r0_5 R_r0_5
    try simp only [q22] at p3v23
    try simp only [q22] at p4v23
    have e27 := CM.j S26 R_r0_1 (by decide) e15
    have e28 := CM.j S26 R_r0_1 (by decide) e19
    have e29 := CM.j S26 R_r0_1 (by decide) e21
    obtain ⟨x30, e31⟩ : ∃ x, I24 r0_4 40 = x := ⟨_, rfl⟩
    have gx30 := rg x30
    have ox30 := IM.dgR hI24 R_r0_4 e31
    try simp only [q22, e15, e19, e21, e31] at p0v23
    try have q0v23 := congrArg Int32.toInt p0v23
    try simp only [q22, e15, e19, e21, e31] at p1v23
    try have q1v23 := congrArg Int32.toInt p1v23
    try simp only [q22, e15, e19, e21, e31] at p2v23
    try have q2v23 := congrArg Int32.toInt p2v23
    refine k_aload_n C rfl rfl rfl ?_
    refine z_bipush C (z := 40) rfl rfl rfl (fun x32 ex32 => ?_)
    have q33 : x32.toNatClampNeg = 40 := nck (by omega)
    refine c_VI C (a_X12_isNought hI24 H_r0 (by omega) (by omega)) rfl rfl rfl rfl rfl ⟨_, rfl, rfl, T_r0, Nat.le_of_ble_eq_true rfl⟩ rfl rfl (Nat.le_of_ble_eq_true rfl) (Nat.le_of_ble_eq_true rfl) (Nat.le_of_ble_eq_true rfl) ?_
    rintro x34 _ _ ⟨o0x34, o1x34, p0x34, rfl, rfl⟩
    have p0x34 := p0x34 r0_4 r0_5 R_r0_4 R_r0_5
    have gx34 := rg x34
    try simp only [q33, e27, e28, e29, e31] at p0x34
    try have q0x34 := congrArg Int32.toInt p0x34
    have hNZ := p0x34
    refine k_istore_n C (lw := [(2, .int x34), (0, .ref r0), (1, .int n1)]) rfl rfl (Nat.le_of_ble_eq_true rfl) rfl ?_
    refine z_iconst C (z := 0) rfl rfl rfl (fun x35 ex35 => ?_)
    have J36 : ∀ (nn37 : Nat) (I38 : IT) (L39 : LT) (x40 : Int32) (x43 : Int32), (MN (20 - x43.toInt) nn37) → (IM R r0 I38) → (CM A R r0 [] [4, 5] I24 L25 I38 L39) → (∀ r : Nat, r ≠ 43 → I38 r0_4 r = I24 r0_4 r) → (∀ r : Nat, (r < 41 * 43 ∨ 41 * 43 + 41 ≤ r) → I38 r0_5 r = I24 r0_5 r) → (0 ≤ x40.toInt) → (x40.toInt ≤ 1) → (0 ≤ x43.toInt) → (x43.toInt ≤ 20) → (x40.toInt = 0 → NZ I38 r0_5 40 x30.toInt) → V 36 [(0, .ref r0), (2, .int x40), (3, .int x43)] [] (T, N, I38, L39, R) 0 0 := by
      intro nn37
      induction nn37 using Nat.strongRecOn with
      | _ nn37 ihJ36 =>
        intro I38 L39 x40 x43 hmnn37 hI47 S46 F48 F49 b41 b42 b44 b45 ff36_0
        have gx40 := rg x40
        have gx43 := rg x43
        have e50 := CM.j S46 R_r0_1 (by decide) e27
        have e51 := CM.j S46 R_r0_1 (by decide) e28
        have e52 := CM.j S46 R_r0_1 (by decide) e29
        have e53 := (F48 40 (by first | decide | exact ncne (by omega) (by omega) (by omega) | exact nckn (by omega) (by omega) | exact (nckn (by omega) (by omega)).symm)).trans e31
        refine k_iload_n C rfl rfl rfl ?_
        refine k_aload_n C rfl rfl rfl ?_
        refine c_VI C (a_X12_p hI47 H_r0) rfl rfl rfl rfl rfl ⟨_, rfl, rfl, T_r0, Nat.le_of_ble_eq_true rfl⟩ rfl rfl (Nat.le_of_ble_eq_true rfl) (Nat.le_of_ble_eq_true rfl) (Nat.le_of_ble_eq_true rfl) ?_
        rintro x54 _ _ ⟨o0x54, o1x54, p0x54, rfl, rfl⟩
        have p0x54 := p0x54 r0_1 R_r0_1
        have gx54 := rg x54
        try simp only [e50, e51, e52, e53, e52] at p0x54
        try have q0x54 := congrArg Int32.toInt p0x54
        refine b_icmp_gt C (t := 79) rfl rfl rfl (fun c55 => ?_) (fun c55 => ?_)
        · skip
          refine k_iload_n C rfl rfl rfl ?_
          exact k_iret C rfl (Or.inr ⟨rfl, z01 (by omega) (by omega)⟩) (Nat.le_of_ble_eq_true rfl) (Nat.le_of_ble_eq_true rfl) ⟨_, _, _, rfl, rfl, by omega, by omega, hI47, (CM.cons S3 (CM.cons S13 (CM.cons S26 (CM.mono S46 (by decide) (by decide)) (by decide) (by decide)) (by decide) (by decide)) (by decide) (by decide))⟩
        refine k_iload_n C rfl rfl rfl ?_
        refine b_if_ne C (t := 79) rfl rfl rfl (fun c56 => ?_) (fun c56 => ?_)
        · skip
          refine k_iload_n C rfl rfl rfl ?_
          exact k_iret C rfl (Or.inr ⟨rfl, z01 (by omega) (by omega)⟩) (Nat.le_of_ble_eq_true rfl) (Nat.le_of_ble_eq_true rfl) ⟨_, _, _, rfl, rfl, by omega, by omega, hI47, (CM.cons S3 (CM.cons S13 (CM.cons S26 (CM.mono S46 (by decide) (by decide)) (by decide) (by decide)) (by decide) (by decide)) (by decide) (by decide))⟩
        refine z_iconst C (z := 2) rfl rfl rfl (fun x57 ex57 => ?_)
        refine k_aload_n C rfl rfl rfl ?_
        refine z_bipush C (z := 40) rfl rfl rfl (fun x58 ex58 => ?_)
        refine k_iload_n C rfl rfl rfl ?_
        have q59 : x58.toNatClampNeg = 40 := nck (by omega)
        refine c_VI C (a_X12_oftenRoot hI47 H_r0 (by omega) (by omega) (by omega) (by omega) (fun a4 a5 h4 h5 => by cases (R_r0_4.symm.trans h4); cases (R_r0_5.symm.trans h5); simp only [q59, e50, e51, e52, e53]; exact ff36_0 (by omega)) (fun a1 h1 => by cases (R_r0_1.symm.trans h1); first | omega | (simp only [q59, e50, e51, e52, e53] <;> omega))) rfl rfl rfl rfl rfl ⟨_, rfl, rfl, T_r0, Nat.le_of_ble_eq_true rfl⟩ rfl rfl (Nat.le_of_ble_eq_true rfl) (Nat.le_of_ble_eq_true rfl) (Nat.le_of_ble_eq_true rfl) ?_
        rintro x60 I61 L62 ⟨p0x60, p1x60, hI61, S63⟩
        have p0x60 := p0x60 r0_4 R_r0_4
        have p1x60 := p1x60 r0_5 R_r0_5
        try simp only [q59] at p0x60
        have F64 : ∀ r : Nat, r ≠ 43 → I61 r0_4 r = I38 r0_4 r := fun r z0 => p0x60 r (by first | exact z0)
        try simp only [q59] at p1x60
        have F65 : ∀ r : Nat, (r < 41 * 43 ∨ 41 * 43 + 41 ≤ r) → I61 r0_5 r = I38 r0_5 r := fun r z0 => p1x60 r (by first | exact z0)
        have e66 := CM.j S63 R_r0_1 (by decide) e50
        have e67 := CM.j S63 R_r0_1 (by decide) e51
        have e68 := CM.j S63 R_r0_1 (by decide) e52
        have e69 := (p0x60 40 (by first | decide | exact ncne (by omega) (by omega) (by omega) | exact nckn (by omega) (by omega) | exact (nckn (by omega) (by omega)).symm)).trans e53
        have gx60 := rg x60
        refine zt_imul C rfl rfl (fun x70 => ?_)
        have gx70 := rg x70
        refine k_aload_n C rfl rfl rfl ?_
        refine g_R C rfl rfl rfl T_r0 rfl R_r0_4 ?_
        refine z_bipush C (z := 40) rfl rfl rfl (fun x71 ex71 => ?_)
        obtain ⟨T_r0_4, N_r0_4, A_r0_4⟩ := id H_r0_4
        refine a_I C rfl rfl T_r0_4 (by rw [N_r0_4]; exact vpi (by omega) (by omega)) ((congrArg (I61 r0_4) (nck (n := 40) (by omega))).trans e69) ?_
        refine b_icmp_le C (t := 71) rfl rfl rfl (fun c72 => ?_) (fun c72 => ?_)
        · skip
          refine z_iconst C (z := 0) rfl rfl rfl (fun x73 ex73 => ?_)
          refine k_istore_n C (lw := [(2, .int x73), (0, .ref r0), (3, .int x43)]) rfl rfl (Nat.le_of_ble_eq_true rfl) rfl ?_
          refine z_iinc C (z := 1) (lw := fun x74 => [(3, .int x74), (2, .int x73), (0, .ref r0)]) rfl rfl rfl (Nat.le_of_ble_eq_true rfl) rfl ⟨by omega, by omega⟩ (fun _ => rfl) (fun x74 ex74 => ?_)
          show V 76 [(3, .int x74), (2, .int x73), (0, .ref r0)] _ _ _ _
          refine k_goto C (pc2 := 36) rfl rfl ?_
          refine k_sub S [(0, .ref r0), (2, .int x73), (3, .int x74)] (List.forall_mem_cons.mpr ⟨List.mem_of_getElem? (i := 2) rfl, List.forall_mem_cons.mpr ⟨List.mem_of_getElem? (i := 1) rfl, List.forall_mem_cons.mpr ⟨List.mem_of_getElem? (i := 0) rfl, fun _ h => nomatch h⟩⟩⟩) ?_
          exact ihJ36 _ (MN.lt hmnn37 (by omega) (by omega)) I61 L62 x73 x74 rfl hI61 (CM.cons S46 (CM.mono S63 (by decide) (by decide)) (by decide) (by decide)) (fun r z0 => ((F64 r z0).trans (F48 r z0))) (fun r z0 => ((F65 r z0).trans (F49 r z0))) (by omega) (by omega) (by omega) (by omega) (by intro _; obtain ⟨K, h1, h2⟩ := ff36_0 (by omega); exact ⟨K, h1, by rw [(fun r z0 => (F65 r z0)) (41 * 40 + K) (by omega)]; exact h2⟩)
        refine z_iconst C (z := 1) rfl rfl rfl (fun x75 ex75 => ?_)
        refine k_goto C (pc2 := 72) rfl rfl ?_
        refine k_istore_n C (lw := [(2, .int x75), (0, .ref r0), (3, .int x43)]) rfl rfl (Nat.le_of_ble_eq_true rfl) rfl ?_
        refine z_iinc C (z := 1) (lw := fun x76 => [(3, .int x76), (2, .int x75), (0, .ref r0)]) rfl rfl rfl (Nat.le_of_ble_eq_true rfl) rfl ⟨by omega, by omega⟩ (fun _ => rfl) (fun x76 ex76 => ?_)
        show V 76 [(3, .int x76), (2, .int x75), (0, .ref r0)] _ _ _ _
        refine k_goto C (pc2 := 36) rfl rfl ?_
        refine k_sub S [(0, .ref r0), (2, .int x75), (3, .int x76)] (List.forall_mem_cons.mpr ⟨List.mem_of_getElem? (i := 2) rfl, List.forall_mem_cons.mpr ⟨List.mem_of_getElem? (i := 1) rfl, List.forall_mem_cons.mpr ⟨List.mem_of_getElem? (i := 0) rfl, fun _ h => nomatch h⟩⟩⟩) ?_
        exact ihJ36 _ (MN.lt hmnn37 (by omega) (by omega)) I61 L62 x75 x76 rfl hI61 (CM.cons S46 (CM.mono S63 (by decide) (by decide)) (by decide) (by decide)) (fun r z0 => ((F64 r z0).trans (F48 r z0))) (fun r z0 => ((F65 r z0).trans (F49 r z0))) (by omega) (by omega) (by omega) (by omega) (by intro _; obtain ⟨K, h1, h2⟩ := ff36_0 (by omega); exact ⟨K, h1, by rw [(fun r z0 => (F65 r z0)) (41 * 40 + K) (by omega)]; exact h2⟩)
    refine k_istore_n C (lw := [(3, .int x35), (2, .int x34), (0, .ref r0), (1, .int n1)]) rfl rfl (Nat.le_of_ble_eq_true rfl) rfl ?_
    refine k_sub S [(0, .ref r0), (2, .int x34), (3, .int x35)] (List.forall_mem_cons.mpr ⟨List.mem_of_getElem? (i := 2) rfl, List.forall_mem_cons.mpr ⟨List.mem_of_getElem? (i := 1) rfl, List.forall_mem_cons.mpr ⟨List.mem_of_getElem? (i := 0) rfl, fun _ h => nomatch h⟩⟩⟩) ?_
    exact J36 _ I24 L25 x34 x35 rfl hI24 CM.rf (fun r z0 => rfl) (fun r z0 => rfl) (by omega) (by omega) (by omega) (by omega) (by exact hNZ)
  refine z_iconst C (z := 0) rfl rfl rfl (fun x77 ex77 => ?_)
  exact k_iret C rfl (Or.inr ⟨rfl, z01 (by omega) (by omega)⟩) (Nat.le_of_ble_eq_true rfl) (Nat.le_of_ble_eq_true rfl) ⟨_, _, _, rfl, rfl, by omega, by omega, hI11, (CM.cons S3 (CM.mono S13 (by decide) (by decide)) (by decide) (by decide))⟩

theorem a_X12_toldOf {d : Nat} {T N : Nat → Nat} {I : IT} {L : LT} {R : RT} {A : Nat → Prop} {r0 : Nat} {n1 n2 : Int32} (hI : IM R r0 I) (H_r0 : (h_MD T N R A) r0) (b0_n1 : 0 ≤ n1.toInt) (b1_n1 : n1.toInt ≤ 47) : Ex (d + 2) 291 [.ref r0, .int n1, .int n2] (T, N, I, L, R) 0 0 (pI T N R (fun x9 I9 L9 => (-18 ≤ x9.toInt) ∧ (x9.toInt ≤ 40) ∧ (I = I9 ∧ L = L9))) := by
  refine ⟨_, rfl, Nat.le_of_ble_eq_true rfl, fun V C S => ?_⟩
  show V 0 [(0, .ref r0), (1, .int n1), (2, .int n2)] [] (T, N, I, L, R) 0 0
  have gn1 := rg n1
  have gn2 := rg n2
  obtain ⟨T_r0, A_r0, ⟨r0_1, R_r0_1, H_r0_1⟩, ⟨r0_2, R_r0_2, H_r0_2⟩, ⟨r0_4, R_r0_4, H_r0_4⟩, ⟨r0_5, R_r0_5, H_r0_5⟩, ⟨r0_10, R_r0_10, H_r0_10⟩, ⟨r0_18, R_r0_18, H_r0_18⟩, ⟨r0_20, R_r0_20, H_r0_20⟩, ⟨r0_21, R_r0_21, H_r0_21⟩, ⟨r0_22, R_r0_22, H_r0_22⟩, ⟨r0_23, R_r0_23, H_r0_23⟩, ⟨r0_25, R_r0_25, H_r0_25⟩, ⟨r0_26, R_r0_26, H_r0_26⟩, ⟨r0_27, R_r0_27, H_r0_27⟩, ⟨r0_28, R_r0_28, H_r0_28⟩, ⟨r0_34, R_r0_34, H_r0_34⟩, J_r0, Y_r0⟩ := id H_r0
  have G_r0 : mF T R r0 := ⟨J_r0, Y_r0, T_r0⟩
  refine k_iload_n C rfl rfl rfl ?_
  refine z_iconst C (z := -1) rfl rfl rfl (fun x1 ex1 => ?_)
  refine b_icmp_ne C (t := 14) rfl rfl rfl (fun c2 => ?_) (fun c2 => ?_)
  · skip
    refine k_iload_n C rfl rfl rfl ?_
    refine z_iconst C (z := 0) rfl rfl rfl (fun x3 ex3 => ?_)
    refine k_aload_n C rfl rfl rfl ?_
    refine g_R C rfl rfl rfl T_r0 rfl R_r0_4 ?_
    refine k_iload_n C rfl rfl rfl ?_
    obtain ⟨T_r0_4, N_r0_4, A_r0_4⟩ := id H_r0_4
    refine z_aI C rfl rfl T_r0_4 N_r0_4 (by omega) (by omega) (fun x4 ex4 => ?_)
    have gx4 := rg x4
    have ox4 := IM.dgR hI R_r0_4 ex4
    have q5 : x3.toNatClampNeg = 0 := nck (by omega)
    refine c_SI C a_X12_in rfl rfl rfl rfl rfl rfl rfl (Nat.le_of_ble_eq_true rfl) (Nat.le_of_ble_eq_true rfl) (Nat.le_of_ble_eq_true rfl) ?_
    rintro x6 _ _ ⟨o0x6, o1x6, p0x6, rfl, rfl⟩
    have gx6 := rg x6
    try simp only [q5, ex4] at p0x6
    try have q0x6 := congrArg Int32.toInt p0x6
    refine b_if_eq C (t := 37) rfl rfl rfl (fun c7 => ?_) (fun c7 => ?_)
    · skip
      refine z_iconst C (z := -1) rfl rfl rfl (fun x8 ex8 => ?_)
      exact k_iret C rfl (Or.inl rfl) (Nat.le_of_ble_eq_true rfl) (Nat.le_of_ble_eq_true rfl) ⟨_, _, _, rfl, rfl, by omega, by omega, rfl, rfl⟩
    refine k_aload_n C rfl rfl rfl ?_
    refine k_iload_n C rfl rfl rfl ?_
    refine k_iload_n C rfl rfl rfl ?_
    refine c_VI C (a_X12_of hI H_r0 (by omega) (by omega) (by omega) (by omega)) rfl rfl rfl rfl rfl ⟨_, rfl, rfl, T_r0, Nat.le_of_ble_eq_true rfl⟩ rfl rfl (Nat.le_of_ble_eq_true rfl) (Nat.le_of_ble_eq_true rfl) (Nat.le_of_ble_eq_true rfl) ?_
    rintro x9 _ _ ⟨o0x9, o1x9, p0x9, rfl, rfl⟩
    have p0x9 := p0x9 r0_5 R_r0_5
    have gx9 := rg x9
    try simp only [ex4] at p0x9
    try have q0x9 := congrArg Int32.toInt p0x9
    refine k_goto C (pc2 := 38) rfl rfl ?_
    exact k_iret C rfl (Or.inl rfl) (Nat.le_of_ble_eq_true rfl) (Nat.le_of_ble_eq_true rfl) ⟨_, _, _, rfl, rfl, by omega, by omega, rfl, rfl⟩
  refine k_aload_n C rfl rfl rfl ?_
  refine g_R C rfl rfl rfl T_r0 rfl R_r0_4 ?_
  refine k_iload_n C rfl rfl rfl ?_
  obtain ⟨T_r0_4, N_r0_4, A_r0_4⟩ := id H_r0_4
  refine z_aI C rfl rfl T_r0_4 N_r0_4 (by omega) (by omega) (fun x10 ex10 => ?_)
  have gx10 := rg x10
  have ox10 := IM.dgR hI R_r0_4 ex10
  refine k_goto C (pc2 := 38) rfl rfl ?_
  exact k_iret C rfl (Or.inl rfl) (Nat.le_of_ble_eq_true rfl) (Nat.le_of_ble_eq_true rfl) ⟨_, _, _, rfl, rfl, by omega, by omega, rfl, rfl⟩

theorem a_J9_min_7cf53_m {d : Nat} {T N : Nat → Nat} {I : IT} {L : LT} {R : RT} {n0 n1 : Int32}   : Ex (d + 1) 315 [.int n0, .int n1] (T, N, I, L, R) 0 0 (pI T N R (fun x9 I9 L9 => (x9.toInt ≤ n0.toInt) ∧ (x9.toInt ≤ n1.toInt) ∧ (x9.toInt = n0.toInt ∨ x9.toInt = n1.toInt) ∧ (I = I9 ∧ L = L9))) := by
  refine ⟨_, rfl, Nat.le_of_ble_eq_true rfl, fun V C S => ?_⟩
  show V 0 [(0, .int n0), (1, .int n1)] [] (T, N, I, L, R) 0 0
  have gn0 := rg n0
  have gn1 := rg n1
  refine k_iload_n C rfl rfl rfl ?_
  refine k_iload_n C rfl rfl rfl ?_
  refine b_icmp_gt C (t := 9) rfl rfl rfl (fun c1 => ?_) (fun c1 => ?_)
  · skip
    refine k_iload_n C rfl rfl rfl ?_
    exact k_iret C rfl (Or.inl rfl) (Nat.le_of_ble_eq_true rfl) (Nat.le_of_ble_eq_true rfl) ⟨_, _, _, rfl, rfl, by omega, by omega, by omega, rfl, rfl⟩
  refine k_iload_n C rfl rfl rfl ?_
  refine k_goto C (pc2 := 10) rfl rfl ?_
  exact k_iret C rfl (Or.inl rfl) (Nat.le_of_ble_eq_true rfl) (Nat.le_of_ble_eq_true rfl) ⟨_, _, _, rfl, rfl, by omega, by omega, by omega, rfl, rfl⟩

theorem a_X12_overlap {d : Nat} {T N : Nat → Nat} {I : IT} {L : LT} {R : RT} {A : Nat → Prop} {r0 : Nat} {n1 n2 n3 n4 : Int32} (hI : IM R r0 I) (H_r0 : (h_MD T N R A) r0) : Ex (d + 7) 296 [.ref r0, .int n1, .int n2, .int n3, .int n4] (T, N, I, L, R) 0 0 (pI T N R (fun x9 I9 L9 => (-18 ≤ x9.toInt) ∧ (x9.toInt ≤ 40) ∧ (IM R r0 I9 ∧ CM A R r0 [0] [4, 5] I L I9 L9))) := by
  refine ⟨_, rfl, Nat.le_of_ble_eq_true rfl, fun V C S => ?_⟩
  show V 0 [(0, .ref r0), (1, .int n1), (2, .int n2), (3, .int n3), (4, .int n4)] [] (T, N, I, L, R) 0 0
  have gn1 := rg n1
  have gn2 := rg n2
  have gn3 := rg n3
  have gn4 := rg n4
  obtain ⟨T_r0, A_r0, ⟨r0_1, R_r0_1, H_r0_1⟩, ⟨r0_2, R_r0_2, H_r0_2⟩, ⟨r0_4, R_r0_4, H_r0_4⟩, ⟨r0_5, R_r0_5, H_r0_5⟩, ⟨r0_10, R_r0_10, H_r0_10⟩, ⟨r0_18, R_r0_18, H_r0_18⟩, ⟨r0_20, R_r0_20, H_r0_20⟩, ⟨r0_21, R_r0_21, H_r0_21⟩, ⟨r0_22, R_r0_22, H_r0_22⟩, ⟨r0_23, R_r0_23, H_r0_23⟩, ⟨r0_25, R_r0_25, H_r0_25⟩, ⟨r0_26, R_r0_26, H_r0_26⟩, ⟨r0_27, R_r0_27, H_r0_27⟩, ⟨r0_28, R_r0_28, H_r0_28⟩, ⟨r0_34, R_r0_34, H_r0_34⟩, J_r0, Y_r0⟩ := id H_r0
  have G_r0 : mF T R r0 := ⟨J_r0, Y_r0, T_r0⟩
  refine k_aload_n C rfl rfl rfl ?_
  refine z_iconst C (z := 0) rfl rfl rfl (fun x1 ex1 => ?_)
  refine z_pI C rfl rfl rfl T_r0 (Or.inr rfl) rfl (fun I2 uI2 => ?_)
  have hI2 : IM R r0 I2 := IM.fld hI G_r0 ⟨(fun h => absurd h (by decide)), (fun h => absurd h (by decide)), (fun h => absurd h (by decide)), (fun h => absurd h (by decide)), (fun h => absurd h (by decide))⟩ uI2
  have S3 : CM A R r0 [0] [] I L I2 L := CM.f G_r0 A_r0 uI2
  have e4 := u2_e uI2
  refine k_aload_n C rfl rfl rfl ?_
  refine k_aload_n C rfl rfl rfl ?_
  refine k_iload_n C rfl rfl rfl ?_
  refine c_VI C (a_X12_noForm hI2 H_r0) rfl rfl rfl rfl rfl ⟨_, rfl, rfl, T_r0, Nat.le_of_ble_eq_true rfl⟩ rfl rfl (Nat.le_of_ble_eq_true rfl) (Nat.le_of_ble_eq_true rfl) (Nat.le_of_ble_eq_true rfl) ?_
  rintro x5 _ _ ⟨o0x5, o1x5, p0x5, rfl, rfl⟩
  have p0x5 := p0x5 r0_1 R_r0_1
  have gx5 := rg x5
  obtain ⟨x6, e7⟩ : ∃ x, I2 r0_1 1 = x := ⟨_, rfl⟩
  have gx6 := rg x6
  have ox6 := IM.c1 hI2 R_r0_1 e7
  try simp only [e4, e7] at p0x5
  try have q0x5 := congrArg Int32.toInt p0x5
  refine b_if_ne C (t := 22) rfl rfl rfl (fun c8 => ?_) (fun c8 => ?_)
  · skip
    refine z_iconst C (z := 1) rfl rfl rfl (fun x9 ex9 => ?_)
    refine k_goto C (pc2 := 27) rfl rfl ?_
    refine z_iconst C (z := 1) rfl rfl rfl (fun x10 ex10 => ?_)
    have q11 : x9.toNatClampNeg = 1 := nck (by omega)
    have q12 : x10.toNatClampNeg = 1 := nck (by omega)
    refine c_VI C (a_X12_throwsIf hI2 H_r0 (by omega) (by omega)) rfl rfl rfl rfl rfl ⟨_, rfl, rfl, T_r0, Nat.le_of_ble_eq_true rfl⟩ rfl rfl (Nat.le_of_ble_eq_true rfl) (Nat.le_of_ble_eq_true rfl) (Nat.le_of_ble_eq_true rfl) ?_
    rintro x13 I14 L15 ⟨o0x13, o1x13, p0x13, hI14, S16⟩
    have e18 := CM.j S16 R_r0_1 (by decide) e7
    have gx13 := rg x13
    try simp only [q11, q12, e4, e7] at p0x13
    try have q0x13 := congrArg Int32.toInt p0x13
    refine b_if_ne C (t := 68) rfl rfl rfl (fun c19 => ?_) (fun c19 => by exfalso; omega)
    refine z_iconst C (z := 0) rfl rfl rfl (fun x20 ex20 => ?_)
    exact k_iret C rfl (Or.inl rfl) (Nat.le_of_ble_eq_true rfl) (Nat.le_of_ble_eq_true rfl) ⟨_, _, _, rfl, rfl, by omega, by omega, hI14, (CM.cons S3 (CM.mono S16 (by decide) (by decide)) (by decide) (by decide))⟩
  refine k_aload_n C rfl rfl rfl ?_
  refine k_iload_n C rfl rfl rfl ?_
  refine c_VI C (a_X12_noForm hI2 H_r0) rfl rfl rfl rfl rfl ⟨_, rfl, rfl, T_r0, Nat.le_of_ble_eq_true rfl⟩ rfl rfl (Nat.le_of_ble_eq_true rfl) (Nat.le_of_ble_eq_true rfl) (Nat.le_of_ble_eq_true rfl) ?_
  rintro x21 _ _ ⟨o0x21, o1x21, p0x21, rfl, rfl⟩
  have p0x21 := p0x21 r0_1 R_r0_1
  have gx21 := rg x21
  try simp only [e4, e7, e7] at p0x21
  try have q0x21 := congrArg Int32.toInt p0x21
  refine b_if_eq C (t := 26) rfl rfl rfl (fun c22 => ?_) (fun c22 => ?_)
  · skip
    refine z_iconst C (z := 0) rfl rfl rfl (fun x23 ex23 => ?_)
    refine z_iconst C (z := 1) rfl rfl rfl (fun x24 ex24 => ?_)
    have q25 : x23.toNatClampNeg = 0 := nck (by omega)
    have q26 : x24.toNatClampNeg = 1 := nck (by omega)
    refine c_VI C (a_X12_throwsIf hI2 H_r0 (by omega) (by omega)) rfl rfl rfl rfl rfl ⟨_, rfl, rfl, T_r0, Nat.le_of_ble_eq_true rfl⟩ rfl rfl (Nat.le_of_ble_eq_true rfl) (Nat.le_of_ble_eq_true rfl) (Nat.le_of_ble_eq_true rfl) ?_
    rintro x27 I28 L29 ⟨o0x27, o1x27, p0x27, hI28, S30⟩
    have e32 := CM.j S30 R_r0_1 (by decide) e7
    have gx27 := rg x27
    try simp only [q25, q26, e4, e7] at p0x27
    try have q0x27 := congrArg Int32.toInt p0x27
    refine b_if_ne C (t := 68) rfl rfl rfl (fun c33 => by exfalso; omega) (fun c33 => ?_)
    refine k_aload_n C rfl rfl rfl ?_
    refine k_iload_n C rfl rfl rfl ?_
    refine z_iconst C (z := 0) rfl rfl rfl (fun x34 ex34 => ?_)
    refine k_aload_n C rfl rfl rfl ?_
    refine k_iload_n C rfl rfl rfl ?_
    refine c_VI C (a_X12_degreeOf hI28 H_r0 (by omega) (by omega)) rfl rfl rfl rfl rfl ⟨_, rfl, rfl, T_r0, Nat.le_of_ble_eq_true rfl⟩ rfl rfl (Nat.le_of_ble_eq_true rfl) (Nat.le_of_ble_eq_true rfl) (Nat.le_of_ble_eq_true rfl) ?_
    rintro x35 _ _ ⟨o0x35, o1x35, p0x35, rfl, rfl⟩
    have p0x35 := p0x35 r0_1 R_r0_1
    have gx35 := rg x35
    obtain ⟨x36, e37⟩ : ∃ x, I28 r0_1 (6 + 10 * n1.toNatClampNeg) = x := ⟨_, rfl⟩
    have gx36 := rg x36
    try simp only [e32, e37] at p0x35
    try have q0x35 := congrArg Int32.toInt p0x35
    refine k_aload_n C rfl rfl rfl ?_
    refine k_iload_n C rfl rfl rfl ?_
    refine c_VI C (a_X12_degreeOf hI28 H_r0 (by omega) (by omega)) rfl rfl rfl rfl rfl ⟨_, rfl, rfl, T_r0, Nat.le_of_ble_eq_true rfl⟩ rfl rfl (Nat.le_of_ble_eq_true rfl) (Nat.le_of_ble_eq_true rfl) (Nat.le_of_ble_eq_true rfl) ?_
    rintro x38 _ _ ⟨o0x38, o1x38, p0x38, rfl, rfl⟩
    have p0x38 := p0x38 r0_1 R_r0_1
    have gx38 := rg x38
    obtain ⟨x39, e40⟩ : ∃ x, I28 r0_1 (6 + 10 * n2.toNatClampNeg) = x := ⟨_, rfl⟩
    have gx39 := rg x39
    try simp only [e32, e37, e40] at p0x38
    try have q0x38 := congrArg Int32.toInt p0x38
    refine c_SI C a_J9_min_7cf53_m rfl rfl rfl rfl rfl rfl rfl (Nat.le_of_ble_eq_true rfl) (Nat.le_of_ble_eq_true rfl) (Nat.le_of_ble_eq_true rfl) ?_
    rintro x41 _ _ ⟨p0x41, p1x41, p2x41, rfl, rfl⟩
    have gx41 := rg x41
    try simp only [e32, e37, e40] at p0x41
    try have q0x41 := congrArg Int32.toInt p0x41
    try simp only [e32, e37, e40] at p1x41
    try have q1x41 := congrArg Int32.toInt p1x41
    try simp only [e32, e37, e40] at p2x41
    try have q2x41 := congrArg Int32.toInt p2x41
    have q42 : x34.toNatClampNeg = 0 := nck (by omega)
    refine c_SI C a_X12_in rfl rfl rfl rfl rfl rfl rfl (Nat.le_of_ble_eq_true rfl) (Nat.le_of_ble_eq_true rfl) (Nat.le_of_ble_eq_true rfl) ?_
    rintro x43 _ _ ⟨o0x43, o1x43, p0x43, rfl, rfl⟩
    have gx43 := rg x43
    try simp only [q42, e32, e37, e40] at p0x43
    try have q0x43 := congrArg Int32.toInt p0x43
    refine b_if_ne C (t := 60) rfl rfl rfl (fun c44 => ?_) (fun c44 => ?_)
    · skip
      refine z_iconst C (z := 0) rfl rfl rfl (fun x45 ex45 => ?_)
      refine z_iconst C (z := 2) rfl rfl rfl (fun x46 ex46 => ?_)
      have q47 : x45.toNatClampNeg = 0 := nck (by omega)
      have q48 : x46.toNatClampNeg = 2 := nck (by omega)
      refine c_VI C (a_X12_throwsIf hI28 H_r0 (by omega) (by omega)) rfl rfl rfl rfl rfl ⟨_, rfl, rfl, T_r0, Nat.le_of_ble_eq_true rfl⟩ rfl rfl (Nat.le_of_ble_eq_true rfl) (Nat.le_of_ble_eq_true rfl) (Nat.le_of_ble_eq_true rfl) ?_
      rintro x49 I50 L51 ⟨o0x49, o1x49, p0x49, hI50, S52⟩
      have e53 := CM.j S52 R_r0_1 (by decide) e32
      have e54 := CM.j S52 R_r0_1 (by decide) e37
      have e55 := CM.j S52 R_r0_1 (by decide) e40
      have gx49 := rg x49
      try simp only [q47, q48, e32, e37, e40] at p0x49
      try have q0x49 := congrArg Int32.toInt p0x49
      refine b_if_eq C (t := 70) rfl rfl rfl (fun c56 => ?_) (fun c56 => by exfalso; omega)
      refine k_aload_n C rfl rfl rfl ?_
      refine z_bipush C (z := 40) rfl rfl rfl (fun x57 ex57 => ?_)
      refine k_iload_n C rfl rfl rfl ?_
      obtain ⟨x58, e59⟩ : ∃ x, I50 r0_1 0 = x := ⟨_, rfl⟩
      have gx58 := rg x58
      have ox58 := IM.pi hI50 R_r0_1 e59
      have q60 : x57.toNatClampNeg = 40 := nck (by omega)
      refine c_VV C (a_X12_takes hI50 H_r0 (by omega) (by omega) (by omega) (by omega)) rfl rfl rfl rfl rfl ⟨_, rfl, rfl, T_r0, Nat.le_of_ble_eq_true rfl⟩ rfl rfl (Nat.le_of_ble_eq_true rfl) (Nat.le_of_ble_eq_true rfl) (Nat.le_of_ble_eq_true rfl) ?_
      rintro I62 L63 ⟨p0v61, p1v61, p2v61, p3v61, p4v61, hI62, S64⟩
      have p0v61 := p0v61 r0_4 R_r0_4
      have p1v61 := p1v61 r0_1 r0_4 R_r0_1 R_r0_4
      have p2v61 := p2v61 r0_1 r0_4 r0_5 R_r0_1 R_r0_4 R_r0_5
      have p3v61 := p3v61 r0_4 R_r0_4
      have p4v61 := p4v61 r0_5 R_r0_5
      try simp only [q60] at p3v61
      try simp only [q60] at p4v61
      have e65 := CM.j S64 R_r0_1 (by decide) e53
      have e66 := CM.j S64 R_r0_1 (by decide) e54
      have e67 := CM.j S64 R_r0_1 (by decide) e55
      have e68 := CM.j S64 R_r0_1 (by decide) e59
      obtain ⟨x69, e70⟩ : ∃ x, I62 r0_4 40 = x := ⟨_, rfl⟩
      have gx69 := rg x69
      have ox69 := IM.dgR hI62 R_r0_4 e70
      try simp only [q60, e53, e54, e55, e59, e70] at p0v61
      try have q0v61 := congrArg Int32.toInt p0v61
      try simp only [q60, e53, e54, e55, e59, e70] at p1v61
      try have q1v61 := congrArg Int32.toInt p1v61
      try simp only [q60, e53, e54, e55, e59, e70] at p2v61
      try have q2v61 := congrArg Int32.toInt p2v61
      refine k_aload_n C rfl rfl rfl ?_
      refine z_bipush C (z := 41) rfl rfl rfl (fun x71 ex71 => ?_)
      refine k_iload_n C rfl rfl rfl ?_
      have q72 : x71.toNatClampNeg = 41 := nck (by omega)
      refine c_VV C (a_X12_takes hI62 H_r0 (by omega) (by omega) (by omega) (by omega)) rfl rfl rfl rfl rfl ⟨_, rfl, rfl, T_r0, Nat.le_of_ble_eq_true rfl⟩ rfl rfl (Nat.le_of_ble_eq_true rfl) (Nat.le_of_ble_eq_true rfl) (Nat.le_of_ble_eq_true rfl) ?_
      rintro I74 L75 ⟨p0v73, p1v73, p2v73, p3v73, p4v73, hI74, S76⟩
      have p0v73 := p0v73 r0_4 R_r0_4
      have p1v73 := p1v73 r0_1 r0_4 R_r0_1 R_r0_4
      have p2v73 := p2v73 r0_1 r0_4 r0_5 R_r0_1 R_r0_4 R_r0_5
      have p3v73 := p3v73 r0_4 R_r0_4
      have p4v73 := p4v73 r0_5 R_r0_5
      try simp only [q72] at p3v73
      try simp only [q72] at p4v73
      have e77 := CM.j S76 R_r0_1 (by decide) e65
      have e78 := CM.j S76 R_r0_1 (by decide) e66
      have e79 := CM.j S76 R_r0_1 (by decide) e67
      have e80 := CM.j S76 R_r0_1 (by decide) e68
      have e81 := (p3v73 40 (by first | decide | exact ncne (by omega) (by omega) (by omega) | exact nckn (by omega) (by omega) | exact (nckn (by omega) (by omega)).symm)).trans e70
      obtain ⟨x82, e83⟩ : ∃ x, I74 r0_4 41 = x := ⟨_, rfl⟩
      have gx82 := rg x82
      have ox82 := IM.dgR hI74 R_r0_4 e83
      try simp only [q72, e65, e66, e67, e68, e70, e83] at p0v73
      try have q0v73 := congrArg Int32.toInt p0v73
      try simp only [q72, e65, e66, e67, e68, e70, e83] at p1v73
      try have q1v73 := congrArg Int32.toInt p1v73
      try simp only [q72, e65, e66, e67, e68, e70, e83] at p2v73
      try have q2v73 := congrArg Int32.toInt p2v73
      refine k_aload_n C rfl rfl rfl ?_
      refine z_bipush C (z := 40) rfl rfl rfl (fun x84 ex84 => ?_)
      refine z_bipush C (z := 41) rfl rfl rfl (fun x85 ex85 => ?_)
      refine k_iload_n C rfl rfl rfl ?_
      refine z_bipush C (z := 42) rfl rfl rfl (fun x86 ex86 => ?_)
      have q87 : x84.toNatClampNeg = 40 := nck (by omega)
      have q88 : x85.toNatClampNeg = 41 := nck (by omega)
      have q89 : x86.toNatClampNeg = 42 := nck (by omega)
      refine c_VV C (a_X12_overlaps hI74 H_r0 (by omega) (by omega) (by omega) (by omega) (by omega) (by omega) (by omega) (by omega) (fun a4 h4 => by cases (R_r0_4.symm.trans h4); first | omega | (simp only [q87, q88, q89, e77, e78, e79, e80, e81, e83] <;> omega)) (fun a4 h4 => by cases (R_r0_4.symm.trans h4); first | omega | (simp only [q87, q88, q89, e77, e78, e79, e80, e81, e83] <;> omega)) (fun a4 h4 => by cases (R_r0_4.symm.trans h4); first | omega | (simp only [q87, q88, q89, e77, e78, e79, e80, e81, e83] <;> omega))) rfl rfl rfl rfl rfl ⟨_, rfl, rfl, T_r0, Nat.le_of_ble_eq_true rfl⟩ rfl rfl (Nat.le_of_ble_eq_true rfl) (Nat.le_of_ble_eq_true rfl) (Nat.le_of_ble_eq_true rfl) ?_
      rintro I91 L92 ⟨p0v90, p1v90, hI91, S93⟩
      have p0v90 := p0v90 r0_4 R_r0_4
      have p1v90 := p1v90 r0_5 R_r0_5
      try simp only [q87, q88, q89] at p0v90
      try simp only [q87, q88, q89] at p1v90
      have e94 := CM.j S93 R_r0_1 (by decide) e77
      have e95 := CM.j S93 R_r0_1 (by decide) e78
      have e96 := CM.j S93 R_r0_1 (by decide) e79
      have e97 := CM.j S93 R_r0_1 (by decide) e80
      have e98 := (p0v90 40 (by first | decide | exact ncne (by omega) (by omega) (by omega) | exact nckn (by omega) (by omega) | exact (nckn (by omega) (by omega)).symm) (by first | decide | exact ncne (by omega) (by omega) (by omega) | exact nckn (by omega) (by omega) | exact (nckn (by omega) (by omega)).symm) (by first | decide | exact ncne (by omega) (by omega) (by omega) | exact nckn (by omega) (by omega) | exact (nckn (by omega) (by omega)).symm) (by first | decide | exact ncne (by omega) (by omega) (by omega) | exact nckn (by omega) (by omega) | exact (nckn (by omega) (by omega)).symm)).trans e81
      have e99 := (p0v90 41 (by first | decide | exact ncne (by omega) (by omega) (by omega) | exact nckn (by omega) (by omega) | exact (nckn (by omega) (by omega)).symm) (by first | decide | exact ncne (by omega) (by omega) (by omega) | exact nckn (by omega) (by omega) | exact (nckn (by omega) (by omega)).symm) (by first | decide | exact ncne (by omega) (by omega) (by omega) | exact nckn (by omega) (by omega) | exact (nckn (by omega) (by omega)).symm) (by first | decide | exact ncne (by omega) (by omega) (by omega) | exact nckn (by omega) (by omega) | exact (nckn (by omega) (by omega)).symm)).trans e83
      refine k_aload_n C rfl rfl rfl ?_
      refine z_bipush C (z := 42) rfl rfl rfl (fun x100 ex100 => ?_)
      refine k_iload C rfl rfl rfl ?_
      refine c_VI C (a_X12_toldOf hI91 H_r0 (by omega) (by omega)) rfl rfl rfl rfl rfl ⟨_, rfl, rfl, T_r0, Nat.le_of_ble_eq_true rfl⟩ rfl rfl (Nat.le_of_ble_eq_true rfl) (Nat.le_of_ble_eq_true rfl) (Nat.le_of_ble_eq_true rfl) ?_
      rintro x101 _ _ ⟨o0x101, o1x101, rfl, rfl⟩
      have gx101 := rg x101
      exact k_iret C rfl (Or.inl rfl) (Nat.le_of_ble_eq_true rfl) (Nat.le_of_ble_eq_true rfl) ⟨_, _, _, rfl, rfl, by omega, by omega, hI91, (CM.cons S3 (CM.cons S30 (CM.cons S52 (CM.cons S64 (CM.cons S76 (CM.mono S93 (by decide) (by decide)) (by decide) (by decide)) (by decide) (by decide)) (by decide) (by decide)) (by decide) (by decide)) (by decide) (by decide))⟩
    refine z_iconst C (z := 1) rfl rfl rfl (fun x102 ex102 => ?_)
    refine k_goto C (pc2 := 61) rfl rfl ?_
    refine z_iconst C (z := 2) rfl rfl rfl (fun x103 ex103 => ?_)
    have q104 : x102.toNatClampNeg = 1 := nck (by omega)
    have q105 : x103.toNatClampNeg = 2 := nck (by omega)
    refine c_VI C (a_X12_throwsIf hI28 H_r0 (by omega) (by omega)) rfl rfl rfl rfl rfl ⟨_, rfl, rfl, T_r0, Nat.le_of_ble_eq_true rfl⟩ rfl rfl (Nat.le_of_ble_eq_true rfl) (Nat.le_of_ble_eq_true rfl) (Nat.le_of_ble_eq_true rfl) ?_
    rintro x106 I107 L108 ⟨o0x106, o1x106, p0x106, hI107, S109⟩
    have e110 := CM.j S109 R_r0_1 (by decide) e32
    have e111 := CM.j S109 R_r0_1 (by decide) e37
    have e112 := CM.j S109 R_r0_1 (by decide) e40
    have gx106 := rg x106
    try simp only [q104, q105, e32, e37, e40] at p0x106
    try have q0x106 := congrArg Int32.toInt p0x106
    refine b_if_eq C (t := 70) rfl rfl rfl (fun c113 => by exfalso; omega) (fun c113 => ?_)
    refine z_iconst C (z := 0) rfl rfl rfl (fun x114 ex114 => ?_)
    exact k_iret C rfl (Or.inl rfl) (Nat.le_of_ble_eq_true rfl) (Nat.le_of_ble_eq_true rfl) ⟨_, _, _, rfl, rfl, by omega, by omega, hI107, (CM.cons S3 (CM.cons S30 (CM.mono S109 (by decide) (by decide)) (by decide) (by decide)) (by decide) (by decide))⟩
  refine z_iconst C (z := 1) rfl rfl rfl (fun x115 ex115 => ?_)
  refine k_goto C (pc2 := 27) rfl rfl ?_
  refine z_iconst C (z := 1) rfl rfl rfl (fun x116 ex116 => ?_)
  have q117 : x115.toNatClampNeg = 1 := nck (by omega)
  have q118 : x116.toNatClampNeg = 1 := nck (by omega)
  refine c_VI C (a_X12_throwsIf hI2 H_r0 (by omega) (by omega)) rfl rfl rfl rfl rfl ⟨_, rfl, rfl, T_r0, Nat.le_of_ble_eq_true rfl⟩ rfl rfl (Nat.le_of_ble_eq_true rfl) (Nat.le_of_ble_eq_true rfl) (Nat.le_of_ble_eq_true rfl) ?_
  rintro x119 I120 L121 ⟨o0x119, o1x119, p0x119, hI120, S122⟩
  have e124 := CM.j S122 R_r0_1 (by decide) e7
  have gx119 := rg x119
  try simp only [q117, q118, e4, e7] at p0x119
  try have q0x119 := congrArg Int32.toInt p0x119
  refine b_if_ne C (t := 68) rfl rfl rfl (fun c125 => ?_) (fun c125 => by exfalso; omega)
  refine z_iconst C (z := 0) rfl rfl rfl (fun x126 ex126 => ?_)
  exact k_iret C rfl (Or.inl rfl) (Nat.le_of_ble_eq_true rfl) (Nat.le_of_ble_eq_true rfl) ⟨_, _, _, rfl, rfl, by omega, by omega, hI120, (CM.cons S3 (CM.mono S122 (by decide) (by decide)) (by decide) (by decide))⟩

theorem a_X12_draws {d : Nat} {T N : Nat → Nat} {I : IT} {L : LT} {R : RT} {A : Nat → Prop} {r0 : Nat} {n1 n2 : Int32} (hI : IM R r0 I) (H_r0 : (h_MD T N R A) r0) (b0_n1 : 1 ≤ n1.toInt) (b1_n1 : n1.toInt ≤ 8) : Ex (d + 2) 260 [.ref r0, .int n1, .int n2] (T, N, I, L, R) 0 0 (pV T N R (fun I9 L9 => (IM R r0 I9 ∧ CM A R r0 [] [23] I L I9 L9))) := by
  refine ⟨_, rfl, Nat.le_of_ble_eq_true rfl, fun V C S => ?_⟩
  show V 0 [(0, .ref r0), (1, .int n1), (2, .int n2)] [] (T, N, I, L, R) 0 0
  have gn1 := rg n1
  have gn2 := rg n2
  obtain ⟨T_r0, A_r0, ⟨r0_1, R_r0_1, H_r0_1⟩, ⟨r0_2, R_r0_2, H_r0_2⟩, ⟨r0_4, R_r0_4, H_r0_4⟩, ⟨r0_5, R_r0_5, H_r0_5⟩, ⟨r0_10, R_r0_10, H_r0_10⟩, ⟨r0_18, R_r0_18, H_r0_18⟩, ⟨r0_20, R_r0_20, H_r0_20⟩, ⟨r0_21, R_r0_21, H_r0_21⟩, ⟨r0_22, R_r0_22, H_r0_22⟩, ⟨r0_23, R_r0_23, H_r0_23⟩, ⟨r0_25, R_r0_25, H_r0_25⟩, ⟨r0_26, R_r0_26, H_r0_26⟩, ⟨r0_27, R_r0_27, H_r0_27⟩, ⟨r0_28, R_r0_28, H_r0_28⟩, ⟨r0_34, R_r0_34, H_r0_34⟩, J_r0, Y_r0⟩ := id H_r0
  have G_r0 : mF T R r0 := ⟨J_r0, Y_r0, T_r0⟩
  refine k_iload_n C rfl rfl rfl ?_
  refine k_istore_n C (lw := [(3, .int n2), (0, .ref r0), (1, .int n1), (2, .int n2)]) rfl rfl (Nat.le_of_ble_eq_true rfl) rfl ?_
  refine z_iconst C (z := 0) rfl rfl rfl (fun x1 ex1 => ?_)
  have J2 : ∀ (nn3 : Nat) (I4 : IT) (L5 : LT) (x6 : Int32) (x7 : Int32), (MN (108 - x7.toInt) nn3) → (IM R r0 I4) → (CM A R r0 [] [23] I L I4 L5) → (0 ≤ x7.toInt) → (x7.toInt ≤ 108) → V 5 [(0, .ref r0), (1, .int n1), (3, .int x6), (4, .int x7)] [] (T, N, I4, L5, R) 0 0 := by
    intro nn3
    induction nn3 using Nat.strongRecOn with
    | _ nn3 ihJ2 =>
      intro I4 L5 x6 x7 hmnn3 hI11 S10 b8 b9
      have gx6 := rg x6
      have gx7 := rg x7
      refine k_iload C rfl rfl rfl ?_
      refine z_bipush C (z := 12) rfl rfl rfl (fun x12 ex12 => ?_)
      refine k_iload_n C rfl rfl rfl ?_
      refine z_iconst C (z := 1) rfl rfl rfl (fun x13 ex13 => ?_)
      refine z_iadd C rfl rfl ⟨by omega, by omega⟩ (fun x14 ex14 => ?_)
      refine z_imulL C (c := 12) rfl rfl (by omega) ⟨by omega, by omega⟩ (fun x15 ex15 => ?_)
      refine b_icmp_ge C (t := 52) rfl rfl rfl (fun c16 => ?_) (fun c16 => ?_)
      · skip
        exact k_vret C rfl rfl (Nat.le_of_ble_eq_true rfl) (Nat.le_of_ble_eq_true rfl) ⟨_, _, rfl, rfl, hI11, (CM.mono S10 (by decide) (by decide))⟩
      refine z_ldc_w C rfl rfl rfl (fun x17 ex17 => ?_)
      have gx17 := rg x17
      clear ex17
      refine k_iload_n C rfl rfl rfl ?_
      refine zt_imul C rfl rfl (fun x18 => ?_)
      have gx18 := rg x18
      refine z_sipush C (z := 12345) rfl rfl rfl (fun x19 ex19 => ?_)
      refine zt_iadd C rfl rfl (fun x20 => ?_)
      have gx20 := rg x20
      refine k_istore_n C (lw := [(3, .int x20), (0, .ref r0), (1, .int n1), (4, .int x7)]) rfl rfl (Nat.le_of_ble_eq_true rfl) rfl ?_
      refine k_aload_n C rfl rfl rfl ?_
      refine g_R C rfl rfl rfl T_r0 rfl R_r0_23 ?_
      refine k_iload C rfl rfl rfl ?_
      refine k_iload_n C rfl rfl rfl ?_
      refine z_bipush C (z := 16) rfl rfl rfl (fun x21 ex21 => ?_)
      refine zt_ishr C rfl rfl (fun x22 => ?_)
      have gx22 := rg x22
      refine z_sipush C (z := 32767) rfl rfl rfl (fun x23 ex23 => ?_)
      refine zt_iand C rfl rfl (fun x24 => ?_)
      have gx24 := rg x24
      refine k_aload_n C rfl rfl rfl ?_
      refine c_VI C (a_X12_p hI11 H_r0) rfl rfl rfl rfl rfl ⟨_, rfl, rfl, T_r0, Nat.le_of_ble_eq_true rfl⟩ rfl rfl (Nat.le_of_ble_eq_true rfl) (Nat.le_of_ble_eq_true rfl) (Nat.le_of_ble_eq_true rfl) ?_
      rintro x25 _ _ ⟨o0x25, o1x25, p0x25, rfl, rfl⟩
      have p0x25 := p0x25 r0_1 R_r0_1
      have gx25 := rg x25
      obtain ⟨x26, e27⟩ : ∃ x, I4 r0_1 0 = x := ⟨_, rfl⟩
      have gx26 := rg x26
      have ox26 := IM.pi hI11 R_r0_1 e27
      try simp only [e27] at p0x25
      try have q0x25 := congrArg Int32.toInt p0x25
      refine z_iremB C rfl rfl (by omega) (fun x28 ex28 => ?_)
      have bx28 : -18 ≤ x28.toInt ∧ x28.toInt ≤ 18 := by omega
      obtain ⟨T_r0_23, N_r0_23, A_r0_23⟩ := id H_r0_23
      refine z_sI C rfl rfl T_r0_23 N_r0_23 (by omega) (by omega) (fun I29 uI29 => ?_)
      have hI29 : IM R r0 I29 := IM.arr hI11 G_r0 R_r0_23 ⟨(fun h => absurd h (by decide)), (fun h => absurd h (by decide)), (fun _ => ⟨by omega, by omega⟩)⟩ (fun h => absurd h (by decide)) uI29
      have S30 : CM A R r0 [] [23] I4 L5 I29 L5 := CM.a G_r0 R_r0_23 A_r0_23 uI29
      have e31 := u2_n uI29 (mF.nq G_r0 R_r0_1 R_r0_23 (by decide)) e27
      have e32 := u2_e uI29
      refine z_iinc C (z := 1) (lw := fun x33 => [(4, .int x33), (3, .int x20), (0, .ref r0), (1, .int n1)]) rfl rfl rfl (Nat.le_of_ble_eq_true rfl) rfl ⟨by omega, by omega⟩ (fun _ => rfl) (fun x33 ex33 => ?_)
      show V 49 [(4, .int x33), (3, .int x20), (0, .ref r0), (1, .int n1)] _ _ _ _
      refine k_goto C (pc2 := 5) rfl rfl ?_
      refine k_sub S [(0, .ref r0), (1, .int n1), (3, .int x20), (4, .int x33)] (List.forall_mem_cons.mpr ⟨List.mem_of_getElem? (i := 2) rfl, List.forall_mem_cons.mpr ⟨List.mem_of_getElem? (i := 3) rfl, List.forall_mem_cons.mpr ⟨List.mem_of_getElem? (i := 1) rfl, List.forall_mem_cons.mpr ⟨List.mem_of_getElem? (i := 0) rfl, fun _ h => nomatch h⟩⟩⟩⟩) ?_
      exact ihJ2 _ (MN.lt hmnn3 (by omega) (by omega)) I29 L5 x20 x33 rfl hI29 (CM.cons S10 (CM.mono S30 (by decide) (by decide)) (by decide) (by decide)) (by omega) (by omega)
  refine k_istore C (lw := [(4, .int x1), (3, .int n2), (0, .ref r0), (1, .int n1), (2, .int n2)]) rfl rfl (Nat.le_of_ble_eq_true rfl) rfl ?_
  refine k_sub S [(0, .ref r0), (1, .int n1), (3, .int n2), (4, .int x1)] (List.forall_mem_cons.mpr ⟨List.mem_of_getElem? (i := 2) rfl, List.forall_mem_cons.mpr ⟨List.mem_of_getElem? (i := 3) rfl, List.forall_mem_cons.mpr ⟨List.mem_of_getElem? (i := 1) rfl, List.forall_mem_cons.mpr ⟨List.mem_of_getElem? (i := 0) rfl, fun _ h => nomatch h⟩⟩⟩⟩) ?_
  exact J2 _ I L n2 x1 rfl hI CM.rf (by omega) (by omega)

theorem a_X12_stock {d : Nat} {T N : Nat → Nat} {I : IT} {L : LT} {R : RT} {A : Nat → Prop} {r0 : Nat} {n1 : Int32} (hI : IM R r0 I) (H_r0 : (h_MD T N R A) r0) : Ex (d + 4) 313 [.ref r0, .int n1] (T, N, I, L, R) 0 0 (pI T N R (fun x9 I9 L9 => (IM R r0 I9 ∧ CM A R r0 [0] [4, 5] I L I9 L9))) := by
  refine ⟨_, rfl, Nat.le_of_ble_eq_true rfl, fun V C S => ?_⟩
  show V 0 [(0, .ref r0), (1, .int n1)] [] (T, N, I, L, R) 0 0
  have gn1 := rg n1
  obtain ⟨T_r0, A_r0, ⟨r0_1, R_r0_1, H_r0_1⟩, ⟨r0_2, R_r0_2, H_r0_2⟩, ⟨r0_4, R_r0_4, H_r0_4⟩, ⟨r0_5, R_r0_5, H_r0_5⟩, ⟨r0_10, R_r0_10, H_r0_10⟩, ⟨r0_18, R_r0_18, H_r0_18⟩, ⟨r0_20, R_r0_20, H_r0_20⟩, ⟨r0_21, R_r0_21, H_r0_21⟩, ⟨r0_22, R_r0_22, H_r0_22⟩, ⟨r0_23, R_r0_23, H_r0_23⟩, ⟨r0_25, R_r0_25, H_r0_25⟩, ⟨r0_26, R_r0_26, H_r0_26⟩, ⟨r0_27, R_r0_27, H_r0_27⟩, ⟨r0_28, R_r0_28, H_r0_28⟩, ⟨r0_34, R_r0_34, H_r0_34⟩, J_r0, Y_r0⟩ := id H_r0
  have G_r0 : mF T R r0 := ⟨J_r0, Y_r0, T_r0⟩
  refine k_aload_n C rfl rfl rfl ?_
  refine z_iconst C (z := 0) rfl rfl rfl (fun x1 ex1 => ?_)
  refine z_pI C rfl rfl rfl T_r0 (Or.inr rfl) rfl (fun I2 uI2 => ?_)
  have hI2 : IM R r0 I2 := IM.fld hI G_r0 ⟨(fun h => absurd h (by decide)), (fun h => absurd h (by decide)), (fun h => absurd h (by decide)), (fun h => absurd h (by decide)), (fun h => absurd h (by decide))⟩ uI2
  have S3 : CM A R r0 [0] [] I L I2 L := CM.f G_r0 A_r0 uI2
  have e4 := u2_e uI2
  refine z_iconst C (z := 0) rfl rfl rfl (fun x5 ex5 => ?_)
  refine k_istore_n C (lw := [(2, .int x5), (0, .ref r0), (1, .int n1)]) rfl rfl (Nat.le_of_ble_eq_true rfl) rfl ?_
  refine k_iload_n C rfl rfl rfl ?_
  refine k_table C rfl (by decide) (fun c6 => ?_) (fun c6 c7 => ?_)
  · skip
    show V 136 _ _ _ _ _
    refine z_iconst C (z := -1) rfl rfl rfl (fun x8 ex8 => ?_)
    exact k_iret C rfl (Or.inl rfl) (Nat.le_of_ble_eq_true rfl) (Nat.le_of_ble_eq_true rfl) ⟨_, _, _, rfl, rfl, hI2, (CM.mono S3 (by decide) (by decide))⟩
  have h9 : n1.toInt = 0 ∨ n1.toInt = 1 ∨ n1.toInt = 2 ∨ n1.toInt = 3 ∨ n1.toInt = 4 ∨ n1.toInt = 5 ∨ n1.toInt = 6 := by omega
  rcases h9 with h9 | h9 | h9 | h9 | h9 | h9 | h9
  · skip
    refine ⟨44, by rw [h9]; rfl, by decide, ?_⟩
    show V 52 _ _ _ _ _
    refine k_aload_n C rfl rfl rfl ?_
    refine c_VI C (a_X12_p hI2 H_r0) rfl rfl rfl rfl rfl ⟨_, rfl, rfl, T_r0, Nat.le_of_ble_eq_true rfl⟩ rfl rfl (Nat.le_of_ble_eq_true rfl) (Nat.le_of_ble_eq_true rfl) (Nat.le_of_ble_eq_true rfl) ?_
    rintro x10 _ _ ⟨o0x10, o1x10, p0x10, rfl, rfl⟩
    have p0x10 := p0x10 r0_1 R_r0_1
    have gx10 := rg x10
    obtain ⟨x11, e12⟩ : ∃ x, I2 r0_1 0 = x := ⟨_, rfl⟩
    have gx11 := rg x11
    have ox11 := IM.pi hI2 R_r0_1 e12
    try simp only [e4, e12] at p0x10
    try have q0x10 := congrArg Int32.toInt p0x10
    exact k_iret C rfl (Or.inl rfl) (Nat.le_of_ble_eq_true rfl) (Nat.le_of_ble_eq_true rfl) ⟨_, _, _, rfl, rfl, hI2, (CM.mono S3 (by decide) (by decide))⟩
  · skip
    refine ⟨49, by rw [h9]; rfl, by decide, ?_⟩
    show V 57 _ _ _ _ _
    refine k_aload_n C rfl rfl rfl ?_
    refine g_R C rfl rfl rfl T_r0 rfl R_r0_1 ?_
    refine z_iconst C (z := 1) rfl rfl rfl (fun x13 ex13 => ?_)
    obtain ⟨T_r0_1, N_r0_1, A_r0_1⟩ := id H_r0_1
    refine z_aI C rfl rfl T_r0_1 N_r0_1 (by omega) (by omega) (fun x14 ex14 => ?_)
    have gx14 := rg x14
    have nx14 : I2 r0_1 1 = x14 := (congrArg (I2 r0_1) (nck (n := 1) (by omega))).symm.trans ex14
    have ox14 := IM.c1 hI2 R_r0_1 nx14
    exact k_iret C rfl (Or.inl rfl) (Nat.le_of_ble_eq_true rfl) (Nat.le_of_ble_eq_true rfl) ⟨_, _, _, rfl, rfl, hI2, (CM.mono S3 (by decide) (by decide))⟩
  · skip
    refine ⟨56, by rw [h9]; rfl, by decide, ?_⟩
    show V 64 _ _ _ _ _
    refine k_aload_n C rfl rfl rfl ?_
    refine g_R C rfl rfl rfl T_r0 rfl R_r0_1 ?_
    refine z_iconst C (z := 2) rfl rfl rfl (fun x15 ex15 => ?_)
    obtain ⟨T_r0_1, N_r0_1, A_r0_1⟩ := id H_r0_1
    refine z_aI C rfl rfl T_r0_1 N_r0_1 (by omega) (by omega) (fun x16 ex16 => ?_)
    have gx16 := rg x16
    have nx16 : I2 r0_1 2 = x16 := (congrArg (I2 r0_1) (nck (n := 2) (by omega))).symm.trans ex16
    have ox16 := IM.c2 hI2 R_r0_1 nx16
    exact k_iret C rfl (Or.inl rfl) (Nat.le_of_ble_eq_true rfl) (Nat.le_of_ble_eq_true rfl) ⟨_, _, _, rfl, rfl, hI2, (CM.mono S3 (by decide) (by decide))⟩
  · skip
    refine ⟨63, by rw [h9]; rfl, by decide, ?_⟩
    show V 71 _ _ _ _ _
    refine k_aload_n C rfl rfl rfl ?_
    refine g_R C rfl rfl rfl T_r0 rfl R_r0_1 ?_
    refine z_iconst C (z := 3) rfl rfl rfl (fun x17 ex17 => ?_)
    obtain ⟨T_r0_1, N_r0_1, A_r0_1⟩ := id H_r0_1
    refine z_aI C rfl rfl T_r0_1 N_r0_1 (by omega) (by omega) (fun x18 ex18 => ?_)
    have gx18 := rg x18
    have nx18 : I2 r0_1 3 = x18 := (congrArg (I2 r0_1) (nck (n := 3) (by omega))).symm.trans ex18
    have ox18 := IM.c3 hI2 R_r0_1 nx18
    exact k_iret C rfl (Or.inl rfl) (Nat.le_of_ble_eq_true rfl) (Nat.le_of_ble_eq_true rfl) ⟨_, _, _, rfl, rfl, hI2, (CM.mono S3 (by decide) (by decide))⟩
  · skip
    refine ⟨70, by rw [h9]; rfl, by decide, ?_⟩
    show V 78 _ _ _ _ _
    refine k_aload_n C rfl rfl rfl ?_
    refine g_R C rfl rfl rfl T_r0 rfl R_r0_1 ?_
    refine z_iconst C (z := 4) rfl rfl rfl (fun x19 ex19 => ?_)
    obtain ⟨T_r0_1, N_r0_1, A_r0_1⟩ := id H_r0_1
    refine z_aI C rfl rfl T_r0_1 N_r0_1 (by omega) (by omega) (fun x20 ex20 => ?_)
    have gx20 := rg x20
    have nx20 : I2 r0_1 4 = x20 := (congrArg (I2 r0_1) (nck (n := 4) (by omega))).symm.trans ex20
    have ox20 := IM.c4 hI2 R_r0_1 nx20
    exact k_iret C rfl (Or.inl rfl) (Nat.le_of_ble_eq_true rfl) (Nat.le_of_ble_eq_true rfl) ⟨_, _, _, rfl, rfl, hI2, (CM.mono S3 (by decide) (by decide))⟩
  · skip
    refine ⟨77, by rw [h9]; rfl, by decide, ?_⟩
    show V 85 _ _ _ _ _
    refine k_aload_n C rfl rfl rfl ?_
    refine g_R C rfl rfl rfl T_r0 rfl R_r0_1 ?_
    refine z_iconst C (z := 5) rfl rfl rfl (fun x21 ex21 => ?_)
    obtain ⟨T_r0_1, N_r0_1, A_r0_1⟩ := id H_r0_1
    refine z_aI C rfl rfl T_r0_1 N_r0_1 (by omega) (by omega) (fun x22 ex22 => ?_)
    have gx22 := rg x22
    have nx22 : I2 r0_1 5 = x22 := (congrArg (I2 r0_1) (nck (n := 5) (by omega))).symm.trans ex22
    have ox22 := IM.c5 hI2 R_r0_1 nx22
    exact k_iret C rfl (Or.inl rfl) (Nat.le_of_ble_eq_true rfl) (Nat.le_of_ble_eq_true rfl) ⟨_, _, _, rfl, rfl, hI2, (CM.mono S3 (by decide) (by decide))⟩
  · skip
    refine ⟨84, by rw [h9]; rfl, by decide, ?_⟩
    show V 92 _ _ _ _ _
    refine z_iconst C (z := 0) rfl rfl rfl (fun x23 ex23 => ?_)
    have J24 : ∀ (nn25 : Nat) (I26 : IT) (L27 : LT) (x28 : Int32) (x29 : Int32), (MN (16 - x29.toInt) nn25) → (IM R r0 I26) → (CM A R r0 [] [4, 5] I2 L I26 L27) → (0 ≤ x29.toInt) → (x29.toInt ≤ 16) → V 94 [(0, .ref r0), (2, .int x28), (3, .int x29)] [] (T, N, I26, L27, R) 0 0 := by
      intro nn25
      induction nn25 using Nat.strongRecOn with
      | _ nn25 ihJ24 =>
        intro I26 L27 x28 x29 hmnn25 hI33 S32 b30 b31
        have gx28 := rg x28
        have gx29 := rg x29
        have e34 := CM.k S32 (by decide) e4
        refine k_iload_n C rfl rfl rfl ?_
        refine k_aload_n C rfl rfl rfl ?_
        refine g_R C rfl rfl rfl T_r0 rfl R_r0_1 ?_
        refine z_iconst C (z := 1) rfl rfl rfl (fun x35 ex35 => ?_)
        obtain ⟨T_r0_1, N_r0_1, A_r0_1⟩ := id H_r0_1
        refine z_aI C rfl rfl T_r0_1 N_r0_1 (by omega) (by omega) (fun x36 ex36 => ?_)
        have gx36 := rg x36
        have nx36 : I26 r0_1 1 = x36 := (congrArg (I26 r0_1) (nck (n := 1) (by omega))).symm.trans ex36
        have ox36 := IM.c1 hI33 R_r0_1 nx36
        refine b_icmp_ge C (t := 134) rfl rfl rfl (fun c37 => ?_) (fun c37 => ?_)
        · skip
          refine k_iload_n C rfl rfl rfl ?_
          exact k_iret C rfl (Or.inl rfl) (Nat.le_of_ble_eq_true rfl) (Nat.le_of_ble_eq_true rfl) ⟨_, _, _, rfl, rfl, hI33, (CM.cons S3 (CM.mono S32 (by decide) (by decide)) (by decide) (by decide))⟩
        refine k_aload_n C rfl rfl rfl ?_
        refine z_bipush C (z := 40) rfl rfl rfl (fun x38 ex38 => ?_)
        refine k_iload_n C rfl rfl rfl ?_
        obtain ⟨x39, e40⟩ : ∃ x, I26 r0_1 (6 + 10 * x29.toNatClampNeg) = x := ⟨_, rfl⟩
        have gx39 := rg x39
        obtain ⟨x41, e42⟩ : ∃ x, I26 r0_1 0 = x := ⟨_, rfl⟩
        have gx41 := rg x41
        have ox41 := IM.pi hI33 R_r0_1 e42
        have q43 : x38.toNatClampNeg = 40 := nck (by omega)
        refine c_VV C (a_X12_takes hI33 H_r0 (by omega) (by omega) (by omega) (by omega)) rfl rfl rfl rfl rfl ⟨_, rfl, rfl, T_r0, Nat.le_of_ble_eq_true rfl⟩ rfl rfl (Nat.le_of_ble_eq_true rfl) (Nat.le_of_ble_eq_true rfl) (Nat.le_of_ble_eq_true rfl) ?_
        rintro I45 L46 ⟨p0v44, p1v44, p2v44, p3v44, p4v44, hI45, S47⟩
        have p0v44 := p0v44 r0_4 R_r0_4
        have p1v44 := p1v44 r0_1 r0_4 R_r0_1 R_r0_4
        have p2v44 := p2v44 r0_1 r0_4 r0_5 R_r0_1 R_r0_4 R_r0_5
        have p3v44 := p3v44 r0_4 R_r0_4
        have p4v44 := p4v44 r0_5 R_r0_5
        try simp only [q43] at p3v44
        try simp only [q43] at p4v44
        have e48 := CM.k S47 (by decide) e34
        have e49 := CM.j S47 R_r0_1 (by decide) nx36
        have e50 := CM.j S47 R_r0_1 (by decide) e40
        have e51 := CM.j S47 R_r0_1 (by decide) e42
        obtain ⟨x52, e53⟩ : ∃ x, I45 r0_4 40 = x := ⟨_, rfl⟩
        have gx52 := rg x52
        have ox52 := IM.dgR hI45 R_r0_4 e53
        try simp only [q43, e34, nx36, e40, e42, e53] at p0v44
        try have q0v44 := congrArg Int32.toInt p0v44
        try simp only [q43, e34, nx36, e40, e42, e53] at p1v44
        try have q1v44 := congrArg Int32.toInt p1v44
        try simp only [q43, e34, nx36, e40, e42, e53] at p2v44
        try have q2v44 := congrArg Int32.toInt p2v44
        refine k_iload_n C rfl rfl rfl ?_
        refine k_aload_n C rfl rfl rfl ?_
        refine z_bipush C (z := 40) rfl rfl rfl (fun x54 ex54 => ?_)
        have q55 : x54.toNatClampNeg = 40 := nck (by omega)
        refine c_VI C (a_X12_isNought hI45 H_r0 (by omega) (by omega)) rfl rfl rfl rfl rfl ⟨_, rfl, rfl, T_r0, Nat.le_of_ble_eq_true rfl⟩ rfl rfl (Nat.le_of_ble_eq_true rfl) (Nat.le_of_ble_eq_true rfl) (Nat.le_of_ble_eq_true rfl) ?_
        rintro x56 _ _ ⟨o0x56, o1x56, p0x56, rfl, rfl⟩
        have p0x56 := p0x56 r0_4 r0_5 R_r0_4 R_r0_5
        have gx56 := rg x56
        try simp only [q55, e48, e49, e50, e51, e53] at p0x56
        try have q0x56 := congrArg Int32.toInt p0x56
        refine b_if_eq C (t := 125) rfl rfl rfl (fun c57 => ?_) (fun c57 => ?_)
        · skip
          refine z_iconst C (z := 0) rfl rfl rfl (fun x58 ex58 => ?_)
          refine z_iadd C rfl rfl ⟨by omega, by omega⟩ (fun x59 ex59 => ?_)
          refine k_istore_n C (lw := [(2, .int x59), (0, .ref r0), (3, .int x29)]) rfl rfl (Nat.le_of_ble_eq_true rfl) rfl ?_
          refine z_iinc C (z := 1) (lw := fun x60 => [(3, .int x60), (2, .int x59), (0, .ref r0)]) rfl rfl rfl (Nat.le_of_ble_eq_true rfl) rfl ⟨by omega, by omega⟩ (fun _ => rfl) (fun x60 ex60 => ?_)
          show V 131 [(3, .int x60), (2, .int x59), (0, .ref r0)] _ _ _ _
          refine k_goto C (pc2 := 94) rfl rfl ?_
          refine k_sub S [(0, .ref r0), (2, .int x59), (3, .int x60)] (List.forall_mem_cons.mpr ⟨List.mem_of_getElem? (i := 2) rfl, List.forall_mem_cons.mpr ⟨List.mem_of_getElem? (i := 1) rfl, List.forall_mem_cons.mpr ⟨List.mem_of_getElem? (i := 0) rfl, fun _ h => nomatch h⟩⟩⟩) ?_
          exact ihJ24 _ (MN.lt hmnn25 (by omega) (by omega)) I45 L46 x59 x60 rfl hI45 (CM.cons S32 (CM.mono S47 (by decide) (by decide)) (by decide) (by decide)) (by omega) (by omega)
        refine z_iconst C (z := 1) rfl rfl rfl (fun x61 ex61 => ?_)
        refine k_goto C (pc2 := 126) rfl rfl ?_
        refine zt_iadd C rfl rfl (fun x62 => ?_)
        have gx62 := rg x62
        refine k_istore_n C (lw := [(2, .int x62), (0, .ref r0), (3, .int x29)]) rfl rfl (Nat.le_of_ble_eq_true rfl) rfl ?_
        refine z_iinc C (z := 1) (lw := fun x63 => [(3, .int x63), (2, .int x62), (0, .ref r0)]) rfl rfl rfl (Nat.le_of_ble_eq_true rfl) rfl ⟨by omega, by omega⟩ (fun _ => rfl) (fun x63 ex63 => ?_)
        show V 131 [(3, .int x63), (2, .int x62), (0, .ref r0)] _ _ _ _
        refine k_goto C (pc2 := 94) rfl rfl ?_
        refine k_sub S [(0, .ref r0), (2, .int x62), (3, .int x63)] (List.forall_mem_cons.mpr ⟨List.mem_of_getElem? (i := 2) rfl, List.forall_mem_cons.mpr ⟨List.mem_of_getElem? (i := 1) rfl, List.forall_mem_cons.mpr ⟨List.mem_of_getElem? (i := 0) rfl, fun _ h => nomatch h⟩⟩⟩) ?_
        exact ihJ24 _ (MN.lt hmnn25 (by omega) (by omega)) I45 L46 x62 x63 rfl hI45 (CM.cons S32 (CM.mono S47 (by decide) (by decide)) (by decide) (by decide)) (by omega) (by omega)
    refine k_istore_n C (lw := [(3, .int x23), (2, .int x5), (0, .ref r0), (1, .int n1)]) rfl rfl (Nat.le_of_ble_eq_true rfl) rfl ?_
    refine k_sub S [(0, .ref r0), (2, .int x5), (3, .int x23)] (List.forall_mem_cons.mpr ⟨List.mem_of_getElem? (i := 2) rfl, List.forall_mem_cons.mpr ⟨List.mem_of_getElem? (i := 1) rfl, List.forall_mem_cons.mpr ⟨List.mem_of_getElem? (i := 0) rfl, fun _ h => nomatch h⟩⟩⟩) ?_
    exact J24 _ I2 L x5 x23 rfl hI2 CM.rf (by omega) (by omega)

