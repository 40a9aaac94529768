/-! the class in any state, the states' forms kept -/
theorem s_X11_value {d : Nat} {T N : Nat → Nat} {I : IT} {L : LT} {R : RT} {A B : Nat → Prop} {r0 : Nat} {n1 n2 n3 : Int32} (hS : SUB B A) (hI : IX A T I) (H_r0 : (hs_LF T N R A B) r0) : Ex (d + 7) 146 [.ref r0, .int n1, .int n2, .int n3] (T, N, I, L, R) 2 12 (pW [3] T N R (pI T N R (fun x9 I9 L9 => (IX A T I9 ∧ Chg B T [(2, 5), (3, 0)] I L I9 L9))) (fun I9 L9 => IX A T I9 ∧ Chg B T [(2, 5), (3, 0)] I L I9 L9)) := by
  refine ⟨_, rfl, Nat.le_of_ble_eq_true rfl, fun V C S => ?_⟩
  show V 0 [(0, .ref r0), (1, .int n1), (2, .int n2), (3, .int n3)] [] (T, N, I, L, R) 0 0
  have gn1 := rg n1
  have gn2 := rg n2
  have gn3 := rg n3
  refine k_aload_n C rfl rfl rfl ?_
  refine k_iload_n C rfl rfl rfl ?_
  obtain ⟨T_r0, A_r0, B_r0, ⟨r0_0, R_r0_0, H_r0_0⟩, ⟨r0_1, R_r0_1, H_r0_1⟩, ⟨r0_2, R_r0_2, H_r0_2⟩, ⟨r0_5, R_r0_5, H_r0_5⟩, ⟨r0_6, R_r0_6, H_r0_6⟩, ⟨r0_7, R_r0_7, H_r0_7⟩, ⟨r0_8, R_r0_8, H_r0_8⟩, ⟨r0_9, R_r0_9, H_r0_9⟩, ⟨r0_10, R_r0_10, H_r0_10⟩, ⟨r0_11, R_r0_11, H_r0_11⟩, ⟨r0_12, R_r0_12, H_r0_12⟩, ⟨r0_13, R_r0_13, H_r0_13⟩⟩ := id H_r0
  refine w_VR C (s_X11_toldSigns hS hI H_r0) rfl rfl rfl rfl rfl ⟨_, rfl, rfl, T_r0, Nat.le_of_ble_eq_true rfl⟩ rfl rfl (Nat.le_of_ble_eq_true rfl) (Nat.le_of_ble_eq_true rfl) (Nat.le_of_ble_eq_true rfl) (by decide) (fun e9 he I9 L9 hq => by obtain ⟨rfl, rfl⟩ := hq; exact Or.inl ⟨rfl, Or.inr ⟨e9, _, _, (by decide : ∀ z ∈ [3], z ∈ [3]) e9 he, rfl, rfl, hI, Chg.rf⟩⟩) ?_
  rintro yy1 _ _ ⟨hyy1, rfl, rfl⟩
  obtain ⟨rr2, err2, H_rr2⟩ := hyy1
  subst err2
  refine k_astore C (lw := [(4, .ref rr2), (0, .ref r0), (1, .int n1), (2, .int n2), (3, .int n3)]) rfl rfl (Nat.le_of_ble_eq_true rfl) rfl ?_
  refine k_aload_n C rfl rfl rfl ?_
  refine k_iload_n C rfl rfl rfl ?_
  refine w_VR C (s_X11_toldForm hS hI H_r0) rfl rfl rfl rfl rfl ⟨_, rfl, rfl, T_r0, Nat.le_of_ble_eq_true rfl⟩ rfl rfl (Nat.le_of_ble_eq_true rfl) (Nat.le_of_ble_eq_true rfl) (Nat.le_of_ble_eq_true rfl) (by decide) (fun e9 he I9 L9 hq => by obtain ⟨rfl, rfl⟩ := hq; exact Or.inl ⟨rfl, Or.inr ⟨e9, _, _, (by decide : ∀ z ∈ [3], z ∈ [3]) e9 he, rfl, rfl, hI, Chg.rf⟩⟩) ?_
  rintro yy3 _ _ ⟨hyy3, rfl, rfl⟩
  obtain ⟨rr4, err4, H_rr4⟩ := hyy3
  subst err4
  refine k_astore C (lw := [(5, .ref rr4), (4, .ref rr2), (0, .ref r0), (1, .int n1), (2, .int n2), (3, .int n3)]) rfl rfl (Nat.le_of_ble_eq_true rfl) rfl ?_
  refine k_aload_n C rfl rfl rfl ?_
  refine g_R C rfl rfl rfl T_r0 rfl R_r0_6 ?_
  refine k_aload C rfl rfl rfl ?_
  refine k_aload C rfl rfl rfl ?_
  obtain ⟨T_r0_6, A_r0_6, B_r0_6, ⟨r0_6_0, R_r0_6_0, H_r0_6_0⟩, ⟨r0_6_1, R_r0_6_1, H_r0_6_1⟩, ⟨r0_6_2, R_r0_6_2, H_r0_6_2⟩, ⟨r0_6_3, R_r0_6_3, H_r0_6_3⟩, ⟨r0_6_4, R_r0_6_4, H_r0_6_4⟩⟩ := id H_r0_6
  refine c_VR C (s_X1_valueOf hS hI H_r0_6 H_rr2 H_rr4) rfl rfl rfl rfl rfl ⟨_, rfl, rfl, T_r0_6, Nat.le_of_ble_eq_true rfl⟩ rfl rfl (Nat.le_of_ble_eq_true rfl) (Nat.le_of_ble_eq_true rfl) (Nat.le_of_ble_eq_true rfl) ?_
  rintro yy5 I6 L7 ⟨hyy5, hI6, S8⟩
  refine k_astoreV C (x := yy5) (lw := [(6, va_rf yy5), (5, .ref rr4), (4, .ref rr2), (0, .ref r0), (1, .int n1), (2, .int n2), (3, .int n3)]) rfl rfl (Nat.le_of_ble_eq_true rfl) rfl ?_
  refine k_aloadV C (x := yy5) rfl rfl rfl ?_
  refine k_ifnonnull C (x := yy5) (t := 37) rfl rfl rfl (fun c9 => ?_) (fun rr10 c9 => ?_)
  · skip
    subst c9
    refine z_bipush C (z := -2) rfl rfl rfl (fun x11 ex11 => ?_)
    refine k_goto C (pc2 := 43) rfl rfl ?_
    exact k_iret C rfl (Or.inl rfl) (Nat.le_of_ble_eq_true rfl) (Nat.le_of_ble_eq_true rfl) (Or.inl ⟨_, _, _, rfl, rfl, hI6, (Chg.mono S8 (by decide))⟩)
  subst c9
  have H_rr10 := hyy5 rr10 rfl
  refine k_aload C rfl rfl rfl ?_
  refine k_iload_n C rfl rfl rfl ?_
  refine c_SI C (s_X11_degreeOrNumber hS hI6 (hs_GF hS H_rr10)) rfl rfl rfl rfl rfl rfl rfl (Nat.le_of_ble_eq_true rfl) (Nat.le_of_ble_eq_true rfl) (Nat.le_of_ble_eq_true rfl) ?_
  rintro x12 _ _ ⟨rfl, rfl⟩
  have gx12 := rg x12
  exact k_iret C rfl (Or.inl rfl) (Nat.le_of_ble_eq_true rfl) (Nat.le_of_ble_eq_true rfl) (Or.inl ⟨_, _, _, rfl, rfl, hI6, (Chg.mono S8 (by decide))⟩)

theorem s_X11_rank {d : Nat} {T N : Nat → Nat} {I : IT} {L : LT} {R : RT} {A B : Nat → Prop} {r0 : Nat} {n1 n2 : Int32} (hS : SUB B A) (hI : IX A T I) (H_r0 : (hs_LF T N R A B) r0) (b0_n2 : 0 ≤ n2.toInt) (b1_n2 : n2.toInt ≤ 1) : Ex (d + 3) 147 [.ref r0, .int n1, .int n2] (T, N, I, L, R) 1 6 (pW [3] T N R (pI T N R (fun x9 I9 L9 => (IX A T I9 ∧ Chg B T [(2, 5)] I L I9 L9))) (fun I9 L9 => IX A T I9 ∧ Chg B T [(2, 5)] I L I9 L9)) := by
  refine ⟨_, rfl, Nat.le_of_ble_eq_true rfl, fun V C S => ?_⟩
  show V 0 [(0, .ref r0), (1, .int n1), (2, .int n2)] [] (T, N, I, L, R) 0 0
  have gn1 := rg n1
  have gn2 := rg n2
  refine k_aload_n C rfl rfl rfl ?_
  obtain ⟨T_r0, A_r0, B_r0, ⟨r0_0, R_r0_0, H_r0_0⟩, ⟨r0_1, R_r0_1, H_r0_1⟩, ⟨r0_2, R_r0_2, H_r0_2⟩, ⟨r0_5, R_r0_5, H_r0_5⟩, ⟨r0_6, R_r0_6, H_r0_6⟩, ⟨r0_7, R_r0_7, H_r0_7⟩, ⟨r0_8, R_r0_8, H_r0_8⟩, ⟨r0_9, R_r0_9, H_r0_9⟩, ⟨r0_10, R_r0_10, H_r0_10⟩, ⟨r0_11, R_r0_11, H_r0_11⟩, ⟨r0_12, R_r0_12, H_r0_12⟩, ⟨r0_13, R_r0_13, H_r0_13⟩⟩ := id H_r0
  refine g_R C rfl rfl rfl T_r0 rfl R_r0_6 ?_
  refine k_aload_n C rfl rfl rfl ?_
  refine k_iload_n C rfl rfl rfl ?_
  refine w_VR C (s_X11_toldSigns hS hI H_r0) rfl rfl rfl rfl rfl ⟨_, rfl, rfl, T_r0, Nat.le_of_ble_eq_true rfl⟩ rfl rfl (Nat.le_of_ble_eq_true rfl) (Nat.le_of_ble_eq_true rfl) (Nat.le_of_ble_eq_true rfl) (by decide) (fun e9 he I9 L9 hq => by obtain ⟨rfl, rfl⟩ := hq; exact Or.inl ⟨rfl, Or.inr ⟨e9, _, _, (by decide : ∀ z ∈ [3], z ∈ [3]) e9 he, rfl, rfl, hI, Chg.rf⟩⟩) ?_
  rintro yy1 _ _ ⟨hyy1, rfl, rfl⟩
  obtain ⟨rr2, err2, H_rr2⟩ := hyy1
  subst err2
  refine k_iload_n C rfl rfl rfl ?_
  obtain ⟨T_r0_6, A_r0_6, B_r0_6, ⟨r0_6_0, R_r0_6_0, H_r0_6_0⟩, ⟨r0_6_1, R_r0_6_1, H_r0_6_1⟩, ⟨r0_6_2, R_r0_6_2, H_r0_6_2⟩, ⟨r0_6_3, R_r0_6_3, H_r0_6_3⟩, ⟨r0_6_4, R_r0_6_4, H_r0_6_4⟩⟩ := id H_r0_6
  refine c_VI C (s_X1_total hS hI H_r0_6 H_rr2 (by omega) (by omega)) rfl rfl rfl rfl rfl ⟨_, rfl, rfl, T_r0_6, Nat.le_of_ble_eq_true rfl⟩ rfl rfl (Nat.le_of_ble_eq_true rfl) (Nat.le_of_ble_eq_true rfl) (Nat.le_of_ble_eq_true rfl) ?_
  rintro x3 I4 L5 ⟨hI4, S6⟩
  have gx3 := rg x3
  exact k_iret C rfl (Or.inl rfl) (Nat.le_of_ble_eq_true rfl) (Nat.le_of_ble_eq_true rfl) (Or.inl ⟨_, _, _, rfl, rfl, hI4, (Chg.mono S6 (by decide))⟩)

theorem s_X11_stays {d : Nat} {T N : Nat → Nat} {I : IT} {L : LT} {R : RT} {A B : Nat → Prop} {r0 : Nat} {n1 n2 n3 : Int32} (hS : SUB B A) (hI : IX A T I) (H_r0 : (hs_LF T N R A B) r0) : Ex (d + 7) 148 [.ref r0, .int n1, .int n2, .int n3] (T, N, I, L, R) 3 18 (pW [3] T N R (pI T N R (fun x9 I9 L9 => (0 ≤ x9.toInt) ∧ (x9.toInt ≤ 1) ∧ (IX A T I9 ∧ Chg B T [(2, 5), (3, 0)] I L I9 L9))) (fun I9 L9 => IX A T I9 ∧ Chg B T [(2, 5), (3, 0)] I L I9 L9)) := by
  refine ⟨_, rfl, Nat.le_of_ble_eq_true rfl, fun V C S => ?_⟩
  show V 0 [(0, .ref r0), (1, .int n1), (2, .int n2), (3, .int n3)] [] (T, N, I, L, R) 0 0
  have gn1 := rg n1
  have gn2 := rg n2
  have gn3 := rg n3
  refine k_aload_n C rfl rfl rfl ?_
  refine k_iload_n C rfl rfl rfl ?_
  obtain ⟨T_r0, A_r0, B_r0, ⟨r0_0, R_r0_0, H_r0_0⟩, ⟨r0_1, R_r0_1, H_r0_1⟩, ⟨r0_2, R_r0_2, H_r0_2⟩, ⟨r0_5, R_r0_5, H_r0_5⟩, ⟨r0_6, R_r0_6, H_r0_6⟩, ⟨r0_7, R_r0_7, H_r0_7⟩, ⟨r0_8, R_r0_8, H_r0_8⟩, ⟨r0_9, R_r0_9, H_r0_9⟩, ⟨r0_10, R_r0_10, H_r0_10⟩, ⟨r0_11, R_r0_11, H_r0_11⟩, ⟨r0_12, R_r0_12, H_r0_12⟩, ⟨r0_13, R_r0_13, H_r0_13⟩⟩ := id H_r0
  refine w_VR C (s_X11_toldSigns hS hI H_r0) rfl rfl rfl rfl rfl ⟨_, rfl, rfl, T_r0, Nat.le_of_ble_eq_true rfl⟩ rfl rfl (Nat.le_of_ble_eq_true rfl) (Nat.le_of_ble_eq_true rfl) (Nat.le_of_ble_eq_true rfl) (by decide) (fun e9 he I9 L9 hq => by obtain ⟨rfl, rfl⟩ := hq; exact Or.inl ⟨rfl, Or.inr ⟨e9, _, _, (by decide : ∀ z ∈ [3], z ∈ [3]) e9 he, rfl, rfl, hI, Chg.rf⟩⟩) ?_
  rintro yy1 _ _ ⟨hyy1, rfl, rfl⟩
  obtain ⟨rr2, err2, H_rr2⟩ := hyy1
  subst err2
  refine k_astore C (lw := [(4, .ref rr2), (0, .ref r0), (1, .int n1), (2, .int n2), (3, .int n3)]) rfl rfl (Nat.le_of_ble_eq_true rfl) rfl ?_
  refine k_aload_n C rfl rfl rfl ?_
  refine k_iload_n C rfl rfl rfl ?_
  refine w_VR C (s_X11_toldForm hS hI H_r0) rfl rfl rfl rfl rfl ⟨_, rfl, rfl, T_r0, Nat.le_of_ble_eq_true rfl⟩ rfl rfl (Nat.le_of_ble_eq_true rfl) (Nat.le_of_ble_eq_true rfl) (Nat.le_of_ble_eq_true rfl) (by decide) (fun e9 he I9 L9 hq => by obtain ⟨rfl, rfl⟩ := hq; exact Or.inl ⟨rfl, Or.inr ⟨e9, _, _, (by decide : ∀ z ∈ [3], z ∈ [3]) e9 he, rfl, rfl, hI, Chg.rf⟩⟩) ?_
  rintro yy3 _ _ ⟨hyy3, rfl, rfl⟩
  obtain ⟨rr4, err4, H_rr4⟩ := hyy3
  subst err4
  refine k_astore C (lw := [(5, .ref rr4), (4, .ref rr2), (0, .ref r0), (1, .int n1), (2, .int n2), (3, .int n3)]) rfl rfl (Nat.le_of_ble_eq_true rfl) rfl ?_
  refine k_aload_n C rfl rfl rfl ?_
  refine k_iload_n C rfl rfl rfl ?_
  refine w_VR C (s_X11_toldTable hS hI H_r0) rfl rfl rfl rfl rfl ⟨_, rfl, rfl, T_r0, Nat.le_of_ble_eq_true rfl⟩ rfl rfl (Nat.le_of_ble_eq_true rfl) (Nat.le_of_ble_eq_true rfl) (Nat.le_of_ble_eq_true rfl) (by decide) (fun e9 he I9 L9 hq => by obtain ⟨rfl, rfl⟩ := hq; exact Or.inl ⟨rfl, Or.inr ⟨e9, _, _, (by decide : ∀ z ∈ [3], z ∈ [3]) e9 he, rfl, rfl, hI, Chg.rf⟩⟩) ?_
  rintro yy5 _ _ ⟨hyy5, rfl, rfl⟩
  obtain ⟨rr6, err6, H_rr6⟩ := hyy5
  subst err6
  refine k_astore C (lw := [(6, .ref rr6), (5, .ref rr4), (4, .ref rr2), (0, .ref r0), (1, .int n1), (2, .int n2), (3, .int n3)]) rfl rfl (Nat.le_of_ble_eq_true rfl) rfl ?_
  refine k_aload_n C rfl rfl rfl ?_
  refine g_R C rfl rfl rfl T_r0 rfl R_r0_6 ?_
  refine k_aload C rfl rfl rfl ?_
  refine z_iconst C (z := 1) rfl rfl rfl (fun x7 ex7 => ?_)
  obtain ⟨T_r0_6, A_r0_6, B_r0_6, ⟨r0_6_0, R_r0_6_0, H_r0_6_0⟩, ⟨r0_6_1, R_r0_6_1, H_r0_6_1⟩, ⟨r0_6_2, R_r0_6_2, H_r0_6_2⟩, ⟨r0_6_3, R_r0_6_3, H_r0_6_3⟩, ⟨r0_6_4, R_r0_6_4, H_r0_6_4⟩⟩ := id H_r0_6
  refine c_VI C (s_X1_total hS hI H_r0_6 H_rr2 (by omega) (by omega)) rfl rfl rfl rfl rfl ⟨_, rfl, rfl, T_r0_6, Nat.le_of_ble_eq_true rfl⟩ rfl rfl (Nat.le_of_ble_eq_true rfl) (Nat.le_of_ble_eq_true rfl) (Nat.le_of_ble_eq_true rfl) ?_
  rintro x8 I9 L10 ⟨hI9, S11⟩
  have gx8 := rg x8
  refine k_istore C (lw := [(7, .int x8), (6, .ref rr6), (5, .ref rr4), (4, .ref rr2), (0, .ref r0), (1, .int n1), (2, .int n2), (3, .int n3)]) rfl rfl (Nat.le_of_ble_eq_true rfl) rfl ?_
  refine k_iload C rfl rfl rfl ?_
  refine z_iconst C (z := -1) rfl rfl rfl (fun x12 ex12 => ?_)
  refine b_icmp_ne C (t := 41) rfl rfl rfl (fun c13 => ?_) (fun c13 => ?_)
  · skip
    refine k_aload_n C rfl rfl rfl ?_
    refine g_R C rfl rfl rfl T_r0 rfl R_r0_6 ?_
    refine k_aload C rfl rfl rfl ?_
    refine k_aload C rfl rfl rfl ?_
    refine c_VR C (s_X1_valueOf hS hI9 H_r0_6 H_rr2 H_rr4) rfl rfl rfl rfl rfl ⟨_, rfl, rfl, T_r0_6, Nat.le_of_ble_eq_true rfl⟩ rfl rfl (Nat.le_of_ble_eq_true rfl) (Nat.le_of_ble_eq_true rfl) (Nat.le_of_ble_eq_true rfl) ?_
    rintro yy14 I15 L16 ⟨hyy14, hI15, S17⟩
    refine k_astoreV C (x := yy14) (lw := [(8, va_rf yy14), (7, .int x8), (6, .ref rr6), (5, .ref rr4), (4, .ref rr2), (0, .ref r0), (1, .int n1), (2, .int n2), (3, .int n3)]) rfl rfl (Nat.le_of_ble_eq_true rfl) rfl ?_
    refine k_aloadV C (x := yy14) rfl rfl rfl ?_
    refine k_ifnonnull C (x := yy14) (t := 61) rfl rfl rfl (fun c18 => ?_) (fun rr19 c18 => ?_)
    · skip
      subst c18
      refine z_iconst C (z := 0) rfl rfl rfl (fun x20 ex20 => ?_)
      exact k_iret C rfl (Or.inr ⟨rfl, z01 (by omega) (by omega)⟩) (Nat.le_of_ble_eq_true rfl) (Nat.le_of_ble_eq_true rfl) (Or.inl ⟨_, _, _, rfl, rfl, by omega, by omega, hI15, (Chg.cons S11 (Chg.mono S17 (by decide)) (by decide))⟩)
    subst c18
    have H_rr19 := hyy14 rr19 rfl
    refine k_aload_n C rfl rfl rfl ?_
    refine g_R C rfl rfl rfl T_r0 rfl R_r0_5 ?_
    refine k_aload C rfl rfl rfl ?_
    refine k_aload C rfl rfl rfl ?_
    refine k_aload_n C rfl rfl rfl ?_
    refine g_R C rfl rfl rfl T_r0 rfl R_r0_11 ?_
    obtain ⟨T_r0_5, A_r0_5, B_r0_5, ⟨r0_5_0, R_r0_5_0, H_r0_5_0⟩, ⟨r0_5_1, R_r0_5_1, H_r0_5_1⟩, ⟨r0_5_2, R_r0_5_2, H_r0_5_2⟩⟩ := id H_r0_5
    refine c_VV C (s_X0_mixInto hS hI15 H_r0_5 (hs_GF hS H_rr19) H_rr6 H_r0_11) rfl rfl rfl rfl rfl ⟨_, rfl, rfl, T_r0_5, Nat.le_of_ble_eq_true rfl⟩ rfl rfl (Nat.le_of_ble_eq_true rfl) (Nat.le_of_ble_eq_true rfl) (Nat.le_of_ble_eq_true rfl) ?_
    rintro I22 L23 ⟨hI22, S24⟩
    refine k_aload_n C rfl rfl rfl ?_
    refine g_R C rfl rfl rfl T_r0 rfl R_r0_5 ?_
    refine k_aload_n C rfl rfl rfl ?_
    refine g_R C rfl rfl rfl T_r0 rfl R_r0_5 ?_
    refine k_aload C rfl rfl rfl ?_
    obtain ⟨T_rr6, A_rr6, B_rr6⟩ := id H_rr6
    refine z_gI C rfl rfl rfl T_rr6 rfl (fun x25 ex25 => ?_)
    have gx25 := rg x25
    refine k_aload C rfl rfl rfl ?_
    refine z_gI C rfl rfl rfl T_rr6 rfl (fun x26 ex26 => ?_)
    have gx26 := rg x26
    refine k_aload C rfl rfl rfl ?_
    refine z_gI C rfl rfl rfl T_rr6 rfl (fun x27 ex27 => ?_)
    have gx27 := rg x27
    refine k_aload C rfl rfl rfl ?_
    refine z_gI C rfl rfl rfl T_rr6 rfl (fun x28 ex28 => ?_)
    have gx28 := rg x28
    refine c_VI C (s_X0_detOf hS hI22 H_r0_5) rfl rfl rfl rfl rfl ⟨_, rfl, rfl, T_r0_5, Nat.le_of_ble_eq_true rfl⟩ rfl rfl (Nat.le_of_ble_eq_true rfl) (Nat.le_of_ble_eq_true rfl) (Nat.le_of_ble_eq_true rfl) ?_
    rintro x29 _ _ ⟨rfl, rfl⟩
    have gx29 := rg x29
    refine k_iload C rfl rfl rfl ?_
    refine c_VI C (s_X0_power hS hI22 H_r0_5) rfl rfl rfl rfl rfl ⟨_, rfl, rfl, T_r0_5, Nat.le_of_ble_eq_true rfl⟩ rfl rfl (Nat.le_of_ble_eq_true rfl) (Nat.le_of_ble_eq_true rfl) (Nat.le_of_ble_eq_true rfl) ?_
    rintro x30 _ _ ⟨rfl, rfl⟩
    have gx30 := rg x30
    refine k_istore C (lw := [(9, .int x30), (8, .ref rr19), (7, .int x8), (6, .ref rr6), (5, .ref rr4), (4, .ref rr2), (0, .ref r0), (1, .int n1), (2, .int n2), (3, .int n3)]) rfl rfl (Nat.le_of_ble_eq_true rfl) rfl ?_
    refine k_aload_n C rfl rfl rfl ?_
    refine g_R C rfl rfl rfl T_r0 rfl R_r0_5 ?_
    refine k_aload_n C rfl rfl rfl ?_
    refine g_R C rfl rfl rfl T_r0 rfl R_r0_11 ?_
    refine k_iload C rfl rfl rfl ?_
    refine c_VV C (s_X0_scale hS hI22 H_r0_5 H_r0_11) rfl rfl rfl rfl rfl ⟨_, rfl, rfl, T_r0_5, Nat.le_of_ble_eq_true rfl⟩ rfl rfl (Nat.le_of_ble_eq_true rfl) (Nat.le_of_ble_eq_true rfl) (Nat.le_of_ble_eq_true rfl) ?_
    rintro I32 L33 ⟨hI32, S34⟩
    have e35 := Chg.k S34 T_rr6 (by decide) (by decide) ex25
    have e36 := Chg.k S34 T_rr6 (by decide) (by decide) ex26
    have e37 := Chg.k S34 T_rr6 (by decide) (by decide) ex27
    have e38 := Chg.k S34 T_rr6 (by decide) (by decide) ex28
    refine k_aload_n C rfl rfl rfl ?_
    refine g_R C rfl rfl rfl T_r0 rfl R_r0_5 ?_
    refine k_aload C rfl rfl rfl ?_
    refine k_aload C rfl rfl rfl ?_
    refine k_aload_n C rfl rfl rfl ?_
    refine g_R C rfl rfl rfl T_r0 rfl R_r0_12 ?_
    refine c_VV C (s_X0_mixInto hS hI32 H_r0_5 H_rr4 H_rr6 H_r0_12) rfl rfl rfl rfl rfl ⟨_, rfl, rfl, T_r0_5, Nat.le_of_ble_eq_true rfl⟩ rfl rfl (Nat.le_of_ble_eq_true rfl) (Nat.le_of_ble_eq_true rfl) (Nat.le_of_ble_eq_true rfl) ?_
    rintro I40 L41 ⟨hI40, S42⟩
    have e43 := Chg.k S42 T_rr6 (by decide) (by decide) e35
    have e44 := Chg.k S42 T_rr6 (by decide) (by decide) e36
    have e45 := Chg.k S42 T_rr6 (by decide) (by decide) e37
    have e46 := Chg.k S42 T_rr6 (by decide) (by decide) e38
    refine k_aload_n C rfl rfl rfl ?_
    refine g_R C rfl rfl rfl T_r0 rfl R_r0_6 ?_
    refine k_aload C rfl rfl rfl ?_
    refine k_aload_n C rfl rfl rfl ?_
    refine g_R C rfl rfl rfl T_r0 rfl R_r0_12 ?_
    refine c_VR C (s_X1_valueOf hS hI40 H_r0_6 H_rr2 (hs_GF hS H_r0_12)) rfl rfl rfl rfl rfl ⟨_, rfl, rfl, T_r0_6, Nat.le_of_ble_eq_true rfl⟩ rfl rfl (Nat.le_of_ble_eq_true rfl) (Nat.le_of_ble_eq_true rfl) (Nat.le_of_ble_eq_true rfl) ?_
    rintro yy47 I48 L49 ⟨hyy47, hI48, S50⟩
    have e51 := Chg.k S50 T_rr6 (by decide) (by decide) e43
    have e52 := Chg.k S50 T_rr6 (by decide) (by decide) e44
    have e53 := Chg.k S50 T_rr6 (by decide) (by decide) e45
    have e54 := Chg.k S50 T_rr6 (by decide) (by decide) e46
    refine k_astoreV C (x := yy47) (lw := [(10, va_rf yy47), (9, .int x30), (8, .ref rr19), (7, .int x8), (6, .ref rr6), (5, .ref rr4), (4, .ref rr2), (0, .ref r0), (1, .int n1), (2, .int n2), (3, .int n3)]) rfl rfl (Nat.le_of_ble_eq_true rfl) rfl ?_
    refine k_aloadV C (x := yy47) rfl rfl rfl ?_
    refine k_ifnull C (x := yy47) (t := 178) rfl rfl rfl (fun c55 => ?_) (fun rr56 c55 => ?_)
    · skip
      subst c55
      refine z_iconst C (z := 0) rfl rfl rfl (fun x57 ex57 => ?_)
      exact k_iret C rfl (Or.inr ⟨rfl, z01 (by omega) (by omega)⟩) (Nat.le_of_ble_eq_true rfl) (Nat.le_of_ble_eq_true rfl) (Or.inl ⟨_, _, _, rfl, rfl, by omega, by omega, hI48, (Chg.cons S11 (Chg.cons S17 (Chg.cons S24 (Chg.cons S34 (Chg.cons S42 (Chg.mono S50 (by decide)) (by decide)) (by decide)) (by decide)) (by decide)) (by decide))⟩)
    subst c55
    have H_rr56 := hyy47 rr56 rfl
    refine k_aload C rfl rfl rfl ?_
    refine k_aload_n C rfl rfl rfl ?_
    refine g_R C rfl rfl rfl T_r0 rfl R_r0_11 ?_
    obtain ⟨T_rr56, A_rr56, B_rr56, ⟨rr56_1, R_rr56_1, H_rr56_1⟩⟩ := id H_rr56
    refine c_VI C (s_X2_matches hS hI48 (hs_GF hS H_rr56) (hs_GF hS H_r0_11)) rfl rfl rfl rfl rfl ⟨_, rfl, rfl, T_rr56, Nat.le_of_ble_eq_true rfl⟩ rfl rfl (Nat.le_of_ble_eq_true rfl) (Nat.le_of_ble_eq_true rfl) (Nat.le_of_ble_eq_true rfl) ?_
    rintro x58 _ _ ⟨o0x58, o1x58, rfl, rfl⟩
    have gx58 := rg x58
    refine b_if_eq C (t := 178) rfl rfl rfl (fun c59 => ?_) (fun c59 => ?_)
    · skip
      refine z_iconst C (z := 0) rfl rfl rfl (fun x60 ex60 => ?_)
      exact k_iret C rfl (Or.inr ⟨rfl, z01 (by omega) (by omega)⟩) (Nat.le_of_ble_eq_true rfl) (Nat.le_of_ble_eq_true rfl) (Or.inl ⟨_, _, _, rfl, rfl, by omega, by omega, hI48, (Chg.cons S11 (Chg.cons S17 (Chg.cons S24 (Chg.cons S34 (Chg.cons S42 (Chg.mono S50 (by decide)) (by decide)) (by decide)) (by decide)) (by decide)) (by decide))⟩)
    refine z_iconst C (z := 1) rfl rfl rfl (fun x61 ex61 => ?_)
    refine k_goto C (pc2 := 179) rfl rfl ?_
    exact k_iret C rfl (Or.inr ⟨rfl, z01 (by omega) (by omega)⟩) (Nat.le_of_ble_eq_true rfl) (Nat.le_of_ble_eq_true rfl) (Or.inl ⟨_, _, _, rfl, rfl, by omega, by omega, hI48, (Chg.cons S11 (Chg.cons S17 (Chg.cons S24 (Chg.cons S34 (Chg.cons S42 (Chg.mono S50 (by decide)) (by decide)) (by decide)) (by decide)) (by decide)) (by decide))⟩)
  refine z_iconst C (z := 0) rfl rfl rfl (fun x62 ex62 => ?_)
  exact k_iret C rfl (Or.inr ⟨rfl, z01 (by omega) (by omega)⟩) (Nat.le_of_ble_eq_true rfl) (Nat.le_of_ble_eq_true rfl) (Or.inl ⟨_, _, _, rfl, rfl, by omega, by omega, hI9, (Chg.mono S11 (by decide))⟩)

theorem s_X11_isOneValue {d : Nat} {T N : Nat → Nat} {I : IT} {L : LT} {R : RT} {A B : Nat → Prop} {r0 r1 r2 r3 : Nat} (hS : SUB B A) (hI : IX A T I) (H_r0 : (hs_LF T N R A B) r0) (H_r1 : (hs_Sg T N R A B) r1) (H_r2 : (hs_Sg T N R A B) r2) (H_r3 : (hs_F T N R A B) r3) : Ex (d + 7) 149 [.ref r0, .ref r1, .ref r2, .ref r3] (T, N, I, L, R) 0 0 (pI T N R (fun x9 I9 L9 => (0 ≤ x9.toInt) ∧ (x9.toInt ≤ 1) ∧ (IX A T I9 ∧ Chg B T [(2, 5), (3, 0)] I L I9 L9))) := by
  refine ⟨_, rfl, Nat.le_of_ble_eq_true rfl, fun V C S => ?_⟩
  show V 0 [(0, .ref r0), (1, .ref r1), (2, .ref r2), (3, .ref r3)] [] (T, N, I, L, R) 0 0
  refine k_aload_n C rfl rfl rfl ?_
  obtain ⟨T_r0, A_r0, B_r0, ⟨r0_0, R_r0_0, H_r0_0⟩, ⟨r0_1, R_r0_1, H_r0_1⟩, ⟨r0_2, R_r0_2, H_r0_2⟩, ⟨r0_5, R_r0_5, H_r0_5⟩, ⟨r0_6, R_r0_6, H_r0_6⟩, ⟨r0_7, R_r0_7, H_r0_7⟩, ⟨r0_8, R_r0_8, H_r0_8⟩, ⟨r0_9, R_r0_9, H_r0_9⟩, ⟨r0_10, R_r0_10, H_r0_10⟩, ⟨r0_11, R_r0_11, H_r0_11⟩, ⟨r0_12, R_r0_12, H_r0_12⟩, ⟨r0_13, R_r0_13, H_r0_13⟩⟩ := id H_r0
  refine g_R C rfl rfl rfl T_r0 rfl R_r0_6 ?_
  refine k_aload_n C rfl rfl rfl ?_
  refine k_aload_n C rfl rfl rfl ?_
  obtain ⟨T_r0_6, A_r0_6, B_r0_6, ⟨r0_6_0, R_r0_6_0, H_r0_6_0⟩, ⟨r0_6_1, R_r0_6_1, H_r0_6_1⟩, ⟨r0_6_2, R_r0_6_2, H_r0_6_2⟩, ⟨r0_6_3, R_r0_6_3, H_r0_6_3⟩, ⟨r0_6_4, R_r0_6_4, H_r0_6_4⟩⟩ := id H_r0_6
  refine c_VR C (s_X1_valueOf hS hI H_r0_6 H_r1 H_r3) rfl rfl rfl rfl rfl ⟨_, rfl, rfl, T_r0_6, Nat.le_of_ble_eq_true rfl⟩ rfl rfl (Nat.le_of_ble_eq_true rfl) (Nat.le_of_ble_eq_true rfl) (Nat.le_of_ble_eq_true rfl) ?_
  rintro yy1 I2 L3 ⟨hyy1, hI2, S4⟩
  refine k_astoreV C (x := yy1) (lw := [(4, va_rf yy1), (0, .ref r0), (1, .ref r1), (2, .ref r2), (3, .ref r3)]) rfl rfl (Nat.le_of_ble_eq_true rfl) rfl ?_
  refine k_aloadV C (x := yy1) rfl rfl rfl ?_
  refine k_ifnull C (x := yy1) (t := 20) rfl rfl rfl (fun c5 => ?_) (fun rr6 c5 => ?_)
  · skip
    subst c5
    refine z_iconst C (z := 0) rfl rfl rfl (fun x7 ex7 => ?_)
    refine k_istore C (lw := [(5, .int x7), (4, va_rf none), (0, .ref r0), (1, .ref r1), (2, .ref r2), (3, .ref r3)]) rfl rfl (Nat.le_of_ble_eq_true rfl) rfl ?_
    refine k_aloadV C (x := none) rfl rfl rfl ?_
    have J8 : ∀ (I10 : IT) (L11 : LT), (IX A T I10) → (Chg B T [(3, 0)] I2 L3 I10 L11) → V 37 [(0, .ref r0), (2, .ref r2), (3, .ref r3), (5, .int x7)] [] (T, N, I10, L11, R) 0 0 := by
      intro I10 L11 hI13 S12
      refine k_aload_n C rfl rfl rfl ?_
      refine g_R C rfl rfl rfl T_r0 rfl R_r0_6 ?_
      refine k_aload_n C rfl rfl rfl ?_
      refine k_aload_n C rfl rfl rfl ?_
      refine c_VR C (s_X1_valueOf hS hI13 H_r0_6 H_r2 H_r3) rfl rfl rfl rfl rfl ⟨_, rfl, rfl, T_r0_6, Nat.le_of_ble_eq_true rfl⟩ rfl rfl (Nat.le_of_ble_eq_true rfl) (Nat.le_of_ble_eq_true rfl) (Nat.le_of_ble_eq_true rfl) ?_
      rintro yy14 I15 L16 ⟨hyy14, hI15, S17⟩
      refine k_astoreV C (x := yy14) (lw := [(6, va_rf yy14), (0, .ref r0), (2, .ref r2), (3, .ref r3), (5, .int x7)]) rfl rfl (Nat.le_of_ble_eq_true rfl) rfl ?_
      refine k_aloadV C (x := yy14) rfl rfl rfl ?_
      refine k_ifnonnull C (x := yy14) (t := 64) rfl rfl rfl (fun c18 => ?_) (fun rr19 c18 => ?_)
      · skip
        subst c18
        refine k_iload C rfl rfl rfl ?_
        refine b_if_ne C (t := 62) rfl rfl rfl (fun c20 => by exfalso; omega) (fun c20 => ?_)
        refine z_iconst C (z := 1) rfl rfl rfl (fun x21 ex21 => ?_)
        refine k_goto C (pc2 := 63) rfl rfl ?_
        exact k_iret C rfl (Or.inr ⟨rfl, z01 (by omega) (by omega)⟩) (Nat.le_of_ble_eq_true rfl) (Nat.le_of_ble_eq_true rfl) ⟨_, _, _, rfl, rfl, by omega, by omega, hI15, (Chg.cons S4 (Chg.cons S12 (Chg.mono S17 (by decide)) (by decide)) (by decide))⟩
      subst c18
      have H_rr19 := hyy14 rr19 rfl
      refine k_iload C rfl rfl rfl ?_
      refine b_if_eq C (t := 85) rfl rfl rfl (fun c22 => ?_) (fun c22 => by exfalso; omega)
      refine z_iconst C (z := 0) rfl rfl rfl (fun x23 ex23 => ?_)
      exact k_iret C rfl (Or.inr ⟨rfl, z01 (by omega) (by omega)⟩) (Nat.le_of_ble_eq_true rfl) (Nat.le_of_ble_eq_true rfl) ⟨_, _, _, rfl, rfl, by omega, by omega, hI15, (Chg.cons S4 (Chg.cons S12 (Chg.mono S17 (by decide)) (by decide)) (by decide))⟩
    refine k_ifnull C (x := none) (t := 37) rfl rfl rfl (fun _ => ?_) (fun _ c24 => nomatch c24)
    refine k_sub S [(0, .ref r0), (2, .ref r2), (3, .ref r3), (5, .int x7)] (List.forall_mem_cons.mpr ⟨List.mem_of_getElem? (i := 2) rfl, List.forall_mem_cons.mpr ⟨List.mem_of_getElem? (i := 4) rfl, List.forall_mem_cons.mpr ⟨List.mem_of_getElem? (i := 5) rfl, List.forall_mem_cons.mpr ⟨List.mem_of_getElem? (i := 0) rfl, fun _ h => nomatch h⟩⟩⟩⟩) ?_
    exact J8 I2 L3 hI2 Chg.rf
  subst c5
  have H_rr6 := hyy1 rr6 rfl
  refine z_iconst C (z := 1) rfl rfl rfl (fun x26 ex26 => ?_)
  refine k_goto C (pc2 := 21) rfl rfl ?_
  refine k_istore C (lw := [(5, .int x26), (4, .ref rr6), (0, .ref r0), (1, .ref r1), (2, .ref r2), (3, .ref r3)]) rfl rfl (Nat.le_of_ble_eq_true rfl) rfl ?_
  refine k_aload C rfl rfl rfl ?_
  have J27 : ∀ (I29 : IT) (L30 : LT), (IX A T I29) → (Chg B T [(3, 0)] I2 L3 I29 L30) → V 37 [(0, .ref r0), (2, .ref r2), (3, .ref r3), (5, .int x26)] [] (T, N, I29, L30, R) 0 0 := by
    intro I29 L30 hI32 S31
    refine k_aload_n C rfl rfl rfl ?_
    refine g_R C rfl rfl rfl T_r0 rfl R_r0_6 ?_
    refine k_aload_n C rfl rfl rfl ?_
    refine k_aload_n C rfl rfl rfl ?_
    refine c_VR C (s_X1_valueOf hS hI32 H_r0_6 H_r2 H_r3) rfl rfl rfl rfl rfl ⟨_, rfl, rfl, T_r0_6, Nat.le_of_ble_eq_true rfl⟩ rfl rfl (Nat.le_of_ble_eq_true rfl) (Nat.le_of_ble_eq_true rfl) (Nat.le_of_ble_eq_true rfl) ?_
    rintro yy33 I34 L35 ⟨hyy33, hI34, S36⟩
    refine k_astoreV C (x := yy33) (lw := [(6, va_rf yy33), (0, .ref r0), (2, .ref r2), (3, .ref r3), (5, .int x26)]) rfl rfl (Nat.le_of_ble_eq_true rfl) rfl ?_
    refine k_aloadV C (x := yy33) rfl rfl rfl ?_
    refine k_ifnonnull C (x := yy33) (t := 64) rfl rfl rfl (fun c37 => ?_) (fun rr38 c37 => ?_)
    · skip
      subst c37
      refine k_iload C rfl rfl rfl ?_
      refine b_if_ne C (t := 62) rfl rfl rfl (fun c39 => ?_) (fun c39 => by exfalso; omega)
      refine z_iconst C (z := 0) rfl rfl rfl (fun x40 ex40 => ?_)
      exact k_iret C rfl (Or.inr ⟨rfl, z01 (by omega) (by omega)⟩) (Nat.le_of_ble_eq_true rfl) (Nat.le_of_ble_eq_true rfl) ⟨_, _, _, rfl, rfl, by omega, by omega, hI34, (Chg.cons S4 (Chg.cons S31 (Chg.mono S36 (by decide)) (by decide)) (by decide))⟩
    subst c37
    have H_rr38 := hyy33 rr38 rfl
    refine k_iload C rfl rfl rfl ?_
    refine b_if_eq C (t := 85) rfl rfl rfl (fun c41 => by exfalso; omega) (fun c41 => ?_)
    refine k_aload_n C rfl rfl rfl ?_
    refine g_R C rfl rfl rfl T_r0 rfl R_r0_11 ?_
    refine k_aload C rfl rfl rfl ?_
    obtain ⟨T_r0_11, A_r0_11, B_r0_11, ⟨r0_11_1, R_r0_11_1, H_r0_11_1⟩⟩ := id H_r0_11
    refine c_VI C (s_X2_matches hS hI34 (hs_GF hS H_r0_11) (hs_GF hS H_rr38)) rfl rfl rfl rfl rfl ⟨_, rfl, rfl, T_r0_11, Nat.le_of_ble_eq_true rfl⟩ rfl rfl (Nat.le_of_ble_eq_true rfl) (Nat.le_of_ble_eq_true rfl) (Nat.le_of_ble_eq_true rfl) ?_
    rintro x42 _ _ ⟨o0x42, o1x42, rfl, rfl⟩
    have gx42 := rg x42
    refine b_if_eq C (t := 85) rfl rfl rfl (fun c43 => ?_) (fun c43 => ?_)
    · skip
      refine z_iconst C (z := 0) rfl rfl rfl (fun x44 ex44 => ?_)
      exact k_iret C rfl (Or.inr ⟨rfl, z01 (by omega) (by omega)⟩) (Nat.le_of_ble_eq_true rfl) (Nat.le_of_ble_eq_true rfl) ⟨_, _, _, rfl, rfl, by omega, by omega, hI34, (Chg.cons S4 (Chg.cons S31 (Chg.mono S36 (by decide)) (by decide)) (by decide))⟩
    refine z_iconst C (z := 1) rfl rfl rfl (fun x45 ex45 => ?_)
    refine k_goto C (pc2 := 86) rfl rfl ?_
    exact k_iret C rfl (Or.inr ⟨rfl, z01 (by omega) (by omega)⟩) (Nat.le_of_ble_eq_true rfl) (Nat.le_of_ble_eq_true rfl) ⟨_, _, _, rfl, rfl, by omega, by omega, hI34, (Chg.cons S4 (Chg.cons S31 (Chg.mono S36 (by decide)) (by decide)) (by decide))⟩
  refine k_ifnull C (x := some _) (t := 37) rfl rfl rfl (fun c46 => nomatch c46) (fun _ _ => ?_)
  refine k_aload_n C rfl rfl rfl ?_
  refine g_R C rfl rfl rfl T_r0 rfl R_r0_11 ?_
  refine k_aload C rfl rfl rfl ?_
  obtain ⟨T_r0_11, A_r0_11, B_r0_11, ⟨r0_11_1, R_r0_11_1, H_r0_11_1⟩⟩ := id H_r0_11
  refine c_VV C (s_X2_copyFrom hS hI2 H_r0_11 (hs_GF hS H_rr6)) rfl rfl rfl rfl rfl ⟨_, rfl, rfl, T_r0_11, Nat.le_of_ble_eq_true rfl⟩ rfl rfl (Nat.le_of_ble_eq_true rfl) (Nat.le_of_ble_eq_true rfl) (Nat.le_of_ble_eq_true rfl) ?_
  rintro I49 L50 ⟨p0v48, p1v48, hI49, S51⟩
  obtain ⟨x52, e53⟩ : ∃ x, I49 r0_11 0 = x := ⟨_, rfl⟩
  have gx52 := rg x52
  have ox52 := IX.deg hI49 A_r0_11 T_r0_11 e53
  obtain ⟨T_rr6, A_rr6, B_rr6, ⟨rr6_1, R_rr6_1, H_rr6_1⟩⟩ := id H_rr6
  obtain ⟨x54, e55⟩ : ∃ x, I49 rr6 0 = x := ⟨_, rfl⟩
  have gx54 := rg x54
  have ox54 := IX.deg hI49 A_rr6 T_rr6 e55
  try simp only [e53, e55] at p0v48
  try have q0v48 := congrArg Int32.toInt p0v48
  try simp only [e53, e55] at p1v48
  try have q1v48 := congrArg Int32.toInt p1v48
  refine k_sub S [(0, .ref r0), (2, .ref r2), (3, .ref r3), (5, .int x26)] (List.forall_mem_cons.mpr ⟨List.mem_of_getElem? (i := 2) rfl, List.forall_mem_cons.mpr ⟨List.mem_of_getElem? (i := 4) rfl, List.forall_mem_cons.mpr ⟨List.mem_of_getElem? (i := 5) rfl, List.forall_mem_cons.mpr ⟨List.mem_of_getElem? (i := 0) rfl, fun _ h => nomatch h⟩⟩⟩⟩) ?_
  exact J27 I49 L50 hI49 (Chg.mono S51 (by decide))

theorem s_X11_agree {d : Nat} {T N : Nat → Nat} {I : IT} {L : LT} {R : RT} {A B : Nat → Prop} {r0 : Nat} {n1 n2 n3 : Int32} (hS : SUB B A) (hI : IX A T I) (H_r0 : (hs_LF T N R A B) r0) : Ex (d + 8) 150 [.ref r0, .int n1, .int n2, .int n3] (T, N, I, L, R) 3 18 (pW [0, 3] T N R (pI T N R (fun x9 I9 L9 => (-1 ≤ x9.toInt) ∧ (x9.toInt ≤ 2147483646) ∧ (IX A T I9 ∧ Chg B T [(2, 5), (3, 0)] I L I9 L9))) (fun I9 L9 => IX A T I9 ∧ Chg B T [(2, 5), (3, 0)] I L I9 L9)) := by
  refine ⟨_, rfl, Nat.le_of_ble_eq_true rfl, fun V C S => ?_⟩
  show V 0 [(0, .ref r0), (1, .int n1), (2, .int n2), (3, .int n3)] [] (T, N, I, L, R) 0 0
  have gn1 := rg n1
  have gn2 := rg n2
  have gn3 := rg n3
  refine k_aload_n C rfl rfl rfl ?_
  refine k_iload_n C rfl rfl rfl ?_
  obtain ⟨T_r0, A_r0, B_r0, ⟨r0_0, R_r0_0, H_r0_0⟩, ⟨r0_1, R_r0_1, H_r0_1⟩, ⟨r0_2, R_r0_2, H_r0_2⟩, ⟨r0_5, R_r0_5, H_r0_5⟩, ⟨r0_6, R_r0_6, H_r0_6⟩, ⟨r0_7, R_r0_7, H_r0_7⟩, ⟨r0_8, R_r0_8, H_r0_8⟩, ⟨r0_9, R_r0_9, H_r0_9⟩, ⟨r0_10, R_r0_10, H_r0_10⟩, ⟨r0_11, R_r0_11, H_r0_11⟩, ⟨r0_12, R_r0_12, H_r0_12⟩, ⟨r0_13, R_r0_13, H_r0_13⟩⟩ := id H_r0
  refine w_VR C (s_X11_toldSigns hS hI H_r0) rfl rfl rfl rfl rfl ⟨_, rfl, rfl, T_r0, Nat.le_of_ble_eq_true rfl⟩ rfl rfl (Nat.le_of_ble_eq_true rfl) (Nat.le_of_ble_eq_true rfl) (Nat.le_of_ble_eq_true rfl) (by decide) (fun e9 he I9 L9 hq => by obtain ⟨rfl, rfl⟩ := hq; exact Or.inl ⟨rfl, Or.inr ⟨e9, _, _, (by decide : ∀ z ∈ [3], z ∈ [0, 3]) e9 he, rfl, rfl, hI, Chg.rf⟩⟩) ?_
  rintro yy1 _ _ ⟨hyy1, rfl, rfl⟩
  obtain ⟨rr2, err2, H_rr2⟩ := hyy1
  subst err2
  refine k_astore C (lw := [(4, .ref rr2), (0, .ref r0), (1, .int n1), (2, .int n2), (3, .int n3)]) rfl rfl (Nat.le_of_ble_eq_true rfl) rfl ?_
  refine k_aload_n C rfl rfl rfl ?_
  refine k_iload_n C rfl rfl rfl ?_
  refine w_VR C (s_X11_toldSigns hS hI H_r0) rfl rfl rfl rfl rfl ⟨_, rfl, rfl, T_r0, Nat.le_of_ble_eq_true rfl⟩ rfl rfl (Nat.le_of_ble_eq_true rfl) (Nat.le_of_ble_eq_true rfl) (Nat.le_of_ble_eq_true rfl) (by decide) (fun e9 he I9 L9 hq => by obtain ⟨rfl, rfl⟩ := hq; exact Or.inl ⟨rfl, Or.inr ⟨e9, _, _, (by decide : ∀ z ∈ [3], z ∈ [0, 3]) e9 he, rfl, rfl, hI, Chg.rf⟩⟩) ?_
  rintro yy3 _ _ ⟨hyy3, rfl, rfl⟩
  obtain ⟨rr4, err4, H_rr4⟩ := hyy3
  subst err4
  refine k_astore C (lw := [(5, .ref rr4), (4, .ref rr2), (0, .ref r0), (1, .int n1), (2, .int n2), (3, .int n3)]) rfl rfl (Nat.le_of_ble_eq_true rfl) rfl ?_
  refine k_iload_n C rfl rfl rfl ?_
  refine b_if_lt C (t := 24) rfl rfl rfl (fun c5 => ?_) (fun c5 => ?_)
  · skip
    exact k_throw C rfl rfl rfl rfl rfl rfl (Nat.le_of_ble_eq_true rfl) (Nat.le_of_ble_eq_true rfl) (Nat.le_of_ble_eq_true rfl) (Or.inr ⟨_, _, _, (by decide : 0 ∈ [0, 3]), rfl, rfl, hI, Chg.rf⟩)
  refine k_iload_n C rfl rfl rfl ?_
  refine z_bipush C (z := 8) rfl rfl rfl (fun x6 ex6 => ?_)
  refine b_icmp_le C (t := 32) rfl rfl rfl (fun c7 => ?_) (fun c7 => ?_)
  · skip
    refine z_iconst C (z := 0) rfl rfl rfl (fun x8 ex8 => ?_)
    have J9 : ∀ (nn10 : Nat) (I11 : IT) (L12 : LT) (x13 : Int32), (MN (2147483647 - x13.toInt) nn10) → (IX A T I11) → (Chg B T [(2, 5), (3, 0)] I L I11 L12) → (0 ≤ x13.toInt) → V 35 [(0, .ref r0), (3, .int n3), (4, .ref rr2), (5, .ref rr4), (6, .int x13)] [] (T, N, I11, L12, R) 2 12 := by
      intro nn10
      induction nn10 using Nat.strongRecOn with
      | _ nn10 ihJ9 =>
        intro I11 L12 x13 hmnn10 hI16 S15 b14
        have gx13 := rg x13
        refine k_iload C rfl rfl rfl ?_
        refine k_aload_n C rfl rfl rfl ?_
        refine g_R C rfl rfl rfl T_r0 rfl R_r0_1 ?_
        obtain ⟨T_r0_1, A_r0_1, B_r0_1, ⟨r0_1_6, R_r0_1_6, H_r0_1_6⟩, ⟨r0_1_7, R_r0_1_7, H_r0_1_7⟩, ⟨r0_1_8, R_r0_1_8, H_r0_1_8⟩, ⟨r0_1_9, R_r0_1_9, H_r0_1_9⟩, ⟨r0_1_10, R_r0_1_10, H_r0_1_10⟩⟩ := id H_r0_1
        refine z_gI C rfl rfl rfl T_r0_1 rfl (fun x17 ex17 => ?_)
        have gx17 := rg x17
        refine b_icmp_ge C (t := 94) rfl rfl rfl (fun c18 => ?_) (fun c18 => ?_)
        · skip
          refine z_iconst C (z := -1) rfl rfl rfl (fun x19 ex19 => ?_)
          exact k_iret C rfl (Or.inl rfl) (Nat.le_of_ble_eq_true rfl) (Nat.le_of_ble_eq_true rfl) (Or.inl ⟨_, _, _, rfl, rfl, by omega, by omega, hI16, (Chg.mono S15 (by decide))⟩)
        refine k_aload_n C rfl rfl rfl ?_
        refine g_R C rfl rfl rfl T_r0 rfl R_r0_1 ?_
        refine k_iload C rfl rfl rfl ?_
        refine c_VR C (s_X8_formAt hS hI16 H_r0_1) rfl rfl rfl rfl rfl ⟨_, rfl, rfl, T_r0_1, Nat.le_of_ble_eq_true rfl⟩ rfl rfl (Nat.le_of_ble_eq_true rfl) (Nat.le_of_ble_eq_true rfl) (Nat.le_of_ble_eq_true rfl) ?_
        rintro yy20 _ _ ⟨hyy20, rfl, rfl⟩
        refine k_astoreV C (x := yy20) (lw := [(7, va_rf yy20), (0, .ref r0), (3, .int n3), (4, .ref rr2), (5, .ref rr4), (6, .int x13)]) rfl rfl (Nat.le_of_ble_eq_true rfl) rfl ?_
        refine k_aloadV C (x := yy20) rfl rfl rfl ?_
        refine k_ifnull C (x := yy20) (t := 88) rfl rfl rfl (fun c21 => ?_) (fun rr22 c21 => ?_)
        · skip
          subst c21
          refine z_iinc C (z := 1) (lw := fun x23 => [(6, .int x23), (7, va_rf none), (0, .ref r0), (3, .int n3), (4, .ref rr2), (5, .ref rr4)]) rfl rfl rfl (Nat.le_of_ble_eq_true rfl) rfl ⟨by omega, by omega⟩ (fun _ => rfl) (fun x23 ex23 => ?_)
          show V 91 [(6, .int x23), (7, va_rf none), (0, .ref r0), (3, .int n3), (4, .ref rr2), (5, .ref rr4)] _ _ _ _
          refine k_goto C (pc2 := 35) rfl rfl ?_
          refine k_sub S [(0, .ref r0), (3, .int n3), (4, .ref rr2), (5, .ref rr4), (6, .int x23)] (List.forall_mem_cons.mpr ⟨List.mem_of_getElem? (i := 2) rfl, List.forall_mem_cons.mpr ⟨List.mem_of_getElem? (i := 3) rfl, List.forall_mem_cons.mpr ⟨List.mem_of_getElem? (i := 4) rfl, List.forall_mem_cons.mpr ⟨List.mem_of_getElem? (i := 5) rfl, List.forall_mem_cons.mpr ⟨List.mem_of_getElem? (i := 0) rfl, fun _ h => nomatch h⟩⟩⟩⟩⟩) ?_
          exact ihJ9 _ (MN.lt hmnn10 (by omega) (by omega)) I11 L12 x23 rfl hI16 (Chg.mono S15 (by decide)) (by omega)
        subst c21
        have H_rr22 := hyy20 rr22 rfl
        refine k_aload C rfl rfl rfl ?_
        obtain ⟨T_rr22, A_rr22, ⟨rr22_1, R_rr22_1, H_rr22_1⟩⟩ := id H_rr22
        refine z_gI C rfl rfl rfl T_rr22 rfl (fun x24 ex24 => ?_)
        have gx24 := rg x24
        have ox24 := IX.deg hI16 A_rr22 T_rr22 ex24
        refine k_iload_n C rfl rfl rfl ?_
        refine b_icmp_ne C (t := 88) rfl rfl rfl (fun c25 => ?_) (fun c25 => ?_)
        · skip
          refine z_iinc C (z := 1) (lw := fun x26 => [(6, .int x26), (7, .ref rr22), (0, .ref r0), (3, .int n3), (4, .ref rr2), (5, .ref rr4)]) rfl rfl rfl (Nat.le_of_ble_eq_true rfl) rfl ⟨by omega, by omega⟩ (fun _ => rfl) (fun x26 ex26 => ?_)
          show V 91 [(6, .int x26), (7, .ref rr22), (0, .ref r0), (3, .int n3), (4, .ref rr2), (5, .ref rr4)] _ _ _ _
          refine k_goto C (pc2 := 35) rfl rfl ?_
          refine k_sub S [(0, .ref r0), (3, .int n3), (4, .ref rr2), (5, .ref rr4), (6, .int x26)] (List.forall_mem_cons.mpr ⟨List.mem_of_getElem? (i := 2) rfl, List.forall_mem_cons.mpr ⟨List.mem_of_getElem? (i := 3) rfl, List.forall_mem_cons.mpr ⟨List.mem_of_getElem? (i := 4) rfl, List.forall_mem_cons.mpr ⟨List.mem_of_getElem? (i := 5) rfl, List.forall_mem_cons.mpr ⟨List.mem_of_getElem? (i := 0) rfl, fun _ h => nomatch h⟩⟩⟩⟩⟩) ?_
          exact ihJ9 _ (MN.lt hmnn10 (by omega) (by omega)) I11 L12 x26 rfl hI16 (Chg.mono S15 (by decide)) (by omega)
        refine k_aload_n C rfl rfl rfl ?_
        refine k_aload C rfl rfl rfl ?_
        refine k_aload C rfl rfl rfl ?_
        refine k_aload C rfl rfl rfl ?_
        refine c_VI C (s_X11_isOneValue hS hI16 H_r0 H_rr2 H_rr4 H_rr22) rfl rfl rfl rfl rfl ⟨_, rfl, rfl, T_r0, Nat.le_of_ble_eq_true rfl⟩ rfl rfl (Nat.le_of_ble_eq_true rfl) (Nat.le_of_ble_eq_true rfl) (Nat.le_of_ble_eq_true rfl) ?_
        rintro x27 I28 L29 ⟨o0x27, o1x27, hI28, S30⟩
        have e31 := Chg.k S30 T_r0_1 (by decide) (by decide) ex17
        have gx27 := rg x27
        refine b_if_ne C (t := 88) rfl rfl rfl (fun c32 => ?_) (fun c32 => ?_)
        · skip
          refine z_iinc C (z := 1) (lw := fun x33 => [(6, .int x33), (7, .ref rr22), (0, .ref r0), (3, .int n3), (4, .ref rr2), (5, .ref rr4)]) rfl rfl rfl (Nat.le_of_ble_eq_true rfl) rfl ⟨by omega, by omega⟩ (fun _ => rfl) (fun x33 ex33 => ?_)
          show V 91 [(6, .int x33), (7, .ref rr22), (0, .ref r0), (3, .int n3), (4, .ref rr2), (5, .ref rr4)] _ _ _ _
          refine k_goto C (pc2 := 35) rfl rfl ?_
          refine k_sub S [(0, .ref r0), (3, .int n3), (4, .ref rr2), (5, .ref rr4), (6, .int x33)] (List.forall_mem_cons.mpr ⟨List.mem_of_getElem? (i := 2) rfl, List.forall_mem_cons.mpr ⟨List.mem_of_getElem? (i := 3) rfl, List.forall_mem_cons.mpr ⟨List.mem_of_getElem? (i := 4) rfl, List.forall_mem_cons.mpr ⟨List.mem_of_getElem? (i := 5) rfl, List.forall_mem_cons.mpr ⟨List.mem_of_getElem? (i := 0) rfl, fun _ h => nomatch h⟩⟩⟩⟩⟩) ?_
          exact ihJ9 _ (MN.lt hmnn10 (by omega) (by omega)) I28 L29 x33 rfl hI28 (Chg.cons S15 (Chg.mono S30 (by decide)) (by decide)) (by omega)
        refine k_iload C rfl rfl rfl ?_
        exact k_iret C rfl (Or.inl rfl) (Nat.le_of_ble_eq_true rfl) (Nat.le_of_ble_eq_true rfl) (Or.inl ⟨_, _, _, rfl, rfl, by omega, by omega, hI28, (Chg.cons S15 (Chg.mono S30 (by decide)) (by decide))⟩)
    refine k_istore C (lw := [(6, .int x8), (5, .ref rr4), (4, .ref rr2), (0, .ref r0), (1, .int n1), (2, .int n2), (3, .int n3)]) rfl rfl (Nat.le_of_ble_eq_true rfl) rfl ?_
    refine k_sub S [(0, .ref r0), (3, .int n3), (4, .ref rr2), (5, .ref rr4), (6, .int x8)] (List.forall_mem_cons.mpr ⟨List.mem_of_getElem? (i := 3) rfl, List.forall_mem_cons.mpr ⟨List.mem_of_getElem? (i := 6) rfl, List.forall_mem_cons.mpr ⟨List.mem_of_getElem? (i := 2) rfl, List.forall_mem_cons.mpr ⟨List.mem_of_getElem? (i := 1) rfl, List.forall_mem_cons.mpr ⟨List.mem_of_getElem? (i := 0) rfl, fun _ h => nomatch h⟩⟩⟩⟩⟩) ?_
    exact J9 _ I L x8 rfl hI Chg.rf (by omega)
  exact k_throw C rfl rfl rfl rfl rfl rfl (Nat.le_of_ble_eq_true rfl) (Nat.le_of_ble_eq_true rfl) (Nat.le_of_ble_eq_true rfl) (Or.inr ⟨_, _, _, (by decide : 0 ∈ [0, 3]), rfl, rfl, hI, Chg.rf⟩)

theorem s_X11_basis {d : Nat} {T N : Nat → Nat} {I : IT} {L : LT} {R : RT} {A B : Nat → Prop} {r0 : Nat} {n1 n2 n3 : Int32} (hS : SUB B A) (hI : IX A T I) (H_r0 : (hs_LF T N R A B) r0) : Ex (d + 8) 154 [.ref r0, .int n1, .int n2, .int n3] (T, N, I, L, R) 1 6 (pW [0] T N R (pI T N R (fun x9 I9 L9 => (IX A T I9 ∧ Chg B T [(2, 5), (3, 0), (6, 6), (6, 7), (6, 8)] I L I9 L9))) (fun I9 L9 => IX A T I9 ∧ Chg B T [(2, 5), (3, 0), (6, 6), (6, 7), (6, 8)] I L I9 L9)) := by
  refine ⟨_, rfl, Nat.le_of_ble_eq_true rfl, fun V C S => ?_⟩
  show V 0 [(0, .ref r0), (1, .int n1), (2, .int n2), (3, .int n3)] [] (T, N, I, L, R) 0 0
  have gn1 := rg n1
  have gn2 := rg n2
  have gn3 := rg n3
  refine k_iload_n C rfl rfl rfl ?_
  refine z_iconst C (z := 1) rfl rfl rfl (fun x1 ex1 => ?_)
  refine b_icmp_lt C (t := 11) rfl rfl rfl (fun c2 => ?_) (fun c2 => ?_)
  · skip
    exact k_throw C rfl rfl rfl rfl rfl rfl (Nat.le_of_ble_eq_true rfl) (Nat.le_of_ble_eq_true rfl) (Nat.le_of_ble_eq_true rfl) (Or.inr ⟨_, _, _, (by decide : 0 ∈ [0]), rfl, rfl, hI, Chg.rf⟩)
  refine k_iload_n C rfl rfl rfl ?_
  refine z_bipush C (z := 8) rfl rfl rfl (fun x3 ex3 => ?_)
  refine b_icmp_le C (t := 19) rfl rfl rfl (fun c4 => ?_) (fun c4 => ?_)
  · skip
    refine k_aload_n C rfl rfl rfl ?_
    obtain ⟨T_r0, A_r0, B_r0, ⟨r0_0, R_r0_0, H_r0_0⟩, ⟨r0_1, R_r0_1, H_r0_1⟩, ⟨r0_2, R_r0_2, H_r0_2⟩, ⟨r0_5, R_r0_5, H_r0_5⟩, ⟨r0_6, R_r0_6, H_r0_6⟩, ⟨r0_7, R_r0_7, H_r0_7⟩, ⟨r0_8, R_r0_8, H_r0_8⟩, ⟨r0_9, R_r0_9, H_r0_9⟩, ⟨r0_10, R_r0_10, H_r0_10⟩, ⟨r0_11, R_r0_11, H_r0_11⟩, ⟨r0_12, R_r0_12, H_r0_12⟩, ⟨r0_13, R_r0_13, H_r0_13⟩⟩ := id H_r0
    refine g_R C rfl rfl rfl T_r0 rfl R_r0_7 ?_
    refine k_aload_n C rfl rfl rfl ?_
    refine g_R C rfl rfl rfl T_r0 rfl R_r0_1 ?_
    refine k_iload_n C rfl rfl rfl ?_
    refine k_iload_n C rfl rfl rfl ?_
    refine k_iload_n C rfl rfl rfl ?_
    obtain ⟨T_r0_7, A_r0_7, B_r0_7, ⟨r0_7_0, R_r0_7_0, H_r0_7_0⟩, ⟨r0_7_1, R_r0_7_1, H_r0_7_1⟩, ⟨r0_7_2, R_r0_7_2, H_r0_7_2⟩, ⟨r0_7_3, R_r0_7_3, H_r0_7_3⟩, ⟨r0_7_4, R_r0_7_4, H_r0_7_4⟩, ⟨r0_7_5, R_r0_7_5, H_r0_7_5⟩⟩ := id H_r0_7
    refine c_VI C (s_X5_independent hS hI H_r0_7 H_r0_1 (by omega) (by omega)) rfl rfl rfl rfl rfl ⟨_, rfl, rfl, T_r0_7, Nat.le_of_ble_eq_true rfl⟩ rfl rfl (Nat.le_of_ble_eq_true rfl) (Nat.le_of_ble_eq_true rfl) (Nat.le_of_ble_eq_true rfl) ?_
    rintro x5 I6 L7 ⟨hI6, S8⟩
    have gx5 := rg x5
    exact k_iret C rfl (Or.inl rfl) (Nat.le_of_ble_eq_true rfl) (Nat.le_of_ble_eq_true rfl) (Or.inl ⟨_, _, _, rfl, rfl, hI6, (Chg.mono S8 (by decide))⟩)
  exact k_throw C rfl rfl rfl rfl rfl rfl (Nat.le_of_ble_eq_true rfl) (Nat.le_of_ble_eq_true rfl) (Nat.le_of_ble_eq_true rfl) (Or.inr ⟨_, _, _, (by decide : 0 ∈ [0]), rfl, rfl, hI, Chg.rf⟩)

theorem s_X11_root {d : Nat} {T N : Nat → Nat} {I : IT} {L : LT} {R : RT} {A B : Nat → Prop} {r0 : Nat} {n1 n2 : Int32} (hS : SUB B A) (hI : IX A T I) (H_r0 : (hs_LF T N R A B) r0) : Ex (d + 4) 155 [.ref r0, .int n1, .int n2] (T, N, I, L, R) 2 12 (pW [0, 3] T N R (pI T N R (fun x9 I9 L9 => (0 ≤ x9.toInt) ∧ (x9.toInt ≤ 99) ∧ (IX A T I9 ∧ Chg B T [(3, 0)] I L I9 L9))) (fun I9 L9 => IX A T I9 ∧ Chg B T [(3, 0)] I L I9 L9)) := by
  refine ⟨_, rfl, Nat.le_of_ble_eq_true rfl, fun V C S => ?_⟩
  show V 0 [(0, .ref r0), (1, .int n1), (2, .int n2)] [] (T, N, I, L, R) 0 0
  have gn1 := rg n1
  have gn2 := rg n2
  refine k_aload_n C rfl rfl rfl ?_
  refine k_iload_n C rfl rfl rfl ?_
  obtain ⟨T_r0, A_r0, B_r0, ⟨r0_0, R_r0_0, H_r0_0⟩, ⟨r0_1, R_r0_1, H_r0_1⟩, ⟨r0_2, R_r0_2, H_r0_2⟩, ⟨r0_5, R_r0_5, H_r0_5⟩, ⟨r0_6, R_r0_6, H_r0_6⟩, ⟨r0_7, R_r0_7, H_r0_7⟩, ⟨r0_8, R_r0_8, H_r0_8⟩, ⟨r0_9, R_r0_9, H_r0_9⟩, ⟨r0_10, R_r0_10, H_r0_10⟩, ⟨r0_11, R_r0_11, H_r0_11⟩, ⟨r0_12, R_r0_12, H_r0_12⟩, ⟨r0_13, R_r0_13, H_r0_13⟩⟩ := id H_r0
  refine w_VR C (s_X11_toldForm hS hI H_r0) rfl rfl rfl rfl rfl ⟨_, rfl, rfl, T_r0, Nat.le_of_ble_eq_true rfl⟩ rfl rfl (Nat.le_of_ble_eq_true rfl) (Nat.le_of_ble_eq_true rfl) (Nat.le_of_ble_eq_true rfl) (by decide) (fun e9 he I9 L9 hq => by obtain ⟨rfl, rfl⟩ := hq; exact Or.inl ⟨rfl, Or.inr ⟨e9, _, _, (by decide : ∀ z ∈ [3], z ∈ [0, 3]) e9 he, rfl, rfl, hI, Chg.rf⟩⟩) ?_
  rintro yy1 _ _ ⟨hyy1, rfl, rfl⟩
  obtain ⟨rr2, err2, H_rr2⟩ := hyy1
  subst err2
  refine k_astore_n C (lw := [(3, .ref rr2), (0, .ref r0), (1, .int n1), (2, .int n2)]) rfl rfl (Nat.le_of_ble_eq_true rfl) rfl ?_
  refine k_iload_n C rfl rfl rfl ?_
  refine b_if_lt C (t := 21) rfl rfl rfl (fun c3 => ?_) (fun c3 => ?_)
  · skip
    exact k_throw C rfl rfl rfl rfl rfl rfl (Nat.le_of_ble_eq_true rfl) (Nat.le_of_ble_eq_true rfl) (Nat.le_of_ble_eq_true rfl) (Or.inr ⟨_, _, _, (by decide : 0 ∈ [0, 3]), rfl, rfl, hI, Chg.rf⟩)
  refine k_iload_n C rfl rfl rfl ?_
  refine k_aload_n C rfl rfl rfl ?_
  refine g_R C rfl rfl rfl T_r0 rfl R_r0_1 ?_
  obtain ⟨T_r0_1, A_r0_1, B_r0_1, ⟨r0_1_6, R_r0_1_6, H_r0_1_6⟩, ⟨r0_1_7, R_r0_1_7, H_r0_1_7⟩, ⟨r0_1_8, R_r0_1_8, H_r0_1_8⟩, ⟨r0_1_9, R_r0_1_9, H_r0_1_9⟩, ⟨r0_1_10, R_r0_1_10, H_r0_1_10⟩⟩ := id H_r0_1
  refine z_gI C rfl rfl rfl T_r0_1 rfl (fun x4 ex4 => ?_)
  have gx4 := rg x4
  have ox4 := IX.p hI A_r0_1 T_r0_1 ex4
  refine b_icmp_le C (t := 29) rfl rfl rfl (fun c5 => ?_) (fun c5 => ?_)
  · skip
    refine k_aload_n C rfl rfl rfl ?_
    refine g_R C rfl rfl rfl T_r0 rfl R_r0_5 ?_
    refine k_aload_n C rfl rfl rfl ?_
    refine k_iload_n C rfl rfl rfl ?_
    obtain ⟨T_r0_5, A_r0_5, B_r0_5, ⟨r0_5_0, R_r0_5_0, H_r0_5_0⟩, ⟨r0_5_1, R_r0_5_1, H_r0_5_1⟩, ⟨r0_5_2, R_r0_5_2, H_r0_5_2⟩⟩ := id H_r0_5
    refine c_VI C (s_X0_howOften hS hI H_r0_5 H_rr2) rfl rfl rfl rfl rfl ⟨_, rfl, rfl, T_r0_5, Nat.le_of_ble_eq_true rfl⟩ rfl rfl (Nat.le_of_ble_eq_true rfl) (Nat.le_of_ble_eq_true rfl) (Nat.le_of_ble_eq_true rfl) ?_
    rintro x6 I7 L8 ⟨o0x6, o1x6, hI7, S9⟩
    have e10 := Chg.k S9 T_r0_1 (by decide) (by decide) ex4
    have gx6 := rg x6
    exact k_iret C rfl (Or.inl rfl) (Nat.le_of_ble_eq_true rfl) (Nat.le_of_ble_eq_true rfl) (Or.inl ⟨_, _, _, rfl, rfl, by omega, by omega, hI7, (Chg.mono S9 (by decide))⟩)
  exact k_throw C rfl rfl rfl rfl rfl rfl (Nat.le_of_ble_eq_true rfl) (Nat.le_of_ble_eq_true rfl) (Nat.le_of_ble_eq_true rfl) (Or.inr ⟨_, _, _, (by decide : 0 ∈ [0, 3]), rfl, rfl, hI, Chg.rf⟩)

theorem s_X11_roots {d : Nat} {T N : Nat → Nat} {I : IT} {L : LT} {R : RT} {A B : Nat → Prop} {r0 : Nat} {n1 : Int32} (hS : SUB B A) (hI : IX A T I) (H_r0 : (hs_LF T N R A B) r0) : Ex (d + 4) 156 [.ref r0, .int n1] (T, N, I, L, R) 1 6 (pW [3] T N R (pI T N R (fun x9 I9 L9 => (IX A T I9 ∧ Chg B T [(3, 0)] I L I9 L9))) (fun I9 L9 => IX A T I9 ∧ Chg B T [(3, 0)] I L I9 L9)) := by
  refine ⟨_, rfl, Nat.le_of_ble_eq_true rfl, fun V C S => ?_⟩
  show V 0 [(0, .ref r0), (1, .int n1)] [] (T, N, I, L, R) 0 0
  have gn1 := rg n1
  refine k_aload_n C rfl rfl rfl ?_
  refine k_iload_n C rfl rfl rfl ?_
  obtain ⟨T_r0, A_r0, B_r0, ⟨r0_0, R_r0_0, H_r0_0⟩, ⟨r0_1, R_r0_1, H_r0_1⟩, ⟨r0_2, R_r0_2, H_r0_2⟩, ⟨r0_5, R_r0_5, H_r0_5⟩, ⟨r0_6, R_r0_6, H_r0_6⟩, ⟨r0_7, R_r0_7, H_r0_7⟩, ⟨r0_8, R_r0_8, H_r0_8⟩, ⟨r0_9, R_r0_9, H_r0_9⟩, ⟨r0_10, R_r0_10, H_r0_10⟩, ⟨r0_11, R_r0_11, H_r0_11⟩, ⟨r0_12, R_r0_12, H_r0_12⟩, ⟨r0_13, R_r0_13, H_r0_13⟩⟩ := id H_r0
  refine w_VR C (s_X11_toldForm hS hI H_r0) rfl rfl rfl rfl rfl ⟨_, rfl, rfl, T_r0, Nat.le_of_ble_eq_true rfl⟩ rfl rfl (Nat.le_of_ble_eq_true rfl) (Nat.le_of_ble_eq_true rfl) (Nat.le_of_ble_eq_true rfl) (by decide) (fun e9 he I9 L9 hq => by obtain ⟨rfl, rfl⟩ := hq; exact Or.inl ⟨rfl, Or.inr ⟨e9, _, _, (by decide : ∀ z ∈ [3], z ∈ [3]) e9 he, rfl, rfl, hI, Chg.rf⟩⟩) ?_
  rintro yy1 _ _ ⟨hyy1, rfl, rfl⟩
  obtain ⟨rr2, err2, H_rr2⟩ := hyy1
  subst err2
  refine k_astore_n C (lw := [(2, .ref rr2), (0, .ref r0), (1, .int n1)]) rfl rfl (Nat.le_of_ble_eq_true rfl) rfl ?_
  refine z_iconst C (z := 0) rfl rfl rfl (fun x3 ex3 => ?_)
  refine k_istore_n C (lw := [(3, .int x3), (2, .ref rr2), (0, .ref r0), (1, .int n1)]) rfl rfl (Nat.le_of_ble_eq_true rfl) rfl ?_
  refine z_iconst C (z := 0) rfl rfl rfl (fun x4 ex4 => ?_)
  have J5 : ∀ (nn6 : Nat) (I7 : IT) (L8 : LT) (x9 : Int32) (x10 : Int32), (MN (20 - x10.toInt) nn6) → (IX A T I7) → (Chg B T [(3, 0)] I L I7 L8) → (0 ≤ x10.toInt) → (x10.toInt ≤ 20) → V 11 [(0, .ref r0), (2, .ref rr2), (3, .int x9), (4, .int x10)] [] (T, N, I7, L8, R) 1 6 := by
    intro nn6
    induction nn6 using Nat.strongRecOn with
    | _ nn6 ihJ5 =>
      intro I7 L8 x9 x10 hmnn6 hI14 S13 b11 b12
      have gx9 := rg x9
      have gx10 := rg x10
      refine k_iload C rfl rfl rfl ?_
      refine k_aload_n C rfl rfl rfl ?_
      refine g_R C rfl rfl rfl T_r0 rfl R_r0_1 ?_
      obtain ⟨T_r0_1, A_r0_1, B_r0_1, ⟨r0_1_6, R_r0_1_6, H_r0_1_6⟩, ⟨r0_1_7, R_r0_1_7, H_r0_1_7⟩, ⟨r0_1_8, R_r0_1_8, H_r0_1_8⟩, ⟨r0_1_9, R_r0_1_9, H_r0_1_9⟩, ⟨r0_1_10, R_r0_1_10, H_r0_1_10⟩⟩ := id H_r0_1
      refine z_gI C rfl rfl rfl T_r0_1 rfl (fun x15 ex15 => ?_)
      have gx15 := rg x15
      have ox15 := IX.p hI14 A_r0_1 T_r0_1 ex15
      refine b_icmp_gt C (t := 49) rfl rfl rfl (fun c16 => ?_) (fun c16 => ?_)
      · skip
        refine k_iload_n C rfl rfl rfl ?_
        exact k_iret C rfl (Or.inl rfl) (Nat.le_of_ble_eq_true rfl) (Nat.le_of_ble_eq_true rfl) (Or.inl ⟨_, _, _, rfl, rfl, hI14, (Chg.mono S13 (by decide))⟩)
      refine k_aload_n C rfl rfl rfl ?_
      refine g_R C rfl rfl rfl T_r0 rfl R_r0_5 ?_
      refine k_aload_n C rfl rfl rfl ?_
      refine k_iload C rfl rfl rfl ?_
      obtain ⟨T_r0_5, A_r0_5, B_r0_5, ⟨r0_5_0, R_r0_5_0, H_r0_5_0⟩, ⟨r0_5_1, R_r0_5_1, H_r0_5_1⟩, ⟨r0_5_2, R_r0_5_2, H_r0_5_2⟩⟩ := id H_r0_5
      refine c_VI C (s_X0_howOften hS hI14 H_r0_5 H_rr2) rfl rfl rfl rfl rfl ⟨_, rfl, rfl, T_r0_5, Nat.le_of_ble_eq_true rfl⟩ rfl rfl (Nat.le_of_ble_eq_true rfl) (Nat.le_of_ble_eq_true rfl) (Nat.le_of_ble_eq_true rfl) ?_
      rintro x17 I18 L19 ⟨o0x17, o1x17, hI18, S20⟩
      have e21 := Chg.k S20 T_r0_1 (by decide) (by decide) ex15
      have gx17 := rg x17
      refine b_if_le C (t := 43) rfl rfl rfl (fun c22 => ?_) (fun c22 => ?_)
      · skip
        refine z_iinc C (z := 1) (lw := fun x23 => [(4, .int x23), (0, .ref r0), (2, .ref rr2), (3, .int x9)]) rfl rfl rfl (Nat.le_of_ble_eq_true rfl) rfl ⟨by omega, by omega⟩ (fun _ => rfl) (fun x23 ex23 => ?_)
        show V 46 [(4, .int x23), (0, .ref r0), (2, .ref rr2), (3, .int x9)] _ _ _ _
        refine k_goto C (pc2 := 11) rfl rfl ?_
        refine k_sub S [(0, .ref r0), (2, .ref rr2), (3, .int x9), (4, .int x23)] (List.forall_mem_cons.mpr ⟨List.mem_of_getElem? (i := 1) rfl, List.forall_mem_cons.mpr ⟨List.mem_of_getElem? (i := 2) rfl, List.forall_mem_cons.mpr ⟨List.mem_of_getElem? (i := 3) rfl, List.forall_mem_cons.mpr ⟨List.mem_of_getElem? (i := 0) rfl, fun _ h => nomatch h⟩⟩⟩⟩) ?_
        exact ihJ5 _ (MN.lt hmnn6 (by omega) (by omega)) I18 L19 x9 x23 rfl hI18 (Chg.cons S13 (Chg.mono S20 (by decide)) (by decide)) (by omega) (by omega)
      refine k_iload_n C rfl rfl rfl ?_
      refine z_iconst C (z := 1) rfl rfl rfl (fun x24 ex24 => ?_)
      refine k_iload C rfl rfl rfl ?_
      refine zt_ishl C rfl rfl (fun x25 => ?_)
      have gx25 := rg x25
      refine zt_ior C rfl rfl (fun x26 => ?_)
      have gx26 := rg x26
      refine k_istore_n C (lw := [(3, .int x26), (0, .ref r0), (2, .ref rr2), (4, .int x10)]) rfl rfl (Nat.le_of_ble_eq_true rfl) rfl ?_
      refine z_iinc C (z := 1) (lw := fun x27 => [(4, .int x27), (3, .int x26), (0, .ref r0), (2, .ref rr2)]) rfl rfl rfl (Nat.le_of_ble_eq_true rfl) rfl ⟨by omega, by omega⟩ (fun _ => rfl) (fun x27 ex27 => ?_)
      show V 46 [(4, .int x27), (3, .int x26), (0, .ref r0), (2, .ref rr2)] _ _ _ _
      refine k_goto C (pc2 := 11) rfl rfl ?_
      refine k_sub S [(0, .ref r0), (2, .ref rr2), (3, .int x26), (4, .int x27)] (List.forall_mem_cons.mpr ⟨List.mem_of_getElem? (i := 2) rfl, List.forall_mem_cons.mpr ⟨List.mem_of_getElem? (i := 3) rfl, List.forall_mem_cons.mpr ⟨List.mem_of_getElem? (i := 1) rfl, List.forall_mem_cons.mpr ⟨List.mem_of_getElem? (i := 0) rfl, fun _ h => nomatch h⟩⟩⟩⟩) ?_
      exact ihJ5 _ (MN.lt hmnn6 (by omega) (by omega)) I18 L19 x26 x27 rfl hI18 (Chg.cons S13 (Chg.mono S20 (by decide)) (by decide)) (by omega) (by omega)
  refine k_istore C (lw := [(4, .int x4), (3, .int x3), (2, .ref rr2), (0, .ref r0), (1, .int n1)]) rfl rfl (Nat.le_of_ble_eq_true rfl) rfl ?_
  refine k_sub S [(0, .ref r0), (2, .ref rr2), (3, .int x3), (4, .int x4)] (List.forall_mem_cons.mpr ⟨List.mem_of_getElem? (i := 3) rfl, List.forall_mem_cons.mpr ⟨List.mem_of_getElem? (i := 2) rfl, List.forall_mem_cons.mpr ⟨List.mem_of_getElem? (i := 1) rfl, List.forall_mem_cons.mpr ⟨List.mem_of_getElem? (i := 0) rfl, fun _ h => nomatch h⟩⟩⟩⟩) ?_
  exact J5 _ I L x3 x4 rfl hI Chg.rf (by omega) (by omega)

theorem s_X11_empty {d : Nat} {T N : Nat → Nat} {I : IT} {L : LT} {R : RT} {A B : Nat → Prop} {r0 : Nat} {n1 : Int32} (hS : SUB B A) (hI : IX A T I) (H_r0 : (hs_LF T N R A B) r0) : Ex (d + 4) 157 [.ref r0, .int n1] (T, N, I, L, R) 1 6 (pW [3] T N R (pI T N R (fun x9 I9 L9 => (0 ≤ x9.toInt) ∧ (x9.toInt ≤ 1) ∧ (IX A T I9 ∧ Chg B T [(3, 0)] I L I9 L9))) (fun I9 L9 => IX A T I9 ∧ Chg B T [(3, 0)] I L I9 L9)) := by
  refine ⟨_, rfl, Nat.le_of_ble_eq_true rfl, fun V C S => ?_⟩
  show V 0 [(0, .ref r0), (1, .int n1)] [] (T, N, I, L, R) 0 0
  have gn1 := rg n1
  refine k_aload_n C rfl rfl rfl ?_
  refine k_iload_n C rfl rfl rfl ?_
  obtain ⟨T_r0, A_r0, B_r0, ⟨r0_0, R_r0_0, H_r0_0⟩, ⟨r0_1, R_r0_1, H_r0_1⟩, ⟨r0_2, R_r0_2, H_r0_2⟩, ⟨r0_5, R_r0_5, H_r0_5⟩, ⟨r0_6, R_r0_6, H_r0_6⟩, ⟨r0_7, R_r0_7, H_r0_7⟩, ⟨r0_8, R_r0_8, H_r0_8⟩, ⟨r0_9, R_r0_9, H_r0_9⟩, ⟨r0_10, R_r0_10, H_r0_10⟩, ⟨r0_11, R_r0_11, H_r0_11⟩, ⟨r0_12, R_r0_12, H_r0_12⟩, ⟨r0_13, R_r0_13, H_r0_13⟩⟩ := id H_r0
  refine w_VR C (s_X11_toldForm hS hI H_r0) rfl rfl rfl rfl rfl ⟨_, rfl, rfl, T_r0, Nat.le_of_ble_eq_true rfl⟩ rfl rfl (Nat.le_of_ble_eq_true rfl) (Nat.le_of_ble_eq_true rfl) (Nat.le_of_ble_eq_true rfl) (by decide) (fun e9 he I9 L9 hq => by obtain ⟨rfl, rfl⟩ := hq; exact Or.inl ⟨rfl, Or.inr ⟨e9, _, _, (by decide : ∀ z ∈ [3], z ∈ [3]) e9 he, rfl, rfl, hI, Chg.rf⟩⟩) ?_
  rintro yy1 _ _ ⟨hyy1, rfl, rfl⟩
  obtain ⟨rr2, err2, H_rr2⟩ := hyy1
  subst err2
  refine k_astore_n C (lw := [(2, .ref rr2), (0, .ref r0), (1, .int n1)]) rfl rfl (Nat.le_of_ble_eq_true rfl) rfl ?_
  refine z_iconst C (z := 0) rfl rfl rfl (fun x3 ex3 => ?_)
  have J4 : ∀ (nn5 : Nat) (I6 : IT) (L7 : LT) (x8 : Int32), (MN (20 - x8.toInt) nn5) → (IX A T I6) → (Chg B T [(3, 0)] I L I6 L7) → (0 ≤ x8.toInt) → (x8.toInt ≤ 20) → V 8 [(0, .ref r0), (2, .ref rr2), (3, .int x8)] [] (T, N, I6, L7, R) 1 6 := by
    intro nn5
    induction nn5 using Nat.strongRecOn with
    | _ nn5 ihJ4 =>
      intro I6 L7 x8 hmnn5 hI12 S11 b9 b10
      have gx8 := rg x8
      refine k_iload_n C rfl rfl rfl ?_
      refine k_aload_n C rfl rfl rfl ?_
      refine g_R C rfl rfl rfl T_r0 rfl R_r0_1 ?_
      obtain ⟨T_r0_1, A_r0_1, B_r0_1, ⟨r0_1_6, R_r0_1_6, H_r0_1_6⟩, ⟨r0_1_7, R_r0_1_7, H_r0_1_7⟩, ⟨r0_1_8, R_r0_1_8, H_r0_1_8⟩, ⟨r0_1_9, R_r0_1_9, H_r0_1_9⟩, ⟨r0_1_10, R_r0_1_10, H_r0_1_10⟩⟩ := id H_r0_1
      refine z_gI C rfl rfl rfl T_r0_1 rfl (fun x13 ex13 => ?_)
      have gx13 := rg x13
      have ox13 := IX.p hI12 A_r0_1 T_r0_1 ex13
      refine b_icmp_gt C (t := 45) rfl rfl rfl (fun c14 => ?_) (fun c14 => ?_)
      · skip
        refine z_iconst C (z := 0) rfl rfl rfl (fun x15 ex15 => ?_)
        exact k_iret C rfl (Or.inr ⟨rfl, z01 (by omega) (by omega)⟩) (Nat.le_of_ble_eq_true rfl) (Nat.le_of_ble_eq_true rfl) (Or.inl ⟨_, _, _, rfl, rfl, by omega, by omega, hI12, (Chg.mono S11 (by decide))⟩)
      refine z_iconst C (z := 2) rfl rfl rfl (fun x16 ex16 => ?_)
      refine k_aload_n C rfl rfl rfl ?_
      refine g_R C rfl rfl rfl T_r0 rfl R_r0_5 ?_
      refine k_aload_n C rfl rfl rfl ?_
      refine k_iload_n C rfl rfl rfl ?_
      obtain ⟨T_r0_5, A_r0_5, B_r0_5, ⟨r0_5_0, R_r0_5_0, H_r0_5_0⟩, ⟨r0_5_1, R_r0_5_1, H_r0_5_1⟩, ⟨r0_5_2, R_r0_5_2, H_r0_5_2⟩⟩ := id H_r0_5
      refine c_VI C (s_X0_howOften hS hI12 H_r0_5 H_rr2) rfl rfl rfl rfl rfl ⟨_, rfl, rfl, T_r0_5, Nat.le_of_ble_eq_true rfl⟩ rfl rfl (Nat.le_of_ble_eq_true rfl) (Nat.le_of_ble_eq_true rfl) (Nat.le_of_ble_eq_true rfl) ?_
      rintro x17 I18 L19 ⟨o0x17, o1x17, hI18, S20⟩
      have e21 := Chg.k S20 T_r0_1 (by decide) (by decide) ex13
      have gx17 := rg x17
      refine z_imulL C (c := 2) rfl rfl (by omega) ⟨by omega, by omega⟩ (fun x22 ex22 => ?_)
      refine k_aload_n C rfl rfl rfl ?_
      obtain ⟨T_rr2, A_rr2, ⟨rr2_1, R_rr2_1, H_rr2_1⟩⟩ := id H_rr2
      refine z_gI C rfl rfl rfl T_rr2 rfl (fun x23 ex23 => ?_)
      have gx23 := rg x23
      have ox23 := IX.deg hI18 A_rr2 T_rr2 ex23
      refine b_icmp_le C (t := 39) rfl rfl rfl (fun c24 => ?_) (fun c24 => ?_)
      · skip
        refine z_iinc C (z := 1) (lw := fun x25 => [(3, .int x25), (0, .ref r0), (2, .ref rr2)]) rfl rfl rfl (Nat.le_of_ble_eq_true rfl) rfl ⟨by omega, by omega⟩ (fun _ => rfl) (fun x25 ex25 => ?_)
        show V 42 [(3, .int x25), (0, .ref r0), (2, .ref rr2)] _ _ _ _
        refine k_goto C (pc2 := 8) rfl rfl ?_
        refine k_sub S [(0, .ref r0), (2, .ref rr2), (3, .int x25)] (List.forall_mem_cons.mpr ⟨List.mem_of_getElem? (i := 1) rfl, List.forall_mem_cons.mpr ⟨List.mem_of_getElem? (i := 2) rfl, List.forall_mem_cons.mpr ⟨List.mem_of_getElem? (i := 0) rfl, fun _ h => nomatch h⟩⟩⟩) ?_
        exact ihJ4 _ (MN.lt hmnn5 (by omega) (by omega)) I18 L19 x25 rfl hI18 (Chg.cons S11 (Chg.mono S20 (by decide)) (by decide)) (by omega) (by omega)
      refine z_iconst C (z := 1) rfl rfl rfl (fun x26 ex26 => ?_)
      exact k_iret C rfl (Or.inr ⟨rfl, z01 (by omega) (by omega)⟩) (Nat.le_of_ble_eq_true rfl) (Nat.le_of_ble_eq_true rfl) (Or.inl ⟨_, _, _, rfl, rfl, by omega, by omega, hI18, (Chg.cons S11 (Chg.mono S20 (by decide)) (by decide))⟩)
  refine k_istore_n C (lw := [(3, .int x3), (2, .ref rr2), (0, .ref r0), (1, .int n1)]) rfl rfl (Nat.le_of_ble_eq_true rfl) rfl ?_
  refine k_sub S [(0, .ref r0), (2, .ref rr2), (3, .int x3)] (List.forall_mem_cons.mpr ⟨List.mem_of_getElem? (i := 2) rfl, List.forall_mem_cons.mpr ⟨List.mem_of_getElem? (i := 1) rfl, List.forall_mem_cons.mpr ⟨List.mem_of_getElem? (i := 0) rfl, fun _ h => nomatch h⟩⟩⟩) ?_
  exact J4 _ I L x3 rfl hI Chg.rf (by omega) (by omega)

theorem s_X11_same {d : Nat} {T N : Nat → Nat} {I : IT} {L : LT} {R : RT} {A B : Nat → Prop} {r0 : Nat} {n1 n2 : Int32} (hS : SUB B A) (hI : IX A T I) (H_r0 : (hs_LF T N R A B) r0) : Ex (d + 5) 158 [.ref r0, .int n1, .int n2] (T, N, I, L, R) 2 12 (pW [3] T N R (pI T N R (fun x9 I9 L9 => (IX A T I9 ∧ Chg B T [(7, 0), (7, 1)] I L I9 L9))) (fun I9 L9 => IX A T I9 ∧ Chg B T [(7, 0), (7, 1)] I L I9 L9)) := by
  refine ⟨_, rfl, Nat.le_of_ble_eq_true rfl, fun V C S => ?_⟩
  show V 0 [(0, .ref r0), (1, .int n1), (2, .int n2)] [] (T, N, I, L, R) 0 0
  have gn1 := rg n1
  have gn2 := rg n2
  refine k_aload_n C rfl rfl rfl ?_
  refine k_iload_n C rfl rfl rfl ?_
  obtain ⟨T_r0, A_r0, B_r0, ⟨r0_0, R_r0_0, H_r0_0⟩, ⟨r0_1, R_r0_1, H_r0_1⟩, ⟨r0_2, R_r0_2, H_r0_2⟩, ⟨r0_5, R_r0_5, H_r0_5⟩, ⟨r0_6, R_r0_6, H_r0_6⟩, ⟨r0_7, R_r0_7, H_r0_7⟩, ⟨r0_8, R_r0_8, H_r0_8⟩, ⟨r0_9, R_r0_9, H_r0_9⟩, ⟨r0_10, R_r0_10, H_r0_10⟩, ⟨r0_11, R_r0_11, H_r0_11⟩, ⟨r0_12, R_r0_12, H_r0_12⟩, ⟨r0_13, R_r0_13, H_r0_13⟩⟩ := id H_r0
  refine w_VR C (s_X11_toldForm hS hI H_r0) rfl rfl rfl rfl rfl ⟨_, rfl, rfl, T_r0, Nat.le_of_ble_eq_true rfl⟩ rfl rfl (Nat.le_of_ble_eq_true rfl) (Nat.le_of_ble_eq_true rfl) (Nat.le_of_ble_eq_true rfl) (by decide) (fun e9 he I9 L9 hq => by obtain ⟨rfl, rfl⟩ := hq; exact Or.inl ⟨rfl, Or.inr ⟨e9, _, _, (by decide : ∀ z ∈ [3], z ∈ [3]) e9 he, rfl, rfl, hI, Chg.rf⟩⟩) ?_
  rintro yy1 _ _ ⟨hyy1, rfl, rfl⟩
  obtain ⟨rr2, err2, H_rr2⟩ := hyy1
  subst err2
  refine k_astore_n C (lw := [(3, .ref rr2), (0, .ref r0), (1, .int n1), (2, .int n2)]) rfl rfl (Nat.le_of_ble_eq_true rfl) rfl ?_
  refine k_aload_n C rfl rfl rfl ?_
  refine k_iload_n C rfl rfl rfl ?_
  refine w_VR C (s_X11_toldForm hS hI H_r0) rfl rfl rfl rfl rfl ⟨_, rfl, rfl, T_r0, Nat.le_of_ble_eq_true rfl⟩ rfl rfl (Nat.le_of_ble_eq_true rfl) (Nat.le_of_ble_eq_true rfl) (Nat.le_of_ble_eq_true rfl) (by decide) (fun e9 he I9 L9 hq => by obtain ⟨rfl, rfl⟩ := hq; exact Or.inl ⟨rfl, Or.inr ⟨e9, _, _, (by decide : ∀ z ∈ [3], z ∈ [3]) e9 he, rfl, rfl, hI, Chg.rf⟩⟩) ?_
  rintro yy3 _ _ ⟨hyy3, rfl, rfl⟩
  obtain ⟨rr4, err4, H_rr4⟩ := hyy3
  subst err4
  refine k_astore C (lw := [(4, .ref rr4), (3, .ref rr2), (0, .ref r0), (1, .int n1), (2, .int n2)]) rfl rfl (Nat.le_of_ble_eq_true rfl) rfl ?_
  refine k_aload_n C rfl rfl rfl ?_
  refine g_R C rfl rfl rfl T_r0 rfl R_r0_8 ?_
  refine k_aload_n C rfl rfl rfl ?_
  refine k_aload C rfl rfl rfl ?_
  obtain ⟨T_r0_8, A_r0_8, B_r0_8, ⟨r0_8_2, R_r0_8_2, H_r0_8_2⟩, ⟨r0_8_3, R_r0_8_3, H_r0_8_3⟩, ⟨r0_8_4, R_r0_8_4, H_r0_8_4⟩, ⟨r0_8_5, R_r0_8_5, H_r0_8_5⟩, ⟨r0_8_6, R_r0_8_6, H_r0_8_6⟩⟩ := id H_r0_8
  refine c_VV C (s_X6_run hS hI H_r0_8 H_rr2 H_rr4) rfl rfl rfl rfl rfl ⟨_, rfl, rfl, T_r0_8, Nat.le_of_ble_eq_true rfl⟩ rfl rfl (Nat.le_of_ble_eq_true rfl) (Nat.le_of_ble_eq_true rfl) (Nat.le_of_ble_eq_true rfl) ?_
  rintro I6 L7 ⟨hI6, S8⟩
  refine k_aload_n C rfl rfl rfl ?_
  refine g_R C rfl rfl rfl T_r0 rfl R_r0_8 ?_
  refine z_gI C rfl rfl rfl T_r0_8 rfl (fun x9 ex9 => ?_)
  have gx9 := rg x9
  exact k_iret C rfl (Or.inl rfl) (Nat.le_of_ble_eq_true rfl) (Nat.le_of_ble_eq_true rfl) (Or.inl ⟨_, _, _, rfl, rfl, hI6, (Chg.mono S8 (by decide))⟩)

theorem s_X11_keep {d : Nat} {T N : Nat → Nat} {I : IT} {L : LT} {R : RT} {A B : Nat → Prop} {r0 : Nat} {n1 : Int32} (hS : SUB B A) (hI : IX A T I) (H_r0 : (hs_LF T N R A B) r0) : Ex (d + 5) 159 [.ref r0, .int n1] (T, N, I, L, R) 1 6 (pW [3] T N R (pI T N R (fun x9 I9 L9 => (IX A T I9 ∧ Chg B T [(7, 0), (7, 1)] I L I9 L9))) (fun I9 L9 => IX A T I9 ∧ Chg B T [(7, 0), (7, 1)] I L I9 L9)) := by
  refine ⟨_, rfl, Nat.le_of_ble_eq_true rfl, fun V C S => ?_⟩
  show V 0 [(0, .ref r0), (1, .int n1)] [] (T, N, I, L, R) 0 0
  have gn1 := rg n1
  refine k_aload_n C rfl rfl rfl ?_
  refine k_iload_n C rfl rfl rfl ?_
  obtain ⟨T_r0, A_r0, B_r0, ⟨r0_0, R_r0_0, H_r0_0⟩, ⟨r0_1, R_r0_1, H_r0_1⟩, ⟨r0_2, R_r0_2, H_r0_2⟩, ⟨r0_5, R_r0_5, H_r0_5⟩, ⟨r0_6, R_r0_6, H_r0_6⟩, ⟨r0_7, R_r0_7, H_r0_7⟩, ⟨r0_8, R_r0_8, H_r0_8⟩, ⟨r0_9, R_r0_9, H_r0_9⟩, ⟨r0_10, R_r0_10, H_r0_10⟩, ⟨r0_11, R_r0_11, H_r0_11⟩, ⟨r0_12, R_r0_12, H_r0_12⟩, ⟨r0_13, R_r0_13, H_r0_13⟩⟩ := id H_r0
  refine w_VR C (s_X11_toldForm hS hI H_r0) rfl rfl rfl rfl rfl ⟨_, rfl, rfl, T_r0, Nat.le_of_ble_eq_true rfl⟩ rfl rfl (Nat.le_of_ble_eq_true rfl) (Nat.le_of_ble_eq_true rfl) (Nat.le_of_ble_eq_true rfl) (by decide) (fun e9 he I9 L9 hq => by obtain ⟨rfl, rfl⟩ := hq; exact Or.inl ⟨rfl, Or.inr ⟨e9, _, _, (by decide : ∀ z ∈ [3], z ∈ [3]) e9 he, rfl, rfl, hI, Chg.rf⟩⟩) ?_
  rintro yy1 _ _ ⟨hyy1, rfl, rfl⟩
  obtain ⟨rr2, err2, H_rr2⟩ := hyy1
  subst err2
  refine k_astore_n C (lw := [(2, .ref rr2), (0, .ref r0), (1, .int n1)]) rfl rfl (Nat.le_of_ble_eq_true rfl) rfl ?_
  refine k_aload_n C rfl rfl rfl ?_
  refine g_R C rfl rfl rfl T_r0 rfl R_r0_8 ?_
  refine k_aload_n C rfl rfl rfl ?_
  refine k_aload_n C rfl rfl rfl ?_
  obtain ⟨T_r0_8, A_r0_8, B_r0_8, ⟨r0_8_2, R_r0_8_2, H_r0_8_2⟩, ⟨r0_8_3, R_r0_8_3, H_r0_8_3⟩, ⟨r0_8_4, R_r0_8_4, H_r0_8_4⟩, ⟨r0_8_5, R_r0_8_5, H_r0_8_5⟩, ⟨r0_8_6, R_r0_8_6, H_r0_8_6⟩⟩ := id H_r0_8
  refine c_VV C (s_X6_run hS hI H_r0_8 H_rr2 H_rr2) rfl rfl rfl rfl rfl ⟨_, rfl, rfl, T_r0_8, Nat.le_of_ble_eq_true rfl⟩ rfl rfl (Nat.le_of_ble_eq_true rfl) (Nat.le_of_ble_eq_true rfl) (Nat.le_of_ble_eq_true rfl) ?_
  rintro I4 L5 ⟨hI4, S6⟩
  refine k_aload_n C rfl rfl rfl ?_
  refine g_R C rfl rfl rfl T_r0 rfl R_r0_8 ?_
  refine z_gI C rfl rfl rfl T_r0_8 rfl (fun x7 ex7 => ?_)
  have gx7 := rg x7
  exact k_iret C rfl (Or.inl rfl) (Nat.le_of_ble_eq_true rfl) (Nat.le_of_ble_eq_true rfl) (Or.inl ⟨_, _, _, rfl, rfl, hI4, (Chg.mono S6 (by decide))⟩)

theorem s_X11_kind {d : Nat} {T N : Nat → Nat} {I : IT} {L : LT} {R : RT} {A B : Nat → Prop} {r0 : Nat} {n1 : Int32} (hS : SUB B A) (hI : IX A T I) (H_r0 : (hs_LF T N R A B) r0) : Ex (d + 5) 160 [.ref r0, .int n1] (T, N, I, L, R) 1 6 (pW [3] T N R (pI T N R (fun x9 I9 L9 => (IX A T I9 ∧ Chg B T [(7, 0), (7, 1)] I L I9 L9))) (fun I9 L9 => IX A T I9 ∧ Chg B T [(7, 0), (7, 1)] I L I9 L9)) := by
  refine ⟨_, rfl, Nat.le_of_ble_eq_true rfl, fun V C S => ?_⟩
  show V 0 [(0, .ref r0), (1, .int n1)] [] (T, N, I, L, R) 0 0
  have gn1 := rg n1
  refine k_aload_n C rfl rfl rfl ?_
  refine k_iload_n C rfl rfl rfl ?_
  obtain ⟨T_r0, A_r0, B_r0, ⟨r0_0, R_r0_0, H_r0_0⟩, ⟨r0_1, R_r0_1, H_r0_1⟩, ⟨r0_2, R_r0_2, H_r0_2⟩, ⟨r0_5, R_r0_5, H_r0_5⟩, ⟨r0_6, R_r0_6, H_r0_6⟩, ⟨r0_7, R_r0_7, H_r0_7⟩, ⟨r0_8, R_r0_8, H_r0_8⟩, ⟨r0_9, R_r0_9, H_r0_9⟩, ⟨r0_10, R_r0_10, H_r0_10⟩, ⟨r0_11, R_r0_11, H_r0_11⟩, ⟨r0_12, R_r0_12, H_r0_12⟩, ⟨r0_13, R_r0_13, H_r0_13⟩⟩ := id H_r0
  refine w_VR C (s_X11_toldForm hS hI H_r0) rfl rfl rfl rfl rfl ⟨_, rfl, rfl, T_r0, Nat.le_of_ble_eq_true rfl⟩ rfl rfl (Nat.le_of_ble_eq_true rfl) (Nat.le_of_ble_eq_true rfl) (Nat.le_of_ble_eq_true rfl) (by decide) (fun e9 he I9 L9 hq => by obtain ⟨rfl, rfl⟩ := hq; exact Or.inl ⟨rfl, Or.inr ⟨e9, _, _, (by decide : ∀ z ∈ [3], z ∈ [3]) e9 he, rfl, rfl, hI, Chg.rf⟩⟩) ?_
  rintro yy1 _ _ ⟨hyy1, rfl, rfl⟩
  obtain ⟨rr2, err2, H_rr2⟩ := hyy1
  subst err2
  refine k_astore_n C (lw := [(2, .ref rr2), (0, .ref r0), (1, .int n1)]) rfl rfl (Nat.le_of_ble_eq_true rfl) rfl ?_
  refine z_iconst C (z := 0) rfl rfl rfl (fun x3 ex3 => ?_)
  have J4 : ∀ (nn5 : Nat) (I6 : IT) (L7 : LT) (x8 : Int32), (MN (2147483647 - x8.toInt) nn5) → (IX A T I6) → (Chg B T [(7, 0), (7, 1)] I L I6 L7) → (0 ≤ x8.toInt) → V 8 [(0, .ref r0), (1, .int n1), (2, .ref rr2), (3, .int x8)] [] (T, N, I6, L7, R) 1 6 := by
    intro nn5
    induction nn5 using Nat.strongRecOn with
    | _ nn5 ihJ4 =>
      intro I6 L7 x8 hmnn5 hI11 S10 b9
      have gx8 := rg x8
      refine k_iload_n C rfl rfl rfl ?_
      refine k_iload_n C rfl rfl rfl ?_
      refine b_icmp_ge C (t := 56) rfl rfl rfl (fun c12 => ?_) (fun c12 => ?_)
      · skip
        refine k_iload_n C rfl rfl rfl ?_
        exact k_iret C rfl (Or.inl rfl) (Nat.le_of_ble_eq_true rfl) (Nat.le_of_ble_eq_true rfl) (Or.inl ⟨_, _, _, rfl, rfl, hI11, (Chg.mono S10 (by decide))⟩)
      refine k_aload_n C rfl rfl rfl ?_
      refine g_R C rfl rfl rfl T_r0 rfl R_r0_1 ?_
      refine k_iload_n C rfl rfl rfl ?_
      obtain ⟨T_r0_1, A_r0_1, B_r0_1, ⟨r0_1_6, R_r0_1_6, H_r0_1_6⟩, ⟨r0_1_7, R_r0_1_7, H_r0_1_7⟩, ⟨r0_1_8, R_r0_1_8, H_r0_1_8⟩, ⟨r0_1_9, R_r0_1_9, H_r0_1_9⟩, ⟨r0_1_10, R_r0_1_10, H_r0_1_10⟩⟩ := id H_r0_1
      refine c_VR C (s_X8_formAt hS hI11 H_r0_1) rfl rfl rfl rfl rfl ⟨_, rfl, rfl, T_r0_1, Nat.le_of_ble_eq_true rfl⟩ rfl rfl (Nat.le_of_ble_eq_true rfl) (Nat.le_of_ble_eq_true rfl) (Nat.le_of_ble_eq_true rfl) ?_
      rintro yy13 _ _ ⟨hyy13, rfl, rfl⟩
      refine k_astoreV C (x := yy13) (lw := [(4, va_rf yy13), (0, .ref r0), (1, .int n1), (2, .ref rr2), (3, .int x8)]) rfl rfl (Nat.le_of_ble_eq_true rfl) rfl ?_
      refine k_aloadV C (x := yy13) rfl rfl rfl ?_
      refine k_ifnull C (x := yy13) (t := 50) rfl rfl rfl (fun c14 => ?_) (fun rr15 c14 => ?_)
      · skip
        subst c14
        refine z_iinc C (z := 1) (lw := fun x16 => [(3, .int x16), (4, va_rf none), (0, .ref r0), (1, .int n1), (2, .ref rr2)]) rfl rfl rfl (Nat.le_of_ble_eq_true rfl) rfl ⟨by omega, by omega⟩ (fun _ => rfl) (fun x16 ex16 => ?_)
        show V 53 [(3, .int x16), (4, va_rf none), (0, .ref r0), (1, .int n1), (2, .ref rr2)] _ _ _ _
        refine k_goto C (pc2 := 8) rfl rfl ?_
        refine k_sub S [(0, .ref r0), (1, .int n1), (2, .ref rr2), (3, .int x16)] (List.forall_mem_cons.mpr ⟨List.mem_of_getElem? (i := 2) rfl, List.forall_mem_cons.mpr ⟨List.mem_of_getElem? (i := 3) rfl, List.forall_mem_cons.mpr ⟨List.mem_of_getElem? (i := 4) rfl, List.forall_mem_cons.mpr ⟨List.mem_of_getElem? (i := 0) rfl, fun _ h => nomatch h⟩⟩⟩⟩) ?_
        exact ihJ4 _ (MN.lt hmnn5 (by omega) (by omega)) I6 L7 x16 rfl hI11 (Chg.mono S10 (by decide)) (by omega)
      subst c14
      have H_rr15 := hyy13 rr15 rfl
      refine k_aload_n C rfl rfl rfl ?_
      refine g_R C rfl rfl rfl T_r0 rfl R_r0_8 ?_
      refine k_aload C rfl rfl rfl ?_
      refine k_aload_n C rfl rfl rfl ?_
      obtain ⟨T_r0_8, A_r0_8, B_r0_8, ⟨r0_8_2, R_r0_8_2, H_r0_8_2⟩, ⟨r0_8_3, R_r0_8_3, H_r0_8_3⟩, ⟨r0_8_4, R_r0_8_4, H_r0_8_4⟩, ⟨r0_8_5, R_r0_8_5, H_r0_8_5⟩, ⟨r0_8_6, R_r0_8_6, H_r0_8_6⟩⟩ := id H_r0_8
      refine c_VV C (s_X6_run hS hI11 H_r0_8 H_rr15 H_rr2) rfl rfl rfl rfl rfl ⟨_, rfl, rfl, T_r0_8, Nat.le_of_ble_eq_true rfl⟩ rfl rfl (Nat.le_of_ble_eq_true rfl) (Nat.le_of_ble_eq_true rfl) (Nat.le_of_ble_eq_true rfl) ?_
      rintro I18 L19 ⟨hI18, S20⟩
      refine k_aload_n C rfl rfl rfl ?_
      refine g_R C rfl rfl rfl T_r0 rfl R_r0_8 ?_
      refine z_gI C rfl rfl rfl T_r0_8 rfl (fun x21 ex21 => ?_)
      have gx21 := rg x21
      refine b_if_le C (t := 50) rfl rfl rfl (fun c22 => ?_) (fun c22 => ?_)
      · skip
        refine z_iinc C (z := 1) (lw := fun x23 => [(3, .int x23), (4, .ref rr15), (0, .ref r0), (1, .int n1), (2, .ref rr2)]) rfl rfl rfl (Nat.le_of_ble_eq_true rfl) rfl ⟨by omega, by omega⟩ (fun _ => rfl) (fun x23 ex23 => ?_)
        show V 53 [(3, .int x23), (4, .ref rr15), (0, .ref r0), (1, .int n1), (2, .ref rr2)] _ _ _ _
        refine k_goto C (pc2 := 8) rfl rfl ?_
        refine k_sub S [(0, .ref r0), (1, .int n1), (2, .ref rr2), (3, .int x23)] (List.forall_mem_cons.mpr ⟨List.mem_of_getElem? (i := 2) rfl, List.forall_mem_cons.mpr ⟨List.mem_of_getElem? (i := 3) rfl, List.forall_mem_cons.mpr ⟨List.mem_of_getElem? (i := 4) rfl, List.forall_mem_cons.mpr ⟨List.mem_of_getElem? (i := 0) rfl, fun _ h => nomatch h⟩⟩⟩⟩) ?_
        exact ihJ4 _ (MN.lt hmnn5 (by omega) (by omega)) I18 L19 x23 rfl hI18 (Chg.cons S10 (Chg.mono S20 (by decide)) (by decide)) (by omega)
      refine k_iload_n C rfl rfl rfl ?_
      exact k_iret C rfl (Or.inl rfl) (Nat.le_of_ble_eq_true rfl) (Nat.le_of_ble_eq_true rfl) (Or.inl ⟨_, _, _, rfl, rfl, hI18, (Chg.cons S10 (Chg.mono S20 (by decide)) (by decide))⟩)
  refine k_istore_n C (lw := [(3, .int x3), (2, .ref rr2), (0, .ref r0), (1, .int n1)]) rfl rfl (Nat.le_of_ble_eq_true rfl) rfl ?_
  refine k_sub S [(0, .ref r0), (1, .int n1), (2, .ref rr2), (3, .int x3)] (List.forall_mem_cons.mpr ⟨List.mem_of_getElem? (i := 2) rfl, List.forall_mem_cons.mpr ⟨List.mem_of_getElem? (i := 3) rfl, List.forall_mem_cons.mpr ⟨List.mem_of_getElem? (i := 1) rfl, List.forall_mem_cons.mpr ⟨List.mem_of_getElem? (i := 0) rfl, fun _ h => nomatch h⟩⟩⟩⟩) ?_
  exact J4 _ I L x3 rfl hI Chg.rf (by omega)

theorem s_X11_orbit {d : Nat} {T N : Nat → Nat} {I : IT} {L : LT} {R : RT} {A B : Nat → Prop} {r0 : Nat} {n1 : Int32} (hS : SUB B A) (hI : IX A T I) (H_r0 : (hs_LF T N R A B) r0) : Ex (d + 5) 161 [.ref r0, .int n1] (T, N, I, L, R) 1 6 (pW [3] T N R (pI T N R (fun x9 I9 L9 => (IX A T I9 ∧ Chg B T [(7, 0), (7, 1)] I L I9 L9))) (fun I9 L9 => IX A T I9 ∧ Chg B T [(7, 0), (7, 1)] I L I9 L9)) := by
  refine ⟨_, rfl, Nat.le_of_ble_eq_true rfl, fun V C S => ?_⟩
  show V 0 [(0, .ref r0), (1, .int n1)] [] (T, N, I, L, R) 0 0
  have gn1 := rg n1
  refine k_aload_n C rfl rfl rfl ?_
  refine k_iload_n C rfl rfl rfl ?_
  obtain ⟨T_r0, A_r0, B_r0, ⟨r0_0, R_r0_0, H_r0_0⟩, ⟨r0_1, R_r0_1, H_r0_1⟩, ⟨r0_2, R_r0_2, H_r0_2⟩, ⟨r0_5, R_r0_5, H_r0_5⟩, ⟨r0_6, R_r0_6, H_r0_6⟩, ⟨r0_7, R_r0_7, H_r0_7⟩, ⟨r0_8, R_r0_8, H_r0_8⟩, ⟨r0_9, R_r0_9, H_r0_9⟩, ⟨r0_10, R_r0_10, H_r0_10⟩, ⟨r0_11, R_r0_11, H_r0_11⟩, ⟨r0_12, R_r0_12, H_r0_12⟩, ⟨r0_13, R_r0_13, H_r0_13⟩⟩ := id H_r0
  refine w_VR C (s_X11_toldForm hS hI H_r0) rfl rfl rfl rfl rfl ⟨_, rfl, rfl, T_r0, Nat.le_of_ble_eq_true rfl⟩ rfl rfl (Nat.le_of_ble_eq_true rfl) (Nat.le_of_ble_eq_true rfl) (Nat.le_of_ble_eq_true rfl) (by decide) (fun e9 he I9 L9 hq => by obtain ⟨rfl, rfl⟩ := hq; exact Or.inl ⟨rfl, Or.inr ⟨e9, _, _, (by decide : ∀ z ∈ [3], z ∈ [3]) e9 he, rfl, rfl, hI, Chg.rf⟩⟩) ?_
  rintro yy1 _ _ ⟨hyy1, rfl, rfl⟩
  obtain ⟨rr2, err2, H_rr2⟩ := hyy1
  subst err2
  refine k_astore_n C (lw := [(2, .ref rr2), (0, .ref r0), (1, .int n1)]) rfl rfl (Nat.le_of_ble_eq_true rfl) rfl ?_
  refine k_aload_n C rfl rfl rfl ?_
  refine g_R C rfl rfl rfl T_r0 rfl R_r0_8 ?_
  refine k_aload_n C rfl rfl rfl ?_
  refine k_aload_n C rfl rfl rfl ?_
  obtain ⟨T_r0_8, A_r0_8, B_r0_8, ⟨r0_8_2, R_r0_8_2, H_r0_8_2⟩, ⟨r0_8_3, R_r0_8_3, H_r0_8_3⟩, ⟨r0_8_4, R_r0_8_4, H_r0_8_4⟩, ⟨r0_8_5, R_r0_8_5, H_r0_8_5⟩, ⟨r0_8_6, R_r0_8_6, H_r0_8_6⟩⟩ := id H_r0_8
  refine c_VV C (s_X6_run hS hI H_r0_8 H_rr2 H_rr2) rfl rfl rfl rfl rfl ⟨_, rfl, rfl, T_r0_8, Nat.le_of_ble_eq_true rfl⟩ rfl rfl (Nat.le_of_ble_eq_true rfl) (Nat.le_of_ble_eq_true rfl) (Nat.le_of_ble_eq_true rfl) ?_
  rintro I4 L5 ⟨hI4, S6⟩
  refine k_aload_n C rfl rfl rfl ?_
  refine g_R C rfl rfl rfl T_r0 rfl R_r0_8 ?_
  refine z_gI C rfl rfl rfl T_r0_8 rfl (fun x7 ex7 => ?_)
  have gx7 := rg x7
  refine b_if_le C (t := 43) rfl rfl rfl (fun c8 => ?_) (fun c8 => ?_)
  · skip
    refine z_iconst C (z := 0) rfl rfl rfl (fun x9 ex9 => ?_)
    exact k_iret C rfl (Or.inl rfl) (Nat.le_of_ble_eq_true rfl) (Nat.le_of_ble_eq_true rfl) (Or.inl ⟨_, _, _, rfl, rfl, hI4, (Chg.mono S6 (by decide))⟩)
  refine k_aload_n C rfl rfl rfl ?_
  refine g_R C rfl rfl rfl T_r0 rfl R_r0_5 ?_
  obtain ⟨T_r0_5, A_r0_5, B_r0_5, ⟨r0_5_0, R_r0_5_0, H_r0_5_0⟩, ⟨r0_5_1, R_r0_5_1, H_r0_5_1⟩, ⟨r0_5_2, R_r0_5_2, H_r0_5_2⟩⟩ := id H_r0_5
  refine c_VI C (s_X0_tables hS hI4 H_r0_5) rfl rfl rfl rfl rfl ⟨_, rfl, rfl, T_r0_5, Nat.le_of_ble_eq_true rfl⟩ rfl rfl (Nat.le_of_ble_eq_true rfl) (Nat.le_of_ble_eq_true rfl) (Nat.le_of_ble_eq_true rfl) ?_
  rintro x10 _ _ ⟨rfl, rfl⟩
  have gx10 := rg x10
  refine k_aload_n C rfl rfl rfl ?_
  refine g_R C rfl rfl rfl T_r0 rfl R_r0_8 ?_
  refine g_I C rfl rfl rfl T_r0_8 rfl ex7 ?_
  refine zt_idiv C rfl rfl (by omega) (fun x11 => ?_)
  have gx11 := rg x11
  refine k_goto C (pc2 := 44) rfl rfl ?_
  exact k_iret C rfl (Or.inl rfl) (Nat.le_of_ble_eq_true rfl) (Nat.le_of_ble_eq_true rfl) (Or.inl ⟨_, _, _, rfl, rfl, hI4, (Chg.mono S6 (by decide))⟩)

theorem s_X11_powers {d : Nat} {T N : Nat → Nat} {I : IT} {L : LT} {R : RT} {A B : Nat → Prop} {r0 : Nat} {n1 n2 : Int32} (hS : SUB B A) (hI : IX A T I) (H_r0 : (hs_LF T N R A B) r0) : Ex (d + 6) 162 [.ref r0, .int n1, .int n2] (T, N, I, L, R) 2 12 (pW [0, 3] T N R (pI T N R (fun x9 I9 L9 => (IX A T I9 ∧ Chg B T [(4, 0), (4, 6), (4, 7)] I L I9 L9))) (fun I9 L9 => IX A T I9 ∧ Chg B T [(4, 0), (4, 6), (4, 7)] I L I9 L9)) := by
  refine ⟨_, rfl, Nat.le_of_ble_eq_true rfl, fun V C S => ?_⟩
  show V 0 [(0, .ref r0), (1, .int n1), (2, .int n2)] [] (T, N, I, L, R) 0 0
  have gn1 := rg n1
  have gn2 := rg n2
  refine k_aload_n C rfl rfl rfl ?_
  refine k_iload_n C rfl rfl rfl ?_
  obtain ⟨T_r0, A_r0, B_r0, ⟨r0_0, R_r0_0, H_r0_0⟩, ⟨r0_1, R_r0_1, H_r0_1⟩, ⟨r0_2, R_r0_2, H_r0_2⟩, ⟨r0_5, R_r0_5, H_r0_5⟩, ⟨r0_6, R_r0_6, H_r0_6⟩, ⟨r0_7, R_r0_7, H_r0_7⟩, ⟨r0_8, R_r0_8, H_r0_8⟩, ⟨r0_9, R_r0_9, H_r0_9⟩, ⟨r0_10, R_r0_10, H_r0_10⟩, ⟨r0_11, R_r0_11, H_r0_11⟩, ⟨r0_12, R_r0_12, H_r0_12⟩, ⟨r0_13, R_r0_13, H_r0_13⟩⟩ := id H_r0
  refine w_VR C (s_X11_toldForm hS hI H_r0) rfl rfl rfl rfl rfl ⟨_, rfl, rfl, T_r0, Nat.le_of_ble_eq_true rfl⟩ rfl rfl (Nat.le_of_ble_eq_true rfl) (Nat.le_of_ble_eq_true rfl) (Nat.le_of_ble_eq_true rfl) (by decide) (fun e9 he I9 L9 hq => by obtain ⟨rfl, rfl⟩ := hq; exact Or.inl ⟨rfl, Or.inr ⟨e9, _, _, (by decide : ∀ z ∈ [3], z ∈ [0, 3]) e9 he, rfl, rfl, hI, Chg.rf⟩⟩) ?_
  rintro yy1 _ _ ⟨hyy1, rfl, rfl⟩
  obtain ⟨rr2, err2, H_rr2⟩ := hyy1
  subst err2
  refine k_astore_n C (lw := [(3, .ref rr2), (0, .ref r0), (1, .int n1), (2, .int n2)]) rfl rfl (Nat.le_of_ble_eq_true rfl) rfl ?_
  refine k_aload_n C rfl rfl rfl ?_
  obtain ⟨T_rr2, A_rr2, ⟨rr2_1, R_rr2_1, H_rr2_1⟩⟩ := id H_rr2
  refine z_gI C rfl rfl rfl T_rr2 rfl (fun x3 ex3 => ?_)
  have gx3 := rg x3
  have ox3 := IX.deg hI A_rr2 T_rr2 ex3
  refine b_if_eq C (t := 18) rfl rfl rfl (fun c4 => ?_) (fun c4 => ?_)
  · skip
    exact k_throw C rfl rfl rfl rfl rfl rfl (Nat.le_of_ble_eq_true rfl) (Nat.le_of_ble_eq_true rfl) (Nat.le_of_ble_eq_true rfl) (Or.inr ⟨_, _, _, (by decide : 0 ∈ [0, 3]), rfl, rfl, hI, Chg.rf⟩)
  refine k_iload_n C rfl rfl rfl ?_
  refine z_iconst C (z := -1) rfl rfl rfl (fun x5 ex5 => ?_)
  refine b_icmp_ge C (t := 26) rfl rfl rfl (fun c6 => ?_) (fun c6 => ?_)
  · skip
    refine k_aload_n C rfl rfl rfl ?_
    refine g_R C rfl rfl rfl T_r0 rfl R_r0_9 ?_
    refine k_aload_n C rfl rfl rfl ?_
    obtain ⟨T_r0_9, A_r0_9, B_r0_9, ⟨r0_9_1, R_r0_9_1, H_r0_9_1⟩, ⟨r0_9_2, R_r0_9_2, H_r0_9_2⟩, ⟨r0_9_3, R_r0_9_3, H_r0_9_3⟩, ⟨r0_9_4, R_r0_9_4, H_r0_9_4⟩, ⟨r0_9_5, R_r0_9_5, H_r0_9_5⟩⟩ := id H_r0_9
    refine c_VV C (s_X3_find hS hI H_r0_9 H_rr2) rfl rfl rfl rfl rfl ⟨_, rfl, rfl, T_r0_9, Nat.le_of_ble_eq_true rfl⟩ rfl rfl (Nat.le_of_ble_eq_true rfl) (Nat.le_of_ble_eq_true rfl) (Nat.le_of_ble_eq_true rfl) ?_
    rintro I8 L9 ⟨hI8, S10⟩
    have e11 := Chg.k S10 T_rr2 (by decide) (by decide) ex3
    refine k_iload_n C rfl rfl rfl ?_
    refine z_iconst C (z := -1) rfl rfl rfl (fun x12 ex12 => ?_)
    refine b_icmp_ne C (t := 47) rfl rfl rfl (fun c13 => ?_) (fun c13 => ?_)
    · skip
      refine k_iload_n C rfl rfl rfl ?_
      refine z_bipush C (z := 10) rfl rfl rfl (fun x14 ex14 => ?_)
      refine b_icmp_ge C (t := 64) rfl rfl rfl (fun c15 => ?_) (fun c15 => ?_)
      · skip
        refine k_aload_n C rfl rfl rfl ?_
        refine g_R C rfl rfl rfl T_r0 rfl R_r0_9 ?_
        refine k_iload_n C rfl rfl rfl ?_
        refine z_bipush C (z := 10) rfl rfl rfl (fun x16 ex16 => ?_)
        refine z_isub C rfl rfl ⟨by omega, by omega⟩ (fun x17 ex17 => ?_)
        refine c_VI C (s_X3_numberAt hS hI8 H_r0_9) rfl rfl rfl rfl rfl ⟨_, rfl, rfl, T_r0_9, Nat.le_of_ble_eq_true rfl⟩ rfl rfl (Nat.le_of_ble_eq_true rfl) (Nat.le_of_ble_eq_true rfl) (Nat.le_of_ble_eq_true rfl) ?_
        rintro x18 _ _ ⟨rfl, rfl⟩
        have gx18 := rg x18
        exact k_iret C rfl (Or.inl rfl) (Nat.le_of_ble_eq_true rfl) (Nat.le_of_ble_eq_true rfl) (Or.inl ⟨_, _, _, rfl, rfl, hI8, (Chg.mono S10 (by decide))⟩)
      refine k_aload_n C rfl rfl rfl ?_
      refine g_R C rfl rfl rfl T_r0 rfl R_r0_9 ?_
      refine k_iload_n C rfl rfl rfl ?_
      refine c_VI C (s_X3_pointAt hS hI8 H_r0_9) rfl rfl rfl rfl rfl ⟨_, rfl, rfl, T_r0_9, Nat.le_of_ble_eq_true rfl⟩ rfl rfl (Nat.le_of_ble_eq_true rfl) (Nat.le_of_ble_eq_true rfl) (Nat.le_of_ble_eq_true rfl) ?_
      rintro x19 _ _ ⟨rfl, rfl⟩
      have gx19 := rg x19
      refine k_goto C (pc2 := 75) rfl rfl ?_
      exact k_iret C rfl (Or.inl rfl) (Nat.le_of_ble_eq_true rfl) (Nat.le_of_ble_eq_true rfl) (Or.inl ⟨_, _, _, rfl, rfl, hI8, (Chg.mono S10 (by decide))⟩)
    refine k_aload_n C rfl rfl rfl ?_
    refine g_R C rfl rfl rfl T_r0 rfl R_r0_9 ?_
    refine z_gI C rfl rfl rfl T_r0_9 rfl (fun x20 ex20 => ?_)
    have gx20 := rg x20
    exact k_iret C rfl (Or.inl rfl) (Nat.le_of_ble_eq_true rfl) (Nat.le_of_ble_eq_true rfl) (Or.inl ⟨_, _, _, rfl, rfl, hI8, (Chg.mono S10 (by decide))⟩)
  exact k_throw C rfl rfl rfl rfl rfl rfl (Nat.le_of_ble_eq_true rfl) (Nat.le_of_ble_eq_true rfl) (Nat.le_of_ble_eq_true rfl) (Or.inr ⟨_, _, _, (by decide : 0 ∈ [0, 3]), rfl, rfl, hI, Chg.rf⟩)

theorem s_X11_common {d : Nat} {T N : Nat → Nat} {I : IT} {L : LT} {R : RT} {A B : Nat → Prop} {r0 : Nat} {n1 n2 n3 : Int32} (hS : SUB B A) (hI : IX A T I) (H_r0 : (hs_LF T N R A B) r0) : Ex (d + 6) 163 [.ref r0, .int n1, .int n2, .int n3] (T, N, I, L, R) 2 12 (pW [3] T N R (pI T N R (fun x9 I9 L9 => (IX A T I9 ∧ Chg B T [(3, 0)] I L I9 L9))) (fun I9 L9 => IX A T I9 ∧ Chg B T [(3, 0)] I L I9 L9)) := by
  refine ⟨_, rfl, Nat.le_of_ble_eq_true rfl, fun V C S => ?_⟩
  show V 0 [(0, .ref r0), (1, .int n1), (2, .int n2), (3, .int n3)] [] (T, N, I, L, R) 0 0
  have gn1 := rg n1
  have gn2 := rg n2
  have gn3 := rg n3
  refine k_aload_n C rfl rfl rfl ?_
  refine k_iload_n C rfl rfl rfl ?_
  obtain ⟨T_r0, A_r0, B_r0, ⟨r0_0, R_r0_0, H_r0_0⟩, ⟨r0_1, R_r0_1, H_r0_1⟩, ⟨r0_2, R_r0_2, H_r0_2⟩, ⟨r0_5, R_r0_5, H_r0_5⟩, ⟨r0_6, R_r0_6, H_r0_6⟩, ⟨r0_7, R_r0_7, H_r0_7⟩, ⟨r0_8, R_r0_8, H_r0_8⟩, ⟨r0_9, R_r0_9, H_r0_9⟩, ⟨r0_10, R_r0_10, H_r0_10⟩, ⟨r0_11, R_r0_11, H_r0_11⟩, ⟨r0_12, R_r0_12, H_r0_12⟩, ⟨r0_13, R_r0_13, H_r0_13⟩⟩ := id H_r0
  refine w_VR C (s_X11_toldForm hS hI H_r0) rfl rfl rfl rfl rfl ⟨_, rfl, rfl, T_r0, Nat.le_of_ble_eq_true rfl⟩ rfl rfl (Nat.le_of_ble_eq_true rfl) (Nat.le_of_ble_eq_true rfl) (Nat.le_of_ble_eq_true rfl) (by decide) (fun e9 he I9 L9 hq => by obtain ⟨rfl, rfl⟩ := hq; exact Or.inl ⟨rfl, Or.inr ⟨e9, _, _, (by decide : ∀ z ∈ [3], z ∈ [3]) e9 he, rfl, rfl, hI, Chg.rf⟩⟩) ?_
  rintro yy1 _ _ ⟨hyy1, rfl, rfl⟩
  obtain ⟨rr2, err2, H_rr2⟩ := hyy1
  subst err2
  refine k_astore C (lw := [(4, .ref rr2), (0, .ref r0), (1, .int n1), (2, .int n2), (3, .int n3)]) rfl rfl (Nat.le_of_ble_eq_true rfl) rfl ?_
  refine k_aload_n C rfl rfl rfl ?_
  refine k_iload_n C rfl rfl rfl ?_
  refine w_VR C (s_X11_toldForm hS hI H_r0) rfl rfl rfl rfl rfl ⟨_, rfl, rfl, T_r0, Nat.le_of_ble_eq_true rfl⟩ rfl rfl (Nat.le_of_ble_eq_true rfl) (Nat.le_of_ble_eq_true rfl) (Nat.le_of_ble_eq_true rfl) (by decide) (fun e9 he I9 L9 hq => by obtain ⟨rfl, rfl⟩ := hq; exact Or.inl ⟨rfl, Or.inr ⟨e9, _, _, (by decide : ∀ z ∈ [3], z ∈ [3]) e9 he, rfl, rfl, hI, Chg.rf⟩⟩) ?_
  rintro yy3 _ _ ⟨hyy3, rfl, rfl⟩
  obtain ⟨rr4, err4, H_rr4⟩ := hyy3
  subst err4
  refine k_astore C (lw := [(5, .ref rr4), (4, .ref rr2), (0, .ref r0), (1, .int n1), (2, .int n2), (3, .int n3)]) rfl rfl (Nat.le_of_ble_eq_true rfl) rfl ?_
  refine k_aload C rfl rfl rfl ?_
  obtain ⟨T_rr2, A_rr2, ⟨rr2_1, R_rr2_1, H_rr2_1⟩⟩ := id H_rr2
  refine c_VI C (s_X2_isNought hS hI H_rr2) rfl rfl rfl rfl rfl ⟨_, rfl, rfl, T_rr2, Nat.le_of_ble_eq_true rfl⟩ rfl rfl (Nat.le_of_ble_eq_true rfl) (Nat.le_of_ble_eq_true rfl) (Nat.le_of_ble_eq_true rfl) ?_
  rintro x5 _ _ ⟨o0x5, o1x5, rfl, rfl⟩
  have gx5 := rg x5
  refine b_if_ne C (t := 30) rfl rfl rfl (fun c6 => ?_) (fun c6 => ?_)
  · skip
    refine z_bipush C (z := -2) rfl rfl rfl (fun x7 ex7 => ?_)
    exact k_iret C rfl (Or.inl rfl) (Nat.le_of_ble_eq_true rfl) (Nat.le_of_ble_eq_true rfl) (Or.inl ⟨_, _, _, rfl, rfl, hI, Chg.rf⟩)
  refine k_aload C rfl rfl rfl ?_
  obtain ⟨T_rr4, A_rr4, ⟨rr4_1, R_rr4_1, H_rr4_1⟩⟩ := id H_rr4
  refine c_VI C (s_X2_isNought hS hI H_rr4) rfl rfl rfl rfl rfl ⟨_, rfl, rfl, T_rr4, Nat.le_of_ble_eq_true rfl⟩ rfl rfl (Nat.le_of_ble_eq_true rfl) (Nat.le_of_ble_eq_true rfl) (Nat.le_of_ble_eq_true rfl) ?_
  rintro x8 _ _ ⟨o0x8, o1x8, rfl, rfl⟩
  have gx8 := rg x8
  refine b_if_eq C (t := 33) rfl rfl rfl (fun c9 => ?_) (fun c9 => ?_)
  · skip
    refine k_aload_n C rfl rfl rfl ?_
    refine g_R C rfl rfl rfl T_r0 rfl R_r0_5 ?_
    refine k_aload C rfl rfl rfl ?_
    refine k_aload C rfl rfl rfl ?_
    refine k_aload_n C rfl rfl rfl ?_
    refine g_R C rfl rfl rfl T_r0 rfl R_r0_11 ?_
    obtain ⟨T_r0_5, A_r0_5, B_r0_5, ⟨r0_5_0, R_r0_5_0, H_r0_5_0⟩, ⟨r0_5_1, R_r0_5_1, H_r0_5_1⟩, ⟨r0_5_2, R_r0_5_2, H_r0_5_2⟩⟩ := id H_r0_5
    refine c_VV C (s_X0_shareInto hS hI H_r0_5 H_rr2 H_rr4 H_r0_11) rfl rfl rfl rfl rfl ⟨_, rfl, rfl, T_r0_5, Nat.le_of_ble_eq_true rfl⟩ rfl rfl (Nat.le_of_ble_eq_true rfl) (Nat.le_of_ble_eq_true rfl) (Nat.le_of_ble_eq_true rfl) ?_
    rintro I11 L12 ⟨hI11, S13⟩
    refine k_aload_n C rfl rfl rfl ?_
    refine g_R C rfl rfl rfl T_r0 rfl R_r0_11 ?_
    refine k_iload_n C rfl rfl rfl ?_
    refine c_SI C (s_X11_degreeOrNumber hS hI11 (hs_GF hS H_r0_11)) rfl rfl rfl rfl rfl rfl rfl (Nat.le_of_ble_eq_true rfl) (Nat.le_of_ble_eq_true rfl) (Nat.le_of_ble_eq_true rfl) ?_
    rintro x14 _ _ ⟨rfl, rfl⟩
    have gx14 := rg x14
    exact k_iret C rfl (Or.inl rfl) (Nat.le_of_ble_eq_true rfl) (Nat.le_of_ble_eq_true rfl) (Or.inl ⟨_, _, _, rfl, rfl, hI11, (Chg.mono S13 (by decide))⟩)
  refine z_bipush C (z := -2) rfl rfl rfl (fun x15 ex15 => ?_)
  exact k_iret C rfl (Or.inl rfl) (Nat.le_of_ble_eq_true rfl) (Nat.le_of_ble_eq_true rfl) (Or.inl ⟨_, _, _, rfl, rfl, hI, Chg.rf⟩)

theorem s_X11_quotient {d : Nat} {T N : Nat → Nat} {I : IT} {L : LT} {R : RT} {A B : Nat → Prop} {r0 : Nat} {n1 n2 n3 : Int32} (hS : SUB B A) (hI : IX A T I) (H_r0 : (hs_LF T N R A B) r0) : Ex (d + 5) 164 [.ref r0, .int n1, .int n2, .int n3] (T, N, I, L, R) 2 12 (pW [3] T N R (pI T N R (fun x9 I9 L9 => (IX A T I9 ∧ Chg B T [(3, 0)] I L I9 L9))) (fun I9 L9 => IX A T I9 ∧ Chg B T [(3, 0)] I L I9 L9)) := by
  refine ⟨_, rfl, Nat.le_of_ble_eq_true rfl, fun V C S => ?_⟩
  show V 0 [(0, .ref r0), (1, .int n1), (2, .int n2), (3, .int n3)] [] (T, N, I, L, R) 0 0
  have gn1 := rg n1
  have gn2 := rg n2
  have gn3 := rg n3
  refine k_aload_n C rfl rfl rfl ?_
  refine k_iload_n C rfl rfl rfl ?_
  obtain ⟨T_r0, A_r0, B_r0, ⟨r0_0, R_r0_0, H_r0_0⟩, ⟨r0_1, R_r0_1, H_r0_1⟩, ⟨r0_2, R_r0_2, H_r0_2⟩, ⟨r0_5, R_r0_5, H_r0_5⟩, ⟨r0_6, R_r0_6, H_r0_6⟩, ⟨r0_7, R_r0_7, H_r0_7⟩, ⟨r0_8, R_r0_8, H_r0_8⟩, ⟨r0_9, R_r0_9, H_r0_9⟩, ⟨r0_10, R_r0_10, H_r0_10⟩, ⟨r0_11, R_r0_11, H_r0_11⟩, ⟨r0_12, R_r0_12, H_r0_12⟩, ⟨r0_13, R_r0_13, H_r0_13⟩⟩ := id H_r0
  refine w_VR C (s_X11_toldForm hS hI H_r0) rfl rfl rfl rfl rfl ⟨_, rfl, rfl, T_r0, Nat.le_of_ble_eq_true rfl⟩ rfl rfl (Nat.le_of_ble_eq_true rfl) (Nat.le_of_ble_eq_true rfl) (Nat.le_of_ble_eq_true rfl) (by decide) (fun e9 he I9 L9 hq => by obtain ⟨rfl, rfl⟩ := hq; exact Or.inl ⟨rfl, Or.inr ⟨e9, _, _, (by decide : ∀ z ∈ [3], z ∈ [3]) e9 he, rfl, rfl, hI, Chg.rf⟩⟩) ?_
  rintro yy1 _ _ ⟨hyy1, rfl, rfl⟩
  obtain ⟨rr2, err2, H_rr2⟩ := hyy1
  subst err2
  refine k_astore C (lw := [(4, .ref rr2), (0, .ref r0), (1, .int n1), (2, .int n2), (3, .int n3)]) rfl rfl (Nat.le_of_ble_eq_true rfl) rfl ?_
  refine k_aload_n C rfl rfl rfl ?_
  refine k_iload_n C rfl rfl rfl ?_
  refine w_VR C (s_X11_toldForm hS hI H_r0) rfl rfl rfl rfl rfl ⟨_, rfl, rfl, T_r0, Nat.le_of_ble_eq_true rfl⟩ rfl rfl (Nat.le_of_ble_eq_true rfl) (Nat.le_of_ble_eq_true rfl) (Nat.le_of_ble_eq_true rfl) (by decide) (fun e9 he I9 L9 hq => by obtain ⟨rfl, rfl⟩ := hq; exact Or.inl ⟨rfl, Or.inr ⟨e9, _, _, (by decide : ∀ z ∈ [3], z ∈ [3]) e9 he, rfl, rfl, hI, Chg.rf⟩⟩) ?_
  rintro yy3 _ _ ⟨hyy3, rfl, rfl⟩
  obtain ⟨rr4, err4, H_rr4⟩ := hyy3
  subst err4
  refine k_astore C (lw := [(5, .ref rr4), (4, .ref rr2), (0, .ref r0), (1, .int n1), (2, .int n2), (3, .int n3)]) rfl rfl (Nat.le_of_ble_eq_true rfl) rfl ?_
  refine k_aload_n C rfl rfl rfl ?_
  refine g_R C rfl rfl rfl T_r0 rfl R_r0_5 ?_
  refine k_aload C rfl rfl rfl ?_
  refine k_aload C rfl rfl rfl ?_
  refine k_aload_n C rfl rfl rfl ?_
  refine g_R C rfl rfl rfl T_r0 rfl R_r0_11 ?_
  obtain ⟨T_r0_5, A_r0_5, B_r0_5, ⟨r0_5_0, R_r0_5_0, H_r0_5_0⟩, ⟨r0_5_1, R_r0_5_1, H_r0_5_1⟩, ⟨r0_5_2, R_r0_5_2, H_r0_5_2⟩⟩ := id H_r0_5
  refine c_VI C (s_X0_divideInto hS hI H_r0_5 H_rr2 H_rr4 H_r0_11) rfl rfl rfl rfl rfl ⟨_, rfl, rfl, T_r0_5, Nat.le_of_ble_eq_true rfl⟩ rfl rfl (Nat.le_of_ble_eq_true rfl) (Nat.le_of_ble_eq_true rfl) (Nat.le_of_ble_eq_true rfl) ?_
  rintro x5 I6 L7 ⟨o0x5, o1x5, hI6, S8⟩
  have gx5 := rg x5
  refine b_if_eq C (t := 43) rfl rfl rfl (fun c9 => ?_) (fun c9 => ?_)
  · skip
    refine z_bipush C (z := -2) rfl rfl rfl (fun x10 ex10 => ?_)
    exact k_iret C rfl (Or.inl rfl) (Nat.le_of_ble_eq_true rfl) (Nat.le_of_ble_eq_true rfl) (Or.inl ⟨_, _, _, rfl, rfl, hI6, (Chg.mono S8 (by decide))⟩)
  refine k_aload_n C rfl rfl rfl ?_
  refine g_R C rfl rfl rfl T_r0 rfl R_r0_11 ?_
  refine k_iload_n C rfl rfl rfl ?_
  refine c_SI C (s_X11_degreeOrNumber hS hI6 (hs_GF hS H_r0_11)) rfl rfl rfl rfl rfl rfl rfl (Nat.le_of_ble_eq_true rfl) (Nat.le_of_ble_eq_true rfl) (Nat.le_of_ble_eq_true rfl) ?_
  rintro x11 _ _ ⟨rfl, rfl⟩
  have gx11 := rg x11
  refine k_goto C (pc2 := 45) rfl rfl ?_
  exact k_iret C rfl (Or.inl rfl) (Nat.le_of_ble_eq_true rfl) (Nat.le_of_ble_eq_true rfl) (Or.inl ⟨_, _, _, rfl, rfl, hI6, (Chg.mono S8 (by decide))⟩)

theorem s_X11_plain {d : Nat} {T N : Nat → Nat} {I : IT} {L : LT} {R : RT} {A B : Nat → Prop} {r0 : Nat} {n1 : Int32} (hS : SUB B A) (hI : IX A T I) (H_r0 : (hs_LF T N R A B) r0) : Ex (d + 6) 165 [.ref r0, .int n1] (T, N, I, L, R) 1 6 (pW [3] T N R (pI T N R (fun x9 I9 L9 => (0 ≤ x9.toInt) ∧ (x9.toInt ≤ 1) ∧ (IX A T I9 ∧ Chg B T [(3, 0)] I L I9 L9))) (fun I9 L9 => IX A T I9 ∧ Chg B T [(3, 0)] I L I9 L9)) := by
  refine ⟨_, rfl, Nat.le_of_ble_eq_true rfl, fun V C S => ?_⟩
  show V 0 [(0, .ref r0), (1, .int n1)] [] (T, N, I, L, R) 0 0
  have gn1 := rg n1
  refine k_aload_n C rfl rfl rfl ?_
  refine k_iload_n C rfl rfl rfl ?_
  obtain ⟨T_r0, A_r0, B_r0, ⟨r0_0, R_r0_0, H_r0_0⟩, ⟨r0_1, R_r0_1, H_r0_1⟩, ⟨r0_2, R_r0_2, H_r0_2⟩, ⟨r0_5, R_r0_5, H_r0_5⟩, ⟨r0_6, R_r0_6, H_r0_6⟩, ⟨r0_7, R_r0_7, H_r0_7⟩, ⟨r0_8, R_r0_8, H_r0_8⟩, ⟨r0_9, R_r0_9, H_r0_9⟩, ⟨r0_10, R_r0_10, H_r0_10⟩, ⟨r0_11, R_r0_11, H_r0_11⟩, ⟨r0_12, R_r0_12, H_r0_12⟩, ⟨r0_13, R_r0_13, H_r0_13⟩⟩ := id H_r0
  refine w_VR C (s_X11_toldForm hS hI H_r0) rfl rfl rfl rfl rfl ⟨_, rfl, rfl, T_r0, Nat.le_of_ble_eq_true rfl⟩ rfl rfl (Nat.le_of_ble_eq_true rfl) (Nat.le_of_ble_eq_true rfl) (Nat.le_of_ble_eq_true rfl) (by decide) (fun e9 he I9 L9 hq => by obtain ⟨rfl, rfl⟩ := hq; exact Or.inl ⟨rfl, Or.inr ⟨e9, _, _, (by decide : ∀ z ∈ [3], z ∈ [3]) e9 he, rfl, rfl, hI, Chg.rf⟩⟩) ?_
  rintro yy1 _ _ ⟨hyy1, rfl, rfl⟩
  obtain ⟨rr2, err2, H_rr2⟩ := hyy1
  subst err2
  refine k_astore_n C (lw := [(2, .ref rr2), (0, .ref r0), (1, .int n1)]) rfl rfl (Nat.le_of_ble_eq_true rfl) rfl ?_
  refine k_aload_n C rfl rfl rfl ?_
  obtain ⟨T_rr2, A_rr2, ⟨rr2_1, R_rr2_1, H_rr2_1⟩⟩ := id H_rr2
  refine z_gI C rfl rfl rfl T_rr2 rfl (fun x3 ex3 => ?_)
  have gx3 := rg x3
  have ox3 := IX.deg hI A_rr2 T_rr2 ex3
  refine z_iconst C (z := 2) rfl rfl rfl (fun x4 ex4 => ?_)
  refine b_icmp_ge C (t := 16) rfl rfl rfl (fun c5 => ?_) (fun c5 => ?_)
  · skip
    refine k_aload_n C rfl rfl rfl ?_
    refine g_R C rfl rfl rfl T_r0 rfl R_r0_5 ?_
    refine k_aload_n C rfl rfl rfl ?_
    refine z_iconst C (z := 1) rfl rfl rfl (fun x6 ex6 => ?_)
    refine z_iconst C (z := 0) rfl rfl rfl (fun x7 ex7 => ?_)
    refine k_aload_n C rfl rfl rfl ?_
    refine g_R C rfl rfl rfl T_r0 rfl R_r0_12 ?_
    obtain ⟨T_r0_5, A_r0_5, B_r0_5, ⟨r0_5_0, R_r0_5_0, H_r0_5_0⟩, ⟨r0_5_1, R_r0_5_1, H_r0_5_1⟩, ⟨r0_5_2, R_r0_5_2, H_r0_5_2⟩⟩ := id H_r0_5
    refine c_VV C (s_X0_differentiate hS hI H_r0_5 H_rr2 (by omega) (by omega) (by omega) (by omega) H_r0_12) rfl rfl rfl rfl rfl ⟨_, rfl, rfl, T_r0_5, Nat.le_of_ble_eq_true rfl⟩ rfl rfl (Nat.le_of_ble_eq_true rfl) (Nat.le_of_ble_eq_true rfl) (Nat.le_of_ble_eq_true rfl) ?_
    rintro I9 L10 ⟨hI9, S11⟩
    refine k_aload_n C rfl rfl rfl ?_
    refine g_R C rfl rfl rfl T_r0 rfl R_r0_5 ?_
    refine k_aload_n C rfl rfl rfl ?_
    refine z_iconst C (z := 0) rfl rfl rfl (fun x12 ex12 => ?_)
    refine z_iconst C (z := 1) rfl rfl rfl (fun x13 ex13 => ?_)
    refine k_aload_n C rfl rfl rfl ?_
    refine g_R C rfl rfl rfl T_r0 rfl R_r0_13 ?_
    refine c_VV C (s_X0_differentiate hS hI9 H_r0_5 H_rr2 (by omega) (by omega) (by omega) (by omega) H_r0_13) rfl rfl rfl rfl rfl ⟨_, rfl, rfl, T_r0_5, Nat.le_of_ble_eq_true rfl⟩ rfl rfl (Nat.le_of_ble_eq_true rfl) (Nat.le_of_ble_eq_true rfl) (Nat.le_of_ble_eq_true rfl) ?_
    rintro I15 L16 ⟨hI15, S17⟩
    refine k_aload_n C rfl rfl rfl ?_
    refine g_R C rfl rfl rfl T_r0 rfl R_r0_12 ?_
    obtain ⟨T_r0_12, A_r0_12, B_r0_12, ⟨r0_12_1, R_r0_12_1, H_r0_12_1⟩⟩ := id H_r0_12
    refine c_VI C (s_X2_isNought hS hI15 (hs_GF hS H_r0_12)) rfl rfl rfl rfl rfl ⟨_, rfl, rfl, T_r0_12, Nat.le_of_ble_eq_true rfl⟩ rfl rfl (Nat.le_of_ble_eq_true rfl) (Nat.le_of_ble_eq_true rfl) (Nat.le_of_ble_eq_true rfl) ?_
    rintro x18 _ _ ⟨o0x18, o1x18, rfl, rfl⟩
    have gx18 := rg x18
    refine b_if_ne C (t := 64) rfl rfl rfl (fun c19 => ?_) (fun c19 => ?_)
    · skip
      refine z_iconst C (z := 0) rfl rfl rfl (fun x20 ex20 => ?_)
      exact k_iret C rfl (Or.inr ⟨rfl, z01 (by omega) (by omega)⟩) (Nat.le_of_ble_eq_true rfl) (Nat.le_of_ble_eq_true rfl) (Or.inl ⟨_, _, _, rfl, rfl, by omega, by omega, hI15, (Chg.cons S11 (Chg.mono S17 (by decide)) (by decide))⟩)
    refine k_aload_n C rfl rfl rfl ?_
    refine g_R C rfl rfl rfl T_r0 rfl R_r0_13 ?_
    obtain ⟨T_r0_13, A_r0_13, B_r0_13, ⟨r0_13_1, R_r0_13_1, H_r0_13_1⟩⟩ := id H_r0_13
    refine c_VI C (s_X2_isNought hS hI15 (hs_GF hS H_r0_13)) rfl rfl rfl rfl rfl ⟨_, rfl, rfl, T_r0_13, Nat.le_of_ble_eq_true rfl⟩ rfl rfl (Nat.le_of_ble_eq_true rfl) (Nat.le_of_ble_eq_true rfl) (Nat.le_of_ble_eq_true rfl) ?_
    rintro x21 _ _ ⟨o0x21, o1x21, rfl, rfl⟩
    have gx21 := rg x21
    refine b_if_eq C (t := 66) rfl rfl rfl (fun c22 => ?_) (fun c22 => ?_)
    · skip
      refine k_aload_n C rfl rfl rfl ?_
      refine g_R C rfl rfl rfl T_r0 rfl R_r0_5 ?_
      refine k_aload_n C rfl rfl rfl ?_
      refine g_R C rfl rfl rfl T_r0 rfl R_r0_12 ?_
      refine k_aload_n C rfl rfl rfl ?_
      refine g_R C rfl rfl rfl T_r0 rfl R_r0_13 ?_
      refine k_aload_n C rfl rfl rfl ?_
      refine g_R C rfl rfl rfl T_r0 rfl R_r0_11 ?_
      refine c_VV C (s_X0_shareInto hS hI15 H_r0_5 (hs_GF hS H_r0_12) (hs_GF hS H_r0_13) H_r0_11) rfl rfl rfl rfl rfl ⟨_, rfl, rfl, T_r0_5, Nat.le_of_ble_eq_true rfl⟩ rfl rfl (Nat.le_of_ble_eq_true rfl) (Nat.le_of_ble_eq_true rfl) (Nat.le_of_ble_eq_true rfl) ?_
      rintro I24 L25 ⟨hI24, S26⟩
      refine k_aload_n C rfl rfl rfl ?_
      refine g_R C rfl rfl rfl T_r0 rfl R_r0_11 ?_
      obtain ⟨T_r0_11, A_r0_11, B_r0_11, ⟨r0_11_1, R_r0_11_1, H_r0_11_1⟩⟩ := id H_r0_11
      refine z_gI C rfl rfl rfl T_r0_11 rfl (fun x27 ex27 => ?_)
      have gx27 := rg x27
      have ox27 := IX.deg hI24 A_r0_11 T_r0_11 ex27
      refine b_if_ne C (t := 99) rfl rfl rfl (fun c28 => ?_) (fun c28 => ?_)
      · skip
        refine z_iconst C (z := 0) rfl rfl rfl (fun x29 ex29 => ?_)
        exact k_iret C rfl (Or.inr ⟨rfl, z01 (by omega) (by omega)⟩) (Nat.le_of_ble_eq_true rfl) (Nat.le_of_ble_eq_true rfl) (Or.inl ⟨_, _, _, rfl, rfl, by omega, by omega, hI24, (Chg.cons S11 (Chg.cons S17 (Chg.mono S26 (by decide)) (by decide)) (by decide))⟩)
      refine z_iconst C (z := 1) rfl rfl rfl (fun x30 ex30 => ?_)
      refine k_goto C (pc2 := 100) rfl rfl ?_
      exact k_iret C rfl (Or.inr ⟨rfl, z01 (by omega) (by omega)⟩) (Nat.le_of_ble_eq_true rfl) (Nat.le_of_ble_eq_true rfl) (Or.inl ⟨_, _, _, rfl, rfl, by omega, by omega, hI24, (Chg.cons S11 (Chg.cons S17 (Chg.mono S26 (by decide)) (by decide)) (by decide))⟩)
    refine z_iconst C (z := 0) rfl rfl rfl (fun x31 ex31 => ?_)
    exact k_iret C rfl (Or.inr ⟨rfl, z01 (by omega) (by omega)⟩) (Nat.le_of_ble_eq_true rfl) (Nat.le_of_ble_eq_true rfl) (Or.inl ⟨_, _, _, rfl, rfl, by omega, by omega, hI15, (Chg.cons S11 (Chg.mono S17 (by decide)) (by decide))⟩)
  refine z_iconst C (z := 0) rfl rfl rfl (fun x32 ex32 => ?_)
  exact k_iret C rfl (Or.inr ⟨rfl, z01 (by omega) (by omega)⟩) (Nat.le_of_ble_eq_true rfl) (Nat.le_of_ble_eq_true rfl) (Or.inl ⟨_, _, _, rfl, rfl, by omega, by omega, hI, Chg.rf⟩)

theorem s_X11_overlap {d : Nat} {T N : Nat → Nat} {I : IT} {L : LT} {R : RT} {A B : Nat → Prop} {r0 : Nat} {n1 n2 n3 n4 : Int32} (hS : SUB B A) (hI : IX A T I) (H_r0 : (hs_LF T N R A B) r0) : Ex (d + 5) 166 [.ref r0, .int n1, .int n2, .int n3, .int n4] (T, N, I, L, R) 3 18 (pW [0, 3] T N R (pI T N R (fun x9 I9 L9 => (IX A T I9 ∧ Chg B T [(3, 0)] I L I9 L9))) (fun I9 L9 => IX A T I9 ∧ Chg B T [(3, 0)] I L I9 L9)) := by
  refine ⟨_, rfl, Nat.le_of_ble_eq_true rfl, fun V C S => ?_⟩
  show V 0 [(0, .ref r0), (1, .int n1), (2, .int n2), (3, .int n3), (4, .int n4)] [] (T, N, I, L, R) 0 0
  have gn1 := rg n1
  have gn2 := rg n2
  have gn3 := rg n3
  have gn4 := rg n4
  refine k_aload_n C rfl rfl rfl ?_
  refine k_iload_n C rfl rfl rfl ?_
  obtain ⟨T_r0, A_r0, B_r0, ⟨r0_0, R_r0_0, H_r0_0⟩, ⟨r0_1, R_r0_1, H_r0_1⟩, ⟨r0_2, R_r0_2, H_r0_2⟩, ⟨r0_5, R_r0_5, H_r0_5⟩, ⟨r0_6, R_r0_6, H_r0_6⟩, ⟨r0_7, R_r0_7, H_r0_7⟩, ⟨r0_8, R_r0_8, H_r0_8⟩, ⟨r0_9, R_r0_9, H_r0_9⟩, ⟨r0_10, R_r0_10, H_r0_10⟩, ⟨r0_11, R_r0_11, H_r0_11⟩, ⟨r0_12, R_r0_12, H_r0_12⟩, ⟨r0_13, R_r0_13, H_r0_13⟩⟩ := id H_r0
  refine w_VR C (s_X11_toldForm hS hI H_r0) rfl rfl rfl rfl rfl ⟨_, rfl, rfl, T_r0, Nat.le_of_ble_eq_true rfl⟩ rfl rfl (Nat.le_of_ble_eq_true rfl) (Nat.le_of_ble_eq_true rfl) (Nat.le_of_ble_eq_true rfl) (by decide) (fun e9 he I9 L9 hq => by obtain ⟨rfl, rfl⟩ := hq; exact Or.inl ⟨rfl, Or.inr ⟨e9, _, _, (by decide : ∀ z ∈ [3], z ∈ [0, 3]) e9 he, rfl, rfl, hI, Chg.rf⟩⟩) ?_
  rintro yy1 _ _ ⟨hyy1, rfl, rfl⟩
  obtain ⟨rr2, err2, H_rr2⟩ := hyy1
  subst err2
  refine k_astore C (lw := [(5, .ref rr2), (0, .ref r0), (1, .int n1), (2, .int n2), (3, .int n3), (4, .int n4)]) rfl rfl (Nat.le_of_ble_eq_true rfl) rfl ?_
  refine k_aload_n C rfl rfl rfl ?_
  refine k_iload_n C rfl rfl rfl ?_
  refine w_VR C (s_X11_toldForm hS hI H_r0) rfl rfl rfl rfl rfl ⟨_, rfl, rfl, T_r0, Nat.le_of_ble_eq_true rfl⟩ rfl rfl (Nat.le_of_ble_eq_true rfl) (Nat.le_of_ble_eq_true rfl) (Nat.le_of_ble_eq_true rfl) (by decide) (fun e9 he I9 L9 hq => by obtain ⟨rfl, rfl⟩ := hq; exact Or.inl ⟨rfl, Or.inr ⟨e9, _, _, (by decide : ∀ z ∈ [3], z ∈ [0, 3]) e9 he, rfl, rfl, hI, Chg.rf⟩⟩) ?_
  rintro yy3 _ _ ⟨hyy3, rfl, rfl⟩
  obtain ⟨rr4, err4, H_rr4⟩ := hyy3
  subst err4
  refine k_astore C (lw := [(6, .ref rr4), (5, .ref rr2), (0, .ref r0), (1, .int n1), (2, .int n2), (3, .int n3), (4, .int n4)]) rfl rfl (Nat.le_of_ble_eq_true rfl) rfl ?_
  refine k_aload_n C rfl rfl rfl ?_
  refine g_R C rfl rfl rfl T_r0 rfl R_r0_5 ?_
  refine k_aload C rfl rfl rfl ?_
  refine k_aload C rfl rfl rfl ?_
  refine k_iload_n C rfl rfl rfl ?_
  refine k_aload_n C rfl rfl rfl ?_
  refine g_R C rfl rfl rfl T_r0 rfl R_r0_11 ?_
  obtain ⟨T_r0_5, A_r0_5, B_r0_5, ⟨r0_5_0, R_r0_5_0, H_r0_5_0⟩, ⟨r0_5_1, R_r0_5_1, H_r0_5_1⟩, ⟨r0_5_2, R_r0_5_2, H_r0_5_2⟩⟩ := id H_r0_5
  refine c_VI C (s_X0_overlapInto hS hI H_r0_5 H_rr2 H_rr4 H_r0_11) rfl rfl rfl rfl rfl ⟨_, rfl, rfl, T_r0_5, Nat.le_of_ble_eq_true rfl⟩ rfl rfl (Nat.le_of_ble_eq_true rfl) (Nat.le_of_ble_eq_true rfl) (Nat.le_of_ble_eq_true rfl) ?_
  rintro x5 I6 L7 ⟨o0x5, o1x5, hI6, S8⟩
  have gx5 := rg x5
  refine b_if_ne C (t := 41) rfl rfl rfl (fun c9 => ?_) (fun c9 => ?_)
  · skip
    refine k_aload_n C rfl rfl rfl ?_
    refine g_R C rfl rfl rfl T_r0 rfl R_r0_11 ?_
    refine k_iload C rfl rfl rfl ?_
    refine c_SI C (s_X11_degreeOrNumber hS hI6 (hs_GF hS H_r0_11)) rfl rfl rfl rfl rfl rfl rfl (Nat.le_of_ble_eq_true rfl) (Nat.le_of_ble_eq_true rfl) (Nat.le_of_ble_eq_true rfl) ?_
    rintro x10 _ _ ⟨rfl, rfl⟩
    have gx10 := rg x10
    exact k_iret C rfl (Or.inl rfl) (Nat.le_of_ble_eq_true rfl) (Nat.le_of_ble_eq_true rfl) (Or.inl ⟨_, _, _, rfl, rfl, hI6, (Chg.mono S8 (by decide))⟩)
  exact k_throw C rfl rfl rfl rfl rfl rfl (Nat.le_of_ble_eq_true rfl) (Nat.le_of_ble_eq_true rfl) (Nat.le_of_ble_eq_true rfl) (Or.inr ⟨_, _, _, (by decide : 0 ∈ [0, 3]), rfl, rfl, hI6, (Chg.mono S8 (by decide))⟩)

theorem s_X11_stock {d : Nat} {T N : Nat → Nat} {I : IT} {L : LT} {R : RT} {A B : Nat → Prop} {r0 : Nat} {n1 : Int32} (hS : SUB B A) (hI : IX A T I) (H_r0 : (hs_LF T N R A B) r0) : Ex (d + 5) 176 [.ref r0, .int n1] (T, N, I, L, R) 0 0 (pI T N R (fun x9 I9 L9 => (I = I9 ∧ L = L9))) := by
  refine ⟨_, rfl, Nat.le_of_ble_eq_true rfl, fun V C S => ?_⟩
  show V 0 [(0, .ref r0), (1, .int n1)] [] (T, N, I, L, R) 0 0
  have gn1 := rg n1
  refine k_iload_n C rfl rfl rfl ?_
  refine k_table C rfl (by decide) (fun c1 => ?_) (fun c1 c2 => ?_)
  · skip
    show V 100 _ _ _ _ _
    refine z_iconst C (z := -1) rfl rfl rfl (fun x3 ex3 => ?_)
    exact k_iret C rfl (Or.inl rfl) (Nat.le_of_ble_eq_true rfl) (Nat.le_of_ble_eq_true rfl) ⟨_, _, _, rfl, rfl, rfl, rfl⟩
  have h4 : n1.toInt = 0 ∨ n1.toInt = 1 ∨ n1.toInt = 2 ∨ n1.toInt = 3 ∨ n1.toInt = 4 ∨ n1.toInt = 5 ∨ n1.toInt = 6 := by omega
  rcases h4 with h4 | h4 | h4 | h4 | h4 | h4 | h4
  · skip
    refine ⟨43, by rw [h4]; rfl, by decide, ?_⟩
    show V 44 _ _ _ _ _
    refine k_aload_n C rfl rfl rfl ?_
    obtain ⟨T_r0, A_r0, B_r0, ⟨r0_0, R_r0_0, H_r0_0⟩, ⟨r0_1, R_r0_1, H_r0_1⟩, ⟨r0_2, R_r0_2, H_r0_2⟩, ⟨r0_5, R_r0_5, H_r0_5⟩, ⟨r0_6, R_r0_6, H_r0_6⟩, ⟨r0_7, R_r0_7, H_r0_7⟩, ⟨r0_8, R_r0_8, H_r0_8⟩, ⟨r0_9, R_r0_9, H_r0_9⟩, ⟨r0_10, R_r0_10, H_r0_10⟩, ⟨r0_11, R_r0_11, H_r0_11⟩, ⟨r0_12, R_r0_12, H_r0_12⟩, ⟨r0_13, R_r0_13, H_r0_13⟩⟩ := id H_r0
    refine g_R C rfl rfl rfl T_r0 rfl R_r0_1 ?_
    obtain ⟨T_r0_1, A_r0_1, B_r0_1, ⟨r0_1_6, R_r0_1_6, H_r0_1_6⟩, ⟨r0_1_7, R_r0_1_7, H_r0_1_7⟩, ⟨r0_1_8, R_r0_1_8, H_r0_1_8⟩, ⟨r0_1_9, R_r0_1_9, H_r0_1_9⟩, ⟨r0_1_10, R_r0_1_10, H_r0_1_10⟩⟩ := id H_r0_1
    refine z_gI C rfl rfl rfl T_r0_1 rfl (fun x5 ex5 => ?_)
    have gx5 := rg x5
    have ox5 := IX.p hI A_r0_1 T_r0_1 ex5
    exact k_iret C rfl (Or.inl rfl) (Nat.le_of_ble_eq_true rfl) (Nat.le_of_ble_eq_true rfl) ⟨_, _, _, rfl, rfl, rfl, rfl⟩
  · skip
    refine ⟨51, by rw [h4]; rfl, by decide, ?_⟩
    show V 52 _ _ _ _ _
    refine k_aload_n C rfl rfl rfl ?_
    obtain ⟨T_r0, A_r0, B_r0, ⟨r0_0, R_r0_0, H_r0_0⟩, ⟨r0_1, R_r0_1, H_r0_1⟩, ⟨r0_2, R_r0_2, H_r0_2⟩, ⟨r0_5, R_r0_5, H_r0_5⟩, ⟨r0_6, R_r0_6, H_r0_6⟩, ⟨r0_7, R_r0_7, H_r0_7⟩, ⟨r0_8, R_r0_8, H_r0_8⟩, ⟨r0_9, R_r0_9, H_r0_9⟩, ⟨r0_10, R_r0_10, H_r0_10⟩, ⟨r0_11, R_r0_11, H_r0_11⟩, ⟨r0_12, R_r0_12, H_r0_12⟩, ⟨r0_13, R_r0_13, H_r0_13⟩⟩ := id H_r0
    refine g_R C rfl rfl rfl T_r0 rfl R_r0_1 ?_
    obtain ⟨T_r0_1, A_r0_1, B_r0_1, ⟨r0_1_6, R_r0_1_6, H_r0_1_6⟩, ⟨r0_1_7, R_r0_1_7, H_r0_1_7⟩, ⟨r0_1_8, R_r0_1_8, H_r0_1_8⟩, ⟨r0_1_9, R_r0_1_9, H_r0_1_9⟩, ⟨r0_1_10, R_r0_1_10, H_r0_1_10⟩⟩ := id H_r0_1
    refine z_gI C rfl rfl rfl T_r0_1 rfl (fun x6 ex6 => ?_)
    have gx6 := rg x6
    exact k_iret C rfl (Or.inl rfl) (Nat.le_of_ble_eq_true rfl) (Nat.le_of_ble_eq_true rfl) ⟨_, _, _, rfl, rfl, rfl, rfl⟩
  · skip
    refine ⟨59, by rw [h4]; rfl, by decide, ?_⟩
    show V 60 _ _ _ _ _
    refine k_aload_n C rfl rfl rfl ?_
    obtain ⟨T_r0, A_r0, B_r0, ⟨r0_0, R_r0_0, H_r0_0⟩, ⟨r0_1, R_r0_1, H_r0_1⟩, ⟨r0_2, R_r0_2, H_r0_2⟩, ⟨r0_5, R_r0_5, H_r0_5⟩, ⟨r0_6, R_r0_6, H_r0_6⟩, ⟨r0_7, R_r0_7, H_r0_7⟩, ⟨r0_8, R_r0_8, H_r0_8⟩, ⟨r0_9, R_r0_9, H_r0_9⟩, ⟨r0_10, R_r0_10, H_r0_10⟩, ⟨r0_11, R_r0_11, H_r0_11⟩, ⟨r0_12, R_r0_12, H_r0_12⟩, ⟨r0_13, R_r0_13, H_r0_13⟩⟩ := id H_r0
    refine g_R C rfl rfl rfl T_r0 rfl R_r0_1 ?_
    obtain ⟨T_r0_1, A_r0_1, B_r0_1, ⟨r0_1_6, R_r0_1_6, H_r0_1_6⟩, ⟨r0_1_7, R_r0_1_7, H_r0_1_7⟩, ⟨r0_1_8, R_r0_1_8, H_r0_1_8⟩, ⟨r0_1_9, R_r0_1_9, H_r0_1_9⟩, ⟨r0_1_10, R_r0_1_10, H_r0_1_10⟩⟩ := id H_r0_1
    refine z_gI C rfl rfl rfl T_r0_1 rfl (fun x7 ex7 => ?_)
    have gx7 := rg x7
    exact k_iret C rfl (Or.inl rfl) (Nat.le_of_ble_eq_true rfl) (Nat.le_of_ble_eq_true rfl) ⟨_, _, _, rfl, rfl, rfl, rfl⟩
  · skip
    refine ⟨67, by rw [h4]; rfl, by decide, ?_⟩
    show V 68 _ _ _ _ _
    refine k_aload_n C rfl rfl rfl ?_
    obtain ⟨T_r0, A_r0, B_r0, ⟨r0_0, R_r0_0, H_r0_0⟩, ⟨r0_1, R_r0_1, H_r0_1⟩, ⟨r0_2, R_r0_2, H_r0_2⟩, ⟨r0_5, R_r0_5, H_r0_5⟩, ⟨r0_6, R_r0_6, H_r0_6⟩, ⟨r0_7, R_r0_7, H_r0_7⟩, ⟨r0_8, R_r0_8, H_r0_8⟩, ⟨r0_9, R_r0_9, H_r0_9⟩, ⟨r0_10, R_r0_10, H_r0_10⟩, ⟨r0_11, R_r0_11, H_r0_11⟩, ⟨r0_12, R_r0_12, H_r0_12⟩, ⟨r0_13, R_r0_13, H_r0_13⟩⟩ := id H_r0
    refine g_R C rfl rfl rfl T_r0 rfl R_r0_1 ?_
    obtain ⟨T_r0_1, A_r0_1, B_r0_1, ⟨r0_1_6, R_r0_1_6, H_r0_1_6⟩, ⟨r0_1_7, R_r0_1_7, H_r0_1_7⟩, ⟨r0_1_8, R_r0_1_8, H_r0_1_8⟩, ⟨r0_1_9, R_r0_1_9, H_r0_1_9⟩, ⟨r0_1_10, R_r0_1_10, H_r0_1_10⟩⟩ := id H_r0_1
    refine z_gI C rfl rfl rfl T_r0_1 rfl (fun x8 ex8 => ?_)
    have gx8 := rg x8
    exact k_iret C rfl (Or.inl rfl) (Nat.le_of_ble_eq_true rfl) (Nat.le_of_ble_eq_true rfl) ⟨_, _, _, rfl, rfl, rfl, rfl⟩
  · skip
    refine ⟨75, by rw [h4]; rfl, by decide, ?_⟩
    show V 76 _ _ _ _ _
    refine k_aload_n C rfl rfl rfl ?_
    obtain ⟨T_r0, A_r0, B_r0, ⟨r0_0, R_r0_0, H_r0_0⟩, ⟨r0_1, R_r0_1, H_r0_1⟩, ⟨r0_2, R_r0_2, H_r0_2⟩, ⟨r0_5, R_r0_5, H_r0_5⟩, ⟨r0_6, R_r0_6, H_r0_6⟩, ⟨r0_7, R_r0_7, H_r0_7⟩, ⟨r0_8, R_r0_8, H_r0_8⟩, ⟨r0_9, R_r0_9, H_r0_9⟩, ⟨r0_10, R_r0_10, H_r0_10⟩, ⟨r0_11, R_r0_11, H_r0_11⟩, ⟨r0_12, R_r0_12, H_r0_12⟩, ⟨r0_13, R_r0_13, H_r0_13⟩⟩ := id H_r0
    refine g_R C rfl rfl rfl T_r0 rfl R_r0_1 ?_
    obtain ⟨T_r0_1, A_r0_1, B_r0_1, ⟨r0_1_6, R_r0_1_6, H_r0_1_6⟩, ⟨r0_1_7, R_r0_1_7, H_r0_1_7⟩, ⟨r0_1_8, R_r0_1_8, H_r0_1_8⟩, ⟨r0_1_9, R_r0_1_9, H_r0_1_9⟩, ⟨r0_1_10, R_r0_1_10, H_r0_1_10⟩⟩ := id H_r0_1
    refine z_gI C rfl rfl rfl T_r0_1 rfl (fun x9 ex9 => ?_)
    have gx9 := rg x9
    exact k_iret C rfl (Or.inl rfl) (Nat.le_of_ble_eq_true rfl) (Nat.le_of_ble_eq_true rfl) ⟨_, _, _, rfl, rfl, rfl, rfl⟩
  · skip
    refine ⟨83, by rw [h4]; rfl, by decide, ?_⟩
    show V 84 _ _ _ _ _
    refine k_aload_n C rfl rfl rfl ?_
    obtain ⟨T_r0, A_r0, B_r0, ⟨r0_0, R_r0_0, H_r0_0⟩, ⟨r0_1, R_r0_1, H_r0_1⟩, ⟨r0_2, R_r0_2, H_r0_2⟩, ⟨r0_5, R_r0_5, H_r0_5⟩, ⟨r0_6, R_r0_6, H_r0_6⟩, ⟨r0_7, R_r0_7, H_r0_7⟩, ⟨r0_8, R_r0_8, H_r0_8⟩, ⟨r0_9, R_r0_9, H_r0_9⟩, ⟨r0_10, R_r0_10, H_r0_10⟩, ⟨r0_11, R_r0_11, H_r0_11⟩, ⟨r0_12, R_r0_12, H_r0_12⟩, ⟨r0_13, R_r0_13, H_r0_13⟩⟩ := id H_r0
    refine g_R C rfl rfl rfl T_r0 rfl R_r0_1 ?_
    obtain ⟨T_r0_1, A_r0_1, B_r0_1, ⟨r0_1_6, R_r0_1_6, H_r0_1_6⟩, ⟨r0_1_7, R_r0_1_7, H_r0_1_7⟩, ⟨r0_1_8, R_r0_1_8, H_r0_1_8⟩, ⟨r0_1_9, R_r0_1_9, H_r0_1_9⟩, ⟨r0_1_10, R_r0_1_10, H_r0_1_10⟩⟩ := id H_r0_1
    refine z_gI C rfl rfl rfl T_r0_1 rfl (fun x10 ex10 => ?_)
    have gx10 := rg x10
    exact k_iret C rfl (Or.inl rfl) (Nat.le_of_ble_eq_true rfl) (Nat.le_of_ble_eq_true rfl) ⟨_, _, _, rfl, rfl, rfl, rfl⟩
  · skip
    refine ⟨91, by rw [h4]; rfl, by decide, ?_⟩
    show V 92 _ _ _ _ _
    refine k_aload_n C rfl rfl rfl ?_
    obtain ⟨T_r0, A_r0, B_r0, ⟨r0_0, R_r0_0, H_r0_0⟩, ⟨r0_1, R_r0_1, H_r0_1⟩, ⟨r0_2, R_r0_2, H_r0_2⟩, ⟨r0_5, R_r0_5, H_r0_5⟩, ⟨r0_6, R_r0_6, H_r0_6⟩, ⟨r0_7, R_r0_7, H_r0_7⟩, ⟨r0_8, R_r0_8, H_r0_8⟩, ⟨r0_9, R_r0_9, H_r0_9⟩, ⟨r0_10, R_r0_10, H_r0_10⟩, ⟨r0_11, R_r0_11, H_r0_11⟩, ⟨r0_12, R_r0_12, H_r0_12⟩, ⟨r0_13, R_r0_13, H_r0_13⟩⟩ := id H_r0
    refine g_R C rfl rfl rfl T_r0 rfl R_r0_1 ?_
    obtain ⟨T_r0_1, A_r0_1, B_r0_1, ⟨r0_1_6, R_r0_1_6, H_r0_1_6⟩, ⟨r0_1_7, R_r0_1_7, H_r0_1_7⟩, ⟨r0_1_8, R_r0_1_8, H_r0_1_8⟩, ⟨r0_1_9, R_r0_1_9, H_r0_1_9⟩, ⟨r0_1_10, R_r0_1_10, H_r0_1_10⟩⟩ := id H_r0_1
    refine c_VI C (s_X8_noughts hS hI H_r0_1) rfl rfl rfl rfl rfl ⟨_, rfl, rfl, T_r0_1, Nat.le_of_ble_eq_true rfl⟩ rfl rfl (Nat.le_of_ble_eq_true rfl) (Nat.le_of_ble_eq_true rfl) (Nat.le_of_ble_eq_true rfl) ?_
    rintro x11 _ _ ⟨rfl, rfl⟩
    have gx11 := rg x11
    exact k_iret C rfl (Or.inl rfl) (Nat.le_of_ble_eq_true rfl) (Nat.le_of_ble_eq_true rfl) ⟨_, _, _, rfl, rfl, rfl, rfl⟩

