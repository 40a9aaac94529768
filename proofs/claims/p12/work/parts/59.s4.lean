/-! the class in any state, the states' forms kept -/
theorem s_X4_readPart_5 {d : Nat} {T N : Nat → Nat} {I : IT} {L : LT} {R : RT} {A B : Nat → Prop} {r0 : Nat} {n1 : Int32} (hS : SUB B A) (hI : IX A T I) (H_r0 : (hs_Rd T N R A B) r0) (b0_n1 : 5 ≤ n1.toInt) (b1_n1 : n1.toInt ≤ 5) : Ex (d + 7) 71 [.ref r0, .int n1] (T, N, I, L, R) 0 0 (pI T N R (fun x9 I9 L9 => (0 ≤ x9.toInt) ∧ (x9.toInt ≤ 1) ∧ (IX A T I9 ∧ Chg B T [(5, 4), (5, 5), (8, 2)] I L I9 L9))) := by
  refine ⟨_, rfl, Nat.le_of_ble_eq_true rfl, fun V C S => ?_⟩
  show V 0 [(0, .ref r0), (1, .int n1)] [] (T, N, I, L, R) 0 0
  have gn1 := rg n1
  refine k_aload_n C rfl rfl rfl ?_
  obtain ⟨T_r0, A_r0, B_r0, ⟨r0_0, R_r0_0, H_r0_0⟩, ⟨r0_2, R_r0_2, H_r0_2⟩⟩ := id H_r0
  refine c_VI C (s_X4_next hS hI H_r0) rfl rfl rfl rfl rfl ⟨_, rfl, rfl, T_r0, Nat.le_of_ble_eq_true rfl⟩ rfl rfl (Nat.le_of_ble_eq_true rfl) (Nat.le_of_ble_eq_true rfl) (Nat.le_of_ble_eq_true rfl) ?_
  rintro x1 I2 L3 ⟨hI2, S4⟩
  have gx1 := rg x1
  refine k_istore_n C (lw := [(2, .int x1), (0, .ref r0), (1, .int n1)]) rfl rfl (Nat.le_of_ble_eq_true rfl) rfl ?_
  refine k_iload_n C rfl rfl rfl ?_
  refine z_bipush C (z := 102) rfl rfl rfl (fun x5 ex5 => ?_)
  refine b_icmp_ne C (t := 16) rfl rfl rfl (fun c6 => ?_) (fun c6 => ?_)
  · skip
    refine k_iload_n C rfl rfl rfl ?_
    refine c_SI C (s_X4_isDigit hS hI2 ) rfl rfl rfl rfl rfl rfl rfl (Nat.le_of_ble_eq_true rfl) (Nat.le_of_ble_eq_true rfl) (Nat.le_of_ble_eq_true rfl) ?_
    rintro x7 _ _ ⟨o0x7, o1x7, rfl, rfl⟩
    have gx7 := rg x7
    refine b_if_eq C (t := 47) rfl rfl rfl (fun c8 => ?_) (fun c8 => ?_)
    · skip
      refine k_iload_n C rfl rfl rfl ?_
      refine z_bipush C (z := 6) rfl rfl rfl (fun x9 ex9 => ?_)
      refine b_icmp_lt C (t := 55) rfl rfl rfl (fun c10 => ?_) (fun c10 => by exfalso; omega)
      refine k_iload_n C rfl rfl rfl ?_
      refine z_bipush C (z := 40) rfl rfl rfl (fun x11 ex11 => ?_)
      refine b_icmp_ne C (t := 96) rfl rfl rfl (fun c12 => ?_) (fun c12 => ?_)
      · skip
        refine k_iload_n C rfl rfl rfl ?_
        refine z_bipush C (z := 91) rfl rfl rfl (fun x13 ex13 => ?_)
        refine b_icmp_ne C (t := 110) rfl rfl rfl (fun c14 => ?_) (fun c14 => ?_)
        · skip
          refine k_iload_n C rfl rfl rfl ?_
          refine z_bipush C (z := 45) rfl rfl rfl (fun x15 ex15 => ?_)
          refine b_icmp_ne C (t := 149) rfl rfl rfl (fun c16 => ?_) (fun c16 => ?_)
          · skip
            refine z_iconst C (z := 0) rfl rfl rfl (fun x17 ex17 => ?_)
            exact k_iret C rfl (Or.inr ⟨rfl, z01 (by omega) (by omega)⟩) (Nat.le_of_ble_eq_true rfl) (Nat.le_of_ble_eq_true rfl) ⟨_, _, _, rfl, rfl, by omega, by omega, hI2, (Chg.mono S4 (by decide))⟩
          refine k_aload_n C rfl rfl rfl ?_
          refine k_dup C rfl rfl rfl ?_
          refine z_gI C rfl rfl rfl T_r0 rfl (fun x18 ex18 => ?_)
          have gx18 := rg x18
          refine z_iconst C (z := 1) rfl rfl rfl (fun x19 ex19 => ?_)
          refine zt_iadd C rfl rfl (fun x20 => ?_)
          have gx20 := rg x20
          refine z_pI C rfl rfl rfl T_r0 (Or.inr rfl) rfl (fun I21 uI21 => ?_)
          have hI21 : IX A T I21 := IX.f hI2 T_r0 (boX.tr (by decide) (by decide)) uI21
          have S22 : Chg B T [(5, 4)] I2 L3 I21 L3 := Chg.f B_r0 T_r0 uI21
          have e23 := u2_e uI21
          refine k_aload_n C rfl rfl rfl ?_
          refine k_iload_n C rfl rfl rfl ?_
          refine z_iconst C (z := 1) rfl rfl rfl (fun x24 ex24 => ?_)
          refine z_iadd C rfl rfl ⟨by omega, by omega⟩ (fun x25 ex25 => ?_)
          refine c_VI C (s_X4_readPart_6 hS hI21 H_r0 (by omega) (by omega)) rfl rfl rfl rfl rfl ⟨_, rfl, rfl, T_r0, Nat.le_of_ble_eq_true rfl⟩ rfl rfl (Nat.le_of_ble_eq_true rfl) (Nat.le_of_ble_eq_true rfl) (Nat.le_of_ble_eq_true rfl) ?_
          rintro x26 I27 L28 ⟨o0x26, o1x26, hI27, S29⟩
          have gx26 := rg x26
          refine b_if_ne C (t := 138) rfl rfl rfl (fun c30 => ?_) (fun c30 => ?_)
          · skip
            refine k_aload_n C rfl rfl rfl ?_
            refine g_R C rfl rfl rfl T_r0 rfl R_r0_0 ?_
            refine z_iconst C (z := 5) rfl rfl rfl (fun x31 ex31 => ?_)
            refine z_iconst C (z := 0) rfl rfl rfl (fun x32 ex32 => ?_)
            obtain ⟨T_r0_0, A_r0_0, B_r0_0, ⟨r0_0_0, R_r0_0_0, H_r0_0_0⟩, ⟨r0_0_1, R_r0_0_1, H_r0_0_1⟩⟩ := id H_r0_0
            refine c_VV C (s_X7_put hS hI27 H_r0_0) rfl rfl rfl rfl rfl ⟨_, rfl, rfl, T_r0_0, Nat.le_of_ble_eq_true rfl⟩ rfl rfl (Nat.le_of_ble_eq_true rfl) (Nat.le_of_ble_eq_true rfl) (Nat.le_of_ble_eq_true rfl) ?_
            rintro I34 L35 ⟨hI34, S36⟩
            refine z_iconst C (z := 1) rfl rfl rfl (fun x37 ex37 => ?_)
            exact k_iret C rfl (Or.inr ⟨rfl, z01 (by omega) (by omega)⟩) (Nat.le_of_ble_eq_true rfl) (Nat.le_of_ble_eq_true rfl) ⟨_, _, _, rfl, rfl, by omega, by omega, hI34, (Chg.cons S4 (Chg.cons S22 (Chg.cons S29 (Chg.mono S36 (by decide)) (by decide)) (by decide)) (by decide))⟩
          refine z_iconst C (z := 0) rfl rfl rfl (fun x38 ex38 => ?_)
          exact k_iret C rfl (Or.inr ⟨rfl, z01 (by omega) (by omega)⟩) (Nat.le_of_ble_eq_true rfl) (Nat.le_of_ble_eq_true rfl) ⟨_, _, _, rfl, rfl, by omega, by omega, hI27, (Chg.cons S4 (Chg.cons S22 (Chg.mono S29 (by decide)) (by decide)) (by decide))⟩
        refine k_aload_n C rfl rfl rfl ?_
        refine k_iload_n C rfl rfl rfl ?_
        refine z_iconst C (z := 1) rfl rfl rfl (fun x39 ex39 => ?_)
        refine z_iadd C rfl rfl ⟨by omega, by omega⟩ (fun x40 ex40 => ?_)
        refine c_VI C (s_X4_readOverlap_6 hS hI2 H_r0 (by omega) (by omega)) rfl rfl rfl rfl rfl ⟨_, rfl, rfl, T_r0, Nat.le_of_ble_eq_true rfl⟩ rfl rfl (Nat.le_of_ble_eq_true rfl) (Nat.le_of_ble_eq_true rfl) (Nat.le_of_ble_eq_true rfl) ?_
        rintro x41 I42 L43 ⟨o0x41, o1x41, hI42, S44⟩
        have gx41 := rg x41
        exact k_iret C rfl (Or.inr ⟨rfl, z01 (by omega) (by omega)⟩) (Nat.le_of_ble_eq_true rfl) (Nat.le_of_ble_eq_true rfl) ⟨_, _, _, rfl, rfl, by omega, by omega, hI42, (Chg.cons S4 (Chg.mono S44 (by decide)) (by decide))⟩
      refine k_aload_n C rfl rfl rfl ?_
      refine k_dup C rfl rfl rfl ?_
      refine z_gI C rfl rfl rfl T_r0 rfl (fun x45 ex45 => ?_)
      have gx45 := rg x45
      refine z_iconst C (z := 1) rfl rfl rfl (fun x46 ex46 => ?_)
      refine zt_iadd C rfl rfl (fun x47 => ?_)
      have gx47 := rg x47
      refine z_pI C rfl rfl rfl T_r0 (Or.inr rfl) rfl (fun I48 uI48 => ?_)
      have hI48 : IX A T I48 := IX.f hI2 T_r0 (boX.tr (by decide) (by decide)) uI48
      have S49 : Chg B T [(5, 4)] I2 L3 I48 L3 := Chg.f B_r0 T_r0 uI48
      have e50 := u2_e uI48
      refine k_aload_n C rfl rfl rfl ?_
      refine k_iload_n C rfl rfl rfl ?_
      refine z_iconst C (z := 1) rfl rfl rfl (fun x51 ex51 => ?_)
      refine z_iadd C rfl rfl ⟨by omega, by omega⟩ (fun x52 ex52 => ?_)
      refine c_VI C (s_X4_readSum_6 hS hI48 H_r0 (by omega) (by omega)) rfl rfl rfl rfl rfl ⟨_, rfl, rfl, T_r0, Nat.le_of_ble_eq_true rfl⟩ rfl rfl (Nat.le_of_ble_eq_true rfl) (Nat.le_of_ble_eq_true rfl) (Nat.le_of_ble_eq_true rfl) ?_
      rintro x53 I54 L55 ⟨o0x53, o1x53, hI54, S56⟩
      have gx53 := rg x53
      refine b_if_eq C (t := 94) rfl rfl rfl (fun c57 => ?_) (fun c57 => ?_)
      · skip
        refine z_iconst C (z := 0) rfl rfl rfl (fun x58 ex58 => ?_)
        exact k_iret C rfl (Or.inr ⟨rfl, z01 (by omega) (by omega)⟩) (Nat.le_of_ble_eq_true rfl) (Nat.le_of_ble_eq_true rfl) ⟨_, _, _, rfl, rfl, by omega, by omega, hI54, (Chg.cons S4 (Chg.cons S49 (Chg.mono S56 (by decide)) (by decide)) (by decide))⟩
      refine k_aload_n C rfl rfl rfl ?_
      refine z_bipush C (z := 41) rfl rfl rfl (fun x59 ex59 => ?_)
      refine c_VI C (s_X4_take hS hI54 H_r0) rfl rfl rfl rfl rfl ⟨_, rfl, rfl, T_r0, Nat.le_of_ble_eq_true rfl⟩ rfl rfl (Nat.le_of_ble_eq_true rfl) (Nat.le_of_ble_eq_true rfl) (Nat.le_of_ble_eq_true rfl) ?_
      rintro x60 I61 L62 ⟨o0x60, o1x60, hI61, S63⟩
      have gx60 := rg x60
      refine b_if_eq C (t := 94) rfl rfl rfl (fun c64 => ?_) (fun c64 => ?_)
      · skip
        refine z_iconst C (z := 0) rfl rfl rfl (fun x65 ex65 => ?_)
        exact k_iret C rfl (Or.inr ⟨rfl, z01 (by omega) (by omega)⟩) (Nat.le_of_ble_eq_true rfl) (Nat.le_of_ble_eq_true rfl) ⟨_, _, _, rfl, rfl, by omega, by omega, hI61, (Chg.cons S4 (Chg.cons S49 (Chg.cons S56 (Chg.mono S63 (by decide)) (by decide)) (by decide)) (by decide))⟩
      refine z_iconst C (z := 1) rfl rfl rfl (fun x66 ex66 => ?_)
      refine k_goto C (pc2 := 95) rfl rfl ?_
      exact k_iret C rfl (Or.inr ⟨rfl, z01 (by omega) (by omega)⟩) (Nat.le_of_ble_eq_true rfl) (Nat.le_of_ble_eq_true rfl) ⟨_, _, _, rfl, rfl, by omega, by omega, hI61, (Chg.cons S4 (Chg.cons S49 (Chg.cons S56 (Chg.mono S63 (by decide)) (by decide)) (by decide)) (by decide))⟩
    refine k_aload_n C rfl rfl rfl ?_
    refine c_VI C (s_X4_isThingMore hS hI2 H_r0) rfl rfl rfl rfl rfl ⟨_, rfl, rfl, T_r0, Nat.le_of_ble_eq_true rfl⟩ rfl rfl (Nat.le_of_ble_eq_true rfl) (Nat.le_of_ble_eq_true rfl) (Nat.le_of_ble_eq_true rfl) ?_
    rintro x67 I68 L69 ⟨o0x67, o1x67, hI68, S70⟩
    have gx67 := rg x67
    refine b_if_eq C (t := 45) rfl rfl rfl (fun c71 => ?_) (fun c71 => ?_)
    · skip
      refine z_iconst C (z := 0) rfl rfl rfl (fun x72 ex72 => ?_)
      exact k_iret C rfl (Or.inr ⟨rfl, z01 (by omega) (by omega)⟩) (Nat.le_of_ble_eq_true rfl) (Nat.le_of_ble_eq_true rfl) ⟨_, _, _, rfl, rfl, by omega, by omega, hI68, (Chg.cons S4 (Chg.mono S70 (by decide)) (by decide))⟩
    refine k_aload_n C rfl rfl rfl ?_
    refine z_iconst C (z := 1) rfl rfl rfl (fun x73 ex73 => ?_)
    refine z_sipush C (z := 999) rfl rfl rfl (fun x74 ex74 => ?_)
    refine c_VI C (s_X4_readNumber hS hI68 H_r0) rfl rfl rfl rfl rfl ⟨_, rfl, rfl, T_r0, Nat.le_of_ble_eq_true rfl⟩ rfl rfl (Nat.le_of_ble_eq_true rfl) (Nat.le_of_ble_eq_true rfl) (Nat.le_of_ble_eq_true rfl) ?_
    rintro x75 I76 L77 ⟨o0x75, o1x75, hI76, S78⟩
    have gx75 := rg x75
    refine b_if_eq C (t := 45) rfl rfl rfl (fun c79 => ?_) (fun c79 => ?_)
    · skip
      refine z_iconst C (z := 0) rfl rfl rfl (fun x80 ex80 => ?_)
      exact k_iret C rfl (Or.inr ⟨rfl, z01 (by omega) (by omega)⟩) (Nat.le_of_ble_eq_true rfl) (Nat.le_of_ble_eq_true rfl) ⟨_, _, _, rfl, rfl, by omega, by omega, hI76, (Chg.cons S4 (Chg.cons S70 (Chg.mono S78 (by decide)) (by decide)) (by decide))⟩
    refine z_iconst C (z := 1) rfl rfl rfl (fun x81 ex81 => ?_)
    refine k_goto C (pc2 := 46) rfl rfl ?_
    exact k_iret C rfl (Or.inr ⟨rfl, z01 (by omega) (by omega)⟩) (Nat.le_of_ble_eq_true rfl) (Nat.le_of_ble_eq_true rfl) ⟨_, _, _, rfl, rfl, by omega, by omega, hI76, (Chg.cons S4 (Chg.cons S70 (Chg.mono S78 (by decide)) (by decide)) (by decide))⟩
  refine k_aload_n C rfl rfl rfl ?_
  refine c_VI C (s_X4_readLetter hS hI2 H_r0) rfl rfl rfl rfl rfl ⟨_, rfl, rfl, T_r0, Nat.le_of_ble_eq_true rfl⟩ rfl rfl (Nat.le_of_ble_eq_true rfl) (Nat.le_of_ble_eq_true rfl) (Nat.le_of_ble_eq_true rfl) ?_
  rintro x82 I83 L84 ⟨o0x82, o1x82, hI83, S85⟩
  have gx82 := rg x82
  exact k_iret C rfl (Or.inr ⟨rfl, z01 (by omega) (by omega)⟩) (Nat.le_of_ble_eq_true rfl) (Nat.le_of_ble_eq_true rfl) ⟨_, _, _, rfl, rfl, by omega, by omega, hI83, (Chg.cons S4 (Chg.mono S85 (by decide)) (by decide))⟩

theorem s_X4_readProduct_5 {d : Nat} {T N : Nat → Nat} {I : IT} {L : LT} {R : RT} {A B : Nat → Prop} {r0 : Nat} {n1 : Int32} (hS : SUB B A) (hI : IX A T I) (H_r0 : (hs_Rd T N R A B) r0) (b0_n1 : 5 ≤ n1.toInt) (b1_n1 : n1.toInt ≤ 5) : Ex (d + 8) 72 [.ref r0, .int n1] (T, N, I, L, R) 0 0 (pI T N R (fun x9 I9 L9 => (0 ≤ x9.toInt) ∧ (x9.toInt ≤ 1) ∧ (IX A T I9 ∧ Chg B T [(5, 4), (5, 5), (8, 2)] I L I9 L9))) := by
  refine ⟨_, rfl, Nat.le_of_ble_eq_true rfl, fun V C S => ?_⟩
  show V 0 [(0, .ref r0), (1, .int n1)] [] (T, N, I, L, R) 0 0
  have gn1 := rg n1
  refine k_aload_n C rfl rfl rfl ?_
  refine k_iload_n C rfl rfl rfl ?_
  obtain ⟨T_r0, A_r0, B_r0, ⟨r0_0, R_r0_0, H_r0_0⟩, ⟨r0_2, R_r0_2, H_r0_2⟩⟩ := id H_r0
  refine c_VI C (s_X4_readPart_5 hS hI H_r0 (by omega) (by omega)) rfl rfl rfl rfl rfl ⟨_, rfl, rfl, T_r0, Nat.le_of_ble_eq_true rfl⟩ rfl rfl (Nat.le_of_ble_eq_true rfl) (Nat.le_of_ble_eq_true rfl) (Nat.le_of_ble_eq_true rfl) ?_
  rintro x1 I2 L3 ⟨o0x1, o1x1, hI2, S4⟩
  have gx1 := rg x1
  refine b_if_ne C (t := 10) rfl rfl rfl (fun c5 => ?_) (fun c5 => ?_)
  · skip
    refine z_iconst C (z := 0) rfl rfl rfl (fun x6 ex6 => ?_)
    have J7 : ∀ (nn8 : Nat) (I9 : IT) (L10 : LT) (x11 : Int32), (MN (400 - x11.toInt) nn8) → (IX A T I9) → (Chg B T [(5, 4), (5, 5), (8, 2)] I2 L3 I9 L10) → (0 ≤ x11.toInt) → (x11.toInt ≤ 400) → V 12 [(0, .ref r0), (1, .int n1), (2, .int x11)] [] (T, N, I9, L10, R) 0 0 := by
      intro nn8
      induction nn8 using Nat.strongRecOn with
      | _ nn8 ihJ7 =>
        intro I9 L10 x11 hmnn8 hI15 S14 b12 b13
        have gx11 := rg x11
        refine k_iload_n C rfl rfl rfl ?_
        refine z_sipush C (z := 400) rfl rfl rfl (fun x16 ex16 => ?_)
        refine b_icmp_ge C (t := 72) rfl rfl rfl (fun c17 => ?_) (fun c17 => ?_)
        · skip
          refine z_iconst C (z := 1) rfl rfl rfl (fun x18 ex18 => ?_)
          exact k_iret C rfl (Or.inr ⟨rfl, z01 (by omega) (by omega)⟩) (Nat.le_of_ble_eq_true rfl) (Nat.le_of_ble_eq_true rfl) ⟨_, _, _, rfl, rfl, by omega, by omega, hI15, (Chg.cons S4 (Chg.mono S14 (by decide)) (by decide))⟩
        refine k_aload_n C rfl rfl rfl ?_
        refine c_VI C (s_X4_next hS hI15 H_r0) rfl rfl rfl rfl rfl ⟨_, rfl, rfl, T_r0, Nat.le_of_ble_eq_true rfl⟩ rfl rfl (Nat.le_of_ble_eq_true rfl) (Nat.le_of_ble_eq_true rfl) (Nat.le_of_ble_eq_true rfl) ?_
        rintro x19 I20 L21 ⟨hI20, S22⟩
        have gx19 := rg x19
        refine z_bipush C (z := 42) rfl rfl rfl (fun x23 ex23 => ?_)
        refine b_icmp_ne C (t := 72) rfl rfl rfl (fun c24 => ?_) (fun c24 => ?_)
        · skip
          refine z_iconst C (z := 1) rfl rfl rfl (fun x25 ex25 => ?_)
          exact k_iret C rfl (Or.inr ⟨rfl, z01 (by omega) (by omega)⟩) (Nat.le_of_ble_eq_true rfl) (Nat.le_of_ble_eq_true rfl) ⟨_, _, _, rfl, rfl, by omega, by omega, hI20, (Chg.cons S4 (Chg.cons S14 (Chg.mono S22 (by decide)) (by decide)) (by decide))⟩
        refine k_aload_n C rfl rfl rfl ?_
        refine c_VI C (s_X4_isThingMore hS hI20 H_r0) rfl rfl rfl rfl rfl ⟨_, rfl, rfl, T_r0, Nat.le_of_ble_eq_true rfl⟩ rfl rfl (Nat.le_of_ble_eq_true rfl) (Nat.le_of_ble_eq_true rfl) (Nat.le_of_ble_eq_true rfl) ?_
        rintro x26 I27 L28 ⟨o0x26, o1x26, hI27, S29⟩
        have gx26 := rg x26
        refine b_if_ne C (t := 37) rfl rfl rfl (fun c30 => ?_) (fun c30 => ?_)
        · skip
          refine k_aload_n C rfl rfl rfl ?_
          refine k_dup C rfl rfl rfl ?_
          refine z_gI C rfl rfl rfl T_r0 rfl (fun x31 ex31 => ?_)
          have gx31 := rg x31
          refine z_iconst C (z := 1) rfl rfl rfl (fun x32 ex32 => ?_)
          refine zt_iadd C rfl rfl (fun x33 => ?_)
          have gx33 := rg x33
          refine z_pI C rfl rfl rfl T_r0 (Or.inr rfl) rfl (fun I34 uI34 => ?_)
          have hI34 : IX A T I34 := IX.f hI27 T_r0 (boX.tr (by decide) (by decide)) uI34
          have S35 : Chg B T [(5, 4)] I27 L28 I34 L28 := Chg.f B_r0 T_r0 uI34
          have e36 := u2_e uI34
          refine k_aload_n C rfl rfl rfl ?_
          refine k_iload_n C rfl rfl rfl ?_
          refine c_VI C (s_X4_readPart_5 hS hI34 H_r0 (by omega) (by omega)) rfl rfl rfl rfl rfl ⟨_, rfl, rfl, T_r0, Nat.le_of_ble_eq_true rfl⟩ rfl rfl (Nat.le_of_ble_eq_true rfl) (Nat.le_of_ble_eq_true rfl) (Nat.le_of_ble_eq_true rfl) ?_
          rintro x37 I38 L39 ⟨o0x37, o1x37, hI38, S40⟩
          have gx37 := rg x37
          refine b_if_ne C (t := 57) rfl rfl rfl (fun c41 => ?_) (fun c41 => ?_)
          · skip
            refine k_aload_n C rfl rfl rfl ?_
            refine g_R C rfl rfl rfl T_r0 rfl R_r0_0 ?_
            refine z_iconst C (z := 3) rfl rfl rfl (fun x42 ex42 => ?_)
            refine z_iconst C (z := 0) rfl rfl rfl (fun x43 ex43 => ?_)
            obtain ⟨T_r0_0, A_r0_0, B_r0_0, ⟨r0_0_0, R_r0_0_0, H_r0_0_0⟩, ⟨r0_0_1, R_r0_0_1, H_r0_0_1⟩⟩ := id H_r0_0
            refine c_VV C (s_X7_put hS hI38 H_r0_0) rfl rfl rfl rfl rfl ⟨_, rfl, rfl, T_r0_0, Nat.le_of_ble_eq_true rfl⟩ rfl rfl (Nat.le_of_ble_eq_true rfl) (Nat.le_of_ble_eq_true rfl) (Nat.le_of_ble_eq_true rfl) ?_
            rintro I45 L46 ⟨hI45, S47⟩
            refine z_iinc C (z := 1) (lw := fun x48 => [(2, .int x48), (0, .ref r0), (1, .int n1)]) rfl rfl rfl (Nat.le_of_ble_eq_true rfl) rfl ⟨by omega, by omega⟩ (fun _ => rfl) (fun x48 ex48 => ?_)
            show V 69 [(2, .int x48), (0, .ref r0), (1, .int n1)] _ _ _ _
            refine k_goto C (pc2 := 12) rfl rfl ?_
            refine k_sub S [(0, .ref r0), (1, .int n1), (2, .int x48)] (List.forall_mem_cons.mpr ⟨List.mem_of_getElem? (i := 1) rfl, List.forall_mem_cons.mpr ⟨List.mem_of_getElem? (i := 2) rfl, List.forall_mem_cons.mpr ⟨List.mem_of_getElem? (i := 0) rfl, fun _ h => nomatch h⟩⟩⟩) ?_
            exact ihJ7 _ (MN.lt hmnn8 (by omega) (by omega)) I45 L46 x48 rfl hI45 (Chg.cons S14 (Chg.cons S22 (Chg.cons S29 (Chg.cons S35 (Chg.cons S40 (Chg.mono S47 (by decide)) (by decide)) (by decide)) (by decide)) (by decide)) (by decide)) (by omega) (by omega)
          refine z_iconst C (z := 0) rfl rfl rfl (fun x49 ex49 => ?_)
          exact k_iret C rfl (Or.inr ⟨rfl, z01 (by omega) (by omega)⟩) (Nat.le_of_ble_eq_true rfl) (Nat.le_of_ble_eq_true rfl) ⟨_, _, _, rfl, rfl, by omega, by omega, hI38, (Chg.cons S4 (Chg.cons S14 (Chg.cons S22 (Chg.cons S29 (Chg.cons S35 (Chg.mono S40 (by decide)) (by decide)) (by decide)) (by decide)) (by decide)) (by decide))⟩
        refine z_iconst C (z := 0) rfl rfl rfl (fun x50 ex50 => ?_)
        exact k_iret C rfl (Or.inr ⟨rfl, z01 (by omega) (by omega)⟩) (Nat.le_of_ble_eq_true rfl) (Nat.le_of_ble_eq_true rfl) ⟨_, _, _, rfl, rfl, by omega, by omega, hI27, (Chg.cons S4 (Chg.cons S14 (Chg.cons S22 (Chg.mono S29 (by decide)) (by decide)) (by decide)) (by decide))⟩
    refine k_istore_n C (lw := [(2, .int x6), (0, .ref r0), (1, .int n1)]) rfl rfl (Nat.le_of_ble_eq_true rfl) rfl ?_
    refine k_sub S [(0, .ref r0), (1, .int n1), (2, .int x6)] (List.forall_mem_cons.mpr ⟨List.mem_of_getElem? (i := 1) rfl, List.forall_mem_cons.mpr ⟨List.mem_of_getElem? (i := 2) rfl, List.forall_mem_cons.mpr ⟨List.mem_of_getElem? (i := 0) rfl, fun _ h => nomatch h⟩⟩⟩) ?_
    exact J7 _ I2 L3 x6 rfl hI2 Chg.rf (by omega) (by omega)
  refine z_iconst C (z := 0) rfl rfl rfl (fun x51 ex51 => ?_)
  exact k_iret C rfl (Or.inr ⟨rfl, z01 (by omega) (by omega)⟩) (Nat.le_of_ble_eq_true rfl) (Nat.le_of_ble_eq_true rfl) ⟨_, _, _, rfl, rfl, by omega, by omega, hI2, (Chg.mono S4 (by decide))⟩

theorem s_X4_readSum_5 {d : Nat} {T N : Nat → Nat} {I : IT} {L : LT} {R : RT} {A B : Nat → Prop} {r0 : Nat} {n1 : Int32} (hS : SUB B A) (hI : IX A T I) (H_r0 : (hs_Rd T N R A B) r0) (b0_n1 : 5 ≤ n1.toInt) (b1_n1 : n1.toInt ≤ 5) : Ex (d + 9) 73 [.ref r0, .int n1] (T, N, I, L, R) 0 0 (pI T N R (fun x9 I9 L9 => (0 ≤ x9.toInt) ∧ (x9.toInt ≤ 1) ∧ (IX A T I9 ∧ Chg B T [(5, 4), (5, 5), (8, 2)] I L I9 L9))) := by
  refine ⟨_, rfl, Nat.le_of_ble_eq_true rfl, fun V C S => ?_⟩
  show V 0 [(0, .ref r0), (1, .int n1)] [] (T, N, I, L, R) 0 0
  have gn1 := rg n1
  refine k_aload_n C rfl rfl rfl ?_
  refine k_iload_n C rfl rfl rfl ?_
  obtain ⟨T_r0, A_r0, B_r0, ⟨r0_0, R_r0_0, H_r0_0⟩, ⟨r0_2, R_r0_2, H_r0_2⟩⟩ := id H_r0
  refine c_VI C (s_X4_readProduct_5 hS hI H_r0 (by omega) (by omega)) rfl rfl rfl rfl rfl ⟨_, rfl, rfl, T_r0, Nat.le_of_ble_eq_true rfl⟩ rfl rfl (Nat.le_of_ble_eq_true rfl) (Nat.le_of_ble_eq_true rfl) (Nat.le_of_ble_eq_true rfl) ?_
  rintro x1 I2 L3 ⟨o0x1, o1x1, hI2, S4⟩
  have gx1 := rg x1
  refine b_if_ne C (t := 10) rfl rfl rfl (fun c5 => ?_) (fun c5 => ?_)
  · skip
    refine z_iconst C (z := 0) rfl rfl rfl (fun x6 ex6 => ?_)
    have J7 : ∀ (nn8 : Nat) (I9 : IT) (L10 : LT) (x11 : Int32), (MN (400 - x11.toInt) nn8) → (IX A T I9) → (Chg B T [(5, 4), (5, 5), (8, 2)] I2 L3 I9 L10) → (0 ≤ x11.toInt) → (x11.toInt ≤ 400) → V 12 [(0, .ref r0), (1, .int n1), (2, .int x11)] [] (T, N, I9, L10, R) 0 0 := by
      intro nn8
      induction nn8 using Nat.strongRecOn with
      | _ nn8 ihJ7 =>
        intro I9 L10 x11 hmnn8 hI15 S14 b12 b13
        have gx11 := rg x11
        refine k_iload_n C rfl rfl rfl ?_
        refine z_sipush C (z := 400) rfl rfl rfl (fun x16 ex16 => ?_)
        refine b_icmp_ge C (t := 72) rfl rfl rfl (fun c17 => ?_) (fun c17 => ?_)
        · skip
          refine z_iconst C (z := 1) rfl rfl rfl (fun x18 ex18 => ?_)
          exact k_iret C rfl (Or.inr ⟨rfl, z01 (by omega) (by omega)⟩) (Nat.le_of_ble_eq_true rfl) (Nat.le_of_ble_eq_true rfl) ⟨_, _, _, rfl, rfl, by omega, by omega, hI15, (Chg.cons S4 (Chg.mono S14 (by decide)) (by decide))⟩
        refine k_aload_n C rfl rfl rfl ?_
        refine c_VI C (s_X4_next hS hI15 H_r0) rfl rfl rfl rfl rfl ⟨_, rfl, rfl, T_r0, Nat.le_of_ble_eq_true rfl⟩ rfl rfl (Nat.le_of_ble_eq_true rfl) (Nat.le_of_ble_eq_true rfl) (Nat.le_of_ble_eq_true rfl) ?_
        rintro x19 I20 L21 ⟨hI20, S22⟩
        have gx19 := rg x19
        refine z_bipush C (z := 43) rfl rfl rfl (fun x23 ex23 => ?_)
        refine b_icmp_ne C (t := 72) rfl rfl rfl (fun c24 => ?_) (fun c24 => ?_)
        · skip
          refine z_iconst C (z := 1) rfl rfl rfl (fun x25 ex25 => ?_)
          exact k_iret C rfl (Or.inr ⟨rfl, z01 (by omega) (by omega)⟩) (Nat.le_of_ble_eq_true rfl) (Nat.le_of_ble_eq_true rfl) ⟨_, _, _, rfl, rfl, by omega, by omega, hI20, (Chg.cons S4 (Chg.cons S14 (Chg.mono S22 (by decide)) (by decide)) (by decide))⟩
        refine k_aload_n C rfl rfl rfl ?_
        refine c_VI C (s_X4_isThingMore hS hI20 H_r0) rfl rfl rfl rfl rfl ⟨_, rfl, rfl, T_r0, Nat.le_of_ble_eq_true rfl⟩ rfl rfl (Nat.le_of_ble_eq_true rfl) (Nat.le_of_ble_eq_true rfl) (Nat.le_of_ble_eq_true rfl) ?_
        rintro x26 I27 L28 ⟨o0x26, o1x26, hI27, S29⟩
        have gx26 := rg x26
        refine b_if_ne C (t := 37) rfl rfl rfl (fun c30 => ?_) (fun c30 => ?_)
        · skip
          refine k_aload_n C rfl rfl rfl ?_
          refine k_dup C rfl rfl rfl ?_
          refine z_gI C rfl rfl rfl T_r0 rfl (fun x31 ex31 => ?_)
          have gx31 := rg x31
          refine z_iconst C (z := 1) rfl rfl rfl (fun x32 ex32 => ?_)
          refine zt_iadd C rfl rfl (fun x33 => ?_)
          have gx33 := rg x33
          refine z_pI C rfl rfl rfl T_r0 (Or.inr rfl) rfl (fun I34 uI34 => ?_)
          have hI34 : IX A T I34 := IX.f hI27 T_r0 (boX.tr (by decide) (by decide)) uI34
          have S35 : Chg B T [(5, 4)] I27 L28 I34 L28 := Chg.f B_r0 T_r0 uI34
          have e36 := u2_e uI34
          refine k_aload_n C rfl rfl rfl ?_
          refine k_iload_n C rfl rfl rfl ?_
          refine c_VI C (s_X4_readProduct_5 hS hI34 H_r0 (by omega) (by omega)) rfl rfl rfl rfl rfl ⟨_, rfl, rfl, T_r0, Nat.le_of_ble_eq_true rfl⟩ rfl rfl (Nat.le_of_ble_eq_true rfl) (Nat.le_of_ble_eq_true rfl) (Nat.le_of_ble_eq_true rfl) ?_
          rintro x37 I38 L39 ⟨o0x37, o1x37, hI38, S40⟩
          have gx37 := rg x37
          refine b_if_ne C (t := 57) rfl rfl rfl (fun c41 => ?_) (fun c41 => ?_)
          · skip
            refine k_aload_n C rfl rfl rfl ?_
            refine g_R C rfl rfl rfl T_r0 rfl R_r0_0 ?_
            refine z_iconst C (z := 2) rfl rfl rfl (fun x42 ex42 => ?_)
            refine z_iconst C (z := 0) rfl rfl rfl (fun x43 ex43 => ?_)
            obtain ⟨T_r0_0, A_r0_0, B_r0_0, ⟨r0_0_0, R_r0_0_0, H_r0_0_0⟩, ⟨r0_0_1, R_r0_0_1, H_r0_0_1⟩⟩ := id H_r0_0
            refine c_VV C (s_X7_put hS hI38 H_r0_0) rfl rfl rfl rfl rfl ⟨_, rfl, rfl, T_r0_0, Nat.le_of_ble_eq_true rfl⟩ rfl rfl (Nat.le_of_ble_eq_true rfl) (Nat.le_of_ble_eq_true rfl) (Nat.le_of_ble_eq_true rfl) ?_
            rintro I45 L46 ⟨hI45, S47⟩
            refine z_iinc C (z := 1) (lw := fun x48 => [(2, .int x48), (0, .ref r0), (1, .int n1)]) rfl rfl rfl (Nat.le_of_ble_eq_true rfl) rfl ⟨by omega, by omega⟩ (fun _ => rfl) (fun x48 ex48 => ?_)
            show V 69 [(2, .int x48), (0, .ref r0), (1, .int n1)] _ _ _ _
            refine k_goto C (pc2 := 12) rfl rfl ?_
            refine k_sub S [(0, .ref r0), (1, .int n1), (2, .int x48)] (List.forall_mem_cons.mpr ⟨List.mem_of_getElem? (i := 1) rfl, List.forall_mem_cons.mpr ⟨List.mem_of_getElem? (i := 2) rfl, List.forall_mem_cons.mpr ⟨List.mem_of_getElem? (i := 0) rfl, fun _ h => nomatch h⟩⟩⟩) ?_
            exact ihJ7 _ (MN.lt hmnn8 (by omega) (by omega)) I45 L46 x48 rfl hI45 (Chg.cons S14 (Chg.cons S22 (Chg.cons S29 (Chg.cons S35 (Chg.cons S40 (Chg.mono S47 (by decide)) (by decide)) (by decide)) (by decide)) (by decide)) (by decide)) (by omega) (by omega)
          refine z_iconst C (z := 0) rfl rfl rfl (fun x49 ex49 => ?_)
          exact k_iret C rfl (Or.inr ⟨rfl, z01 (by omega) (by omega)⟩) (Nat.le_of_ble_eq_true rfl) (Nat.le_of_ble_eq_true rfl) ⟨_, _, _, rfl, rfl, by omega, by omega, hI38, (Chg.cons S4 (Chg.cons S14 (Chg.cons S22 (Chg.cons S29 (Chg.cons S35 (Chg.mono S40 (by decide)) (by decide)) (by decide)) (by decide)) (by decide)) (by decide))⟩
        refine z_iconst C (z := 0) rfl rfl rfl (fun x50 ex50 => ?_)
        exact k_iret C rfl (Or.inr ⟨rfl, z01 (by omega) (by omega)⟩) (Nat.le_of_ble_eq_true rfl) (Nat.le_of_ble_eq_true rfl) ⟨_, _, _, rfl, rfl, by omega, by omega, hI27, (Chg.cons S4 (Chg.cons S14 (Chg.cons S22 (Chg.mono S29 (by decide)) (by decide)) (by decide)) (by decide))⟩
    refine k_istore_n C (lw := [(2, .int x6), (0, .ref r0), (1, .int n1)]) rfl rfl (Nat.le_of_ble_eq_true rfl) rfl ?_
    refine k_sub S [(0, .ref r0), (1, .int n1), (2, .int x6)] (List.forall_mem_cons.mpr ⟨List.mem_of_getElem? (i := 1) rfl, List.forall_mem_cons.mpr ⟨List.mem_of_getElem? (i := 2) rfl, List.forall_mem_cons.mpr ⟨List.mem_of_getElem? (i := 0) rfl, fun _ h => nomatch h⟩⟩⟩) ?_
    exact J7 _ I2 L3 x6 rfl hI2 Chg.rf (by omega) (by omega)
  refine z_iconst C (z := 0) rfl rfl rfl (fun x51 ex51 => ?_)
  exact k_iret C rfl (Or.inr ⟨rfl, z01 (by omega) (by omega)⟩) (Nat.le_of_ble_eq_true rfl) (Nat.le_of_ble_eq_true rfl) ⟨_, _, _, rfl, rfl, by omega, by omega, hI2, (Chg.mono S4 (by decide))⟩

theorem s_X4_readOverlap_5 {d : Nat} {T N : Nat → Nat} {I : IT} {L : LT} {R : RT} {A B : Nat → Prop} {r0 : Nat} {n1 : Int32} (hS : SUB B A) (hI : IX A T I) (H_r0 : (hs_Rd T N R A B) r0) (b0_n1 : 5 ≤ n1.toInt) (b1_n1 : n1.toInt ≤ 5) : Ex (d + 10) 70 [.ref r0, .int n1] (T, N, I, L, R) 0 0 (pI T N R (fun x9 I9 L9 => (0 ≤ x9.toInt) ∧ (x9.toInt ≤ 1) ∧ (IX A T I9 ∧ Chg B T [(5, 4), (5, 5), (8, 2)] I L I9 L9))) := by
  refine ⟨_, rfl, Nat.le_of_ble_eq_true rfl, fun V C S => ?_⟩
  show V 0 [(0, .ref r0), (1, .int n1)] [] (T, N, I, L, R) 0 0
  have gn1 := rg n1
  refine k_aload_n C rfl rfl rfl ?_
  obtain ⟨T_r0, A_r0, B_r0, ⟨r0_0, R_r0_0, H_r0_0⟩, ⟨r0_2, R_r0_2, H_r0_2⟩⟩ := id H_r0
  refine c_VI C (s_X4_isThingMore hS hI H_r0) rfl rfl rfl rfl rfl ⟨_, rfl, rfl, T_r0, Nat.le_of_ble_eq_true rfl⟩ rfl rfl (Nat.le_of_ble_eq_true rfl) (Nat.le_of_ble_eq_true rfl) (Nat.le_of_ble_eq_true rfl) ?_
  rintro x1 I2 L3 ⟨o0x1, o1x1, hI2, S4⟩
  have gx1 := rg x1
  refine b_if_ne C (t := 9) rfl rfl rfl (fun c5 => ?_) (fun c5 => ?_)
  · skip
    refine k_aload_n C rfl rfl rfl ?_
    refine k_dup C rfl rfl rfl ?_
    refine z_gI C rfl rfl rfl T_r0 rfl (fun x6 ex6 => ?_)
    have gx6 := rg x6
    refine z_iconst C (z := 1) rfl rfl rfl (fun x7 ex7 => ?_)
    refine zt_iadd C rfl rfl (fun x8 => ?_)
    have gx8 := rg x8
    refine z_pI C rfl rfl rfl T_r0 (Or.inr rfl) rfl (fun I9 uI9 => ?_)
    have hI9 : IX A T I9 := IX.f hI2 T_r0 (boX.tr (by decide) (by decide)) uI9
    have S10 : Chg B T [(5, 4)] I2 L3 I9 L3 := Chg.f B_r0 T_r0 uI9
    have e11 := u2_e uI9
    refine k_aload_n C rfl rfl rfl ?_
    refine k_iload_n C rfl rfl rfl ?_
    refine c_VI C (s_X4_readSum_5 hS hI9 H_r0 (by omega) (by omega)) rfl rfl rfl rfl rfl ⟨_, rfl, rfl, T_r0, Nat.le_of_ble_eq_true rfl⟩ rfl rfl (Nat.le_of_ble_eq_true rfl) (Nat.le_of_ble_eq_true rfl) (Nat.le_of_ble_eq_true rfl) ?_
    rintro x12 I13 L14 ⟨o0x12, o1x12, hI13, S15⟩
    have gx12 := rg x12
    refine b_if_eq C (t := 53) rfl rfl rfl (fun c16 => ?_) (fun c16 => ?_)
    · skip
      refine z_iconst C (z := 0) rfl rfl rfl (fun x17 ex17 => ?_)
      exact k_iret C rfl (Or.inr ⟨rfl, z01 (by omega) (by omega)⟩) (Nat.le_of_ble_eq_true rfl) (Nat.le_of_ble_eq_true rfl) ⟨_, _, _, rfl, rfl, by omega, by omega, hI13, (Chg.cons S4 (Chg.cons S10 (Chg.mono S15 (by decide)) (by decide)) (by decide))⟩
    refine k_aload_n C rfl rfl rfl ?_
    refine z_bipush C (z := 44) rfl rfl rfl (fun x18 ex18 => ?_)
    refine c_VI C (s_X4_take hS hI13 H_r0) rfl rfl rfl rfl rfl ⟨_, rfl, rfl, T_r0, Nat.le_of_ble_eq_true rfl⟩ rfl rfl (Nat.le_of_ble_eq_true rfl) (Nat.le_of_ble_eq_true rfl) (Nat.le_of_ble_eq_true rfl) ?_
    rintro x19 I20 L21 ⟨o0x19, o1x19, hI20, S22⟩
    have gx19 := rg x19
    refine b_if_eq C (t := 53) rfl rfl rfl (fun c23 => ?_) (fun c23 => ?_)
    · skip
      refine z_iconst C (z := 0) rfl rfl rfl (fun x24 ex24 => ?_)
      exact k_iret C rfl (Or.inr ⟨rfl, z01 (by omega) (by omega)⟩) (Nat.le_of_ble_eq_true rfl) (Nat.le_of_ble_eq_true rfl) ⟨_, _, _, rfl, rfl, by omega, by omega, hI20, (Chg.cons S4 (Chg.cons S10 (Chg.cons S15 (Chg.mono S22 (by decide)) (by decide)) (by decide)) (by decide))⟩
    refine k_aload_n C rfl rfl rfl ?_
    refine k_iload_n C rfl rfl rfl ?_
    refine c_VI C (s_X4_readSum_5 hS hI20 H_r0 (by omega) (by omega)) rfl rfl rfl rfl rfl ⟨_, rfl, rfl, T_r0, Nat.le_of_ble_eq_true rfl⟩ rfl rfl (Nat.le_of_ble_eq_true rfl) (Nat.le_of_ble_eq_true rfl) (Nat.le_of_ble_eq_true rfl) ?_
    rintro x25 I26 L27 ⟨o0x25, o1x25, hI26, S28⟩
    have gx25 := rg x25
    refine b_if_eq C (t := 53) rfl rfl rfl (fun c29 => ?_) (fun c29 => ?_)
    · skip
      refine z_iconst C (z := 0) rfl rfl rfl (fun x30 ex30 => ?_)
      exact k_iret C rfl (Or.inr ⟨rfl, z01 (by omega) (by omega)⟩) (Nat.le_of_ble_eq_true rfl) (Nat.le_of_ble_eq_true rfl) ⟨_, _, _, rfl, rfl, by omega, by omega, hI26, (Chg.cons S4 (Chg.cons S10 (Chg.cons S15 (Chg.cons S22 (Chg.mono S28 (by decide)) (by decide)) (by decide)) (by decide)) (by decide))⟩
    refine k_aload_n C rfl rfl rfl ?_
    refine z_bipush C (z := 93) rfl rfl rfl (fun x31 ex31 => ?_)
    refine c_VI C (s_X4_take hS hI26 H_r0) rfl rfl rfl rfl rfl ⟨_, rfl, rfl, T_r0, Nat.le_of_ble_eq_true rfl⟩ rfl rfl (Nat.le_of_ble_eq_true rfl) (Nat.le_of_ble_eq_true rfl) (Nat.le_of_ble_eq_true rfl) ?_
    rintro x32 I33 L34 ⟨o0x32, o1x32, hI33, S35⟩
    have gx32 := rg x32
    refine b_if_ne C (t := 55) rfl rfl rfl (fun c36 => ?_) (fun c36 => ?_)
    · skip
      refine k_aload_n C rfl rfl rfl ?_
      refine c_VI C (s_X4_next hS hI33 H_r0) rfl rfl rfl rfl rfl ⟨_, rfl, rfl, T_r0, Nat.le_of_ble_eq_true rfl⟩ rfl rfl (Nat.le_of_ble_eq_true rfl) (Nat.le_of_ble_eq_true rfl) (Nat.le_of_ble_eq_true rfl) ?_
      rintro x37 I38 L39 ⟨hI38, S40⟩
      have gx37 := rg x37
      refine c_SI C (s_X4_isDigit hS hI38 ) rfl rfl rfl rfl rfl rfl rfl (Nat.le_of_ble_eq_true rfl) (Nat.le_of_ble_eq_true rfl) (Nat.le_of_ble_eq_true rfl) ?_
      rintro x41 _ _ ⟨o0x41, o1x41, rfl, rfl⟩
      have gx41 := rg x41
      refine b_if_eq C (t := 79) rfl rfl rfl (fun c42 => ?_) (fun c42 => ?_)
      · skip
        refine z_iconst C (z := 0) rfl rfl rfl (fun x43 ex43 => ?_)
        exact k_iret C rfl (Or.inr ⟨rfl, z01 (by omega) (by omega)⟩) (Nat.le_of_ble_eq_true rfl) (Nat.le_of_ble_eq_true rfl) ⟨_, _, _, rfl, rfl, by omega, by omega, hI38, (Chg.cons S4 (Chg.cons S10 (Chg.cons S15 (Chg.cons S22 (Chg.cons S28 (Chg.cons S35 (Chg.mono S40 (by decide)) (by decide)) (by decide)) (by decide)) (by decide)) (by decide)) (by decide))⟩
      refine k_aload_n C rfl rfl rfl ?_
      refine z_iconst C (z := 4) rfl rfl rfl (fun x44 ex44 => ?_)
      refine z_bipush C (z := 8) rfl rfl rfl (fun x45 ex45 => ?_)
      refine c_VI C (s_X4_readNumber hS hI38 H_r0) rfl rfl rfl rfl rfl ⟨_, rfl, rfl, T_r0, Nat.le_of_ble_eq_true rfl⟩ rfl rfl (Nat.le_of_ble_eq_true rfl) (Nat.le_of_ble_eq_true rfl) (Nat.le_of_ble_eq_true rfl) ?_
      rintro x46 I47 L48 ⟨o0x46, o1x46, hI47, S49⟩
      have gx46 := rg x46
      refine b_if_eq C (t := 79) rfl rfl rfl (fun c50 => ?_) (fun c50 => ?_)
      · skip
        refine z_iconst C (z := 0) rfl rfl rfl (fun x51 ex51 => ?_)
        exact k_iret C rfl (Or.inr ⟨rfl, z01 (by omega) (by omega)⟩) (Nat.le_of_ble_eq_true rfl) (Nat.le_of_ble_eq_true rfl) ⟨_, _, _, rfl, rfl, by omega, by omega, hI47, (Chg.cons S4 (Chg.cons S10 (Chg.cons S15 (Chg.cons S22 (Chg.cons S28 (Chg.cons S35 (Chg.cons S40 (Chg.mono S49 (by decide)) (by decide)) (by decide)) (by decide)) (by decide)) (by decide)) (by decide)) (by decide))⟩
      refine z_iconst C (z := 1) rfl rfl rfl (fun x52 ex52 => ?_)
      refine k_goto C (pc2 := 80) rfl rfl ?_
      exact k_iret C rfl (Or.inr ⟨rfl, z01 (by omega) (by omega)⟩) (Nat.le_of_ble_eq_true rfl) (Nat.le_of_ble_eq_true rfl) ⟨_, _, _, rfl, rfl, by omega, by omega, hI47, (Chg.cons S4 (Chg.cons S10 (Chg.cons S15 (Chg.cons S22 (Chg.cons S28 (Chg.cons S35 (Chg.cons S40 (Chg.mono S49 (by decide)) (by decide)) (by decide)) (by decide)) (by decide)) (by decide)) (by decide)) (by decide))⟩
    refine z_iconst C (z := 0) rfl rfl rfl (fun x53 ex53 => ?_)
    exact k_iret C rfl (Or.inr ⟨rfl, z01 (by omega) (by omega)⟩) (Nat.le_of_ble_eq_true rfl) (Nat.le_of_ble_eq_true rfl) ⟨_, _, _, rfl, rfl, by omega, by omega, hI33, (Chg.cons S4 (Chg.cons S10 (Chg.cons S15 (Chg.cons S22 (Chg.cons S28 (Chg.mono S35 (by decide)) (by decide)) (by decide)) (by decide)) (by decide)) (by decide))⟩
  refine z_iconst C (z := 0) rfl rfl rfl (fun x54 ex54 => ?_)
  exact k_iret C rfl (Or.inr ⟨rfl, z01 (by omega) (by omega)⟩) (Nat.le_of_ble_eq_true rfl) (Nat.le_of_ble_eq_true rfl) ⟨_, _, _, rfl, rfl, by omega, by omega, hI2, (Chg.mono S4 (by decide))⟩

theorem s_X4_readPart_4 {d : Nat} {T N : Nat → Nat} {I : IT} {L : LT} {R : RT} {A B : Nat → Prop} {r0 : Nat} {n1 : Int32} (hS : SUB B A) (hI : IX A T I) (H_r0 : (hs_Rd T N R A B) r0) (b0_n1 : 4 ≤ n1.toInt) (b1_n1 : n1.toInt ≤ 4) : Ex (d + 11) 71 [.ref r0, .int n1] (T, N, I, L, R) 0 0 (pI T N R (fun x9 I9 L9 => (0 ≤ x9.toInt) ∧ (x9.toInt ≤ 1) ∧ (IX A T I9 ∧ Chg B T [(5, 4), (5, 5), (8, 2)] I L I9 L9))) := by
  refine ⟨_, rfl, Nat.le_of_ble_eq_true rfl, fun V C S => ?_⟩
  show V 0 [(0, .ref r0), (1, .int n1)] [] (T, N, I, L, R) 0 0
  have gn1 := rg n1
  refine k_aload_n C rfl rfl rfl ?_
  obtain ⟨T_r0, A_r0, B_r0, ⟨r0_0, R_r0_0, H_r0_0⟩, ⟨r0_2, R_r0_2, H_r0_2⟩⟩ := id H_r0
  refine c_VI C (s_X4_next hS hI H_r0) rfl rfl rfl rfl rfl ⟨_, rfl, rfl, T_r0, Nat.le_of_ble_eq_true rfl⟩ rfl rfl (Nat.le_of_ble_eq_true rfl) (Nat.le_of_ble_eq_true rfl) (Nat.le_of_ble_eq_true rfl) ?_
  rintro x1 I2 L3 ⟨hI2, S4⟩
  have gx1 := rg x1
  refine k_istore_n C (lw := [(2, .int x1), (0, .ref r0), (1, .int n1)]) rfl rfl (Nat.le_of_ble_eq_true rfl) rfl ?_
  refine k_iload_n C rfl rfl rfl ?_
  refine z_bipush C (z := 102) rfl rfl rfl (fun x5 ex5 => ?_)
  refine b_icmp_ne C (t := 16) rfl rfl rfl (fun c6 => ?_) (fun c6 => ?_)
  · skip
    refine k_iload_n C rfl rfl rfl ?_
    refine c_SI C (s_X4_isDigit hS hI2 ) rfl rfl rfl rfl rfl rfl rfl (Nat.le_of_ble_eq_true rfl) (Nat.le_of_ble_eq_true rfl) (Nat.le_of_ble_eq_true rfl) ?_
    rintro x7 _ _ ⟨o0x7, o1x7, rfl, rfl⟩
    have gx7 := rg x7
    refine b_if_eq C (t := 47) rfl rfl rfl (fun c8 => ?_) (fun c8 => ?_)
    · skip
      refine k_iload_n C rfl rfl rfl ?_
      refine z_bipush C (z := 6) rfl rfl rfl (fun x9 ex9 => ?_)
      refine b_icmp_lt C (t := 55) rfl rfl rfl (fun c10 => ?_) (fun c10 => by exfalso; omega)
      refine k_iload_n C rfl rfl rfl ?_
      refine z_bipush C (z := 40) rfl rfl rfl (fun x11 ex11 => ?_)
      refine b_icmp_ne C (t := 96) rfl rfl rfl (fun c12 => ?_) (fun c12 => ?_)
      · skip
        refine k_iload_n C rfl rfl rfl ?_
        refine z_bipush C (z := 91) rfl rfl rfl (fun x13 ex13 => ?_)
        refine b_icmp_ne C (t := 110) rfl rfl rfl (fun c14 => ?_) (fun c14 => ?_)
        · skip
          refine k_iload_n C rfl rfl rfl ?_
          refine z_bipush C (z := 45) rfl rfl rfl (fun x15 ex15 => ?_)
          refine b_icmp_ne C (t := 149) rfl rfl rfl (fun c16 => ?_) (fun c16 => ?_)
          · skip
            refine z_iconst C (z := 0) rfl rfl rfl (fun x17 ex17 => ?_)
            exact k_iret C rfl (Or.inr ⟨rfl, z01 (by omega) (by omega)⟩) (Nat.le_of_ble_eq_true rfl) (Nat.le_of_ble_eq_true rfl) ⟨_, _, _, rfl, rfl, by omega, by omega, hI2, (Chg.mono S4 (by decide))⟩
          refine k_aload_n C rfl rfl rfl ?_
          refine k_dup C rfl rfl rfl ?_
          refine z_gI C rfl rfl rfl T_r0 rfl (fun x18 ex18 => ?_)
          have gx18 := rg x18
          refine z_iconst C (z := 1) rfl rfl rfl (fun x19 ex19 => ?_)
          refine zt_iadd C rfl rfl (fun x20 => ?_)
          have gx20 := rg x20
          refine z_pI C rfl rfl rfl T_r0 (Or.inr rfl) rfl (fun I21 uI21 => ?_)
          have hI21 : IX A T I21 := IX.f hI2 T_r0 (boX.tr (by decide) (by decide)) uI21
          have S22 : Chg B T [(5, 4)] I2 L3 I21 L3 := Chg.f B_r0 T_r0 uI21
          have e23 := u2_e uI21
          refine k_aload_n C rfl rfl rfl ?_
          refine k_iload_n C rfl rfl rfl ?_
          refine z_iconst C (z := 1) rfl rfl rfl (fun x24 ex24 => ?_)
          refine z_iadd C rfl rfl ⟨by omega, by omega⟩ (fun x25 ex25 => ?_)
          refine c_VI C (s_X4_readPart_5 hS hI21 H_r0 (by omega) (by omega)) rfl rfl rfl rfl rfl ⟨_, rfl, rfl, T_r0, Nat.le_of_ble_eq_true rfl⟩ rfl rfl (Nat.le_of_ble_eq_true rfl) (Nat.le_of_ble_eq_true rfl) (Nat.le_of_ble_eq_true rfl) ?_
          rintro x26 I27 L28 ⟨o0x26, o1x26, hI27, S29⟩
          have gx26 := rg x26
          refine b_if_ne C (t := 138) rfl rfl rfl (fun c30 => ?_) (fun c30 => ?_)
          · skip
            refine k_aload_n C rfl rfl rfl ?_
            refine g_R C rfl rfl rfl T_r0 rfl R_r0_0 ?_
            refine z_iconst C (z := 5) rfl rfl rfl (fun x31 ex31 => ?_)
            refine z_iconst C (z := 0) rfl rfl rfl (fun x32 ex32 => ?_)
            obtain ⟨T_r0_0, A_r0_0, B_r0_0, ⟨r0_0_0, R_r0_0_0, H_r0_0_0⟩, ⟨r0_0_1, R_r0_0_1, H_r0_0_1⟩⟩ := id H_r0_0
            refine c_VV C (s_X7_put hS hI27 H_r0_0) rfl rfl rfl rfl rfl ⟨_, rfl, rfl, T_r0_0, Nat.le_of_ble_eq_true rfl⟩ rfl rfl (Nat.le_of_ble_eq_true rfl) (Nat.le_of_ble_eq_true rfl) (Nat.le_of_ble_eq_true rfl) ?_
            rintro I34 L35 ⟨hI34, S36⟩
            refine z_iconst C (z := 1) rfl rfl rfl (fun x37 ex37 => ?_)
            exact k_iret C rfl (Or.inr ⟨rfl, z01 (by omega) (by omega)⟩) (Nat.le_of_ble_eq_true rfl) (Nat.le_of_ble_eq_true rfl) ⟨_, _, _, rfl, rfl, by omega, by omega, hI34, (Chg.cons S4 (Chg.cons S22 (Chg.cons S29 (Chg.mono S36 (by decide)) (by decide)) (by decide)) (by decide))⟩
          refine z_iconst C (z := 0) rfl rfl rfl (fun x38 ex38 => ?_)
          exact k_iret C rfl (Or.inr ⟨rfl, z01 (by omega) (by omega)⟩) (Nat.le_of_ble_eq_true rfl) (Nat.le_of_ble_eq_true rfl) ⟨_, _, _, rfl, rfl, by omega, by omega, hI27, (Chg.cons S4 (Chg.cons S22 (Chg.mono S29 (by decide)) (by decide)) (by decide))⟩
        refine k_aload_n C rfl rfl rfl ?_
        refine k_iload_n C rfl rfl rfl ?_
        refine z_iconst C (z := 1) rfl rfl rfl (fun x39 ex39 => ?_)
        refine z_iadd C rfl rfl ⟨by omega, by omega⟩ (fun x40 ex40 => ?_)
        refine c_VI C (s_X4_readOverlap_5 hS hI2 H_r0 (by omega) (by omega)) rfl rfl rfl rfl rfl ⟨_, rfl, rfl, T_r0, Nat.le_of_ble_eq_true rfl⟩ rfl rfl (Nat.le_of_ble_eq_true rfl) (Nat.le_of_ble_eq_true rfl) (Nat.le_of_ble_eq_true rfl) ?_
        rintro x41 I42 L43 ⟨o0x41, o1x41, hI42, S44⟩
        have gx41 := rg x41
        exact k_iret C rfl (Or.inr ⟨rfl, z01 (by omega) (by omega)⟩) (Nat.le_of_ble_eq_true rfl) (Nat.le_of_ble_eq_true rfl) ⟨_, _, _, rfl, rfl, by omega, by omega, hI42, (Chg.cons S4 (Chg.mono S44 (by decide)) (by decide))⟩
      refine k_aload_n C rfl rfl rfl ?_
      refine k_dup C rfl rfl rfl ?_
      refine z_gI C rfl rfl rfl T_r0 rfl (fun x45 ex45 => ?_)
      have gx45 := rg x45
      refine z_iconst C (z := 1) rfl rfl rfl (fun x46 ex46 => ?_)
      refine zt_iadd C rfl rfl (fun x47 => ?_)
      have gx47 := rg x47
      refine z_pI C rfl rfl rfl T_r0 (Or.inr rfl) rfl (fun I48 uI48 => ?_)
      have hI48 : IX A T I48 := IX.f hI2 T_r0 (boX.tr (by decide) (by decide)) uI48
      have S49 : Chg B T [(5, 4)] I2 L3 I48 L3 := Chg.f B_r0 T_r0 uI48
      have e50 := u2_e uI48
      refine k_aload_n C rfl rfl rfl ?_
      refine k_iload_n C rfl rfl rfl ?_
      refine z_iconst C (z := 1) rfl rfl rfl (fun x51 ex51 => ?_)
      refine z_iadd C rfl rfl ⟨by omega, by omega⟩ (fun x52 ex52 => ?_)
      refine c_VI C (s_X4_readSum_5 hS hI48 H_r0 (by omega) (by omega)) rfl rfl rfl rfl rfl ⟨_, rfl, rfl, T_r0, Nat.le_of_ble_eq_true rfl⟩ rfl rfl (Nat.le_of_ble_eq_true rfl) (Nat.le_of_ble_eq_true rfl) (Nat.le_of_ble_eq_true rfl) ?_
      rintro x53 I54 L55 ⟨o0x53, o1x53, hI54, S56⟩
      have gx53 := rg x53
      refine b_if_eq C (t := 94) rfl rfl rfl (fun c57 => ?_) (fun c57 => ?_)
      · skip
        refine z_iconst C (z := 0) rfl rfl rfl (fun x58 ex58 => ?_)
        exact k_iret C rfl (Or.inr ⟨rfl, z01 (by omega) (by omega)⟩) (Nat.le_of_ble_eq_true rfl) (Nat.le_of_ble_eq_true rfl) ⟨_, _, _, rfl, rfl, by omega, by omega, hI54, (Chg.cons S4 (Chg.cons S49 (Chg.mono S56 (by decide)) (by decide)) (by decide))⟩
      refine k_aload_n C rfl rfl rfl ?_
      refine z_bipush C (z := 41) rfl rfl rfl (fun x59 ex59 => ?_)
      refine c_VI C (s_X4_take hS hI54 H_r0) rfl rfl rfl rfl rfl ⟨_, rfl, rfl, T_r0, Nat.le_of_ble_eq_true rfl⟩ rfl rfl (Nat.le_of_ble_eq_true rfl) (Nat.le_of_ble_eq_true rfl) (Nat.le_of_ble_eq_true rfl) ?_
      rintro x60 I61 L62 ⟨o0x60, o1x60, hI61, S63⟩
      have gx60 := rg x60
      refine b_if_eq C (t := 94) rfl rfl rfl (fun c64 => ?_) (fun c64 => ?_)
      · skip
        refine z_iconst C (z := 0) rfl rfl rfl (fun x65 ex65 => ?_)
        exact k_iret C rfl (Or.inr ⟨rfl, z01 (by omega) (by omega)⟩) (Nat.le_of_ble_eq_true rfl) (Nat.le_of_ble_eq_true rfl) ⟨_, _, _, rfl, rfl, by omega, by omega, hI61, (Chg.cons S4 (Chg.cons S49 (Chg.cons S56 (Chg.mono S63 (by decide)) (by decide)) (by decide)) (by decide))⟩
      refine z_iconst C (z := 1) rfl rfl rfl (fun x66 ex66 => ?_)
      refine k_goto C (pc2 := 95) rfl rfl ?_
      exact k_iret C rfl (Or.inr ⟨rfl, z01 (by omega) (by omega)⟩) (Nat.le_of_ble_eq_true rfl) (Nat.le_of_ble_eq_true rfl) ⟨_, _, _, rfl, rfl, by omega, by omega, hI61, (Chg.cons S4 (Chg.cons S49 (Chg.cons S56 (Chg.mono S63 (by decide)) (by decide)) (by decide)) (by decide))⟩
    refine k_aload_n C rfl rfl rfl ?_
    refine c_VI C (s_X4_isThingMore hS hI2 H_r0) rfl rfl rfl rfl rfl ⟨_, rfl, rfl, T_r0, Nat.le_of_ble_eq_true rfl⟩ rfl rfl (Nat.le_of_ble_eq_true rfl) (Nat.le_of_ble_eq_true rfl) (Nat.le_of_ble_eq_true rfl) ?_
    rintro x67 I68 L69 ⟨o0x67, o1x67, hI68, S70⟩
    have gx67 := rg x67
    refine b_if_eq C (t := 45) rfl rfl rfl (fun c71 => ?_) (fun c71 => ?_)
    · skip
      refine z_iconst C (z := 0) rfl rfl rfl (fun x72 ex72 => ?_)
      exact k_iret C rfl (Or.inr ⟨rfl, z01 (by omega) (by omega)⟩) (Nat.le_of_ble_eq_true rfl) (Nat.le_of_ble_eq_true rfl) ⟨_, _, _, rfl, rfl, by omega, by omega, hI68, (Chg.cons S4 (Chg.mono S70 (by decide)) (by decide))⟩
    refine k_aload_n C rfl rfl rfl ?_
    refine z_iconst C (z := 1) rfl rfl rfl (fun x73 ex73 => ?_)
    refine z_sipush C (z := 999) rfl rfl rfl (fun x74 ex74 => ?_)
    refine c_VI C (s_X4_readNumber hS hI68 H_r0) rfl rfl rfl rfl rfl ⟨_, rfl, rfl, T_r0, Nat.le_of_ble_eq_true rfl⟩ rfl rfl (Nat.le_of_ble_eq_true rfl) (Nat.le_of_ble_eq_true rfl) (Nat.le_of_ble_eq_true rfl) ?_
    rintro x75 I76 L77 ⟨o0x75, o1x75, hI76, S78⟩
    have gx75 := rg x75
    refine b_if_eq C (t := 45) rfl rfl rfl (fun c79 => ?_) (fun c79 => ?_)
    · skip
      refine z_iconst C (z := 0) rfl rfl rfl (fun x80 ex80 => ?_)
      exact k_iret C rfl (Or.inr ⟨rfl, z01 (by omega) (by omega)⟩) (Nat.le_of_ble_eq_true rfl) (Nat.le_of_ble_eq_true rfl) ⟨_, _, _, rfl, rfl, by omega, by omega, hI76, (Chg.cons S4 (Chg.cons S70 (Chg.mono S78 (by decide)) (by decide)) (by decide))⟩
    refine z_iconst C (z := 1) rfl rfl rfl (fun x81 ex81 => ?_)
    refine k_goto C (pc2 := 46) rfl rfl ?_
    exact k_iret C rfl (Or.inr ⟨rfl, z01 (by omega) (by omega)⟩) (Nat.le_of_ble_eq_true rfl) (Nat.le_of_ble_eq_true rfl) ⟨_, _, _, rfl, rfl, by omega, by omega, hI76, (Chg.cons S4 (Chg.cons S70 (Chg.mono S78 (by decide)) (by decide)) (by decide))⟩
  refine k_aload_n C rfl rfl rfl ?_
  refine c_VI C (s_X4_readLetter hS hI2 H_r0) rfl rfl rfl rfl rfl ⟨_, rfl, rfl, T_r0, Nat.le_of_ble_eq_true rfl⟩ rfl rfl (Nat.le_of_ble_eq_true rfl) (Nat.le_of_ble_eq_true rfl) (Nat.le_of_ble_eq_true rfl) ?_
  rintro x82 I83 L84 ⟨o0x82, o1x82, hI83, S85⟩
  have gx82 := rg x82
  exact k_iret C rfl (Or.inr ⟨rfl, z01 (by omega) (by omega)⟩) (Nat.le_of_ble_eq_true rfl) (Nat.le_of_ble_eq_true rfl) ⟨_, _, _, rfl, rfl, by omega, by omega, hI83, (Chg.cons S4 (Chg.mono S85 (by decide)) (by decide))⟩

theorem s_X4_readProduct_4 {d : Nat} {T N : Nat → Nat} {I : IT} {L : LT} {R : RT} {A B : Nat → Prop} {r0 : Nat} {n1 : Int32} (hS : SUB B A) (hI : IX A T I) (H_r0 : (hs_Rd T N R A B) r0) (b0_n1 : 4 ≤ n1.toInt) (b1_n1 : n1.toInt ≤ 4) : Ex (d + 12) 72 [.ref r0, .int n1] (T, N, I, L, R) 0 0 (pI T N R (fun x9 I9 L9 => (0 ≤ x9.toInt) ∧ (x9.toInt ≤ 1) ∧ (IX A T I9 ∧ Chg B T [(5, 4), (5, 5), (8, 2)] I L I9 L9))) := by
  refine ⟨_, rfl, Nat.le_of_ble_eq_true rfl, fun V C S => ?_⟩
  show V 0 [(0, .ref r0), (1, .int n1)] [] (T, N, I, L, R) 0 0
  have gn1 := rg n1
  refine k_aload_n C rfl rfl rfl ?_
  refine k_iload_n C rfl rfl rfl ?_
  obtain ⟨T_r0, A_r0, B_r0, ⟨r0_0, R_r0_0, H_r0_0⟩, ⟨r0_2, R_r0_2, H_r0_2⟩⟩ := id H_r0
  refine c_VI C (s_X4_readPart_4 hS hI H_r0 (by omega) (by omega)) rfl rfl rfl rfl rfl ⟨_, rfl, rfl, T_r0, Nat.le_of_ble_eq_true rfl⟩ rfl rfl (Nat.le_of_ble_eq_true rfl) (Nat.le_of_ble_eq_true rfl) (Nat.le_of_ble_eq_true rfl) ?_
  rintro x1 I2 L3 ⟨o0x1, o1x1, hI2, S4⟩
  have gx1 := rg x1
  refine b_if_ne C (t := 10) rfl rfl rfl (fun c5 => ?_) (fun c5 => ?_)
  · skip
    refine z_iconst C (z := 0) rfl rfl rfl (fun x6 ex6 => ?_)
    have J7 : ∀ (nn8 : Nat) (I9 : IT) (L10 : LT) (x11 : Int32), (MN (400 - x11.toInt) nn8) → (IX A T I9) → (Chg B T [(5, 4), (5, 5), (8, 2)] I2 L3 I9 L10) → (0 ≤ x11.toInt) → (x11.toInt ≤ 400) → V 12 [(0, .ref r0), (1, .int n1), (2, .int x11)] [] (T, N, I9, L10, R) 0 0 := by
      intro nn8
      induction nn8 using Nat.strongRecOn with
      | _ nn8 ihJ7 =>
        intro I9 L10 x11 hmnn8 hI15 S14 b12 b13
        have gx11 := rg x11
        refine k_iload_n C rfl rfl rfl ?_
        refine z_sipush C (z := 400) rfl rfl rfl (fun x16 ex16 => ?_)
        refine b_icmp_ge C (t := 72) rfl rfl rfl (fun c17 => ?_) (fun c17 => ?_)
        · skip
          refine z_iconst C (z := 1) rfl rfl rfl (fun x18 ex18 => ?_)
          exact k_iret C rfl (Or.inr ⟨rfl, z01 (by omega) (by omega)⟩) (Nat.le_of_ble_eq_true rfl) (Nat.le_of_ble_eq_true rfl) ⟨_, _, _, rfl, rfl, by omega, by omega, hI15, (Chg.cons S4 (Chg.mono S14 (by decide)) (by decide))⟩
        refine k_aload_n C rfl rfl rfl ?_
        refine c_VI C (s_X4_next hS hI15 H_r0) rfl rfl rfl rfl rfl ⟨_, rfl, rfl, T_r0, Nat.le_of_ble_eq_true rfl⟩ rfl rfl (Nat.le_of_ble_eq_true rfl) (Nat.le_of_ble_eq_true rfl) (Nat.le_of_ble_eq_true rfl) ?_
        rintro x19 I20 L21 ⟨hI20, S22⟩
        have gx19 := rg x19
        refine z_bipush C (z := 42) rfl rfl rfl (fun x23 ex23 => ?_)
        refine b_icmp_ne C (t := 72) rfl rfl rfl (fun c24 => ?_) (fun c24 => ?_)
        · skip
          refine z_iconst C (z := 1) rfl rfl rfl (fun x25 ex25 => ?_)
          exact k_iret C rfl (Or.inr ⟨rfl, z01 (by omega) (by omega)⟩) (Nat.le_of_ble_eq_true rfl) (Nat.le_of_ble_eq_true rfl) ⟨_, _, _, rfl, rfl, by omega, by omega, hI20, (Chg.cons S4 (Chg.cons S14 (Chg.mono S22 (by decide)) (by decide)) (by decide))⟩
        refine k_aload_n C rfl rfl rfl ?_
        refine c_VI C (s_X4_isThingMore hS hI20 H_r0) rfl rfl rfl rfl rfl ⟨_, rfl, rfl, T_r0, Nat.le_of_ble_eq_true rfl⟩ rfl rfl (Nat.le_of_ble_eq_true rfl) (Nat.le_of_ble_eq_true rfl) (Nat.le_of_ble_eq_true rfl) ?_
        rintro x26 I27 L28 ⟨o0x26, o1x26, hI27, S29⟩
        have gx26 := rg x26
        refine b_if_ne C (t := 37) rfl rfl rfl (fun c30 => ?_) (fun c30 => ?_)
        · skip
          refine k_aload_n C rfl rfl rfl ?_
          refine k_dup C rfl rfl rfl ?_
          refine z_gI C rfl rfl rfl T_r0 rfl (fun x31 ex31 => ?_)
          have gx31 := rg x31
          refine z_iconst C (z := 1) rfl rfl rfl (fun x32 ex32 => ?_)
          refine zt_iadd C rfl rfl (fun x33 => ?_)
          have gx33 := rg x33
          refine z_pI C rfl rfl rfl T_r0 (Or.inr rfl) rfl (fun I34 uI34 => ?_)
          have hI34 : IX A T I34 := IX.f hI27 T_r0 (boX.tr (by decide) (by decide)) uI34
          have S35 : Chg B T [(5, 4)] I27 L28 I34 L28 := Chg.f B_r0 T_r0 uI34
          have e36 := u2_e uI34
          refine k_aload_n C rfl rfl rfl ?_
          refine k_iload_n C rfl rfl rfl ?_
          refine c_VI C (s_X4_readPart_4 hS hI34 H_r0 (by omega) (by omega)) rfl rfl rfl rfl rfl ⟨_, rfl, rfl, T_r0, Nat.le_of_ble_eq_true rfl⟩ rfl rfl (Nat.le_of_ble_eq_true rfl) (Nat.le_of_ble_eq_true rfl) (Nat.le_of_ble_eq_true rfl) ?_
          rintro x37 I38 L39 ⟨o0x37, o1x37, hI38, S40⟩
          have gx37 := rg x37
          refine b_if_ne C (t := 57) rfl rfl rfl (fun c41 => ?_) (fun c41 => ?_)
          · skip
            refine k_aload_n C rfl rfl rfl ?_
            refine g_R C rfl rfl rfl T_r0 rfl R_r0_0 ?_
            refine z_iconst C (z := 3) rfl rfl rfl (fun x42 ex42 => ?_)
            refine z_iconst C (z := 0) rfl rfl rfl (fun x43 ex43 => ?_)
            obtain ⟨T_r0_0, A_r0_0, B_r0_0, ⟨r0_0_0, R_r0_0_0, H_r0_0_0⟩, ⟨r0_0_1, R_r0_0_1, H_r0_0_1⟩⟩ := id H_r0_0
            refine c_VV C (s_X7_put hS hI38 H_r0_0) rfl rfl rfl rfl rfl ⟨_, rfl, rfl, T_r0_0, Nat.le_of_ble_eq_true rfl⟩ rfl rfl (Nat.le_of_ble_eq_true rfl) (Nat.le_of_ble_eq_true rfl) (Nat.le_of_ble_eq_true rfl) ?_
            rintro I45 L46 ⟨hI45, S47⟩
            refine z_iinc C (z := 1) (lw := fun x48 => [(2, .int x48), (0, .ref r0), (1, .int n1)]) rfl rfl rfl (Nat.le_of_ble_eq_true rfl) rfl ⟨by omega, by omega⟩ (fun _ => rfl) (fun x48 ex48 => ?_)
            show V 69 [(2, .int x48), (0, .ref r0), (1, .int n1)] _ _ _ _
            refine k_goto C (pc2 := 12) rfl rfl ?_
            refine k_sub S [(0, .ref r0), (1, .int n1), (2, .int x48)] (List.forall_mem_cons.mpr ⟨List.mem_of_getElem? (i := 1) rfl, List.forall_mem_cons.mpr ⟨List.mem_of_getElem? (i := 2) rfl, List.forall_mem_cons.mpr ⟨List.mem_of_getElem? (i := 0) rfl, fun _ h => nomatch h⟩⟩⟩) ?_
            exact ihJ7 _ (MN.lt hmnn8 (by omega) (by omega)) I45 L46 x48 rfl hI45 (Chg.cons S14 (Chg.cons S22 (Chg.cons S29 (Chg.cons S35 (Chg.cons S40 (Chg.mono S47 (by decide)) (by decide)) (by decide)) (by decide)) (by decide)) (by decide)) (by omega) (by omega)
          refine z_iconst C (z := 0) rfl rfl rfl (fun x49 ex49 => ?_)
          exact k_iret C rfl (Or.inr ⟨rfl, z01 (by omega) (by omega)⟩) (Nat.le_of_ble_eq_true rfl) (Nat.le_of_ble_eq_true rfl) ⟨_, _, _, rfl, rfl, by omega, by omega, hI38, (Chg.cons S4 (Chg.cons S14 (Chg.cons S22 (Chg.cons S29 (Chg.cons S35 (Chg.mono S40 (by decide)) (by decide)) (by decide)) (by decide)) (by decide)) (by decide))⟩
        refine z_iconst C (z := 0) rfl rfl rfl (fun x50 ex50 => ?_)
        exact k_iret C rfl (Or.inr ⟨rfl, z01 (by omega) (by omega)⟩) (Nat.le_of_ble_eq_true rfl) (Nat.le_of_ble_eq_true rfl) ⟨_, _, _, rfl, rfl, by omega, by omega, hI27, (Chg.cons S4 (Chg.cons S14 (Chg.cons S22 (Chg.mono S29 (by decide)) (by decide)) (by decide)) (by decide))⟩
    refine k_istore_n C (lw := [(2, .int x6), (0, .ref r0), (1, .int n1)]) rfl rfl (Nat.le_of_ble_eq_true rfl) rfl ?_
    refine k_sub S [(0, .ref r0), (1, .int n1), (2, .int x6)] (List.forall_mem_cons.mpr ⟨List.mem_of_getElem? (i := 1) rfl, List.forall_mem_cons.mpr ⟨List.mem_of_getElem? (i := 2) rfl, List.forall_mem_cons.mpr ⟨List.mem_of_getElem? (i := 0) rfl, fun _ h => nomatch h⟩⟩⟩) ?_
    exact J7 _ I2 L3 x6 rfl hI2 Chg.rf (by omega) (by omega)
  refine z_iconst C (z := 0) rfl rfl rfl (fun x51 ex51 => ?_)
  exact k_iret C rfl (Or.inr ⟨rfl, z01 (by omega) (by omega)⟩) (Nat.le_of_ble_eq_true rfl) (Nat.le_of_ble_eq_true rfl) ⟨_, _, _, rfl, rfl, by omega, by omega, hI2, (Chg.mono S4 (by decide))⟩

theorem s_X4_readSum_4 {d : Nat} {T N : Nat → Nat} {I : IT} {L : LT} {R : RT} {A B : Nat → Prop} {r0 : Nat} {n1 : Int32} (hS : SUB B A) (hI : IX A T I) (H_r0 : (hs_Rd T N R A B) r0) (b0_n1 : 4 ≤ n1.toInt) (b1_n1 : n1.toInt ≤ 4) : Ex (d + 13) 73 [.ref r0, .int n1] (T, N, I, L, R) 0 0 (pI T N R (fun x9 I9 L9 => (0 ≤ x9.toInt) ∧ (x9.toInt ≤ 1) ∧ (IX A T I9 ∧ Chg B T [(5, 4), (5, 5), (8, 2)] I L I9 L9))) := by
  refine ⟨_, rfl, Nat.le_of_ble_eq_true rfl, fun V C S => ?_⟩
  show V 0 [(0, .ref r0), (1, .int n1)] [] (T, N, I, L, R) 0 0
  have gn1 := rg n1
  refine k_aload_n C rfl rfl rfl ?_
  refine k_iload_n C rfl rfl rfl ?_
  obtain ⟨T_r0, A_r0, B_r0, ⟨r0_0, R_r0_0, H_r0_0⟩, ⟨r0_2, R_r0_2, H_r0_2⟩⟩ := id H_r0
  refine c_VI C (s_X4_readProduct_4 hS hI H_r0 (by omega) (by omega)) rfl rfl rfl rfl rfl ⟨_, rfl, rfl, T_r0, Nat.le_of_ble_eq_true rfl⟩ rfl rfl (Nat.le_of_ble_eq_true rfl) (Nat.le_of_ble_eq_true rfl) (Nat.le_of_ble_eq_true rfl) ?_
  rintro x1 I2 L3 ⟨o0x1, o1x1, hI2, S4⟩
  have gx1 := rg x1
  refine b_if_ne C (t := 10) rfl rfl rfl (fun c5 => ?_) (fun c5 => ?_)
  · skip
    refine z_iconst C (z := 0) rfl rfl rfl (fun x6 ex6 => ?_)
    have J7 : ∀ (nn8 : Nat) (I9 : IT) (L10 : LT) (x11 : Int32), (MN (400 - x11.toInt) nn8) → (IX A T I9) → (Chg B T [(5, 4), (5, 5), (8, 2)] I2 L3 I9 L10) → (0 ≤ x11.toInt) → (x11.toInt ≤ 400) → V 12 [(0, .ref r0), (1, .int n1), (2, .int x11)] [] (T, N, I9, L10, R) 0 0 := by
      intro nn8
      induction nn8 using Nat.strongRecOn with
      | _ nn8 ihJ7 =>
        intro I9 L10 x11 hmnn8 hI15 S14 b12 b13
        have gx11 := rg x11
        refine k_iload_n C rfl rfl rfl ?_
        refine z_sipush C (z := 400) rfl rfl rfl (fun x16 ex16 => ?_)
        refine b_icmp_ge C (t := 72) rfl rfl rfl (fun c17 => ?_) (fun c17 => ?_)
        · skip
          refine z_iconst C (z := 1) rfl rfl rfl (fun x18 ex18 => ?_)
          exact k_iret C rfl (Or.inr ⟨rfl, z01 (by omega) (by omega)⟩) (Nat.le_of_ble_eq_true rfl) (Nat.le_of_ble_eq_true rfl) ⟨_, _, _, rfl, rfl, by omega, by omega, hI15, (Chg.cons S4 (Chg.mono S14 (by decide)) (by decide))⟩
        refine k_aload_n C rfl rfl rfl ?_
        refine c_VI C (s_X4_next hS hI15 H_r0) rfl rfl rfl rfl rfl ⟨_, rfl, rfl, T_r0, Nat.le_of_ble_eq_true rfl⟩ rfl rfl (Nat.le_of_ble_eq_true rfl) (Nat.le_of_ble_eq_true rfl) (Nat.le_of_ble_eq_true rfl) ?_
        rintro x19 I20 L21 ⟨hI20, S22⟩
        have gx19 := rg x19
        refine z_bipush C (z := 43) rfl rfl rfl (fun x23 ex23 => ?_)
        refine b_icmp_ne C (t := 72) rfl rfl rfl (fun c24 => ?_) (fun c24 => ?_)
        · skip
          refine z_iconst C (z := 1) rfl rfl rfl (fun x25 ex25 => ?_)
          exact k_iret C rfl (Or.inr ⟨rfl, z01 (by omega) (by omega)⟩) (Nat.le_of_ble_eq_true rfl) (Nat.le_of_ble_eq_true rfl) ⟨_, _, _, rfl, rfl, by omega, by omega, hI20, (Chg.cons S4 (Chg.cons S14 (Chg.mono S22 (by decide)) (by decide)) (by decide))⟩
        refine k_aload_n C rfl rfl rfl ?_
        refine c_VI C (s_X4_isThingMore hS hI20 H_r0) rfl rfl rfl rfl rfl ⟨_, rfl, rfl, T_r0, Nat.le_of_ble_eq_true rfl⟩ rfl rfl (Nat.le_of_ble_eq_true rfl) (Nat.le_of_ble_eq_true rfl) (Nat.le_of_ble_eq_true rfl) ?_
        rintro x26 I27 L28 ⟨o0x26, o1x26, hI27, S29⟩
        have gx26 := rg x26
        refine b_if_ne C (t := 37) rfl rfl rfl (fun c30 => ?_) (fun c30 => ?_)
        · skip
          refine k_aload_n C rfl rfl rfl ?_
          refine k_dup C rfl rfl rfl ?_
          refine z_gI C rfl rfl rfl T_r0 rfl (fun x31 ex31 => ?_)
          have gx31 := rg x31
          refine z_iconst C (z := 1) rfl rfl rfl (fun x32 ex32 => ?_)
          refine zt_iadd C rfl rfl (fun x33 => ?_)
          have gx33 := rg x33
          refine z_pI C rfl rfl rfl T_r0 (Or.inr rfl) rfl (fun I34 uI34 => ?_)
          have hI34 : IX A T I34 := IX.f hI27 T_r0 (boX.tr (by decide) (by decide)) uI34
          have S35 : Chg B T [(5, 4)] I27 L28 I34 L28 := Chg.f B_r0 T_r0 uI34
          have e36 := u2_e uI34
          refine k_aload_n C rfl rfl rfl ?_
          refine k_iload_n C rfl rfl rfl ?_
          refine c_VI C (s_X4_readProduct_4 hS hI34 H_r0 (by omega) (by omega)) rfl rfl rfl rfl rfl ⟨_, rfl, rfl, T_r0, Nat.le_of_ble_eq_true rfl⟩ rfl rfl (Nat.le_of_ble_eq_true rfl) (Nat.le_of_ble_eq_true rfl) (Nat.le_of_ble_eq_true rfl) ?_
          rintro x37 I38 L39 ⟨o0x37, o1x37, hI38, S40⟩
          have gx37 := rg x37
          refine b_if_ne C (t := 57) rfl rfl rfl (fun c41 => ?_) (fun c41 => ?_)
          · skip
            refine k_aload_n C rfl rfl rfl ?_
            refine g_R C rfl rfl rfl T_r0 rfl R_r0_0 ?_
            refine z_iconst C (z := 2) rfl rfl rfl (fun x42 ex42 => ?_)
            refine z_iconst C (z := 0) rfl rfl rfl (fun x43 ex43 => ?_)
            obtain ⟨T_r0_0, A_r0_0, B_r0_0, ⟨r0_0_0, R_r0_0_0, H_r0_0_0⟩, ⟨r0_0_1, R_r0_0_1, H_r0_0_1⟩⟩ := id H_r0_0
            refine c_VV C (s_X7_put hS hI38 H_r0_0) rfl rfl rfl rfl rfl ⟨_, rfl, rfl, T_r0_0, Nat.le_of_ble_eq_true rfl⟩ rfl rfl (Nat.le_of_ble_eq_true rfl) (Nat.le_of_ble_eq_true rfl) (Nat.le_of_ble_eq_true rfl) ?_
            rintro I45 L46 ⟨hI45, S47⟩
            refine z_iinc C (z := 1) (lw := fun x48 => [(2, .int x48), (0, .ref r0), (1, .int n1)]) rfl rfl rfl (Nat.le_of_ble_eq_true rfl) rfl ⟨by omega, by omega⟩ (fun _ => rfl) (fun x48 ex48 => ?_)
            show V 69 [(2, .int x48), (0, .ref r0), (1, .int n1)] _ _ _ _
            refine k_goto C (pc2 := 12) rfl rfl ?_
            refine k_sub S [(0, .ref r0), (1, .int n1), (2, .int x48)] (List.forall_mem_cons.mpr ⟨List.mem_of_getElem? (i := 1) rfl, List.forall_mem_cons.mpr ⟨List.mem_of_getElem? (i := 2) rfl, List.forall_mem_cons.mpr ⟨List.mem_of_getElem? (i := 0) rfl, fun _ h => nomatch h⟩⟩⟩) ?_
            exact ihJ7 _ (MN.lt hmnn8 (by omega) (by omega)) I45 L46 x48 rfl hI45 (Chg.cons S14 (Chg.cons S22 (Chg.cons S29 (Chg.cons S35 (Chg.cons S40 (Chg.mono S47 (by decide)) (by decide)) (by decide)) (by decide)) (by decide)) (by decide)) (by omega) (by omega)
          refine z_iconst C (z := 0) rfl rfl rfl (fun x49 ex49 => ?_)
          exact k_iret C rfl (Or.inr ⟨rfl, z01 (by omega) (by omega)⟩) (Nat.le_of_ble_eq_true rfl) (Nat.le_of_ble_eq_true rfl) ⟨_, _, _, rfl, rfl, by omega, by omega, hI38, (Chg.cons S4 (Chg.cons S14 (Chg.cons S22 (Chg.cons S29 (Chg.cons S35 (Chg.mono S40 (by decide)) (by decide)) (by decide)) (by decide)) (by decide)) (by decide))⟩
        refine z_iconst C (z := 0) rfl rfl rfl (fun x50 ex50 => ?_)
        exact k_iret C rfl (Or.inr ⟨rfl, z01 (by omega) (by omega)⟩) (Nat.le_of_ble_eq_true rfl) (Nat.le_of_ble_eq_true rfl) ⟨_, _, _, rfl, rfl, by omega, by omega, hI27, (Chg.cons S4 (Chg.cons S14 (Chg.cons S22 (Chg.mono S29 (by decide)) (by decide)) (by decide)) (by decide))⟩
    refine k_istore_n C (lw := [(2, .int x6), (0, .ref r0), (1, .int n1)]) rfl rfl (Nat.le_of_ble_eq_true rfl) rfl ?_
    refine k_sub S [(0, .ref r0), (1, .int n1), (2, .int x6)] (List.forall_mem_cons.mpr ⟨List.mem_of_getElem? (i := 1) rfl, List.forall_mem_cons.mpr ⟨List.mem_of_getElem? (i := 2) rfl, List.forall_mem_cons.mpr ⟨List.mem_of_getElem? (i := 0) rfl, fun _ h => nomatch h⟩⟩⟩) ?_
    exact J7 _ I2 L3 x6 rfl hI2 Chg.rf (by omega) (by omega)
  refine z_iconst C (z := 0) rfl rfl rfl (fun x51 ex51 => ?_)
  exact k_iret C rfl (Or.inr ⟨rfl, z01 (by omega) (by omega)⟩) (Nat.le_of_ble_eq_true rfl) (Nat.le_of_ble_eq_true rfl) ⟨_, _, _, rfl, rfl, by omega, by omega, hI2, (Chg.mono S4 (by decide))⟩

theorem s_X4_readOverlap_4 {d : Nat} {T N : Nat → Nat} {I : IT} {L : LT} {R : RT} {A B : Nat → Prop} {r0 : Nat} {n1 : Int32} (hS : SUB B A) (hI : IX A T I) (H_r0 : (hs_Rd T N R A B) r0) (b0_n1 : 4 ≤ n1.toInt) (b1_n1 : n1.toInt ≤ 4) : Ex (d + 14) 70 [.ref r0, .int n1] (T, N, I, L, R) 0 0 (pI T N R (fun x9 I9 L9 => (0 ≤ x9.toInt) ∧ (x9.toInt ≤ 1) ∧ (IX A T I9 ∧ Chg B T [(5, 4), (5, 5), (8, 2)] I L I9 L9))) := by
  refine ⟨_, rfl, Nat.le_of_ble_eq_true rfl, fun V C S => ?_⟩
  show V 0 [(0, .ref r0), (1, .int n1)] [] (T, N, I, L, R) 0 0
  have gn1 := rg n1
  refine k_aload_n C rfl rfl rfl ?_
  obtain ⟨T_r0, A_r0, B_r0, ⟨r0_0, R_r0_0, H_r0_0⟩, ⟨r0_2, R_r0_2, H_r0_2⟩⟩ := id H_r0
  refine c_VI C (s_X4_isThingMore hS hI H_r0) rfl rfl rfl rfl rfl ⟨_, rfl, rfl, T_r0, Nat.le_of_ble_eq_true rfl⟩ rfl rfl (Nat.le_of_ble_eq_true rfl) (Nat.le_of_ble_eq_true rfl) (Nat.le_of_ble_eq_true rfl) ?_
  rintro x1 I2 L3 ⟨o0x1, o1x1, hI2, S4⟩
  have gx1 := rg x1
  refine b_if_ne C (t := 9) rfl rfl rfl (fun c5 => ?_) (fun c5 => ?_)
  · skip
    refine k_aload_n C rfl rfl rfl ?_
    refine k_dup C rfl rfl rfl ?_
    refine z_gI C rfl rfl rfl T_r0 rfl (fun x6 ex6 => ?_)
    have gx6 := rg x6
    refine z_iconst C (z := 1) rfl rfl rfl (fun x7 ex7 => ?_)
    refine zt_iadd C rfl rfl (fun x8 => ?_)
    have gx8 := rg x8
    refine z_pI C rfl rfl rfl T_r0 (Or.inr rfl) rfl (fun I9 uI9 => ?_)
    have hI9 : IX A T I9 := IX.f hI2 T_r0 (boX.tr (by decide) (by decide)) uI9
    have S10 : Chg B T [(5, 4)] I2 L3 I9 L3 := Chg.f B_r0 T_r0 uI9
    have e11 := u2_e uI9
    refine k_aload_n C rfl rfl rfl ?_
    refine k_iload_n C rfl rfl rfl ?_
    refine c_VI C (s_X4_readSum_4 hS hI9 H_r0 (by omega) (by omega)) rfl rfl rfl rfl rfl ⟨_, rfl, rfl, T_r0, Nat.le_of_ble_eq_true rfl⟩ rfl rfl (Nat.le_of_ble_eq_true rfl) (Nat.le_of_ble_eq_true rfl) (Nat.le_of_ble_eq_true rfl) ?_
    rintro x12 I13 L14 ⟨o0x12, o1x12, hI13, S15⟩
    have gx12 := rg x12
    refine b_if_eq C (t := 53) rfl rfl rfl (fun c16 => ?_) (fun c16 => ?_)
    · skip
      refine z_iconst C (z := 0) rfl rfl rfl (fun x17 ex17 => ?_)
      exact k_iret C rfl (Or.inr ⟨rfl, z01 (by omega) (by omega)⟩) (Nat.le_of_ble_eq_true rfl) (Nat.le_of_ble_eq_true rfl) ⟨_, _, _, rfl, rfl, by omega, by omega, hI13, (Chg.cons S4 (Chg.cons S10 (Chg.mono S15 (by decide)) (by decide)) (by decide))⟩
    refine k_aload_n C rfl rfl rfl ?_
    refine z_bipush C (z := 44) rfl rfl rfl (fun x18 ex18 => ?_)
    refine c_VI C (s_X4_take hS hI13 H_r0) rfl rfl rfl rfl rfl ⟨_, rfl, rfl, T_r0, Nat.le_of_ble_eq_true rfl⟩ rfl rfl (Nat.le_of_ble_eq_true rfl) (Nat.le_of_ble_eq_true rfl) (Nat.le_of_ble_eq_true rfl) ?_
    rintro x19 I20 L21 ⟨o0x19, o1x19, hI20, S22⟩
    have gx19 := rg x19
    refine b_if_eq C (t := 53) rfl rfl rfl (fun c23 => ?_) (fun c23 => ?_)
    · skip
      refine z_iconst C (z := 0) rfl rfl rfl (fun x24 ex24 => ?_)
      exact k_iret C rfl (Or.inr ⟨rfl, z01 (by omega) (by omega)⟩) (Nat.le_of_ble_eq_true rfl) (Nat.le_of_ble_eq_true rfl) ⟨_, _, _, rfl, rfl, by omega, by omega, hI20, (Chg.cons S4 (Chg.cons S10 (Chg.cons S15 (Chg.mono S22 (by decide)) (by decide)) (by decide)) (by decide))⟩
    refine k_aload_n C rfl rfl rfl ?_
    refine k_iload_n C rfl rfl rfl ?_
    refine c_VI C (s_X4_readSum_4 hS hI20 H_r0 (by omega) (by omega)) rfl rfl rfl rfl rfl ⟨_, rfl, rfl, T_r0, Nat.le_of_ble_eq_true rfl⟩ rfl rfl (Nat.le_of_ble_eq_true rfl) (Nat.le_of_ble_eq_true rfl) (Nat.le_of_ble_eq_true rfl) ?_
    rintro x25 I26 L27 ⟨o0x25, o1x25, hI26, S28⟩
    have gx25 := rg x25
    refine b_if_eq C (t := 53) rfl rfl rfl (fun c29 => ?_) (fun c29 => ?_)
    · skip
      refine z_iconst C (z := 0) rfl rfl rfl (fun x30 ex30 => ?_)
      exact k_iret C rfl (Or.inr ⟨rfl, z01 (by omega) (by omega)⟩) (Nat.le_of_ble_eq_true rfl) (Nat.le_of_ble_eq_true rfl) ⟨_, _, _, rfl, rfl, by omega, by omega, hI26, (Chg.cons S4 (Chg.cons S10 (Chg.cons S15 (Chg.cons S22 (Chg.mono S28 (by decide)) (by decide)) (by decide)) (by decide)) (by decide))⟩
    refine k_aload_n C rfl rfl rfl ?_
    refine z_bipush C (z := 93) rfl rfl rfl (fun x31 ex31 => ?_)
    refine c_VI C (s_X4_take hS hI26 H_r0) rfl rfl rfl rfl rfl ⟨_, rfl, rfl, T_r0, Nat.le_of_ble_eq_true rfl⟩ rfl rfl (Nat.le_of_ble_eq_true rfl) (Nat.le_of_ble_eq_true rfl) (Nat.le_of_ble_eq_true rfl) ?_
    rintro x32 I33 L34 ⟨o0x32, o1x32, hI33, S35⟩
    have gx32 := rg x32
    refine b_if_ne C (t := 55) rfl rfl rfl (fun c36 => ?_) (fun c36 => ?_)
    · skip
      refine k_aload_n C rfl rfl rfl ?_
      refine c_VI C (s_X4_next hS hI33 H_r0) rfl rfl rfl rfl rfl ⟨_, rfl, rfl, T_r0, Nat.le_of_ble_eq_true rfl⟩ rfl rfl (Nat.le_of_ble_eq_true rfl) (Nat.le_of_ble_eq_true rfl) (Nat.le_of_ble_eq_true rfl) ?_
      rintro x37 I38 L39 ⟨hI38, S40⟩
      have gx37 := rg x37
      refine c_SI C (s_X4_isDigit hS hI38 ) rfl rfl rfl rfl rfl rfl rfl (Nat.le_of_ble_eq_true rfl) (Nat.le_of_ble_eq_true rfl) (Nat.le_of_ble_eq_true rfl) ?_
      rintro x41 _ _ ⟨o0x41, o1x41, rfl, rfl⟩
      have gx41 := rg x41
      refine b_if_eq C (t := 79) rfl rfl rfl (fun c42 => ?_) (fun c42 => ?_)
      · skip
        refine z_iconst C (z := 0) rfl rfl rfl (fun x43 ex43 => ?_)
        exact k_iret C rfl (Or.inr ⟨rfl, z01 (by omega) (by omega)⟩) (Nat.le_of_ble_eq_true rfl) (Nat.le_of_ble_eq_true rfl) ⟨_, _, _, rfl, rfl, by omega, by omega, hI38, (Chg.cons S4 (Chg.cons S10 (Chg.cons S15 (Chg.cons S22 (Chg.cons S28 (Chg.cons S35 (Chg.mono S40 (by decide)) (by decide)) (by decide)) (by decide)) (by decide)) (by decide)) (by decide))⟩
      refine k_aload_n C rfl rfl rfl ?_
      refine z_iconst C (z := 4) rfl rfl rfl (fun x44 ex44 => ?_)
      refine z_bipush C (z := 8) rfl rfl rfl (fun x45 ex45 => ?_)
      refine c_VI C (s_X4_readNumber hS hI38 H_r0) rfl rfl rfl rfl rfl ⟨_, rfl, rfl, T_r0, Nat.le_of_ble_eq_true rfl⟩ rfl rfl (Nat.le_of_ble_eq_true rfl) (Nat.le_of_ble_eq_true rfl) (Nat.le_of_ble_eq_true rfl) ?_
      rintro x46 I47 L48 ⟨o0x46, o1x46, hI47, S49⟩
      have gx46 := rg x46
      refine b_if_eq C (t := 79) rfl rfl rfl (fun c50 => ?_) (fun c50 => ?_)
      · skip
        refine z_iconst C (z := 0) rfl rfl rfl (fun x51 ex51 => ?_)
        exact k_iret C rfl (Or.inr ⟨rfl, z01 (by omega) (by omega)⟩) (Nat.le_of_ble_eq_true rfl) (Nat.le_of_ble_eq_true rfl) ⟨_, _, _, rfl, rfl, by omega, by omega, hI47, (Chg.cons S4 (Chg.cons S10 (Chg.cons S15 (Chg.cons S22 (Chg.cons S28 (Chg.cons S35 (Chg.cons S40 (Chg.mono S49 (by decide)) (by decide)) (by decide)) (by decide)) (by decide)) (by decide)) (by decide)) (by decide))⟩
      refine z_iconst C (z := 1) rfl rfl rfl (fun x52 ex52 => ?_)
      refine k_goto C (pc2 := 80) rfl rfl ?_
      exact k_iret C rfl (Or.inr ⟨rfl, z01 (by omega) (by omega)⟩) (Nat.le_of_ble_eq_true rfl) (Nat.le_of_ble_eq_true rfl) ⟨_, _, _, rfl, rfl, by omega, by omega, hI47, (Chg.cons S4 (Chg.cons S10 (Chg.cons S15 (Chg.cons S22 (Chg.cons S28 (Chg.cons S35 (Chg.cons S40 (Chg.mono S49 (by decide)) (by decide)) (by decide)) (by decide)) (by decide)) (by decide)) (by decide)) (by decide))⟩
    refine z_iconst C (z := 0) rfl rfl rfl (fun x53 ex53 => ?_)
    exact k_iret C rfl (Or.inr ⟨rfl, z01 (by omega) (by omega)⟩) (Nat.le_of_ble_eq_true rfl) (Nat.le_of_ble_eq_true rfl) ⟨_, _, _, rfl, rfl, by omega, by omega, hI33, (Chg.cons S4 (Chg.cons S10 (Chg.cons S15 (Chg.cons S22 (Chg.cons S28 (Chg.mono S35 (by decide)) (by decide)) (by decide)) (by decide)) (by decide)) (by decide))⟩
  refine z_iconst C (z := 0) rfl rfl rfl (fun x54 ex54 => ?_)
  exact k_iret C rfl (Or.inr ⟨rfl, z01 (by omega) (by omega)⟩) (Nat.le_of_ble_eq_true rfl) (Nat.le_of_ble_eq_true rfl) ⟨_, _, _, rfl, rfl, by omega, by omega, hI2, (Chg.mono S4 (by decide))⟩

theorem s_X4_readPart_3 {d : Nat} {T N : Nat → Nat} {I : IT} {L : LT} {R : RT} {A B : Nat → Prop} {r0 : Nat} {n1 : Int32} (hS : SUB B A) (hI : IX A T I) (H_r0 : (hs_Rd T N R A B) r0) (b0_n1 : 3 ≤ n1.toInt) (b1_n1 : n1.toInt ≤ 3) : Ex (d + 15) 71 [.ref r0, .int n1] (T, N, I, L, R) 0 0 (pI T N R (fun x9 I9 L9 => (0 ≤ x9.toInt) ∧ (x9.toInt ≤ 1) ∧ (IX A T I9 ∧ Chg B T [(5, 4), (5, 5), (8, 2)] I L I9 L9))) := by
  refine ⟨_, rfl, Nat.le_of_ble_eq_true rfl, fun V C S => ?_⟩
  show V 0 [(0, .ref r0), (1, .int n1)] [] (T, N, I, L, R) 0 0
  have gn1 := rg n1
  refine k_aload_n C rfl rfl rfl ?_
  obtain ⟨T_r0, A_r0, B_r0, ⟨r0_0, R_r0_0, H_r0_0⟩, ⟨r0_2, R_r0_2, H_r0_2⟩⟩ := id H_r0
  refine c_VI C (s_X4_next hS hI H_r0) rfl rfl rfl rfl rfl ⟨_, rfl, rfl, T_r0, Nat.le_of_ble_eq_true rfl⟩ rfl rfl (Nat.le_of_ble_eq_true rfl) (Nat.le_of_ble_eq_true rfl) (Nat.le_of_ble_eq_true rfl) ?_
  rintro x1 I2 L3 ⟨hI2, S4⟩
  have gx1 := rg x1
  refine k_istore_n C (lw := [(2, .int x1), (0, .ref r0), (1, .int n1)]) rfl rfl (Nat.le_of_ble_eq_true rfl) rfl ?_
  refine k_iload_n C rfl rfl rfl ?_
  refine z_bipush C (z := 102) rfl rfl rfl (fun x5 ex5 => ?_)
  refine b_icmp_ne C (t := 16) rfl rfl rfl (fun c6 => ?_) (fun c6 => ?_)
  · skip
    refine k_iload_n C rfl rfl rfl ?_
    refine c_SI C (s_X4_isDigit hS hI2 ) rfl rfl rfl rfl rfl rfl rfl (Nat.le_of_ble_eq_true rfl) (Nat.le_of_ble_eq_true rfl) (Nat.le_of_ble_eq_true rfl) ?_
    rintro x7 _ _ ⟨o0x7, o1x7, rfl, rfl⟩
    have gx7 := rg x7
    refine b_if_eq C (t := 47) rfl rfl rfl (fun c8 => ?_) (fun c8 => ?_)
    · skip
      refine k_iload_n C rfl rfl rfl ?_
      refine z_bipush C (z := 6) rfl rfl rfl (fun x9 ex9 => ?_)
      refine b_icmp_lt C (t := 55) rfl rfl rfl (fun c10 => ?_) (fun c10 => by exfalso; omega)
      refine k_iload_n C rfl rfl rfl ?_
      refine z_bipush C (z := 40) rfl rfl rfl (fun x11 ex11 => ?_)
      refine b_icmp_ne C (t := 96) rfl rfl rfl (fun c12 => ?_) (fun c12 => ?_)
      · skip
        refine k_iload_n C rfl rfl rfl ?_
        refine z_bipush C (z := 91) rfl rfl rfl (fun x13 ex13 => ?_)
        refine b_icmp_ne C (t := 110) rfl rfl rfl (fun c14 => ?_) (fun c14 => ?_)
        · skip
          refine k_iload_n C rfl rfl rfl ?_
          refine z_bipush C (z := 45) rfl rfl rfl (fun x15 ex15 => ?_)
          refine b_icmp_ne C (t := 149) rfl rfl rfl (fun c16 => ?_) (fun c16 => ?_)
          · skip
            refine z_iconst C (z := 0) rfl rfl rfl (fun x17 ex17 => ?_)
            exact k_iret C rfl (Or.inr ⟨rfl, z01 (by omega) (by omega)⟩) (Nat.le_of_ble_eq_true rfl) (Nat.le_of_ble_eq_true rfl) ⟨_, _, _, rfl, rfl, by omega, by omega, hI2, (Chg.mono S4 (by decide))⟩
          refine k_aload_n C rfl rfl rfl ?_
          refine k_dup C rfl rfl rfl ?_
          refine z_gI C rfl rfl rfl T_r0 rfl (fun x18 ex18 => ?_)
          have gx18 := rg x18
          refine z_iconst C (z := 1) rfl rfl rfl (fun x19 ex19 => ?_)
          refine zt_iadd C rfl rfl (fun x20 => ?_)
          have gx20 := rg x20
          refine z_pI C rfl rfl rfl T_r0 (Or.inr rfl) rfl (fun I21 uI21 => ?_)
          have hI21 : IX A T I21 := IX.f hI2 T_r0 (boX.tr (by decide) (by decide)) uI21
          have S22 : Chg B T [(5, 4)] I2 L3 I21 L3 := Chg.f B_r0 T_r0 uI21
          have e23 := u2_e uI21
          refine k_aload_n C rfl rfl rfl ?_
          refine k_iload_n C rfl rfl rfl ?_
          refine z_iconst C (z := 1) rfl rfl rfl (fun x24 ex24 => ?_)
          refine z_iadd C rfl rfl ⟨by omega, by omega⟩ (fun x25 ex25 => ?_)
          refine c_VI C (s_X4_readPart_4 hS hI21 H_r0 (by omega) (by omega)) rfl rfl rfl rfl rfl ⟨_, rfl, rfl, T_r0, Nat.le_of_ble_eq_true rfl⟩ rfl rfl (Nat.le_of_ble_eq_true rfl) (Nat.le_of_ble_eq_true rfl) (Nat.le_of_ble_eq_true rfl) ?_
          rintro x26 I27 L28 ⟨o0x26, o1x26, hI27, S29⟩
          have gx26 := rg x26
          refine b_if_ne C (t := 138) rfl rfl rfl (fun c30 => ?_) (fun c30 => ?_)
          · skip
            refine k_aload_n C rfl rfl rfl ?_
            refine g_R C rfl rfl rfl T_r0 rfl R_r0_0 ?_
            refine z_iconst C (z := 5) rfl rfl rfl (fun x31 ex31 => ?_)
            refine z_iconst C (z := 0) rfl rfl rfl (fun x32 ex32 => ?_)
            obtain ⟨T_r0_0, A_r0_0, B_r0_0, ⟨r0_0_0, R_r0_0_0, H_r0_0_0⟩, ⟨r0_0_1, R_r0_0_1, H_r0_0_1⟩⟩ := id H_r0_0
            refine c_VV C (s_X7_put hS hI27 H_r0_0) rfl rfl rfl rfl rfl ⟨_, rfl, rfl, T_r0_0, Nat.le_of_ble_eq_true rfl⟩ rfl rfl (Nat.le_of_ble_eq_true rfl) (Nat.le_of_ble_eq_true rfl) (Nat.le_of_ble_eq_true rfl) ?_
            rintro I34 L35 ⟨hI34, S36⟩
            refine z_iconst C (z := 1) rfl rfl rfl (fun x37 ex37 => ?_)
            exact k_iret C rfl (Or.inr ⟨rfl, z01 (by omega) (by omega)⟩) (Nat.le_of_ble_eq_true rfl) (Nat.le_of_ble_eq_true rfl) ⟨_, _, _, rfl, rfl, by omega, by omega, hI34, (Chg.cons S4 (Chg.cons S22 (Chg.cons S29 (Chg.mono S36 (by decide)) (by decide)) (by decide)) (by decide))⟩
          refine z_iconst C (z := 0) rfl rfl rfl (fun x38 ex38 => ?_)
          exact k_iret C rfl (Or.inr ⟨rfl, z01 (by omega) (by omega)⟩) (Nat.le_of_ble_eq_true rfl) (Nat.le_of_ble_eq_true rfl) ⟨_, _, _, rfl, rfl, by omega, by omega, hI27, (Chg.cons S4 (Chg.cons S22 (Chg.mono S29 (by decide)) (by decide)) (by decide))⟩
        refine k_aload_n C rfl rfl rfl ?_
        refine k_iload_n C rfl rfl rfl ?_
        refine z_iconst C (z := 1) rfl rfl rfl (fun x39 ex39 => ?_)
        refine z_iadd C rfl rfl ⟨by omega, by omega⟩ (fun x40 ex40 => ?_)
        refine c_VI C (s_X4_readOverlap_4 hS hI2 H_r0 (by omega) (by omega)) rfl rfl rfl rfl rfl ⟨_, rfl, rfl, T_r0, Nat.le_of_ble_eq_true rfl⟩ rfl rfl (Nat.le_of_ble_eq_true rfl) (Nat.le_of_ble_eq_true rfl) (Nat.le_of_ble_eq_true rfl) ?_
        rintro x41 I42 L43 ⟨o0x41, o1x41, hI42, S44⟩
        have gx41 := rg x41
        exact k_iret C rfl (Or.inr ⟨rfl, z01 (by omega) (by omega)⟩) (Nat.le_of_ble_eq_true rfl) (Nat.le_of_ble_eq_true rfl) ⟨_, _, _, rfl, rfl, by omega, by omega, hI42, (Chg.cons S4 (Chg.mono S44 (by decide)) (by decide))⟩
      refine k_aload_n C rfl rfl rfl ?_
      refine k_dup C rfl rfl rfl ?_
      refine z_gI C rfl rfl rfl T_r0 rfl (fun x45 ex45 => ?_)
      have gx45 := rg x45
      refine z_iconst C (z := 1) rfl rfl rfl (fun x46 ex46 => ?_)
      refine zt_iadd C rfl rfl (fun x47 => ?_)
      have gx47 := rg x47
      refine z_pI C rfl rfl rfl T_r0 (Or.inr rfl) rfl (fun I48 uI48 => ?_)
      have hI48 : IX A T I48 := IX.f hI2 T_r0 (boX.tr (by decide) (by decide)) uI48
      have S49 : Chg B T [(5, 4)] I2 L3 I48 L3 := Chg.f B_r0 T_r0 uI48
      have e50 := u2_e uI48
      refine k_aload_n C rfl rfl rfl ?_
      refine k_iload_n C rfl rfl rfl ?_
      refine z_iconst C (z := 1) rfl rfl rfl (fun x51 ex51 => ?_)
      refine z_iadd C rfl rfl ⟨by omega, by omega⟩ (fun x52 ex52 => ?_)
      refine c_VI C (s_X4_readSum_4 hS hI48 H_r0 (by omega) (by omega)) rfl rfl rfl rfl rfl ⟨_, rfl, rfl, T_r0, Nat.le_of_ble_eq_true rfl⟩ rfl rfl (Nat.le_of_ble_eq_true rfl) (Nat.le_of_ble_eq_true rfl) (Nat.le_of_ble_eq_true rfl) ?_
      rintro x53 I54 L55 ⟨o0x53, o1x53, hI54, S56⟩
      have gx53 := rg x53
      refine b_if_eq C (t := 94) rfl rfl rfl (fun c57 => ?_) (fun c57 => ?_)
      · skip
        refine z_iconst C (z := 0) rfl rfl rfl (fun x58 ex58 => ?_)
        exact k_iret C rfl (Or.inr ⟨rfl, z01 (by omega) (by omega)⟩) (Nat.le_of_ble_eq_true rfl) (Nat.le_of_ble_eq_true rfl) ⟨_, _, _, rfl, rfl, by omega, by omega, hI54, (Chg.cons S4 (Chg.cons S49 (Chg.mono S56 (by decide)) (by decide)) (by decide))⟩
      refine k_aload_n C rfl rfl rfl ?_
      refine z_bipush C (z := 41) rfl rfl rfl (fun x59 ex59 => ?_)
      refine c_VI C (s_X4_take hS hI54 H_r0) rfl rfl rfl rfl rfl ⟨_, rfl, rfl, T_r0, Nat.le_of_ble_eq_true rfl⟩ rfl rfl (Nat.le_of_ble_eq_true rfl) (Nat.le_of_ble_eq_true rfl) (Nat.le_of_ble_eq_true rfl) ?_
      rintro x60 I61 L62 ⟨o0x60, o1x60, hI61, S63⟩
      have gx60 := rg x60
      refine b_if_eq C (t := 94) rfl rfl rfl (fun c64 => ?_) (fun c64 => ?_)
      · skip
        refine z_iconst C (z := 0) rfl rfl rfl (fun x65 ex65 => ?_)
        exact k_iret C rfl (Or.inr ⟨rfl, z01 (by omega) (by omega)⟩) (Nat.le_of_ble_eq_true rfl) (Nat.le_of_ble_eq_true rfl) ⟨_, _, _, rfl, rfl, by omega, by omega, hI61, (Chg.cons S4 (Chg.cons S49 (Chg.cons S56 (Chg.mono S63 (by decide)) (by decide)) (by decide)) (by decide))⟩
      refine z_iconst C (z := 1) rfl rfl rfl (fun x66 ex66 => ?_)
      refine k_goto C (pc2 := 95) rfl rfl ?_
      exact k_iret C rfl (Or.inr ⟨rfl, z01 (by omega) (by omega)⟩) (Nat.le_of_ble_eq_true rfl) (Nat.le_of_ble_eq_true rfl) ⟨_, _, _, rfl, rfl, by omega, by omega, hI61, (Chg.cons S4 (Chg.cons S49 (Chg.cons S56 (Chg.mono S63 (by decide)) (by decide)) (by decide)) (by decide))⟩
    refine k_aload_n C rfl rfl rfl ?_
    refine c_VI C (s_X4_isThingMore hS hI2 H_r0) rfl rfl rfl rfl rfl ⟨_, rfl, rfl, T_r0, Nat.le_of_ble_eq_true rfl⟩ rfl rfl (Nat.le_of_ble_eq_true rfl) (Nat.le_of_ble_eq_true rfl) (Nat.le_of_ble_eq_true rfl) ?_
    rintro x67 I68 L69 ⟨o0x67, o1x67, hI68, S70⟩
    have gx67 := rg x67
    refine b_if_eq C (t := 45) rfl rfl rfl (fun c71 => ?_) (fun c71 => ?_)
    · skip
      refine z_iconst C (z := 0) rfl rfl rfl (fun x72 ex72 => ?_)
      exact k_iret C rfl (Or.inr ⟨rfl, z01 (by omega) (by omega)⟩) (Nat.le_of_ble_eq_true rfl) (Nat.le_of_ble_eq_true rfl) ⟨_, _, _, rfl, rfl, by omega, by omega, hI68, (Chg.cons S4 (Chg.mono S70 (by decide)) (by decide))⟩
    refine k_aload_n C rfl rfl rfl ?_
    refine z_iconst C (z := 1) rfl rfl rfl (fun x73 ex73 => ?_)
    refine z_sipush C (z := 999) rfl rfl rfl (fun x74 ex74 => ?_)
    refine c_VI C (s_X4_readNumber hS hI68 H_r0) rfl rfl rfl rfl rfl ⟨_, rfl, rfl, T_r0, Nat.le_of_ble_eq_true rfl⟩ rfl rfl (Nat.le_of_ble_eq_true rfl) (Nat.le_of_ble_eq_true rfl) (Nat.le_of_ble_eq_true rfl) ?_
    rintro x75 I76 L77 ⟨o0x75, o1x75, hI76, S78⟩
    have gx75 := rg x75
    refine b_if_eq C (t := 45) rfl rfl rfl (fun c79 => ?_) (fun c79 => ?_)
    · skip
      refine z_iconst C (z := 0) rfl rfl rfl (fun x80 ex80 => ?_)
      exact k_iret C rfl (Or.inr ⟨rfl, z01 (by omega) (by omega)⟩) (Nat.le_of_ble_eq_true rfl) (Nat.le_of_ble_eq_true rfl) ⟨_, _, _, rfl, rfl, by omega, by omega, hI76, (Chg.cons S4 (Chg.cons S70 (Chg.mono S78 (by decide)) (by decide)) (by decide))⟩
    refine z_iconst C (z := 1) rfl rfl rfl (fun x81 ex81 => ?_)
    refine k_goto C (pc2 := 46) rfl rfl ?_
    exact k_iret C rfl (Or.inr ⟨rfl, z01 (by omega) (by omega)⟩) (Nat.le_of_ble_eq_true rfl) (Nat.le_of_ble_eq_true rfl) ⟨_, _, _, rfl, rfl, by omega, by omega, hI76, (Chg.cons S4 (Chg.cons S70 (Chg.mono S78 (by decide)) (by decide)) (by decide))⟩
  refine k_aload_n C rfl rfl rfl ?_
  refine c_VI C (s_X4_readLetter hS hI2 H_r0) rfl rfl rfl rfl rfl ⟨_, rfl, rfl, T_r0, Nat.le_of_ble_eq_true rfl⟩ rfl rfl (Nat.le_of_ble_eq_true rfl) (Nat.le_of_ble_eq_true rfl) (Nat.le_of_ble_eq_true rfl) ?_
  rintro x82 I83 L84 ⟨o0x82, o1x82, hI83, S85⟩
  have gx82 := rg x82
  exact k_iret C rfl (Or.inr ⟨rfl, z01 (by omega) (by omega)⟩) (Nat.le_of_ble_eq_true rfl) (Nat.le_of_ble_eq_true rfl) ⟨_, _, _, rfl, rfl, by omega, by omega, hI83, (Chg.cons S4 (Chg.mono S85 (by decide)) (by decide))⟩

theorem s_X4_readProduct_3 {d : Nat} {T N : Nat → Nat} {I : IT} {L : LT} {R : RT} {A B : Nat → Prop} {r0 : Nat} {n1 : Int32} (hS : SUB B A) (hI : IX A T I) (H_r0 : (hs_Rd T N R A B) r0) (b0_n1 : 3 ≤ n1.toInt) (b1_n1 : n1.toInt ≤ 3) : Ex (d + 16) 72 [.ref r0, .int n1] (T, N, I, L, R) 0 0 (pI T N R (fun x9 I9 L9 => (0 ≤ x9.toInt) ∧ (x9.toInt ≤ 1) ∧ (IX A T I9 ∧ Chg B T [(5, 4), (5, 5), (8, 2)] I L I9 L9))) := by
  refine ⟨_, rfl, Nat.le_of_ble_eq_true rfl, fun V C S => ?_⟩
  show V 0 [(0, .ref r0), (1, .int n1)] [] (T, N, I, L, R) 0 0
  have gn1 := rg n1
  refine k_aload_n C rfl rfl rfl ?_
  refine k_iload_n C rfl rfl rfl ?_
  obtain ⟨T_r0, A_r0, B_r0, ⟨r0_0, R_r0_0, H_r0_0⟩, ⟨r0_2, R_r0_2, H_r0_2⟩⟩ := id H_r0
  refine c_VI C (s_X4_readPart_3 hS hI H_r0 (by omega) (by omega)) rfl rfl rfl rfl rfl ⟨_, rfl, rfl, T_r0, Nat.le_of_ble_eq_true rfl⟩ rfl rfl (Nat.le_of_ble_eq_true rfl) (Nat.le_of_ble_eq_true rfl) (Nat.le_of_ble_eq_true rfl) ?_
  rintro x1 I2 L3 ⟨o0x1, o1x1, hI2, S4⟩
  have gx1 := rg x1
  refine b_if_ne C (t := 10) rfl rfl rfl (fun c5 => ?_) (fun c5 => ?_)
  · skip
    refine z_iconst C (z := 0) rfl rfl rfl (fun x6 ex6 => ?_)
    have J7 : ∀ (nn8 : Nat) (I9 : IT) (L10 : LT) (x11 : Int32), (MN (400 - x11.toInt) nn8) → (IX A T I9) → (Chg B T [(5, 4), (5, 5), (8, 2)] I2 L3 I9 L10) → (0 ≤ x11.toInt) → (x11.toInt ≤ 400) → V 12 [(0, .ref r0), (1, .int n1), (2, .int x11)] [] (T, N, I9, L10, R) 0 0 := by
      intro nn8
      induction nn8 using Nat.strongRecOn with
      | _ nn8 ihJ7 =>
        intro I9 L10 x11 hmnn8 hI15 S14 b12 b13
        have gx11 := rg x11
        refine k_iload_n C rfl rfl rfl ?_
        refine z_sipush C (z := 400) rfl rfl rfl (fun x16 ex16 => ?_)
        refine b_icmp_ge C (t := 72) rfl rfl rfl (fun c17 => ?_) (fun c17 => ?_)
        · skip
          refine z_iconst C (z := 1) rfl rfl rfl (fun x18 ex18 => ?_)
          exact k_iret C rfl (Or.inr ⟨rfl, z01 (by omega) (by omega)⟩) (Nat.le_of_ble_eq_true rfl) (Nat.le_of_ble_eq_true rfl) ⟨_, _, _, rfl, rfl, by omega, by omega, hI15, (Chg.cons S4 (Chg.mono S14 (by decide)) (by decide))⟩
        refine k_aload_n C rfl rfl rfl ?_
        refine c_VI C (s_X4_next hS hI15 H_r0) rfl rfl rfl rfl rfl ⟨_, rfl, rfl, T_r0, Nat.le_of_ble_eq_true rfl⟩ rfl rfl (Nat.le_of_ble_eq_true rfl) (Nat.le_of_ble_eq_true rfl) (Nat.le_of_ble_eq_true rfl) ?_
        rintro x19 I20 L21 ⟨hI20, S22⟩
        have gx19 := rg x19
        refine z_bipush C (z := 42) rfl rfl rfl (fun x23 ex23 => ?_)
        refine b_icmp_ne C (t := 72) rfl rfl rfl (fun c24 => ?_) (fun c24 => ?_)
        · skip
          refine z_iconst C (z := 1) rfl rfl rfl (fun x25 ex25 => ?_)
          exact k_iret C rfl (Or.inr ⟨rfl, z01 (by omega) (by omega)⟩) (Nat.le_of_ble_eq_true rfl) (Nat.le_of_ble_eq_true rfl) ⟨_, _, _, rfl, rfl, by omega, by omega, hI20, (Chg.cons S4 (Chg.cons S14 (Chg.mono S22 (by decide)) (by decide)) (by decide))⟩
        refine k_aload_n C rfl rfl rfl ?_
        refine c_VI C (s_X4_isThingMore hS hI20 H_r0) rfl rfl rfl rfl rfl ⟨_, rfl, rfl, T_r0, Nat.le_of_ble_eq_true rfl⟩ rfl rfl (Nat.le_of_ble_eq_true rfl) (Nat.le_of_ble_eq_true rfl) (Nat.le_of_ble_eq_true rfl) ?_
        rintro x26 I27 L28 ⟨o0x26, o1x26, hI27, S29⟩
        have gx26 := rg x26
        refine b_if_ne C (t := 37) rfl rfl rfl (fun c30 => ?_) (fun c30 => ?_)
        · skip
          refine k_aload_n C rfl rfl rfl ?_
          refine k_dup C rfl rfl rfl ?_
          refine z_gI C rfl rfl rfl T_r0 rfl (fun x31 ex31 => ?_)
          have gx31 := rg x31
          refine z_iconst C (z := 1) rfl rfl rfl (fun x32 ex32 => ?_)
          refine zt_iadd C rfl rfl (fun x33 => ?_)
          have gx33 := rg x33
          refine z_pI C rfl rfl rfl T_r0 (Or.inr rfl) rfl (fun I34 uI34 => ?_)
          have hI34 : IX A T I34 := IX.f hI27 T_r0 (boX.tr (by decide) (by decide)) uI34
          have S35 : Chg B T [(5, 4)] I27 L28 I34 L28 := Chg.f B_r0 T_r0 uI34
          have e36 := u2_e uI34
          refine k_aload_n C rfl rfl rfl ?_
          refine k_iload_n C rfl rfl rfl ?_
          refine c_VI C (s_X4_readPart_3 hS hI34 H_r0 (by omega) (by omega)) rfl rfl rfl rfl rfl ⟨_, rfl, rfl, T_r0, Nat.le_of_ble_eq_true rfl⟩ rfl rfl (Nat.le_of_ble_eq_true rfl) (Nat.le_of_ble_eq_true rfl) (Nat.le_of_ble_eq_true rfl) ?_
          rintro x37 I38 L39 ⟨o0x37, o1x37, hI38, S40⟩
          have gx37 := rg x37
          refine b_if_ne C (t := 57) rfl rfl rfl (fun c41 => ?_) (fun c41 => ?_)
          · skip
            refine k_aload_n C rfl rfl rfl ?_
            refine g_R C rfl rfl rfl T_r0 rfl R_r0_0 ?_
            refine z_iconst C (z := 3) rfl rfl rfl (fun x42 ex42 => ?_)
            refine z_iconst C (z := 0) rfl rfl rfl (fun x43 ex43 => ?_)
            obtain ⟨T_r0_0, A_r0_0, B_r0_0, ⟨r0_0_0, R_r0_0_0, H_r0_0_0⟩, ⟨r0_0_1, R_r0_0_1, H_r0_0_1⟩⟩ := id H_r0_0
            refine c_VV C (s_X7_put hS hI38 H_r0_0) rfl rfl rfl rfl rfl ⟨_, rfl, rfl, T_r0_0, Nat.le_of_ble_eq_true rfl⟩ rfl rfl (Nat.le_of_ble_eq_true rfl) (Nat.le_of_ble_eq_true rfl) (Nat.le_of_ble_eq_true rfl) ?_
            rintro I45 L46 ⟨hI45, S47⟩
            refine z_iinc C (z := 1) (lw := fun x48 => [(2, .int x48), (0, .ref r0), (1, .int n1)]) rfl rfl rfl (Nat.le_of_ble_eq_true rfl) rfl ⟨by omega, by omega⟩ (fun _ => rfl) (fun x48 ex48 => ?_)
            show V 69 [(2, .int x48), (0, .ref r0), (1, .int n1)] _ _ _ _
            refine k_goto C (pc2 := 12) rfl rfl ?_
            refine k_sub S [(0, .ref r0), (1, .int n1), (2, .int x48)] (List.forall_mem_cons.mpr ⟨List.mem_of_getElem? (i := 1) rfl, List.forall_mem_cons.mpr ⟨List.mem_of_getElem? (i := 2) rfl, List.forall_mem_cons.mpr ⟨List.mem_of_getElem? (i := 0) rfl, fun _ h => nomatch h⟩⟩⟩) ?_
            exact ihJ7 _ (MN.lt hmnn8 (by omega) (by omega)) I45 L46 x48 rfl hI45 (Chg.cons S14 (Chg.cons S22 (Chg.cons S29 (Chg.cons S35 (Chg.cons S40 (Chg.mono S47 (by decide)) (by decide)) (by decide)) (by decide)) (by decide)) (by decide)) (by omega) (by omega)
          refine z_iconst C (z := 0) rfl rfl rfl (fun x49 ex49 => ?_)
          exact k_iret C rfl (Or.inr ⟨rfl, z01 (by omega) (by omega)⟩) (Nat.le_of_ble_eq_true rfl) (Nat.le_of_ble_eq_true rfl) ⟨_, _, _, rfl, rfl, by omega, by omega, hI38, (Chg.cons S4 (Chg.cons S14 (Chg.cons S22 (Chg.cons S29 (Chg.cons S35 (Chg.mono S40 (by decide)) (by decide)) (by decide)) (by decide)) (by decide)) (by decide))⟩
        refine z_iconst C (z := 0) rfl rfl rfl (fun x50 ex50 => ?_)
        exact k_iret C rfl (Or.inr ⟨rfl, z01 (by omega) (by omega)⟩) (Nat.le_of_ble_eq_true rfl) (Nat.le_of_ble_eq_true rfl) ⟨_, _, _, rfl, rfl, by omega, by omega, hI27, (Chg.cons S4 (Chg.cons S14 (Chg.cons S22 (Chg.mono S29 (by decide)) (by decide)) (by decide)) (by decide))⟩
    refine k_istore_n C (lw := [(2, .int x6), (0, .ref r0), (1, .int n1)]) rfl rfl (Nat.le_of_ble_eq_true rfl) rfl ?_
    refine k_sub S [(0, .ref r0), (1, .int n1), (2, .int x6)] (List.forall_mem_cons.mpr ⟨List.mem_of_getElem? (i := 1) rfl, List.forall_mem_cons.mpr ⟨List.mem_of_getElem? (i := 2) rfl, List.forall_mem_cons.mpr ⟨List.mem_of_getElem? (i := 0) rfl, fun _ h => nomatch h⟩⟩⟩) ?_
    exact J7 _ I2 L3 x6 rfl hI2 Chg.rf (by omega) (by omega)
  refine z_iconst C (z := 0) rfl rfl rfl (fun x51 ex51 => ?_)
  exact k_iret C rfl (Or.inr ⟨rfl, z01 (by omega) (by omega)⟩) (Nat.le_of_ble_eq_true rfl) (Nat.le_of_ble_eq_true rfl) ⟨_, _, _, rfl, rfl, by omega, by omega, hI2, (Chg.mono S4 (by decide))⟩

theorem s_X4_readSum_3 {d : Nat} {T N : Nat → Nat} {I : IT} {L : LT} {R : RT} {A B : Nat → Prop} {r0 : Nat} {n1 : Int32} (hS : SUB B A) (hI : IX A T I) (H_r0 : (hs_Rd T N R A B) r0) (b0_n1 : 3 ≤ n1.toInt) (b1_n1 : n1.toInt ≤ 3) : Ex (d + 17) 73 [.ref r0, .int n1] (T, N, I, L, R) 0 0 (pI T N R (fun x9 I9 L9 => (0 ≤ x9.toInt) ∧ (x9.toInt ≤ 1) ∧ (IX A T I9 ∧ Chg B T [(5, 4), (5, 5), (8, 2)] I L I9 L9))) := by
  refine ⟨_, rfl, Nat.le_of_ble_eq_true rfl, fun V C S => ?_⟩
  show V 0 [(0, .ref r0), (1, .int n1)] [] (T, N, I, L, R) 0 0
  have gn1 := rg n1
  refine k_aload_n C rfl rfl rfl ?_
  refine k_iload_n C rfl rfl rfl ?_
  obtain ⟨T_r0, A_r0, B_r0, ⟨r0_0, R_r0_0, H_r0_0⟩, ⟨r0_2, R_r0_2, H_r0_2⟩⟩ := id H_r0
  refine c_VI C (s_X4_readProduct_3 hS hI H_r0 (by omega) (by omega)) rfl rfl rfl rfl rfl ⟨_, rfl, rfl, T_r0, Nat.le_of_ble_eq_true rfl⟩ rfl rfl (Nat.le_of_ble_eq_true rfl) (Nat.le_of_ble_eq_true rfl) (Nat.le_of_ble_eq_true rfl) ?_
  rintro x1 I2 L3 ⟨o0x1, o1x1, hI2, S4⟩
  have gx1 := rg x1
  refine b_if_ne C (t := 10) rfl rfl rfl (fun c5 => ?_) (fun c5 => ?_)
  · skip
    refine z_iconst C (z := 0) rfl rfl rfl (fun x6 ex6 => ?_)
    have J7 : ∀ (nn8 : Nat) (I9 : IT) (L10 : LT) (x11 : Int32), (MN (400 - x11.toInt) nn8) → (IX A T I9) → (Chg B T [(5, 4), (5, 5), (8, 2)] I2 L3 I9 L10) → (0 ≤ x11.toInt) → (x11.toInt ≤ 400) → V 12 [(0, .ref r0), (1, .int n1), (2, .int x11)] [] (T, N, I9, L10, R) 0 0 := by
      intro nn8
      induction nn8 using Nat.strongRecOn with
      | _ nn8 ihJ7 =>
        intro I9 L10 x11 hmnn8 hI15 S14 b12 b13
        have gx11 := rg x11
        refine k_iload_n C rfl rfl rfl ?_
        refine z_sipush C (z := 400) rfl rfl rfl (fun x16 ex16 => ?_)
        refine b_icmp_ge C (t := 72) rfl rfl rfl (fun c17 => ?_) (fun c17 => ?_)
        · skip
          refine z_iconst C (z := 1) rfl rfl rfl (fun x18 ex18 => ?_)
          exact k_iret C rfl (Or.inr ⟨rfl, z01 (by omega) (by omega)⟩) (Nat.le_of_ble_eq_true rfl) (Nat.le_of_ble_eq_true rfl) ⟨_, _, _, rfl, rfl, by omega, by omega, hI15, (Chg.cons S4 (Chg.mono S14 (by decide)) (by decide))⟩
        refine k_aload_n C rfl rfl rfl ?_
        refine c_VI C (s_X4_next hS hI15 H_r0) rfl rfl rfl rfl rfl ⟨_, rfl, rfl, T_r0, Nat.le_of_ble_eq_true rfl⟩ rfl rfl (Nat.le_of_ble_eq_true rfl) (Nat.le_of_ble_eq_true rfl) (Nat.le_of_ble_eq_true rfl) ?_
        rintro x19 I20 L21 ⟨hI20, S22⟩
        have gx19 := rg x19
        refine z_bipush C (z := 43) rfl rfl rfl (fun x23 ex23 => ?_)
        refine b_icmp_ne C (t := 72) rfl rfl rfl (fun c24 => ?_) (fun c24 => ?_)
        · skip
          refine z_iconst C (z := 1) rfl rfl rfl (fun x25 ex25 => ?_)
          exact k_iret C rfl (Or.inr ⟨rfl, z01 (by omega) (by omega)⟩) (Nat.le_of_ble_eq_true rfl) (Nat.le_of_ble_eq_true rfl) ⟨_, _, _, rfl, rfl, by omega, by omega, hI20, (Chg.cons S4 (Chg.cons S14 (Chg.mono S22 (by decide)) (by decide)) (by decide))⟩
        refine k_aload_n C rfl rfl rfl ?_
        refine c_VI C (s_X4_isThingMore hS hI20 H_r0) rfl rfl rfl rfl rfl ⟨_, rfl, rfl, T_r0, Nat.le_of_ble_eq_true rfl⟩ rfl rfl (Nat.le_of_ble_eq_true rfl) (Nat.le_of_ble_eq_true rfl) (Nat.le_of_ble_eq_true rfl) ?_
        rintro x26 I27 L28 ⟨o0x26, o1x26, hI27, S29⟩
        have gx26 := rg x26
        refine b_if_ne C (t := 37) rfl rfl rfl (fun c30 => ?_) (fun c30 => ?_)
        · skip
          refine k_aload_n C rfl rfl rfl ?_
          refine k_dup C rfl rfl rfl ?_
          refine z_gI C rfl rfl rfl T_r0 rfl (fun x31 ex31 => ?_)
          have gx31 := rg x31
          refine z_iconst C (z := 1) rfl rfl rfl (fun x32 ex32 => ?_)
          refine zt_iadd C rfl rfl (fun x33 => ?_)
          have gx33 := rg x33
          refine z_pI C rfl rfl rfl T_r0 (Or.inr rfl) rfl (fun I34 uI34 => ?_)
          have hI34 : IX A T I34 := IX.f hI27 T_r0 (boX.tr (by decide) (by decide)) uI34
          have S35 : Chg B T [(5, 4)] I27 L28 I34 L28 := Chg.f B_r0 T_r0 uI34
          have e36 := u2_e uI34
          refine k_aload_n C rfl rfl rfl ?_
          refine k_iload_n C rfl rfl rfl ?_
          refine c_VI C (s_X4_readProduct_3 hS hI34 H_r0 (by omega) (by omega)) rfl rfl rfl rfl rfl ⟨_, rfl, rfl, T_r0, Nat.le_of_ble_eq_true rfl⟩ rfl rfl (Nat.le_of_ble_eq_true rfl) (Nat.le_of_ble_eq_true rfl) (Nat.le_of_ble_eq_true rfl) ?_
          rintro x37 I38 L39 ⟨o0x37, o1x37, hI38, S40⟩
          have gx37 := rg x37
          refine b_if_ne C (t := 57) rfl rfl rfl (fun c41 => ?_) (fun c41 => ?_)
          · skip
            refine k_aload_n C rfl rfl rfl ?_
            refine g_R C rfl rfl rfl T_r0 rfl R_r0_0 ?_
            refine z_iconst C (z := 2) rfl rfl rfl (fun x42 ex42 => ?_)
            refine z_iconst C (z := 0) rfl rfl rfl (fun x43 ex43 => ?_)
            obtain ⟨T_r0_0, A_r0_0, B_r0_0, ⟨r0_0_0, R_r0_0_0, H_r0_0_0⟩, ⟨r0_0_1, R_r0_0_1, H_r0_0_1⟩⟩ := id H_r0_0
            refine c_VV C (s_X7_put hS hI38 H_r0_0) rfl rfl rfl rfl rfl ⟨_, rfl, rfl, T_r0_0, Nat.le_of_ble_eq_true rfl⟩ rfl rfl (Nat.le_of_ble_eq_true rfl) (Nat.le_of_ble_eq_true rfl) (Nat.le_of_ble_eq_true rfl) ?_
            rintro I45 L46 ⟨hI45, S47⟩
            refine z_iinc C (z := 1) (lw := fun x48 => [(2, .int x48), (0, .ref r0), (1, .int n1)]) rfl rfl rfl (Nat.le_of_ble_eq_true rfl) rfl ⟨by omega, by omega⟩ (fun _ => rfl) (fun x48 ex48 => ?_)
            show V 69 [(2, .int x48), (0, .ref r0), (1, .int n1)] _ _ _ _
            refine k_goto C (pc2 := 12) rfl rfl ?_
            refine k_sub S [(0, .ref r0), (1, .int n1), (2, .int x48)] (List.forall_mem_cons.mpr ⟨List.mem_of_getElem? (i := 1) rfl, List.forall_mem_cons.mpr ⟨List.mem_of_getElem? (i := 2) rfl, List.forall_mem_cons.mpr ⟨List.mem_of_getElem? (i := 0) rfl, fun _ h => nomatch h⟩⟩⟩) ?_
            exact ihJ7 _ (MN.lt hmnn8 (by omega) (by omega)) I45 L46 x48 rfl hI45 (Chg.cons S14 (Chg.cons S22 (Chg.cons S29 (Chg.cons S35 (Chg.cons S40 (Chg.mono S47 (by decide)) (by decide)) (by decide)) (by decide)) (by decide)) (by decide)) (by omega) (by omega)
          refine z_iconst C (z := 0) rfl rfl rfl (fun x49 ex49 => ?_)
          exact k_iret C rfl (Or.inr ⟨rfl, z01 (by omega) (by omega)⟩) (Nat.le_of_ble_eq_true rfl) (Nat.le_of_ble_eq_true rfl) ⟨_, _, _, rfl, rfl, by omega, by omega, hI38, (Chg.cons S4 (Chg.cons S14 (Chg.cons S22 (Chg.cons S29 (Chg.cons S35 (Chg.mono S40 (by decide)) (by decide)) (by decide)) (by decide)) (by decide)) (by decide))⟩
        refine z_iconst C (z := 0) rfl rfl rfl (fun x50 ex50 => ?_)
        exact k_iret C rfl (Or.inr ⟨rfl, z01 (by omega) (by omega)⟩) (Nat.le_of_ble_eq_true rfl) (Nat.le_of_ble_eq_true rfl) ⟨_, _, _, rfl, rfl, by omega, by omega, hI27, (Chg.cons S4 (Chg.cons S14 (Chg.cons S22 (Chg.mono S29 (by decide)) (by decide)) (by decide)) (by decide))⟩
    refine k_istore_n C (lw := [(2, .int x6), (0, .ref r0), (1, .int n1)]) rfl rfl (Nat.le_of_ble_eq_true rfl) rfl ?_
    refine k_sub S [(0, .ref r0), (1, .int n1), (2, .int x6)] (List.forall_mem_cons.mpr ⟨List.mem_of_getElem? (i := 1) rfl, List.forall_mem_cons.mpr ⟨List.mem_of_getElem? (i := 2) rfl, List.forall_mem_cons.mpr ⟨List.mem_of_getElem? (i := 0) rfl, fun _ h => nomatch h⟩⟩⟩) ?_
    exact J7 _ I2 L3 x6 rfl hI2 Chg.rf (by omega) (by omega)
  refine z_iconst C (z := 0) rfl rfl rfl (fun x51 ex51 => ?_)
  exact k_iret C rfl (Or.inr ⟨rfl, z01 (by omega) (by omega)⟩) (Nat.le_of_ble_eq_true rfl) (Nat.le_of_ble_eq_true rfl) ⟨_, _, _, rfl, rfl, by omega, by omega, hI2, (Chg.mono S4 (by decide))⟩

theorem s_X4_readOverlap_3 {d : Nat} {T N : Nat → Nat} {I : IT} {L : LT} {R : RT} {A B : Nat → Prop} {r0 : Nat} {n1 : Int32} (hS : SUB B A) (hI : IX A T I) (H_r0 : (hs_Rd T N R A B) r0) (b0_n1 : 3 ≤ n1.toInt) (b1_n1 : n1.toInt ≤ 3) : Ex (d + 18) 70 [.ref r0, .int n1] (T, N, I, L, R) 0 0 (pI T N R (fun x9 I9 L9 => (0 ≤ x9.toInt) ∧ (x9.toInt ≤ 1) ∧ (IX A T I9 ∧ Chg B T [(5, 4), (5, 5), (8, 2)] I L I9 L9))) := by
  refine ⟨_, rfl, Nat.le_of_ble_eq_true rfl, fun V C S => ?_⟩
  show V 0 [(0, .ref r0), (1, .int n1)] [] (T, N, I, L, R) 0 0
  have gn1 := rg n1
  refine k_aload_n C rfl rfl rfl ?_
  obtain ⟨T_r0, A_r0, B_r0, ⟨r0_0, R_r0_0, H_r0_0⟩, ⟨r0_2, R_r0_2, H_r0_2⟩⟩ := id H_r0
  refine c_VI C (s_X4_isThingMore hS hI H_r0) rfl rfl rfl rfl rfl ⟨_, rfl, rfl, T_r0, Nat.le_of_ble_eq_true rfl⟩ rfl rfl (Nat.le_of_ble_eq_true rfl) (Nat.le_of_ble_eq_true rfl) (Nat.le_of_ble_eq_true rfl) ?_
  rintro x1 I2 L3 ⟨o0x1, o1x1, hI2, S4⟩
  have gx1 := rg x1
  refine b_if_ne C (t := 9) rfl rfl rfl (fun c5 => ?_) (fun c5 => ?_)
  · skip
    refine k_aload_n C rfl rfl rfl ?_
    refine k_dup C rfl rfl rfl ?_
    refine z_gI C rfl rfl rfl T_r0 rfl (fun x6 ex6 => ?_)
    have gx6 := rg x6
    refine z_iconst C (z := 1) rfl rfl rfl (fun x7 ex7 => ?_)
    refine zt_iadd C rfl rfl (fun x8 => ?_)
    have gx8 := rg x8
    refine z_pI C rfl rfl rfl T_r0 (Or.inr rfl) rfl (fun I9 uI9 => ?_)
    have hI9 : IX A T I9 := IX.f hI2 T_r0 (boX.tr (by decide) (by decide)) uI9
    have S10 : Chg B T [(5, 4)] I2 L3 I9 L3 := Chg.f B_r0 T_r0 uI9
    have e11 := u2_e uI9
    refine k_aload_n C rfl rfl rfl ?_
    refine k_iload_n C rfl rfl rfl ?_
    refine c_VI C (s_X4_readSum_3 hS hI9 H_r0 (by omega) (by omega)) rfl rfl rfl rfl rfl ⟨_, rfl, rfl, T_r0, Nat.le_of_ble_eq_true rfl⟩ rfl rfl (Nat.le_of_ble_eq_true rfl) (Nat.le_of_ble_eq_true rfl) (Nat.le_of_ble_eq_true rfl) ?_
    rintro x12 I13 L14 ⟨o0x12, o1x12, hI13, S15⟩
    have gx12 := rg x12
    refine b_if_eq C (t := 53) rfl rfl rfl (fun c16 => ?_) (fun c16 => ?_)
    · skip
      refine z_iconst C (z := 0) rfl rfl rfl (fun x17 ex17 => ?_)
      exact k_iret C rfl (Or.inr ⟨rfl, z01 (by omega) (by omega)⟩) (Nat.le_of_ble_eq_true rfl) (Nat.le_of_ble_eq_true rfl) ⟨_, _, _, rfl, rfl, by omega, by omega, hI13, (Chg.cons S4 (Chg.cons S10 (Chg.mono S15 (by decide)) (by decide)) (by decide))⟩
    refine k_aload_n C rfl rfl rfl ?_
    refine z_bipush C (z := 44) rfl rfl rfl (fun x18 ex18 => ?_)
    refine c_VI C (s_X4_take hS hI13 H_r0) rfl rfl rfl rfl rfl ⟨_, rfl, rfl, T_r0, Nat.le_of_ble_eq_true rfl⟩ rfl rfl (Nat.le_of_ble_eq_true rfl) (Nat.le_of_ble_eq_true rfl) (Nat.le_of_ble_eq_true rfl) ?_
    rintro x19 I20 L21 ⟨o0x19, o1x19, hI20, S22⟩
    have gx19 := rg x19
    refine b_if_eq C (t := 53) rfl rfl rfl (fun c23 => ?_) (fun c23 => ?_)
    · skip
      refine z_iconst C (z := 0) rfl rfl rfl (fun x24 ex24 => ?_)
      exact k_iret C rfl (Or.inr ⟨rfl, z01 (by omega) (by omega)⟩) (Nat.le_of_ble_eq_true rfl) (Nat.le_of_ble_eq_true rfl) ⟨_, _, _, rfl, rfl, by omega, by omega, hI20, (Chg.cons S4 (Chg.cons S10 (Chg.cons S15 (Chg.mono S22 (by decide)) (by decide)) (by decide)) (by decide))⟩
    refine k_aload_n C rfl rfl rfl ?_
    refine k_iload_n C rfl rfl rfl ?_
    refine c_VI C (s_X4_readSum_3 hS hI20 H_r0 (by omega) (by omega)) rfl rfl rfl rfl rfl ⟨_, rfl, rfl, T_r0, Nat.le_of_ble_eq_true rfl⟩ rfl rfl (Nat.le_of_ble_eq_true rfl) (Nat.le_of_ble_eq_true rfl) (Nat.le_of_ble_eq_true rfl) ?_
    rintro x25 I26 L27 ⟨o0x25, o1x25, hI26, S28⟩
    have gx25 := rg x25
    refine b_if_eq C (t := 53) rfl rfl rfl (fun c29 => ?_) (fun c29 => ?_)
    · skip
      refine z_iconst C (z := 0) rfl rfl rfl (fun x30 ex30 => ?_)
      exact k_iret C rfl (Or.inr ⟨rfl, z01 (by omega) (by omega)⟩) (Nat.le_of_ble_eq_true rfl) (Nat.le_of_ble_eq_true rfl) ⟨_, _, _, rfl, rfl, by omega, by omega, hI26, (Chg.cons S4 (Chg.cons S10 (Chg.cons S15 (Chg.cons S22 (Chg.mono S28 (by decide)) (by decide)) (by decide)) (by decide)) (by decide))⟩
    refine k_aload_n C rfl rfl rfl ?_
    refine z_bipush C (z := 93) rfl rfl rfl (fun x31 ex31 => ?_)
    refine c_VI C (s_X4_take hS hI26 H_r0) rfl rfl rfl rfl rfl ⟨_, rfl, rfl, T_r0, Nat.le_of_ble_eq_true rfl⟩ rfl rfl (Nat.le_of_ble_eq_true rfl) (Nat.le_of_ble_eq_true rfl) (Nat.le_of_ble_eq_true rfl) ?_
    rintro x32 I33 L34 ⟨o0x32, o1x32, hI33, S35⟩
    have gx32 := rg x32
    refine b_if_ne C (t := 55) rfl rfl rfl (fun c36 => ?_) (fun c36 => ?_)
    · skip
      refine k_aload_n C rfl rfl rfl ?_
      refine c_VI C (s_X4_next hS hI33 H_r0) rfl rfl rfl rfl rfl ⟨_, rfl, rfl, T_r0, Nat.le_of_ble_eq_true rfl⟩ rfl rfl (Nat.le_of_ble_eq_true rfl) (Nat.le_of_ble_eq_true rfl) (Nat.le_of_ble_eq_true rfl) ?_
      rintro x37 I38 L39 ⟨hI38, S40⟩
      have gx37 := rg x37
      refine c_SI C (s_X4_isDigit hS hI38 ) rfl rfl rfl rfl rfl rfl rfl (Nat.le_of_ble_eq_true rfl) (Nat.le_of_ble_eq_true rfl) (Nat.le_of_ble_eq_true rfl) ?_
      rintro x41 _ _ ⟨o0x41, o1x41, rfl, rfl⟩
      have gx41 := rg x41
      refine b_if_eq C (t := 79) rfl rfl rfl (fun c42 => ?_) (fun c42 => ?_)
      · skip
        refine z_iconst C (z := 0) rfl rfl rfl (fun x43 ex43 => ?_)
        exact k_iret C rfl (Or.inr ⟨rfl, z01 (by omega) (by omega)⟩) (Nat.le_of_ble_eq_true rfl) (Nat.le_of_ble_eq_true rfl) ⟨_, _, _, rfl, rfl, by omega, by omega, hI38, (Chg.cons S4 (Chg.cons S10 (Chg.cons S15 (Chg.cons S22 (Chg.cons S28 (Chg.cons S35 (Chg.mono S40 (by decide)) (by decide)) (by decide)) (by decide)) (by decide)) (by decide)) (by decide))⟩
      refine k_aload_n C rfl rfl rfl ?_
      refine z_iconst C (z := 4) rfl rfl rfl (fun x44 ex44 => ?_)
      refine z_bipush C (z := 8) rfl rfl rfl (fun x45 ex45 => ?_)
      refine c_VI C (s_X4_readNumber hS hI38 H_r0) rfl rfl rfl rfl rfl ⟨_, rfl, rfl, T_r0, Nat.le_of_ble_eq_true rfl⟩ rfl rfl (Nat.le_of_ble_eq_true rfl) (Nat.le_of_ble_eq_true rfl) (Nat.le_of_ble_eq_true rfl) ?_
      rintro x46 I47 L48 ⟨o0x46, o1x46, hI47, S49⟩
      have gx46 := rg x46
      refine b_if_eq C (t := 79) rfl rfl rfl (fun c50 => ?_) (fun c50 => ?_)
      · skip
        refine z_iconst C (z := 0) rfl rfl rfl (fun x51 ex51 => ?_)
        exact k_iret C rfl (Or.inr ⟨rfl, z01 (by omega) (by omega)⟩) (Nat.le_of_ble_eq_true rfl) (Nat.le_of_ble_eq_true rfl) ⟨_, _, _, rfl, rfl, by omega, by omega, hI47, (Chg.cons S4 (Chg.cons S10 (Chg.cons S15 (Chg.cons S22 (Chg.cons S28 (Chg.cons S35 (Chg.cons S40 (Chg.mono S49 (by decide)) (by decide)) (by decide)) (by decide)) (by decide)) (by decide)) (by decide)) (by decide))⟩
      refine z_iconst C (z := 1) rfl rfl rfl (fun x52 ex52 => ?_)
      refine k_goto C (pc2 := 80) rfl rfl ?_
      exact k_iret C rfl (Or.inr ⟨rfl, z01 (by omega) (by omega)⟩) (Nat.le_of_ble_eq_true rfl) (Nat.le_of_ble_eq_true rfl) ⟨_, _, _, rfl, rfl, by omega, by omega, hI47, (Chg.cons S4 (Chg.cons S10 (Chg.cons S15 (Chg.cons S22 (Chg.cons S28 (Chg.cons S35 (Chg.cons S40 (Chg.mono S49 (by decide)) (by decide)) (by decide)) (by decide)) (by decide)) (by decide)) (by decide)) (by decide))⟩
    refine z_iconst C (z := 0) rfl rfl rfl (fun x53 ex53 => ?_)
    exact k_iret C rfl (Or.inr ⟨rfl, z01 (by omega) (by omega)⟩) (Nat.le_of_ble_eq_true rfl) (Nat.le_of_ble_eq_true rfl) ⟨_, _, _, rfl, rfl, by omega, by omega, hI33, (Chg.cons S4 (Chg.cons S10 (Chg.cons S15 (Chg.cons S22 (Chg.cons S28 (Chg.mono S35 (by decide)) (by decide)) (by decide)) (by decide)) (by decide)) (by decide))⟩
  refine z_iconst C (z := 0) rfl rfl rfl (fun x54 ex54 => ?_)
  exact k_iret C rfl (Or.inr ⟨rfl, z01 (by omega) (by omega)⟩) (Nat.le_of_ble_eq_true rfl) (Nat.le_of_ble_eq_true rfl) ⟨_, _, _, rfl, rfl, by omega, by omega, hI2, (Chg.mono S4 (by decide))⟩

theorem s_X4_readPart_2 {d : Nat} {T N : Nat → Nat} {I : IT} {L : LT} {R : RT} {A B : Nat → Prop} {r0 : Nat} {n1 : Int32} (hS : SUB B A) (hI : IX A T I) (H_r0 : (hs_Rd T N R A B) r0) (b0_n1 : 2 ≤ n1.toInt) (b1_n1 : n1.toInt ≤ 2) : Ex (d + 19) 71 [.ref r0, .int n1] (T, N, I, L, R) 0 0 (pI T N R (fun x9 I9 L9 => (0 ≤ x9.toInt) ∧ (x9.toInt ≤ 1) ∧ (IX A T I9 ∧ Chg B T [(5, 4), (5, 5), (8, 2)] I L I9 L9))) := by
  refine ⟨_, rfl, Nat.le_of_ble_eq_true rfl, fun V C S => ?_⟩
  show V 0 [(0, .ref r0), (1, .int n1)] [] (T, N, I, L, R) 0 0
  have gn1 := rg n1
  refine k_aload_n C rfl rfl rfl ?_
  obtain ⟨T_r0, A_r0, B_r0, ⟨r0_0, R_r0_0, H_r0_0⟩, ⟨r0_2, R_r0_2, H_r0_2⟩⟩ := id H_r0
  refine c_VI C (s_X4_next hS hI H_r0) rfl rfl rfl rfl rfl ⟨_, rfl, rfl, T_r0, Nat.le_of_ble_eq_true rfl⟩ rfl rfl (Nat.le_of_ble_eq_true rfl) (Nat.le_of_ble_eq_true rfl) (Nat.le_of_ble_eq_true rfl) ?_
  rintro x1 I2 L3 ⟨hI2, S4⟩
  have gx1 := rg x1
  refine k_istore_n C (lw := [(2, .int x1), (0, .ref r0), (1, .int n1)]) rfl rfl (Nat.le_of_ble_eq_true rfl) rfl ?_
  refine k_iload_n C rfl rfl rfl ?_
  refine z_bipush C (z := 102) rfl rfl rfl (fun x5 ex5 => ?_)
  refine b_icmp_ne C (t := 16) rfl rfl rfl (fun c6 => ?_) (fun c6 => ?_)
  · skip
    refine k_iload_n C rfl rfl rfl ?_
    refine c_SI C (s_X4_isDigit hS hI2 ) rfl rfl rfl rfl rfl rfl rfl (Nat.le_of_ble_eq_true rfl) (Nat.le_of_ble_eq_true rfl) (Nat.le_of_ble_eq_true rfl) ?_
    rintro x7 _ _ ⟨o0x7, o1x7, rfl, rfl⟩
    have gx7 := rg x7
    refine b_if_eq C (t := 47) rfl rfl rfl (fun c8 => ?_) (fun c8 => ?_)
    · skip
      refine k_iload_n C rfl rfl rfl ?_
      refine z_bipush C (z := 6) rfl rfl rfl (fun x9 ex9 => ?_)
      refine b_icmp_lt C (t := 55) rfl rfl rfl (fun c10 => ?_) (fun c10 => by exfalso; omega)
      refine k_iload_n C rfl rfl rfl ?_
      refine z_bipush C (z := 40) rfl rfl rfl (fun x11 ex11 => ?_)
      refine b_icmp_ne C (t := 96) rfl rfl rfl (fun c12 => ?_) (fun c12 => ?_)
      · skip
        refine k_iload_n C rfl rfl rfl ?_
        refine z_bipush C (z := 91) rfl rfl rfl (fun x13 ex13 => ?_)
        refine b_icmp_ne C (t := 110) rfl rfl rfl (fun c14 => ?_) (fun c14 => ?_)
        · skip
          refine k_iload_n C rfl rfl rfl ?_
          refine z_bipush C (z := 45) rfl rfl rfl (fun x15 ex15 => ?_)
          refine b_icmp_ne C (t := 149) rfl rfl rfl (fun c16 => ?_) (fun c16 => ?_)
          · skip
            refine z_iconst C (z := 0) rfl rfl rfl (fun x17 ex17 => ?_)
            exact k_iret C rfl (Or.inr ⟨rfl, z01 (by omega) (by omega)⟩) (Nat.le_of_ble_eq_true rfl) (Nat.le_of_ble_eq_true rfl) ⟨_, _, _, rfl, rfl, by omega, by omega, hI2, (Chg.mono S4 (by decide))⟩
          refine k_aload_n C rfl rfl rfl ?_
          refine k_dup C rfl rfl rfl ?_
          refine z_gI C rfl rfl rfl T_r0 rfl (fun x18 ex18 => ?_)
          have gx18 := rg x18
          refine z_iconst C (z := 1) rfl rfl rfl (fun x19 ex19 => ?_)
          refine zt_iadd C rfl rfl (fun x20 => ?_)
          have gx20 := rg x20
          refine z_pI C rfl rfl rfl T_r0 (Or.inr rfl) rfl (fun I21 uI21 => ?_)
          have hI21 : IX A T I21 := IX.f hI2 T_r0 (boX.tr (by decide) (by decide)) uI21
          have S22 : Chg B T [(5, 4)] I2 L3 I21 L3 := Chg.f B_r0 T_r0 uI21
          have e23 := u2_e uI21
          refine k_aload_n C rfl rfl rfl ?_
          refine k_iload_n C rfl rfl rfl ?_
          refine z_iconst C (z := 1) rfl rfl rfl (fun x24 ex24 => ?_)
          refine z_iadd C rfl rfl ⟨by omega, by omega⟩ (fun x25 ex25 => ?_)
          refine c_VI C (s_X4_readPart_3 hS hI21 H_r0 (by omega) (by omega)) rfl rfl rfl rfl rfl ⟨_, rfl, rfl, T_r0, Nat.le_of_ble_eq_true rfl⟩ rfl rfl (Nat.le_of_ble_eq_true rfl) (Nat.le_of_ble_eq_true rfl) (Nat.le_of_ble_eq_true rfl) ?_
          rintro x26 I27 L28 ⟨o0x26, o1x26, hI27, S29⟩
          have gx26 := rg x26
          refine b_if_ne C (t := 138) rfl rfl rfl (fun c30 => ?_) (fun c30 => ?_)
          · skip
            refine k_aload_n C rfl rfl rfl ?_
            refine g_R C rfl rfl rfl T_r0 rfl R_r0_0 ?_
            refine z_iconst C (z := 5) rfl rfl rfl (fun x31 ex31 => ?_)
            refine z_iconst C (z := 0) rfl rfl rfl (fun x32 ex32 => ?_)
            obtain ⟨T_r0_0, A_r0_0, B_r0_0, ⟨r0_0_0, R_r0_0_0, H_r0_0_0⟩, ⟨r0_0_1, R_r0_0_1, H_r0_0_1⟩⟩ := id H_r0_0
            refine c_VV C (s_X7_put hS hI27 H_r0_0) rfl rfl rfl rfl rfl ⟨_, rfl, rfl, T_r0_0, Nat.le_of_ble_eq_true rfl⟩ rfl rfl (Nat.le_of_ble_eq_true rfl) (Nat.le_of_ble_eq_true rfl) (Nat.le_of_ble_eq_true rfl) ?_
            rintro I34 L35 ⟨hI34, S36⟩
            refine z_iconst C (z := 1) rfl rfl rfl (fun x37 ex37 => ?_)
            exact k_iret C rfl (Or.inr ⟨rfl, z01 (by omega) (by omega)⟩) (Nat.le_of_ble_eq_true rfl) (Nat.le_of_ble_eq_true rfl) ⟨_, _, _, rfl, rfl, by omega, by omega, hI34, (Chg.cons S4 (Chg.cons S22 (Chg.cons S29 (Chg.mono S36 (by decide)) (by decide)) (by decide)) (by decide))⟩
          refine z_iconst C (z := 0) rfl rfl rfl (fun x38 ex38 => ?_)
          exact k_iret C rfl (Or.inr ⟨rfl, z01 (by omega) (by omega)⟩) (Nat.le_of_ble_eq_true rfl) (Nat.le_of_ble_eq_true rfl) ⟨_, _, _, rfl, rfl, by omega, by omega, hI27, (Chg.cons S4 (Chg.cons S22 (Chg.mono S29 (by decide)) (by decide)) (by decide))⟩
        refine k_aload_n C rfl rfl rfl ?_
        refine k_iload_n C rfl rfl rfl ?_
        refine z_iconst C (z := 1) rfl rfl rfl (fun x39 ex39 => ?_)
        refine z_iadd C rfl rfl ⟨by omega, by omega⟩ (fun x40 ex40 => ?_)
        refine c_VI C (s_X4_readOverlap_3 hS hI2 H_r0 (by omega) (by omega)) rfl rfl rfl rfl rfl ⟨_, rfl, rfl, T_r0, Nat.le_of_ble_eq_true rfl⟩ rfl rfl (Nat.le_of_ble_eq_true rfl) (Nat.le_of_ble_eq_true rfl) (Nat.le_of_ble_eq_true rfl) ?_
        rintro x41 I42 L43 ⟨o0x41, o1x41, hI42, S44⟩
        have gx41 := rg x41
        exact k_iret C rfl (Or.inr ⟨rfl, z01 (by omega) (by omega)⟩) (Nat.le_of_ble_eq_true rfl) (Nat.le_of_ble_eq_true rfl) ⟨_, _, _, rfl, rfl, by omega, by omega, hI42, (Chg.cons S4 (Chg.mono S44 (by decide)) (by decide))⟩
      refine k_aload_n C rfl rfl rfl ?_
      refine k_dup C rfl rfl rfl ?_
      refine z_gI C rfl rfl rfl T_r0 rfl (fun x45 ex45 => ?_)
      have gx45 := rg x45
      refine z_iconst C (z := 1) rfl rfl rfl (fun x46 ex46 => ?_)
      refine zt_iadd C rfl rfl (fun x47 => ?_)
      have gx47 := rg x47
      refine z_pI C rfl rfl rfl T_r0 (Or.inr rfl) rfl (fun I48 uI48 => ?_)
      have hI48 : IX A T I48 := IX.f hI2 T_r0 (boX.tr (by decide) (by decide)) uI48
      have S49 : Chg B T [(5, 4)] I2 L3 I48 L3 := Chg.f B_r0 T_r0 uI48
      have e50 := u2_e uI48
      refine k_aload_n C rfl rfl rfl ?_
      refine k_iload_n C rfl rfl rfl ?_
      refine z_iconst C (z := 1) rfl rfl rfl (fun x51 ex51 => ?_)
      refine z_iadd C rfl rfl ⟨by omega, by omega⟩ (fun x52 ex52 => ?_)
      refine c_VI C (s_X4_readSum_3 hS hI48 H_r0 (by omega) (by omega)) rfl rfl rfl rfl rfl ⟨_, rfl, rfl, T_r0, Nat.le_of_ble_eq_true rfl⟩ rfl rfl (Nat.le_of_ble_eq_true rfl) (Nat.le_of_ble_eq_true rfl) (Nat.le_of_ble_eq_true rfl) ?_
      rintro x53 I54 L55 ⟨o0x53, o1x53, hI54, S56⟩
      have gx53 := rg x53
      refine b_if_eq C (t := 94) rfl rfl rfl (fun c57 => ?_) (fun c57 => ?_)
      · skip
        refine z_iconst C (z := 0) rfl rfl rfl (fun x58 ex58 => ?_)
        exact k_iret C rfl (Or.inr ⟨rfl, z01 (by omega) (by omega)⟩) (Nat.le_of_ble_eq_true rfl) (Nat.le_of_ble_eq_true rfl) ⟨_, _, _, rfl, rfl, by omega, by omega, hI54, (Chg.cons S4 (Chg.cons S49 (Chg.mono S56 (by decide)) (by decide)) (by decide))⟩
      refine k_aload_n C rfl rfl rfl ?_
      refine z_bipush C (z := 41) rfl rfl rfl (fun x59 ex59 => ?_)
      refine c_VI C (s_X4_take hS hI54 H_r0) rfl rfl rfl rfl rfl ⟨_, rfl, rfl, T_r0, Nat.le_of_ble_eq_true rfl⟩ rfl rfl (Nat.le_of_ble_eq_true rfl) (Nat.le_of_ble_eq_true rfl) (Nat.le_of_ble_eq_true rfl) ?_
      rintro x60 I61 L62 ⟨o0x60, o1x60, hI61, S63⟩
      have gx60 := rg x60
      refine b_if_eq C (t := 94) rfl rfl rfl (fun c64 => ?_) (fun c64 => ?_)
      · skip
        refine z_iconst C (z := 0) rfl rfl rfl (fun x65 ex65 => ?_)
        exact k_iret C rfl (Or.inr ⟨rfl, z01 (by omega) (by omega)⟩) (Nat.le_of_ble_eq_true rfl) (Nat.le_of_ble_eq_true rfl) ⟨_, _, _, rfl, rfl, by omega, by omega, hI61, (Chg.cons S4 (Chg.cons S49 (Chg.cons S56 (Chg.mono S63 (by decide)) (by decide)) (by decide)) (by decide))⟩
      refine z_iconst C (z := 1) rfl rfl rfl (fun x66 ex66 => ?_)
      refine k_goto C (pc2 := 95) rfl rfl ?_
      exact k_iret C rfl (Or.inr ⟨rfl, z01 (by omega) (by omega)⟩) (Nat.le_of_ble_eq_true rfl) (Nat.le_of_ble_eq_true rfl) ⟨_, _, _, rfl, rfl, by omega, by omega, hI61, (Chg.cons S4 (Chg.cons S49 (Chg.cons S56 (Chg.mono S63 (by decide)) (by decide)) (by decide)) (by decide))⟩
    refine k_aload_n C rfl rfl rfl ?_
    refine c_VI C (s_X4_isThingMore hS hI2 H_r0) rfl rfl rfl rfl rfl ⟨_, rfl, rfl, T_r0, Nat.le_of_ble_eq_true rfl⟩ rfl rfl (Nat.le_of_ble_eq_true rfl) (Nat.le_of_ble_eq_true rfl) (Nat.le_of_ble_eq_true rfl) ?_
    rintro x67 I68 L69 ⟨o0x67, o1x67, hI68, S70⟩
    have gx67 := rg x67
    refine b_if_eq C (t := 45) rfl rfl rfl (fun c71 => ?_) (fun c71 => ?_)
    · skip
      refine z_iconst C (z := 0) rfl rfl rfl (fun x72 ex72 => ?_)
      exact k_iret C rfl (Or.inr ⟨rfl, z01 (by omega) (by omega)⟩) (Nat.le_of_ble_eq_true rfl) (Nat.le_of_ble_eq_true rfl) ⟨_, _, _, rfl, rfl, by omega, by omega, hI68, (Chg.cons S4 (Chg.mono S70 (by decide)) (by decide))⟩
    refine k_aload_n C rfl rfl rfl ?_
    refine z_iconst C (z := 1) rfl rfl rfl (fun x73 ex73 => ?_)
    refine z_sipush C (z := 999) rfl rfl rfl (fun x74 ex74 => ?_)
    refine c_VI C (s_X4_readNumber hS hI68 H_r0) rfl rfl rfl rfl rfl ⟨_, rfl, rfl, T_r0, Nat.le_of_ble_eq_true rfl⟩ rfl rfl (Nat.le_of_ble_eq_true rfl) (Nat.le_of_ble_eq_true rfl) (Nat.le_of_ble_eq_true rfl) ?_
    rintro x75 I76 L77 ⟨o0x75, o1x75, hI76, S78⟩
    have gx75 := rg x75
    refine b_if_eq C (t := 45) rfl rfl rfl (fun c79 => ?_) (fun c79 => ?_)
    · skip
      refine z_iconst C (z := 0) rfl rfl rfl (fun x80 ex80 => ?_)
      exact k_iret C rfl (Or.inr ⟨rfl, z01 (by omega) (by omega)⟩) (Nat.le_of_ble_eq_true rfl) (Nat.le_of_ble_eq_true rfl) ⟨_, _, _, rfl, rfl, by omega, by omega, hI76, (Chg.cons S4 (Chg.cons S70 (Chg.mono S78 (by decide)) (by decide)) (by decide))⟩
    refine z_iconst C (z := 1) rfl rfl rfl (fun x81 ex81 => ?_)
    refine k_goto C (pc2 := 46) rfl rfl ?_
    exact k_iret C rfl (Or.inr ⟨rfl, z01 (by omega) (by omega)⟩) (Nat.le_of_ble_eq_true rfl) (Nat.le_of_ble_eq_true rfl) ⟨_, _, _, rfl, rfl, by omega, by omega, hI76, (Chg.cons S4 (Chg.cons S70 (Chg.mono S78 (by decide)) (by decide)) (by decide))⟩
  refine k_aload_n C rfl rfl rfl ?_
  refine c_VI C (s_X4_readLetter hS hI2 H_r0) rfl rfl rfl rfl rfl ⟨_, rfl, rfl, T_r0, Nat.le_of_ble_eq_true rfl⟩ rfl rfl (Nat.le_of_ble_eq_true rfl) (Nat.le_of_ble_eq_true rfl) (Nat.le_of_ble_eq_true rfl) ?_
  rintro x82 I83 L84 ⟨o0x82, o1x82, hI83, S85⟩
  have gx82 := rg x82
  exact k_iret C rfl (Or.inr ⟨rfl, z01 (by omega) (by omega)⟩) (Nat.le_of_ble_eq_true rfl) (Nat.le_of_ble_eq_true rfl) ⟨_, _, _, rfl, rfl, by omega, by omega, hI83, (Chg.cons S4 (Chg.mono S85 (by decide)) (by decide))⟩

theorem s_X4_readProduct_2 {d : Nat} {T N : Nat → Nat} {I : IT} {L : LT} {R : RT} {A B : Nat → Prop} {r0 : Nat} {n1 : Int32} (hS : SUB B A) (hI : IX A T I) (H_r0 : (hs_Rd T N R A B) r0) (b0_n1 : 2 ≤ n1.toInt) (b1_n1 : n1.toInt ≤ 2) : Ex (d + 20) 72 [.ref r0, .int n1] (T, N, I, L, R) 0 0 (pI T N R (fun x9 I9 L9 => (0 ≤ x9.toInt) ∧ (x9.toInt ≤ 1) ∧ (IX A T I9 ∧ Chg B T [(5, 4), (5, 5), (8, 2)] I L I9 L9))) := by
  refine ⟨_, rfl, Nat.le_of_ble_eq_true rfl, fun V C S => ?_⟩
  show V 0 [(0, .ref r0), (1, .int n1)] [] (T, N, I, L, R) 0 0
  have gn1 := rg n1
  refine k_aload_n C rfl rfl rfl ?_
  refine k_iload_n C rfl rfl rfl ?_
  obtain ⟨T_r0, A_r0, B_r0, ⟨r0_0, R_r0_0, H_r0_0⟩, ⟨r0_2, R_r0_2, H_r0_2⟩⟩ := id H_r0
  refine c_VI C (s_X4_readPart_2 hS hI H_r0 (by omega) (by omega)) rfl rfl rfl rfl rfl ⟨_, rfl, rfl, T_r0, Nat.le_of_ble_eq_true rfl⟩ rfl rfl (Nat.le_of_ble_eq_true rfl) (Nat.le_of_ble_eq_true rfl) (Nat.le_of_ble_eq_true rfl) ?_
  rintro x1 I2 L3 ⟨o0x1, o1x1, hI2, S4⟩
  have gx1 := rg x1
  refine b_if_ne C (t := 10) rfl rfl rfl (fun c5 => ?_) (fun c5 => ?_)
  · skip
    refine z_iconst C (z := 0) rfl rfl rfl (fun x6 ex6 => ?_)
    have J7 : ∀ (nn8 : Nat) (I9 : IT) (L10 : LT) (x11 : Int32), (MN (400 - x11.toInt) nn8) → (IX A T I9) → (Chg B T [(5, 4), (5, 5), (8, 2)] I2 L3 I9 L10) → (0 ≤ x11.toInt) → (x11.toInt ≤ 400) → V 12 [(0, .ref r0), (1, .int n1), (2, .int x11)] [] (T, N, I9, L10, R) 0 0 := by
      intro nn8
      induction nn8 using Nat.strongRecOn with
      | _ nn8 ihJ7 =>
        intro I9 L10 x11 hmnn8 hI15 S14 b12 b13
        have gx11 := rg x11
        refine k_iload_n C rfl rfl rfl ?_
        refine z_sipush C (z := 400) rfl rfl rfl (fun x16 ex16 => ?_)
        refine b_icmp_ge C (t := 72) rfl rfl rfl (fun c17 => ?_) (fun c17 => ?_)
        · skip
          refine z_iconst C (z := 1) rfl rfl rfl (fun x18 ex18 => ?_)
          exact k_iret C rfl (Or.inr ⟨rfl, z01 (by omega) (by omega)⟩) (Nat.le_of_ble_eq_true rfl) (Nat.le_of_ble_eq_true rfl) ⟨_, _, _, rfl, rfl, by omega, by omega, hI15, (Chg.cons S4 (Chg.mono S14 (by decide)) (by decide))⟩
        refine k_aload_n C rfl rfl rfl ?_
        refine c_VI C (s_X4_next hS hI15 H_r0) rfl rfl rfl rfl rfl ⟨_, rfl, rfl, T_r0, Nat.le_of_ble_eq_true rfl⟩ rfl rfl (Nat.le_of_ble_eq_true rfl) (Nat.le_of_ble_eq_true rfl) (Nat.le_of_ble_eq_true rfl) ?_
        rintro x19 I20 L21 ⟨hI20, S22⟩
        have gx19 := rg x19
        refine z_bipush C (z := 42) rfl rfl rfl (fun x23 ex23 => ?_)
        refine b_icmp_ne C (t := 72) rfl rfl rfl (fun c24 => ?_) (fun c24 => ?_)
        · skip
          refine z_iconst C (z := 1) rfl rfl rfl (fun x25 ex25 => ?_)
          exact k_iret C rfl (Or.inr ⟨rfl, z01 (by omega) (by omega)⟩) (Nat.le_of_ble_eq_true rfl) (Nat.le_of_ble_eq_true rfl) ⟨_, _, _, rfl, rfl, by omega, by omega, hI20, (Chg.cons S4 (Chg.cons S14 (Chg.mono S22 (by decide)) (by decide)) (by decide))⟩
        refine k_aload_n C rfl rfl rfl ?_
        refine c_VI C (s_X4_isThingMore hS hI20 H_r0) rfl rfl rfl rfl rfl ⟨_, rfl, rfl, T_r0, Nat.le_of_ble_eq_true rfl⟩ rfl rfl (Nat.le_of_ble_eq_true rfl) (Nat.le_of_ble_eq_true rfl) (Nat.le_of_ble_eq_true rfl) ?_
        rintro x26 I27 L28 ⟨o0x26, o1x26, hI27, S29⟩
        have gx26 := rg x26
        refine b_if_ne C (t := 37) rfl rfl rfl (fun c30 => ?_) (fun c30 => ?_)
        · skip
          refine k_aload_n C rfl rfl rfl ?_
          refine k_dup C rfl rfl rfl ?_
          refine z_gI C rfl rfl rfl T_r0 rfl (fun x31 ex31 => ?_)
          have gx31 := rg x31
          refine z_iconst C (z := 1) rfl rfl rfl (fun x32 ex32 => ?_)
          refine zt_iadd C rfl rfl (fun x33 => ?_)
          have gx33 := rg x33
          refine z_pI C rfl rfl rfl T_r0 (Or.inr rfl) rfl (fun I34 uI34 => ?_)
          have hI34 : IX A T I34 := IX.f hI27 T_r0 (boX.tr (by decide) (by decide)) uI34
          have S35 : Chg B T [(5, 4)] I27 L28 I34 L28 := Chg.f B_r0 T_r0 uI34
          have e36 := u2_e uI34
          refine k_aload_n C rfl rfl rfl ?_
          refine k_iload_n C rfl rfl rfl ?_
          refine c_VI C (s_X4_readPart_2 hS hI34 H_r0 (by omega) (by omega)) rfl rfl rfl rfl rfl ⟨_, rfl, rfl, T_r0, Nat.le_of_ble_eq_true rfl⟩ rfl rfl (Nat.le_of_ble_eq_true rfl) (Nat.le_of_ble_eq_true rfl) (Nat.le_of_ble_eq_true rfl) ?_
          rintro x37 I38 L39 ⟨o0x37, o1x37, hI38, S40⟩
          have gx37 := rg x37
          refine b_if_ne C (t := 57) rfl rfl rfl (fun c41 => ?_) (fun c41 => ?_)
          · skip
            refine k_aload_n C rfl rfl rfl ?_
            refine g_R C rfl rfl rfl T_r0 rfl R_r0_0 ?_
            refine z_iconst C (z := 3) rfl rfl rfl (fun x42 ex42 => ?_)
            refine z_iconst C (z := 0) rfl rfl rfl (fun x43 ex43 => ?_)
            obtain ⟨T_r0_0, A_r0_0, B_r0_0, ⟨r0_0_0, R_r0_0_0, H_r0_0_0⟩, ⟨r0_0_1, R_r0_0_1, H_r0_0_1⟩⟩ := id H_r0_0
            refine c_VV C (s_X7_put hS hI38 H_r0_0) rfl rfl rfl rfl rfl ⟨_, rfl, rfl, T_r0_0, Nat.le_of_ble_eq_true rfl⟩ rfl rfl (Nat.le_of_ble_eq_true rfl) (Nat.le_of_ble_eq_true rfl) (Nat.le_of_ble_eq_true rfl) ?_
            rintro I45 L46 ⟨hI45, S47⟩
            refine z_iinc C (z := 1) (lw := fun x48 => [(2, .int x48), (0, .ref r0), (1, .int n1)]) rfl rfl rfl (Nat.le_of_ble_eq_true rfl) rfl ⟨by omega, by omega⟩ (fun _ => rfl) (fun x48 ex48 => ?_)
            show V 69 [(2, .int x48), (0, .ref r0), (1, .int n1)] _ _ _ _
            refine k_goto C (pc2 := 12) rfl rfl ?_
            refine k_sub S [(0, .ref r0), (1, .int n1), (2, .int x48)] (List.forall_mem_cons.mpr ⟨List.mem_of_getElem? (i := 1) rfl, List.forall_mem_cons.mpr ⟨List.mem_of_getElem? (i := 2) rfl, List.forall_mem_cons.mpr ⟨List.mem_of_getElem? (i := 0) rfl, fun _ h => nomatch h⟩⟩⟩) ?_
            exact ihJ7 _ (MN.lt hmnn8 (by omega) (by omega)) I45 L46 x48 rfl hI45 (Chg.cons S14 (Chg.cons S22 (Chg.cons S29 (Chg.cons S35 (Chg.cons S40 (Chg.mono S47 (by decide)) (by decide)) (by decide)) (by decide)) (by decide)) (by decide)) (by omega) (by omega)
          refine z_iconst C (z := 0) rfl rfl rfl (fun x49 ex49 => ?_)
          exact k_iret C rfl (Or.inr ⟨rfl, z01 (by omega) (by omega)⟩) (Nat.le_of_ble_eq_true rfl) (Nat.le_of_ble_eq_true rfl) ⟨_, _, _, rfl, rfl, by omega, by omega, hI38, (Chg.cons S4 (Chg.cons S14 (Chg.cons S22 (Chg.cons S29 (Chg.cons S35 (Chg.mono S40 (by decide)) (by decide)) (by decide)) (by decide)) (by decide)) (by decide))⟩
        refine z_iconst C (z := 0) rfl rfl rfl (fun x50 ex50 => ?_)
        exact k_iret C rfl (Or.inr ⟨rfl, z01 (by omega) (by omega)⟩) (Nat.le_of_ble_eq_true rfl) (Nat.le_of_ble_eq_true rfl) ⟨_, _, _, rfl, rfl, by omega, by omega, hI27, (Chg.cons S4 (Chg.cons S14 (Chg.cons S22 (Chg.mono S29 (by decide)) (by decide)) (by decide)) (by decide))⟩
    refine k_istore_n C (lw := [(2, .int x6), (0, .ref r0), (1, .int n1)]) rfl rfl (Nat.le_of_ble_eq_true rfl) rfl ?_
    refine k_sub S [(0, .ref r0), (1, .int n1), (2, .int x6)] (List.forall_mem_cons.mpr ⟨List.mem_of_getElem? (i := 1) rfl, List.forall_mem_cons.mpr ⟨List.mem_of_getElem? (i := 2) rfl, List.forall_mem_cons.mpr ⟨List.mem_of_getElem? (i := 0) rfl, fun _ h => nomatch h⟩⟩⟩) ?_
    exact J7 _ I2 L3 x6 rfl hI2 Chg.rf (by omega) (by omega)
  refine z_iconst C (z := 0) rfl rfl rfl (fun x51 ex51 => ?_)
  exact k_iret C rfl (Or.inr ⟨rfl, z01 (by omega) (by omega)⟩) (Nat.le_of_ble_eq_true rfl) (Nat.le_of_ble_eq_true rfl) ⟨_, _, _, rfl, rfl, by omega, by omega, hI2, (Chg.mono S4 (by decide))⟩

theorem s_X4_readSum_2 {d : Nat} {T N : Nat → Nat} {I : IT} {L : LT} {R : RT} {A B : Nat → Prop} {r0 : Nat} {n1 : Int32} (hS : SUB B A) (hI : IX A T I) (H_r0 : (hs_Rd T N R A B) r0) (b0_n1 : 2 ≤ n1.toInt) (b1_n1 : n1.toInt ≤ 2) : Ex (d + 21) 73 [.ref r0, .int n1] (T, N, I, L, R) 0 0 (pI T N R (fun x9 I9 L9 => (0 ≤ x9.toInt) ∧ (x9.toInt ≤ 1) ∧ (IX A T I9 ∧ Chg B T [(5, 4), (5, 5), (8, 2)] I L I9 L9))) := by
  refine ⟨_, rfl, Nat.le_of_ble_eq_true rfl, fun V C S => ?_⟩
  show V 0 [(0, .ref r0), (1, .int n1)] [] (T, N, I, L, R) 0 0
  have gn1 := rg n1
  refine k_aload_n C rfl rfl rfl ?_
  refine k_iload_n C rfl rfl rfl ?_
  obtain ⟨T_r0, A_r0, B_r0, ⟨r0_0, R_r0_0, H_r0_0⟩, ⟨r0_2, R_r0_2, H_r0_2⟩⟩ := id H_r0
  refine c_VI C (s_X4_readProduct_2 hS hI H_r0 (by omega) (by omega)) rfl rfl rfl rfl rfl ⟨_, rfl, rfl, T_r0, Nat.le_of_ble_eq_true rfl⟩ rfl rfl (Nat.le_of_ble_eq_true rfl) (Nat.le_of_ble_eq_true rfl) (Nat.le_of_ble_eq_true rfl) ?_
  rintro x1 I2 L3 ⟨o0x1, o1x1, hI2, S4⟩
  have gx1 := rg x1
  refine b_if_ne C (t := 10) rfl rfl rfl (fun c5 => ?_) (fun c5 => ?_)
  · skip
    refine z_iconst C (z := 0) rfl rfl rfl (fun x6 ex6 => ?_)
    have J7 : ∀ (nn8 : Nat) (I9 : IT) (L10 : LT) (x11 : Int32), (MN (400 - x11.toInt) nn8) → (IX A T I9) → (Chg B T [(5, 4), (5, 5), (8, 2)] I2 L3 I9 L10) → (0 ≤ x11.toInt) → (x11.toInt ≤ 400) → V 12 [(0, .ref r0), (1, .int n1), (2, .int x11)] [] (T, N, I9, L10, R) 0 0 := by
      intro nn8
      induction nn8 using Nat.strongRecOn with
      | _ nn8 ihJ7 =>
        intro I9 L10 x11 hmnn8 hI15 S14 b12 b13
        have gx11 := rg x11
        refine k_iload_n C rfl rfl rfl ?_
        refine z_sipush C (z := 400) rfl rfl rfl (fun x16 ex16 => ?_)
        refine b_icmp_ge C (t := 72) rfl rfl rfl (fun c17 => ?_) (fun c17 => ?_)
        · skip
          refine z_iconst C (z := 1) rfl rfl rfl (fun x18 ex18 => ?_)
          exact k_iret C rfl (Or.inr ⟨rfl, z01 (by omega) (by omega)⟩) (Nat.le_of_ble_eq_true rfl) (Nat.le_of_ble_eq_true rfl) ⟨_, _, _, rfl, rfl, by omega, by omega, hI15, (Chg.cons S4 (Chg.mono S14 (by decide)) (by decide))⟩
        refine k_aload_n C rfl rfl rfl ?_
        refine c_VI C (s_X4_next hS hI15 H_r0) rfl rfl rfl rfl rfl ⟨_, rfl, rfl, T_r0, Nat.le_of_ble_eq_true rfl⟩ rfl rfl (Nat.le_of_ble_eq_true rfl) (Nat.le_of_ble_eq_true rfl) (Nat.le_of_ble_eq_true rfl) ?_
        rintro x19 I20 L21 ⟨hI20, S22⟩
        have gx19 := rg x19
        refine z_bipush C (z := 43) rfl rfl rfl (fun x23 ex23 => ?_)
        refine b_icmp_ne C (t := 72) rfl rfl rfl (fun c24 => ?_) (fun c24 => ?_)
        · skip
          refine z_iconst C (z := 1) rfl rfl rfl (fun x25 ex25 => ?_)
          exact k_iret C rfl (Or.inr ⟨rfl, z01 (by omega) (by omega)⟩) (Nat.le_of_ble_eq_true rfl) (Nat.le_of_ble_eq_true rfl) ⟨_, _, _, rfl, rfl, by omega, by omega, hI20, (Chg.cons S4 (Chg.cons S14 (Chg.mono S22 (by decide)) (by decide)) (by decide))⟩
        refine k_aload_n C rfl rfl rfl ?_
        refine c_VI C (s_X4_isThingMore hS hI20 H_r0) rfl rfl rfl rfl rfl ⟨_, rfl, rfl, T_r0, Nat.le_of_ble_eq_true rfl⟩ rfl rfl (Nat.le_of_ble_eq_true rfl) (Nat.le_of_ble_eq_true rfl) (Nat.le_of_ble_eq_true rfl) ?_
        rintro x26 I27 L28 ⟨o0x26, o1x26, hI27, S29⟩
        have gx26 := rg x26
        refine b_if_ne C (t := 37) rfl rfl rfl (fun c30 => ?_) (fun c30 => ?_)
        · skip
          refine k_aload_n C rfl rfl rfl ?_
          refine k_dup C rfl rfl rfl ?_
          refine z_gI C rfl rfl rfl T_r0 rfl (fun x31 ex31 => ?_)
          have gx31 := rg x31
          refine z_iconst C (z := 1) rfl rfl rfl (fun x32 ex32 => ?_)
          refine zt_iadd C rfl rfl (fun x33 => ?_)
          have gx33 := rg x33
          refine z_pI C rfl rfl rfl T_r0 (Or.inr rfl) rfl (fun I34 uI34 => ?_)
          have hI34 : IX A T I34 := IX.f hI27 T_r0 (boX.tr (by decide) (by decide)) uI34
          have S35 : Chg B T [(5, 4)] I27 L28 I34 L28 := Chg.f B_r0 T_r0 uI34
          have e36 := u2_e uI34
          refine k_aload_n C rfl rfl rfl ?_
          refine k_iload_n C rfl rfl rfl ?_
          refine c_VI C (s_X4_readProduct_2 hS hI34 H_r0 (by omega) (by omega)) rfl rfl rfl rfl rfl ⟨_, rfl, rfl, T_r0, Nat.le_of_ble_eq_true rfl⟩ rfl rfl (Nat.le_of_ble_eq_true rfl) (Nat.le_of_ble_eq_true rfl) (Nat.le_of_ble_eq_true rfl) ?_
          rintro x37 I38 L39 ⟨o0x37, o1x37, hI38, S40⟩
          have gx37 := rg x37
          refine b_if_ne C (t := 57) rfl rfl rfl (fun c41 => ?_) (fun c41 => ?_)
          · skip
            refine k_aload_n C rfl rfl rfl ?_
            refine g_R C rfl rfl rfl T_r0 rfl R_r0_0 ?_
            refine z_iconst C (z := 2) rfl rfl rfl (fun x42 ex42 => ?_)
            refine z_iconst C (z := 0) rfl rfl rfl (fun x43 ex43 => ?_)
            obtain ⟨T_r0_0, A_r0_0, B_r0_0, ⟨r0_0_0, R_r0_0_0, H_r0_0_0⟩, ⟨r0_0_1, R_r0_0_1, H_r0_0_1⟩⟩ := id H_r0_0
            refine c_VV C (s_X7_put hS hI38 H_r0_0) rfl rfl rfl rfl rfl ⟨_, rfl, rfl, T_r0_0, Nat.le_of_ble_eq_true rfl⟩ rfl rfl (Nat.le_of_ble_eq_true rfl) (Nat.le_of_ble_eq_true rfl) (Nat.le_of_ble_eq_true rfl) ?_
            rintro I45 L46 ⟨hI45, S47⟩
            refine z_iinc C (z := 1) (lw := fun x48 => [(2, .int x48), (0, .ref r0), (1, .int n1)]) rfl rfl rfl (Nat.le_of_ble_eq_true rfl) rfl ⟨by omega, by omega⟩ (fun _ => rfl) (fun x48 ex48 => ?_)
            show V 69 [(2, .int x48), (0, .ref r0), (1, .int n1)] _ _ _ _
            refine k_goto C (pc2 := 12) rfl rfl ?_
            refine k_sub S [(0, .ref r0), (1, .int n1), (2, .int x48)] (List.forall_mem_cons.mpr ⟨List.mem_of_getElem? (i := 1) rfl, List.forall_mem_cons.mpr ⟨List.mem_of_getElem? (i := 2) rfl, List.forall_mem_cons.mpr ⟨List.mem_of_getElem? (i := 0) rfl, fun _ h => nomatch h⟩⟩⟩) ?_
            exact ihJ7 _ (MN.lt hmnn8 (by omega) (by omega)) I45 L46 x48 rfl hI45 (Chg.cons S14 (Chg.cons S22 (Chg.cons S29 (Chg.cons S35 (Chg.cons S40 (Chg.mono S47 (by decide)) (by decide)) (by decide)) (by decide)) (by decide)) (by decide)) (by omega) (by omega)
          refine z_iconst C (z := 0) rfl rfl rfl (fun x49 ex49 => ?_)
          exact k_iret C rfl (Or.inr ⟨rfl, z01 (by omega) (by omega)⟩) (Nat.le_of_ble_eq_true rfl) (Nat.le_of_ble_eq_true rfl) ⟨_, _, _, rfl, rfl, by omega, by omega, hI38, (Chg.cons S4 (Chg.cons S14 (Chg.cons S22 (Chg.cons S29 (Chg.cons S35 (Chg.mono S40 (by decide)) (by decide)) (by decide)) (by decide)) (by decide)) (by decide))⟩
        refine z_iconst C (z := 0) rfl rfl rfl (fun x50 ex50 => ?_)
        exact k_iret C rfl (Or.inr ⟨rfl, z01 (by omega) (by omega)⟩) (Nat.le_of_ble_eq_true rfl) (Nat.le_of_ble_eq_true rfl) ⟨_, _, _, rfl, rfl, by omega, by omega, hI27, (Chg.cons S4 (Chg.cons S14 (Chg.cons S22 (Chg.mono S29 (by decide)) (by decide)) (by decide)) (by decide))⟩
    refine k_istore_n C (lw := [(2, .int x6), (0, .ref r0), (1, .int n1)]) rfl rfl (Nat.le_of_ble_eq_true rfl) rfl ?_
    refine k_sub S [(0, .ref r0), (1, .int n1), (2, .int x6)] (List.forall_mem_cons.mpr ⟨List.mem_of_getElem? (i := 1) rfl, List.forall_mem_cons.mpr ⟨List.mem_of_getElem? (i := 2) rfl, List.forall_mem_cons.mpr ⟨List.mem_of_getElem? (i := 0) rfl, fun _ h => nomatch h⟩⟩⟩) ?_
    exact J7 _ I2 L3 x6 rfl hI2 Chg.rf (by omega) (by omega)
  refine z_iconst C (z := 0) rfl rfl rfl (fun x51 ex51 => ?_)
  exact k_iret C rfl (Or.inr ⟨rfl, z01 (by omega) (by omega)⟩) (Nat.le_of_ble_eq_true rfl) (Nat.le_of_ble_eq_true rfl) ⟨_, _, _, rfl, rfl, by omega, by omega, hI2, (Chg.mono S4 (by decide))⟩

theorem s_X4_readOverlap_2 {d : Nat} {T N : Nat → Nat} {I : IT} {L : LT} {R : RT} {A B : Nat → Prop} {r0 : Nat} {n1 : Int32} (hS : SUB B A) (hI : IX A T I) (H_r0 : (hs_Rd T N R A B) r0) (b0_n1 : 2 ≤ n1.toInt) (b1_n1 : n1.toInt ≤ 2) : Ex (d + 22) 70 [.ref r0, .int n1] (T, N, I, L, R) 0 0 (pI T N R (fun x9 I9 L9 => (0 ≤ x9.toInt) ∧ (x9.toInt ≤ 1) ∧ (IX A T I9 ∧ Chg B T [(5, 4), (5, 5), (8, 2)] I L I9 L9))) := by
  refine ⟨_, rfl, Nat.le_of_ble_eq_true rfl, fun V C S => ?_⟩
  show V 0 [(0, .ref r0), (1, .int n1)] [] (T, N, I, L, R) 0 0
  have gn1 := rg n1
  refine k_aload_n C rfl rfl rfl ?_
  obtain ⟨T_r0, A_r0, B_r0, ⟨r0_0, R_r0_0, H_r0_0⟩, ⟨r0_2, R_r0_2, H_r0_2⟩⟩ := id H_r0
  refine c_VI C (s_X4_isThingMore hS hI H_r0) rfl rfl rfl rfl rfl ⟨_, rfl, rfl, T_r0, Nat.le_of_ble_eq_true rfl⟩ rfl rfl (Nat.le_of_ble_eq_true rfl) (Nat.le_of_ble_eq_true rfl) (Nat.le_of_ble_eq_true rfl) ?_
  rintro x1 I2 L3 ⟨o0x1, o1x1, hI2, S4⟩
  have gx1 := rg x1
  refine b_if_ne C (t := 9) rfl rfl rfl (fun c5 => ?_) (fun c5 => ?_)
  · skip
    refine k_aload_n C rfl rfl rfl ?_
    refine k_dup C rfl rfl rfl ?_
    refine z_gI C rfl rfl rfl T_r0 rfl (fun x6 ex6 => ?_)
    have gx6 := rg x6
    refine z_iconst C (z := 1) rfl rfl rfl (fun x7 ex7 => ?_)
    refine zt_iadd C rfl rfl (fun x8 => ?_)
    have gx8 := rg x8
    refine z_pI C rfl rfl rfl T_r0 (Or.inr rfl) rfl (fun I9 uI9 => ?_)
    have hI9 : IX A T I9 := IX.f hI2 T_r0 (boX.tr (by decide) (by decide)) uI9
    have S10 : Chg B T [(5, 4)] I2 L3 I9 L3 := Chg.f B_r0 T_r0 uI9
    have e11 := u2_e uI9
    refine k_aload_n C rfl rfl rfl ?_
    refine k_iload_n C rfl rfl rfl ?_
    refine c_VI C (s_X4_readSum_2 hS hI9 H_r0 (by omega) (by omega)) rfl rfl rfl rfl rfl ⟨_, rfl, rfl, T_r0, Nat.le_of_ble_eq_true rfl⟩ rfl rfl (Nat.le_of_ble_eq_true rfl) (Nat.le_of_ble_eq_true rfl) (Nat.le_of_ble_eq_true rfl) ?_
    rintro x12 I13 L14 ⟨o0x12, o1x12, hI13, S15⟩
    have gx12 := rg x12
    refine b_if_eq C (t := 53) rfl rfl rfl (fun c16 => ?_) (fun c16 => ?_)
    · skip
      refine z_iconst C (z := 0) rfl rfl rfl (fun x17 ex17 => ?_)
      exact k_iret C rfl (Or.inr ⟨rfl, z01 (by omega) (by omega)⟩) (Nat.le_of_ble_eq_true rfl) (Nat.le_of_ble_eq_true rfl) ⟨_, _, _, rfl, rfl, by omega, by omega, hI13, (Chg.cons S4 (Chg.cons S10 (Chg.mono S15 (by decide)) (by decide)) (by decide))⟩
    refine k_aload_n C rfl rfl rfl ?_
    refine z_bipush C (z := 44) rfl rfl rfl (fun x18 ex18 => ?_)
    refine c_VI C (s_X4_take hS hI13 H_r0) rfl rfl rfl rfl rfl ⟨_, rfl, rfl, T_r0, Nat.le_of_ble_eq_true rfl⟩ rfl rfl (Nat.le_of_ble_eq_true rfl) (Nat.le_of_ble_eq_true rfl) (Nat.le_of_ble_eq_true rfl) ?_
    rintro x19 I20 L21 ⟨o0x19, o1x19, hI20, S22⟩
    have gx19 := rg x19
    refine b_if_eq C (t := 53) rfl rfl rfl (fun c23 => ?_) (fun c23 => ?_)
    · skip
      refine z_iconst C (z := 0) rfl rfl rfl (fun x24 ex24 => ?_)
      exact k_iret C rfl (Or.inr ⟨rfl, z01 (by omega) (by omega)⟩) (Nat.le_of_ble_eq_true rfl) (Nat.le_of_ble_eq_true rfl) ⟨_, _, _, rfl, rfl, by omega, by omega, hI20, (Chg.cons S4 (Chg.cons S10 (Chg.cons S15 (Chg.mono S22 (by decide)) (by decide)) (by decide)) (by decide))⟩
    refine k_aload_n C rfl rfl rfl ?_
    refine k_iload_n C rfl rfl rfl ?_
    refine c_VI C (s_X4_readSum_2 hS hI20 H_r0 (by omega) (by omega)) rfl rfl rfl rfl rfl ⟨_, rfl, rfl, T_r0, Nat.le_of_ble_eq_true rfl⟩ rfl rfl (Nat.le_of_ble_eq_true rfl) (Nat.le_of_ble_eq_true rfl) (Nat.le_of_ble_eq_true rfl) ?_
    rintro x25 I26 L27 ⟨o0x25, o1x25, hI26, S28⟩
    have gx25 := rg x25
    refine b_if_eq C (t := 53) rfl rfl rfl (fun c29 => ?_) (fun c29 => ?_)
    · skip
      refine z_iconst C (z := 0) rfl rfl rfl (fun x30 ex30 => ?_)
      exact k_iret C rfl (Or.inr ⟨rfl, z01 (by omega) (by omega)⟩) (Nat.le_of_ble_eq_true rfl) (Nat.le_of_ble_eq_true rfl) ⟨_, _, _, rfl, rfl, by omega, by omega, hI26, (Chg.cons S4 (Chg.cons S10 (Chg.cons S15 (Chg.cons S22 (Chg.mono S28 (by decide)) (by decide)) (by decide)) (by decide)) (by decide))⟩
    refine k_aload_n C rfl rfl rfl ?_
    refine z_bipush C (z := 93) rfl rfl rfl (fun x31 ex31 => ?_)
    refine c_VI C (s_X4_take hS hI26 H_r0) rfl rfl rfl rfl rfl ⟨_, rfl, rfl, T_r0, Nat.le_of_ble_eq_true rfl⟩ rfl rfl (Nat.le_of_ble_eq_true rfl) (Nat.le_of_ble_eq_true rfl) (Nat.le_of_ble_eq_true rfl) ?_
    rintro x32 I33 L34 ⟨o0x32, o1x32, hI33, S35⟩
    have gx32 := rg x32
    refine b_if_ne C (t := 55) rfl rfl rfl (fun c36 => ?_) (fun c36 => ?_)
    · skip
      refine k_aload_n C rfl rfl rfl ?_
      refine c_VI C (s_X4_next hS hI33 H_r0) rfl rfl rfl rfl rfl ⟨_, rfl, rfl, T_r0, Nat.le_of_ble_eq_true rfl⟩ rfl rfl (Nat.le_of_ble_eq_true rfl) (Nat.le_of_ble_eq_true rfl) (Nat.le_of_ble_eq_true rfl) ?_
      rintro x37 I38 L39 ⟨hI38, S40⟩
      have gx37 := rg x37
      refine c_SI C (s_X4_isDigit hS hI38 ) rfl rfl rfl rfl rfl rfl rfl (Nat.le_of_ble_eq_true rfl) (Nat.le_of_ble_eq_true rfl) (Nat.le_of_ble_eq_true rfl) ?_
      rintro x41 _ _ ⟨o0x41, o1x41, rfl, rfl⟩
      have gx41 := rg x41
      refine b_if_eq C (t := 79) rfl rfl rfl (fun c42 => ?_) (fun c42 => ?_)
      · skip
        refine z_iconst C (z := 0) rfl rfl rfl (fun x43 ex43 => ?_)
        exact k_iret C rfl (Or.inr ⟨rfl, z01 (by omega) (by omega)⟩) (Nat.le_of_ble_eq_true rfl) (Nat.le_of_ble_eq_true rfl) ⟨_, _, _, rfl, rfl, by omega, by omega, hI38, (Chg.cons S4 (Chg.cons S10 (Chg.cons S15 (Chg.cons S22 (Chg.cons S28 (Chg.cons S35 (Chg.mono S40 (by decide)) (by decide)) (by decide)) (by decide)) (by decide)) (by decide)) (by decide))⟩
      refine k_aload_n C rfl rfl rfl ?_
      refine z_iconst C (z := 4) rfl rfl rfl (fun x44 ex44 => ?_)
      refine z_bipush C (z := 8) rfl rfl rfl (fun x45 ex45 => ?_)
      refine c_VI C (s_X4_readNumber hS hI38 H_r0) rfl rfl rfl rfl rfl ⟨_, rfl, rfl, T_r0, Nat.le_of_ble_eq_true rfl⟩ rfl rfl (Nat.le_of_ble_eq_true rfl) (Nat.le_of_ble_eq_true rfl) (Nat.le_of_ble_eq_true rfl) ?_
      rintro x46 I47 L48 ⟨o0x46, o1x46, hI47, S49⟩
      have gx46 := rg x46
      refine b_if_eq C (t := 79) rfl rfl rfl (fun c50 => ?_) (fun c50 => ?_)
      · skip
        refine z_iconst C (z := 0) rfl rfl rfl (fun x51 ex51 => ?_)
        exact k_iret C rfl (Or.inr ⟨rfl, z01 (by omega) (by omega)⟩) (Nat.le_of_ble_eq_true rfl) (Nat.le_of_ble_eq_true rfl) ⟨_, _, _, rfl, rfl, by omega, by omega, hI47, (Chg.cons S4 (Chg.cons S10 (Chg.cons S15 (Chg.cons S22 (Chg.cons S28 (Chg.cons S35 (Chg.cons S40 (Chg.mono S49 (by decide)) (by decide)) (by decide)) (by decide)) (by decide)) (by decide)) (by decide)) (by decide))⟩
      refine z_iconst C (z := 1) rfl rfl rfl (fun x52 ex52 => ?_)
      refine k_goto C (pc2 := 80) rfl rfl ?_
      exact k_iret C rfl (Or.inr ⟨rfl, z01 (by omega) (by omega)⟩) (Nat.le_of_ble_eq_true rfl) (Nat.le_of_ble_eq_true rfl) ⟨_, _, _, rfl, rfl, by omega, by omega, hI47, (Chg.cons S4 (Chg.cons S10 (Chg.cons S15 (Chg.cons S22 (Chg.cons S28 (Chg.cons S35 (Chg.cons S40 (Chg.mono S49 (by decide)) (by decide)) (by decide)) (by decide)) (by decide)) (by decide)) (by decide)) (by decide))⟩
    refine z_iconst C (z := 0) rfl rfl rfl (fun x53 ex53 => ?_)
    exact k_iret C rfl (Or.inr ⟨rfl, z01 (by omega) (by omega)⟩) (Nat.le_of_ble_eq_true rfl) (Nat.le_of_ble_eq_true rfl) ⟨_, _, _, rfl, rfl, by omega, by omega, hI33, (Chg.cons S4 (Chg.cons S10 (Chg.cons S15 (Chg.cons S22 (Chg.cons S28 (Chg.mono S35 (by decide)) (by decide)) (by decide)) (by decide)) (by decide)) (by decide))⟩
  refine z_iconst C (z := 0) rfl rfl rfl (fun x54 ex54 => ?_)
  exact k_iret C rfl (Or.inr ⟨rfl, z01 (by omega) (by omega)⟩) (Nat.le_of_ble_eq_true rfl) (Nat.le_of_ble_eq_true rfl) ⟨_, _, _, rfl, rfl, by omega, by omega, hI2, (Chg.mono S4 (by decide))⟩

