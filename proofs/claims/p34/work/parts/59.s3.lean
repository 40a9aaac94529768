/-! the class in any state, the states' forms kept -/
theorem s_X4_byteAt {d : Nat} {T N : Nat → Nat} {I : IT} {L : LT} {R : RT} {A B : Nat → Prop} {r0 : Nat} {n1 : Int32} (hS : SUB B A) (hI : IX A T I) (H_r0 : (hs_Rd T N R A B) r0) : Ex (d + 1) 61 [.ref r0, .int n1] (T, N, I, L, R) 0 0 (pI T N R (fun x9 I9 L9 => (I = I9 ∧ L = L9))) := by
  refine ⟨_, rfl, Nat.le_of_ble_eq_true rfl, fun V C S => ?_⟩
  show V 0 [(0, .ref r0), (1, .int n1)] [] (T, N, I, L, R) 0 0
  have gn1 := rg n1
  refine k_iload_n C rfl rfl rfl ?_
  refine b_if_lt C (t := 13) rfl rfl rfl (fun c1 => ?_) (fun c1 => ?_)
  · skip
    refine z_iconst C (z := 0) rfl rfl rfl (fun x2 ex2 => ?_)
    refine k_goto C (pc2 := 23) rfl rfl ?_
    exact k_iret C rfl (Or.inl rfl) (Nat.le_of_ble_eq_true rfl) (Nat.le_of_ble_eq_true rfl) ⟨_, _, _, rfl, rfl, rfl, rfl⟩
  refine k_iload_n C rfl rfl rfl ?_
  refine k_aload_n C rfl rfl rfl ?_
  obtain ⟨T_r0, A_r0, B_r0, ⟨r0_0, R_r0_0, H_r0_0⟩, ⟨r0_2, R_r0_2, H_r0_2⟩⟩ := id H_r0
  refine g_R C rfl rfl rfl T_r0 rfl R_r0_2 ?_
  obtain ⟨T_r0_2, N_r0_2, A_r0_2⟩ := id H_r0_2
  refine z_len C (n := 400) rfl rfl (by rw [T_r0_2]; exact Nat.le_of_ble_eq_true rfl) N_r0_2 (Nat.le_of_ble_eq_true rfl) (fun x3 ex3 => ?_)
  refine b_icmp_lt C (t := 17) rfl rfl rfl (fun c4 => ?_) (fun c4 => ?_)
  · skip
    refine k_aload_n C rfl rfl rfl ?_
    refine g_R C rfl rfl rfl T_r0 rfl R_r0_2 ?_
    refine k_iload_n C rfl rfl rfl ?_
    refine z_aI C rfl rfl T_r0_2 N_r0_2 (by omega) (by omega) (fun x5 ex5 => ?_)
    have gx5 := rg x5
    exact k_iret C rfl (Or.inl rfl) (Nat.le_of_ble_eq_true rfl) (Nat.le_of_ble_eq_true rfl) ⟨_, _, _, rfl, rfl, rfl, rfl⟩
  refine z_iconst C (z := 0) rfl rfl rfl (fun x6 ex6 => ?_)
  refine k_goto C (pc2 := 23) rfl rfl ?_
  exact k_iret C rfl (Or.inl rfl) (Nat.le_of_ble_eq_true rfl) (Nat.le_of_ble_eq_true rfl) ⟨_, _, _, rfl, rfl, rfl, rfl⟩

theorem s_X4_isThingMore {d : Nat} {T N : Nat → Nat} {I : IT} {L : LT} {R : RT} {A B : Nat → Prop} {r0 : Nat} (hS : SUB B A) (hI : IX A T I) (H_r0 : (hs_Rd T N R A B) r0) : Ex (d + 1) 62 [.ref r0] (T, N, I, L, R) 0 0 (pI T N R (fun x9 I9 L9 => (0 ≤ x9.toInt) ∧ (x9.toInt ≤ 1) ∧ (IX A T I9 ∧ Chg B T [(5, 5)] I L I9 L9))) := by
  refine ⟨_, rfl, Nat.le_of_ble_eq_true rfl, fun V C S => ?_⟩
  show V 0 [(0, .ref r0)] [] (T, N, I, L, R) 0 0
  refine k_aload_n C rfl rfl rfl ?_
  refine k_dup C rfl rfl rfl ?_
  obtain ⟨T_r0, A_r0, B_r0, ⟨r0_0, R_r0_0, H_r0_0⟩, ⟨r0_2, R_r0_2, H_r0_2⟩⟩ := id H_r0
  refine z_gI C rfl rfl rfl T_r0 rfl (fun x1 ex1 => ?_)
  have gx1 := rg x1
  refine z_iconst C (z := 1) rfl rfl rfl (fun x2 ex2 => ?_)
  refine zt_iadd C rfl rfl (fun x3 => ?_)
  have gx3 := rg x3
  refine z_pI C rfl rfl rfl T_r0 (Or.inr rfl) rfl (fun I4 uI4 => ?_)
  have hI4 : IX A T I4 := IX.f hI T_r0 (boX.tr (by decide) (by decide)) uI4
  have S5 : Chg B T [(5, 5)] I L I4 L := Chg.f B_r0 T_r0 uI4
  have e6 := u2_e uI4
  refine k_aload_n C rfl rfl rfl ?_
  refine g_I C rfl rfl rfl T_r0 rfl e6 ?_
  refine z_bipush C (z := 40) rfl rfl rfl (fun x7 ex7 => ?_)
  refine b_icmp_gt C (t := 23) rfl rfl rfl (fun c8 => ?_) (fun c8 => ?_)
  · skip
    refine z_iconst C (z := 0) rfl rfl rfl (fun x9 ex9 => ?_)
    exact k_iret C rfl (Or.inr ⟨rfl, z01 (by omega) (by omega)⟩) (Nat.le_of_ble_eq_true rfl) (Nat.le_of_ble_eq_true rfl) ⟨_, _, _, rfl, rfl, by omega, by omega, hI4, (Chg.mono S5 (by decide))⟩
  refine z_iconst C (z := 1) rfl rfl rfl (fun x10 ex10 => ?_)
  refine k_goto C (pc2 := 24) rfl rfl ?_
  exact k_iret C rfl (Or.inr ⟨rfl, z01 (by omega) (by omega)⟩) (Nat.le_of_ble_eq_true rfl) (Nat.le_of_ble_eq_true rfl) ⟨_, _, _, rfl, rfl, by omega, by omega, hI4, (Chg.mono S5 (by decide))⟩

theorem s_X4_next {d : Nat} {T N : Nat → Nat} {I : IT} {L : LT} {R : RT} {A B : Nat → Prop} {r0 : Nat} (hS : SUB B A) (hI : IX A T I) (H_r0 : (hs_Rd T N R A B) r0) : Ex (d + 2) 63 [.ref r0] (T, N, I, L, R) 0 0 (pI T N R (fun x9 I9 L9 => (IX A T I9 ∧ Chg B T [(5, 4)] I L I9 L9))) := by
  refine ⟨_, rfl, Nat.le_of_ble_eq_true rfl, fun V C S => ?_⟩
  show V 0 [(0, .ref r0)] [] (T, N, I, L, R) 0 0
  obtain ⟨T_r0, A_r0, B_r0, ⟨r0_0, R_r0_0, H_r0_0⟩, ⟨r0_2, R_r0_2, H_r0_2⟩⟩ := id H_r0
  obtain ⟨w_r0_4, k0_r0_4⟩ : ∃ x, I r0 4 = x := ⟨_, rfl⟩
  have gw_r0_4 := rg w_r0_4
  have J1 : ∀ (nn2 : Nat) (I3 : IT) (L4 : LT) (x7 : Int32), (MN (2147483647 - x7.toInt) nn2) → (IX A T I3) → (Chg B T [(5, 4)] I L I3 L4) → (I3 r0 4 = x7) → V 0 [(0, .ref r0)] [] (T, N, I3, L4, R) 0 0 := by
    intro nn2
    induction nn2 using Nat.strongRecOn with
    | _ nn2 ihJ1 =>
      intro I3 L4 x7 hmnn2 hI6 S5 e8
      have gx7 := rg x7
      refine k_aload_n C rfl rfl rfl ?_
      refine g_I C rfl rfl rfl T_r0 rfl e8 ?_
      refine k_aload_n C rfl rfl rfl ?_
      refine z_gI C rfl rfl rfl T_r0 rfl (fun x9 ex9 => ?_)
      have gx9 := rg x9
      refine b_icmp_ge C (t := 37) rfl rfl rfl (fun c10 => ?_) (fun c10 => ?_)
      · skip
        refine k_aload_n C rfl rfl rfl ?_
        refine g_I C rfl rfl rfl T_r0 rfl e8 ?_
        refine k_aload_n C rfl rfl rfl ?_
        refine g_I C rfl rfl rfl T_r0 rfl ex9 ?_
        refine b_icmp_ge C (t := 59) rfl rfl rfl (fun c11 => ?_) (fun c11 => ?_)
        · skip
          refine z_iconst C (z := -1) rfl rfl rfl (fun x12 ex12 => ?_)
          exact k_iret C rfl (Or.inl rfl) (Nat.le_of_ble_eq_true rfl) (Nat.le_of_ble_eq_true rfl) ⟨_, _, _, rfl, rfl, hI6, (Chg.mono S5 (by decide))⟩
        refine k_aload_n C rfl rfl rfl ?_
        refine k_aload_n C rfl rfl rfl ?_
        refine g_I C rfl rfl rfl T_r0 rfl e8 ?_
        refine c_VI C (s_X4_byteAt hS hI6 H_r0) rfl rfl rfl rfl rfl ⟨_, rfl, rfl, T_r0, Nat.le_of_ble_eq_true rfl⟩ rfl rfl (Nat.le_of_ble_eq_true rfl) (Nat.le_of_ble_eq_true rfl) (Nat.le_of_ble_eq_true rfl) ?_
        rintro x13 _ _ ⟨rfl, rfl⟩
        have gx13 := rg x13
        refine k_goto C (pc2 := 60) rfl rfl ?_
        exact k_iret C rfl (Or.inl rfl) (Nat.le_of_ble_eq_true rfl) (Nat.le_of_ble_eq_true rfl) ⟨_, _, _, rfl, rfl, hI6, (Chg.mono S5 (by decide))⟩
      refine k_aload_n C rfl rfl rfl ?_
      refine k_aload_n C rfl rfl rfl ?_
      refine g_I C rfl rfl rfl T_r0 rfl e8 ?_
      refine c_VI C (s_X4_byteAt hS hI6 H_r0) rfl rfl rfl rfl rfl ⟨_, rfl, rfl, T_r0, Nat.le_of_ble_eq_true rfl⟩ rfl rfl (Nat.le_of_ble_eq_true rfl) (Nat.le_of_ble_eq_true rfl) (Nat.le_of_ble_eq_true rfl) ?_
      rintro x14 _ _ ⟨rfl, rfl⟩
      have gx14 := rg x14
      refine z_bipush C (z := 32) rfl rfl rfl (fun x15 ex15 => ?_)
      refine b_icmp_ne C (t := 37) rfl rfl rfl (fun c16 => ?_) (fun c16 => ?_)
      · skip
        refine k_aload_n C rfl rfl rfl ?_
        refine g_I C rfl rfl rfl T_r0 rfl e8 ?_
        refine k_aload_n C rfl rfl rfl ?_
        refine g_I C rfl rfl rfl T_r0 rfl ex9 ?_
        refine b_icmp_ge C (t := 59) rfl rfl rfl (fun c17 => ?_) (fun c17 => ?_)
        · skip
          refine z_iconst C (z := -1) rfl rfl rfl (fun x18 ex18 => ?_)
          exact k_iret C rfl (Or.inl rfl) (Nat.le_of_ble_eq_true rfl) (Nat.le_of_ble_eq_true rfl) ⟨_, _, _, rfl, rfl, hI6, (Chg.mono S5 (by decide))⟩
        refine k_aload_n C rfl rfl rfl ?_
        refine k_aload_n C rfl rfl rfl ?_
        refine g_I C rfl rfl rfl T_r0 rfl e8 ?_
        refine c_VI C (s_X4_byteAt hS hI6 H_r0) rfl rfl rfl rfl rfl ⟨_, rfl, rfl, T_r0, Nat.le_of_ble_eq_true rfl⟩ rfl rfl (Nat.le_of_ble_eq_true rfl) (Nat.le_of_ble_eq_true rfl) (Nat.le_of_ble_eq_true rfl) ?_
        rintro x19 _ _ ⟨rfl, rfl⟩
        have gx19 := rg x19
        refine k_goto C (pc2 := 60) rfl rfl ?_
        exact k_iret C rfl (Or.inl rfl) (Nat.le_of_ble_eq_true rfl) (Nat.le_of_ble_eq_true rfl) ⟨_, _, _, rfl, rfl, hI6, (Chg.mono S5 (by decide))⟩
      refine k_aload_n C rfl rfl rfl ?_
      refine k_dup C rfl rfl rfl ?_
      refine g_I C rfl rfl rfl T_r0 rfl e8 ?_
      refine z_iconst C (z := 1) rfl rfl rfl (fun x20 ex20 => ?_)
      refine z_iadd C rfl rfl ⟨by omega, by omega⟩ (fun x21 ex21 => ?_)
      refine z_pI C rfl rfl rfl T_r0 (Or.inr rfl) rfl (fun I22 uI22 => ?_)
      have hI22 : IX A T I22 := IX.f hI6 T_r0 (boX.tr (by decide) (by decide)) uI22
      have S23 : Chg B T [(5, 4)] I3 L4 I22 L4 := Chg.f B_r0 T_r0 uI22
      have e24 := u2_j uI22 (by decide) ex9
      have e25 := u2_e uI22
      refine k_goto C (pc2 := 0) rfl rfl ?_
      refine k_sub S [(0, .ref r0)] (List.forall_mem_cons.mpr ⟨List.mem_of_getElem? (i := 0) rfl, fun _ h => nomatch h⟩) ?_
      exact ihJ1 _ (MN.lt hmnn2 (by omega) (by omega)) I22 L4 x21 rfl hI22 (Chg.cons S5 (Chg.mono S23 (by decide)) (by decide)) e25
  refine k_sub S [(0, .ref r0)] (List.forall_mem_cons.mpr ⟨List.mem_of_getElem? (i := 0) rfl, fun _ h => nomatch h⟩) ?_
  exact J1 _ I L w_r0_4 rfl hI Chg.rf k0_r0_4

theorem s_X4_take {d : Nat} {T N : Nat → Nat} {I : IT} {L : LT} {R : RT} {A B : Nat → Prop} {r0 : Nat} {n1 : Int32} (hS : SUB B A) (hI : IX A T I) (H_r0 : (hs_Rd T N R A B) r0) : Ex (d + 3) 64 [.ref r0, .int n1] (T, N, I, L, R) 0 0 (pI T N R (fun x9 I9 L9 => (0 ≤ x9.toInt) ∧ (x9.toInt ≤ 1) ∧ (IX A T I9 ∧ Chg B T [(5, 4)] I L I9 L9))) := by
  refine ⟨_, rfl, Nat.le_of_ble_eq_true rfl, fun V C S => ?_⟩
  show V 0 [(0, .ref r0), (1, .int n1)] [] (T, N, I, L, R) 0 0
  have gn1 := rg n1
  refine k_aload_n C rfl rfl rfl ?_
  obtain ⟨T_r0, A_r0, B_r0, ⟨r0_0, R_r0_0, H_r0_0⟩, ⟨r0_2, R_r0_2, H_r0_2⟩⟩ := id H_r0
  refine c_VI C (s_X4_next hS hI H_r0) rfl rfl rfl rfl rfl ⟨_, rfl, rfl, T_r0, Nat.le_of_ble_eq_true rfl⟩ rfl rfl (Nat.le_of_ble_eq_true rfl) (Nat.le_of_ble_eq_true rfl) (Nat.le_of_ble_eq_true rfl) ?_
  rintro x1 I2 L3 ⟨hI2, S4⟩
  have gx1 := rg x1
  refine k_iload_n C rfl rfl rfl ?_
  refine b_icmp_eq C (t := 10) rfl rfl rfl (fun c5 => ?_) (fun c5 => ?_)
  · skip
    refine k_aload_n C rfl rfl rfl ?_
    refine k_dup C rfl rfl rfl ?_
    refine z_gI C rfl rfl rfl T_r0 rfl (fun x6 ex6 => ?_)
    have gx6 := rg x6
    refine z_iconst C (z := 1) rfl rfl rfl (fun x7 ex7 => ?_)
    refine zt_iadd C rfl rfl (fun x8 => ?_)
    have gx8 := rg x8
    refine z_pI C rfl rfl rfl T_r0 (Or.inr rfl) rfl (fun I9 uI9 => ?_)
    have hI9 : IX A T I9 := IX.f hI2 T_r0 (boX.tr (by decide) (by decide)) uI9
    have S10 : Chg B T [(5, 4)] I2 L3 I9 L3 := Chg.f B_r0 T_r0 uI9
    have e11 := u2_e uI9
    refine z_iconst C (z := 1) rfl rfl rfl (fun x12 ex12 => ?_)
    exact k_iret C rfl (Or.inr ⟨rfl, z01 (by omega) (by omega)⟩) (Nat.le_of_ble_eq_true rfl) (Nat.le_of_ble_eq_true rfl) ⟨_, _, _, rfl, rfl, by omega, by omega, hI9, (Chg.cons S4 (Chg.mono S10 (by decide)) (by decide))⟩
  refine z_iconst C (z := 0) rfl rfl rfl (fun x13 ex13 => ?_)
  exact k_iret C rfl (Or.inr ⟨rfl, z01 (by omega) (by omega)⟩) (Nat.le_of_ble_eq_true rfl) (Nat.le_of_ble_eq_true rfl) ⟨_, _, _, rfl, rfl, by omega, by omega, hI2, (Chg.mono S4 (by decide))⟩

theorem s_X4_isDigit {d : Nat} {T N : Nat → Nat} {I : IT} {L : LT} {R : RT} {A B : Nat → Prop} {n0 : Int32} (hS : SUB B A) (hI : IX A T I)  : Ex (d + 1) 65 [.int n0] (T, N, I, L, R) 0 0 (pI T N R (fun x9 I9 L9 => (0 ≤ x9.toInt) ∧ (x9.toInt ≤ 1) ∧ (I = I9 ∧ L = L9))) := by
  refine ⟨_, rfl, Nat.le_of_ble_eq_true rfl, fun V C S => ?_⟩
  show V 0 [(0, .int n0)] [] (T, N, I, L, R) 0 0
  have gn0 := rg n0
  refine k_iload_n C rfl rfl rfl ?_
  refine z_bipush C (z := 48) rfl rfl rfl (fun x1 ex1 => ?_)
  refine b_icmp_lt C (t := 16) rfl rfl rfl (fun c2 => ?_) (fun c2 => ?_)
  · skip
    refine z_iconst C (z := 0) rfl rfl rfl (fun x3 ex3 => ?_)
    exact k_iret C rfl (Or.inr ⟨rfl, z01 (by omega) (by omega)⟩) (Nat.le_of_ble_eq_true rfl) (Nat.le_of_ble_eq_true rfl) ⟨_, _, _, rfl, rfl, by omega, by omega, rfl, rfl⟩
  refine k_iload_n C rfl rfl rfl ?_
  refine z_bipush C (z := 57) rfl rfl rfl (fun x4 ex4 => ?_)
  refine b_icmp_gt C (t := 16) rfl rfl rfl (fun c5 => ?_) (fun c5 => ?_)
  · skip
    refine z_iconst C (z := 0) rfl rfl rfl (fun x6 ex6 => ?_)
    exact k_iret C rfl (Or.inr ⟨rfl, z01 (by omega) (by omega)⟩) (Nat.le_of_ble_eq_true rfl) (Nat.le_of_ble_eq_true rfl) ⟨_, _, _, rfl, rfl, by omega, by omega, rfl, rfl⟩
  refine z_iconst C (z := 1) rfl rfl rfl (fun x7 ex7 => ?_)
  refine k_goto C (pc2 := 17) rfl rfl ?_
  exact k_iret C rfl (Or.inr ⟨rfl, z01 (by omega) (by omega)⟩) (Nat.le_of_ble_eq_true rfl) (Nat.le_of_ble_eq_true rfl) ⟨_, _, _, rfl, rfl, by omega, by omega, rfl, rfl⟩

theorem s_X7_put {d : Nat} {T N : Nat → Nat} {I : IT} {L : LT} {R : RT} {A B : Nat → Prop} {r0 : Nat} {n1 n2 : Int32} (hS : SUB B A) (hI : IX A T I) (H_r0 : (hs_Su T N R A B) r0) : Ex (d + 1) 66 [.ref r0, .int n1, .int n2] (T, N, I, L, R) 0 0 (pV T N R (fun I9 L9 => (IX A T I9 ∧ Chg B T [(8, 2)] I L I9 L9))) := by
  refine ⟨_, rfl, Nat.le_of_ble_eq_true rfl, fun V C S => ?_⟩
  show V 0 [(0, .ref r0), (1, .int n1), (2, .int n2)] [] (T, N, I, L, R) 0 0
  have gn1 := rg n1
  have gn2 := rg n2
  refine k_aload_n C rfl rfl rfl ?_
  obtain ⟨T_r0, A_r0, B_r0, ⟨r0_0, R_r0_0, H_r0_0⟩, ⟨r0_1, R_r0_1, H_r0_1⟩⟩ := id H_r0
  refine z_gI C rfl rfl rfl T_r0 rfl (fun x1 ex1 => ?_)
  have gx1 := rg x1
  refine b_if_lt C (t := 61) rfl rfl rfl (fun c2 => ?_) (fun c2 => ?_)
  · skip
    exact k_vret C rfl rfl (Nat.le_of_ble_eq_true rfl) (Nat.le_of_ble_eq_true rfl) ⟨_, _, rfl, rfl, hI, Chg.rf⟩
  refine k_aload_n C rfl rfl rfl ?_
  refine g_I C rfl rfl rfl T_r0 rfl ex1 ?_
  refine k_aload_n C rfl rfl rfl ?_
  refine g_R C rfl rfl rfl T_r0 rfl R_r0_0 ?_
  obtain ⟨T_r0_0, N_r0_0, A_r0_0⟩ := id H_r0_0
  refine z_len C (n := 160) rfl rfl (by rw [T_r0_0]; exact Nat.le_of_ble_eq_true rfl) N_r0_0 (Nat.le_of_ble_eq_true rfl) (fun x3 ex3 => ?_)
  refine b_icmp_ge C (t := 61) rfl rfl rfl (fun c4 => ?_) (fun c4 => ?_)
  · skip
    exact k_vret C rfl rfl (Nat.le_of_ble_eq_true rfl) (Nat.le_of_ble_eq_true rfl) ⟨_, _, rfl, rfl, hI, Chg.rf⟩
  refine k_aload_n C rfl rfl rfl ?_
  refine g_I C rfl rfl rfl T_r0 rfl ex1 ?_
  refine k_aload_n C rfl rfl rfl ?_
  refine g_R C rfl rfl rfl T_r0 rfl R_r0_1 ?_
  obtain ⟨T_r0_1, N_r0_1, A_r0_1⟩ := id H_r0_1
  refine z_len C (n := 160) rfl rfl (by rw [T_r0_1]; exact Nat.le_of_ble_eq_true rfl) N_r0_1 (Nat.le_of_ble_eq_true rfl) (fun x5 ex5 => ?_)
  refine b_icmp_ge C (t := 61) rfl rfl rfl (fun c6 => by exfalso; omega) (fun c6 => ?_)
  refine k_aload_n C rfl rfl rfl ?_
  refine g_R C rfl rfl rfl T_r0 rfl R_r0_0 ?_
  refine k_aload_n C rfl rfl rfl ?_
  refine g_I C rfl rfl rfl T_r0 rfl ex1 ?_
  refine k_iload_n C rfl rfl rfl ?_
  refine z_sI C rfl rfl T_r0_0 N_r0_0 (by omega) (by omega) (fun I7 uI7 => ?_)
  have hI7 : IX A T I7 := IX.a hI T_r0_0 (Nat.le_of_ble_eq_true rfl) uI7
  have S8 : Chg B T [] I L I7 L := Chg.a A_r0_0 T_r0_0 (Nat.le_of_ble_eq_true rfl) uI7
  have e9 := u2_n uI7 (t_nq T_r0 T_r0_0 (by decide)) ex1
  refine k_aload_n C rfl rfl rfl ?_
  refine g_R C rfl rfl rfl T_r0 rfl R_r0_1 ?_
  refine k_aload_n C rfl rfl rfl ?_
  refine g_I C rfl rfl rfl T_r0 rfl e9 ?_
  refine k_iload_n C rfl rfl rfl ?_
  refine z_sI C rfl rfl T_r0_1 N_r0_1 (by omega) (by omega) (fun I10 uI10 => ?_)
  have hI10 : IX A T I10 := IX.a hI7 T_r0_1 (Nat.le_of_ble_eq_true rfl) uI10
  have S11 : Chg B T [] I7 L I10 L := Chg.a A_r0_1 T_r0_1 (Nat.le_of_ble_eq_true rfl) uI10
  have e12 := u2_n uI10 (t_nq T_r0 T_r0_1 (by decide)) e9
  refine k_aload_n C rfl rfl rfl ?_
  refine k_dup C rfl rfl rfl ?_
  refine g_I C rfl rfl rfl T_r0 rfl e12 ?_
  refine z_iconst C (z := 1) rfl rfl rfl (fun x13 ex13 => ?_)
  refine z_iadd C rfl rfl ⟨by omega, by omega⟩ (fun x14 ex14 => ?_)
  refine z_pI C rfl rfl rfl T_r0 (Or.inr rfl) rfl (fun I15 uI15 => ?_)
  have hI15 : IX A T I15 := IX.f hI10 T_r0 (boX.tr (by decide) (by decide)) uI15
  have S16 : Chg B T [(8, 2)] I10 L I15 L := Chg.f B_r0 T_r0 uI15
  have e17 := u2_e uI15
  exact k_vret C rfl rfl (Nat.le_of_ble_eq_true rfl) (Nat.le_of_ble_eq_true rfl) ⟨_, _, rfl, rfl, hI15, (Chg.cons S8 (Chg.cons S11 (Chg.mono S16 (by decide)) (by decide)) (by decide))⟩

theorem s_X4_readNumber {d : Nat} {T N : Nat → Nat} {I : IT} {L : LT} {R : RT} {A B : Nat → Prop} {r0 : Nat} {n1 n2 : Int32} (hS : SUB B A) (hI : IX A T I) (H_r0 : (hs_Rd T N R A B) r0) : Ex (d + 2) 67 [.ref r0, .int n1, .int n2] (T, N, I, L, R) 0 0 (pI T N R (fun x9 I9 L9 => (0 ≤ x9.toInt) ∧ (x9.toInt ≤ 1) ∧ (IX A T I9 ∧ Chg B T [(5, 4), (8, 2)] I L I9 L9))) := by
  refine ⟨_, rfl, Nat.le_of_ble_eq_true rfl, fun V C S => ?_⟩
  show V 0 [(0, .ref r0), (1, .int n1), (2, .int n2)] [] (T, N, I, L, R) 0 0
  have gn1 := rg n1
  have gn2 := rg n2
  refine z_iconst C (z := 0) rfl rfl rfl (fun x1 ex1 => ?_)
  refine k_istore_n C (lw := [(3, .int x1), (0, .ref r0), (1, .int n1), (2, .int n2)]) rfl rfl (Nat.le_of_ble_eq_true rfl) rfl ?_
  refine z_iconst C (z := 0) rfl rfl rfl (fun x2 ex2 => ?_)
  have J3 : ∀ (nn4 : Nat) (x5 : Int32) (x6 : Int32), (MN (4 - x6.toInt) nn4) → (0 ≤ x6.toInt) → (x6.toInt ≤ 4) → V 5 [(0, .ref r0), (1, .int n1), (2, .int n2), (3, .int x5), (4, .int x6)] [] (T, N, I, L, R) 0 0 := by
    intro nn4
    induction nn4 using Nat.strongRecOn with
    | _ nn4 ihJ3 =>
      intro x5 x6 hmnn4 b7 b8
      have gx5 := rg x5
      have gx6 := rg x6
      refine k_aload_n C rfl rfl rfl ?_
      obtain ⟨T_r0, A_r0, B_r0, ⟨r0_0, R_r0_0, H_r0_0⟩, ⟨r0_2, R_r0_2, H_r0_2⟩⟩ := id H_r0
      refine z_gI C rfl rfl rfl T_r0 rfl (fun x9 ex9 => ?_)
      have gx9 := rg x9
      refine k_iload C rfl rfl rfl ?_
      refine zt_iadd C rfl rfl (fun x10 => ?_)
      have gx10 := rg x10
      refine k_aload_n C rfl rfl rfl ?_
      refine z_gI C rfl rfl rfl T_r0 rfl (fun x11 ex11 => ?_)
      have gx11 := rg x11
      have J12 : V 68 [(0, .ref r0), (1, .int n1), (2, .int n2), (3, .int x5), (4, .int x6)] [] (T, N, I, L, R) 0 0 := by
        refine k_iload C rfl rfl rfl ?_
        refine z_iconst C (z := 3) rfl rfl rfl (fun x14 ex14 => ?_)
        refine b_icmp_gt C (t := 79) rfl rfl rfl (fun c15 => ?_) (fun c15 => ?_)
        · skip
          refine z_iconst C (z := 0) rfl rfl rfl (fun x16 ex16 => ?_)
          exact k_iret C rfl (Or.inr ⟨rfl, z01 (by omega) (by omega)⟩) (Nat.le_of_ble_eq_true rfl) (Nat.le_of_ble_eq_true rfl) ⟨_, _, _, rfl, rfl, by omega, by omega, hI, Chg.rf⟩
        refine k_iload_n C rfl rfl rfl ?_
        refine k_iload_n C rfl rfl rfl ?_
        refine b_icmp_le C (t := 81) rfl rfl rfl (fun c17 => ?_) (fun c17 => ?_)
        · skip
          refine k_aload_n C rfl rfl rfl ?_
          refine k_dup C rfl rfl rfl ?_
          refine g_I C rfl rfl rfl T_r0 rfl ex9 ?_
          refine k_iload C rfl rfl rfl ?_
          refine zt_iadd C rfl rfl (fun x18 => ?_)
          have gx18 := rg x18
          refine z_pI C rfl rfl rfl T_r0 (Or.inr rfl) rfl (fun I19 uI19 => ?_)
          have hI19 : IX A T I19 := IX.f hI T_r0 (boX.tr (by decide) (by decide)) uI19
          have S20 : Chg B T [(5, 4)] I L I19 L := Chg.f B_r0 T_r0 uI19
          have e21 := u2_j uI19 (by decide) ex11
          have e22 := u2_e uI19
          refine k_aload_n C rfl rfl rfl ?_
          refine g_R C rfl rfl rfl T_r0 rfl R_r0_0 ?_
          refine k_iload_n C rfl rfl rfl ?_
          refine k_iload_n C rfl rfl rfl ?_
          obtain ⟨T_r0_0, A_r0_0, B_r0_0, ⟨r0_0_0, R_r0_0_0, H_r0_0_0⟩, ⟨r0_0_1, R_r0_0_1, H_r0_0_1⟩⟩ := id H_r0_0
          refine c_VV C (s_X7_put hS hI19 H_r0_0) rfl rfl rfl rfl rfl ⟨_, rfl, rfl, T_r0_0, Nat.le_of_ble_eq_true rfl⟩ rfl rfl (Nat.le_of_ble_eq_true rfl) (Nat.le_of_ble_eq_true rfl) (Nat.le_of_ble_eq_true rfl) ?_
          rintro I24 L25 ⟨hI24, S26⟩
          have e27 := Chg.k S26 T_r0 (by decide) (by decide) e21
          have e28 := Chg.k S26 T_r0 (by decide) (by decide) e22
          refine z_iconst C (z := 1) rfl rfl rfl (fun x29 ex29 => ?_)
          exact k_iret C rfl (Or.inr ⟨rfl, z01 (by omega) (by omega)⟩) (Nat.le_of_ble_eq_true rfl) (Nat.le_of_ble_eq_true rfl) ⟨_, _, _, rfl, rfl, by omega, by omega, hI24, (Chg.cons S20 (Chg.mono S26 (by decide)) (by decide))⟩
        refine z_iconst C (z := 0) rfl rfl rfl (fun x30 ex30 => ?_)
        exact k_iret C rfl (Or.inr ⟨rfl, z01 (by omega) (by omega)⟩) (Nat.le_of_ble_eq_true rfl) (Nat.le_of_ble_eq_true rfl) ⟨_, _, _, rfl, rfl, by omega, by omega, hI, Chg.rf⟩
      refine b_icmp_ge C (t := 68) rfl rfl rfl (fun c31 => ?_) (fun c31 => ?_)
      · skip
        refine k_sub S [(0, .ref r0), (1, .int n1), (2, .int n2), (3, .int x5), (4, .int x6)] (List.forall_mem_cons.mpr ⟨List.mem_of_getElem? (i := 0) rfl, List.forall_mem_cons.mpr ⟨List.mem_of_getElem? (i := 1) rfl, List.forall_mem_cons.mpr ⟨List.mem_of_getElem? (i := 2) rfl, List.forall_mem_cons.mpr ⟨List.mem_of_getElem? (i := 3) rfl, List.forall_mem_cons.mpr ⟨List.mem_of_getElem? (i := 4) rfl, fun _ h => nomatch h⟩⟩⟩⟩⟩) ?_
        exact J12 
      refine k_iload C rfl rfl rfl ?_
      refine z_iconst C (z := 3) rfl rfl rfl (fun x32 ex32 => ?_)
      refine b_icmp_gt C (t := 68) rfl rfl rfl (fun c33 => ?_) (fun c33 => ?_)
      · skip
        refine k_sub S [(0, .ref r0), (1, .int n1), (2, .int n2), (3, .int x5), (4, .int x6)] (List.forall_mem_cons.mpr ⟨List.mem_of_getElem? (i := 0) rfl, List.forall_mem_cons.mpr ⟨List.mem_of_getElem? (i := 1) rfl, List.forall_mem_cons.mpr ⟨List.mem_of_getElem? (i := 2) rfl, List.forall_mem_cons.mpr ⟨List.mem_of_getElem? (i := 3) rfl, List.forall_mem_cons.mpr ⟨List.mem_of_getElem? (i := 4) rfl, fun _ h => nomatch h⟩⟩⟩⟩⟩) ?_
        exact J12 
      refine k_aload_n C rfl rfl rfl ?_
      refine k_aload_n C rfl rfl rfl ?_
      refine g_I C rfl rfl rfl T_r0 rfl ex9 ?_
      refine k_iload C rfl rfl rfl ?_
      refine zt_iadd C rfl rfl (fun x34 => ?_)
      have gx34 := rg x34
      refine c_VI C (s_X4_byteAt hS hI H_r0) rfl rfl rfl rfl rfl ⟨_, rfl, rfl, T_r0, Nat.le_of_ble_eq_true rfl⟩ rfl rfl (Nat.le_of_ble_eq_true rfl) (Nat.le_of_ble_eq_true rfl) (Nat.le_of_ble_eq_true rfl) ?_
      rintro x35 _ _ ⟨rfl, rfl⟩
      have gx35 := rg x35
      refine c_SI C (s_X4_isDigit hS hI ) rfl rfl rfl rfl rfl rfl rfl (Nat.le_of_ble_eq_true rfl) (Nat.le_of_ble_eq_true rfl) (Nat.le_of_ble_eq_true rfl) ?_
      rintro x36 _ _ ⟨o0x36, o1x36, rfl, rfl⟩
      have gx36 := rg x36
      refine b_if_eq C (t := 68) rfl rfl rfl (fun c37 => ?_) (fun c37 => ?_)
      · skip
        refine k_sub S [(0, .ref r0), (1, .int n1), (2, .int n2), (3, .int x5), (4, .int x6)] (List.forall_mem_cons.mpr ⟨List.mem_of_getElem? (i := 0) rfl, List.forall_mem_cons.mpr ⟨List.mem_of_getElem? (i := 1) rfl, List.forall_mem_cons.mpr ⟨List.mem_of_getElem? (i := 2) rfl, List.forall_mem_cons.mpr ⟨List.mem_of_getElem? (i := 3) rfl, List.forall_mem_cons.mpr ⟨List.mem_of_getElem? (i := 4) rfl, fun _ h => nomatch h⟩⟩⟩⟩⟩) ?_
        exact J12 
      refine z_bipush C (z := 10) rfl rfl rfl (fun x38 ex38 => ?_)
      refine k_iload_n C rfl rfl rfl ?_
      refine zt_imul C rfl rfl (fun x39 => ?_)
      have gx39 := rg x39
      refine k_aload_n C rfl rfl rfl ?_
      refine k_aload_n C rfl rfl rfl ?_
      refine g_I C rfl rfl rfl T_r0 rfl ex9 ?_
      refine k_iload C rfl rfl rfl ?_
      refine zt_iadd C rfl rfl (fun x40 => ?_)
      have gx40 := rg x40
      refine c_VI C (s_X4_byteAt hS hI H_r0) rfl rfl rfl rfl rfl ⟨_, rfl, rfl, T_r0, Nat.le_of_ble_eq_true rfl⟩ rfl rfl (Nat.le_of_ble_eq_true rfl) (Nat.le_of_ble_eq_true rfl) (Nat.le_of_ble_eq_true rfl) ?_
      rintro x41 _ _ ⟨rfl, rfl⟩
      have gx41 := rg x41
      refine zt_iadd C rfl rfl (fun x42 => ?_)
      have gx42 := rg x42
      refine z_bipush C (z := 48) rfl rfl rfl (fun x43 ex43 => ?_)
      refine zt_isub C rfl rfl (fun x44 => ?_)
      have gx44 := rg x44
      refine k_istore_n C (lw := [(3, .int x44), (0, .ref r0), (1, .int n1), (2, .int n2), (4, .int x6)]) rfl rfl (Nat.le_of_ble_eq_true rfl) rfl ?_
      refine z_iinc C (z := 1) (lw := fun x45 => [(4, .int x45), (3, .int x44), (0, .ref r0), (1, .int n1), (2, .int n2)]) rfl rfl rfl (Nat.le_of_ble_eq_true rfl) rfl ⟨by omega, by omega⟩ (fun _ => rfl) (fun x45 ex45 => ?_)
      show V 65 [(4, .int x45), (3, .int x44), (0, .ref r0), (1, .int n1), (2, .int n2)] _ _ _ _
      refine k_goto C (pc2 := 5) rfl rfl ?_
      refine k_sub S [(0, .ref r0), (1, .int n1), (2, .int n2), (3, .int x44), (4, .int x45)] (List.forall_mem_cons.mpr ⟨List.mem_of_getElem? (i := 2) rfl, List.forall_mem_cons.mpr ⟨List.mem_of_getElem? (i := 3) rfl, List.forall_mem_cons.mpr ⟨List.mem_of_getElem? (i := 4) rfl, List.forall_mem_cons.mpr ⟨List.mem_of_getElem? (i := 1) rfl, List.forall_mem_cons.mpr ⟨List.mem_of_getElem? (i := 0) rfl, fun _ h => nomatch h⟩⟩⟩⟩⟩) ?_
      exact ihJ3 _ (MN.lt hmnn4 (by omega) (by omega)) x44 x45 rfl (by omega) (by omega)
  refine k_istore C (lw := [(4, .int x2), (3, .int x1), (0, .ref r0), (1, .int n1), (2, .int n2)]) rfl rfl (Nat.le_of_ble_eq_true rfl) rfl ?_
  refine k_sub S [(0, .ref r0), (1, .int n1), (2, .int n2), (3, .int x1), (4, .int x2)] (List.forall_mem_cons.mpr ⟨List.mem_of_getElem? (i := 2) rfl, List.forall_mem_cons.mpr ⟨List.mem_of_getElem? (i := 3) rfl, List.forall_mem_cons.mpr ⟨List.mem_of_getElem? (i := 4) rfl, List.forall_mem_cons.mpr ⟨List.mem_of_getElem? (i := 1) rfl, List.forall_mem_cons.mpr ⟨List.mem_of_getElem? (i := 0) rfl, fun _ h => nomatch h⟩⟩⟩⟩⟩) ?_
  exact J3 _ x1 x2 rfl (by omega) (by omega)

theorem s_X4_isLetter {d : Nat} {T N : Nat → Nat} {I : IT} {L : LT} {R : RT} {A B : Nat → Prop} {n0 : Int32} (hS : SUB B A) (hI : IX A T I)  : Ex (d + 1) 68 [.int n0] (T, N, I, L, R) 0 0 (pI T N R (fun x9 I9 L9 => (0 ≤ x9.toInt) ∧ (x9.toInt ≤ 1) ∧ (I = I9 ∧ L = L9))) := by
  refine ⟨_, rfl, Nat.le_of_ble_eq_true rfl, fun V C S => ?_⟩
  show V 0 [(0, .int n0)] [] (T, N, I, L, R) 0 0
  have gn0 := rg n0
  refine k_iload_n C rfl rfl rfl ?_
  refine z_bipush C (z := 97) rfl rfl rfl (fun x1 ex1 => ?_)
  refine b_icmp_lt C (t := 12) rfl rfl rfl (fun c2 => ?_) (fun c2 => ?_)
  · skip
    refine k_iload_n C rfl rfl rfl ?_
    refine z_bipush C (z := 65) rfl rfl rfl (fun x3 ex3 => ?_)
    refine b_icmp_lt C (t := 28) rfl rfl rfl (fun c4 => ?_) (fun c4 => ?_)
    · skip
      refine z_iconst C (z := 0) rfl rfl rfl (fun x5 ex5 => ?_)
      exact k_iret C rfl (Or.inr ⟨rfl, z01 (by omega) (by omega)⟩) (Nat.le_of_ble_eq_true rfl) (Nat.le_of_ble_eq_true rfl) ⟨_, _, _, rfl, rfl, by omega, by omega, rfl, rfl⟩
    refine k_iload_n C rfl rfl rfl ?_
    refine z_bipush C (z := 90) rfl rfl rfl (fun x6 ex6 => ?_)
    refine b_icmp_gt C (t := 28) rfl rfl rfl (fun c7 => ?_) (fun c7 => ?_)
    · skip
      refine z_iconst C (z := 0) rfl rfl rfl (fun x8 ex8 => ?_)
      exact k_iret C rfl (Or.inr ⟨rfl, z01 (by omega) (by omega)⟩) (Nat.le_of_ble_eq_true rfl) (Nat.le_of_ble_eq_true rfl) ⟨_, _, _, rfl, rfl, by omega, by omega, rfl, rfl⟩
    refine z_iconst C (z := 1) rfl rfl rfl (fun x9 ex9 => ?_)
    refine k_goto C (pc2 := 29) rfl rfl ?_
    exact k_iret C rfl (Or.inr ⟨rfl, z01 (by omega) (by omega)⟩) (Nat.le_of_ble_eq_true rfl) (Nat.le_of_ble_eq_true rfl) ⟨_, _, _, rfl, rfl, by omega, by omega, rfl, rfl⟩
  refine k_iload_n C rfl rfl rfl ?_
  refine z_bipush C (z := 122) rfl rfl rfl (fun x10 ex10 => ?_)
  refine b_icmp_le C (t := 24) rfl rfl rfl (fun c11 => ?_) (fun c11 => ?_)
  · skip
    refine z_iconst C (z := 1) rfl rfl rfl (fun x12 ex12 => ?_)
    refine k_goto C (pc2 := 29) rfl rfl ?_
    exact k_iret C rfl (Or.inr ⟨rfl, z01 (by omega) (by omega)⟩) (Nat.le_of_ble_eq_true rfl) (Nat.le_of_ble_eq_true rfl) ⟨_, _, _, rfl, rfl, by omega, by omega, rfl, rfl⟩
  refine k_iload_n C rfl rfl rfl ?_
  refine z_bipush C (z := 65) rfl rfl rfl (fun x13 ex13 => ?_)
  refine b_icmp_lt C (t := 28) rfl rfl rfl (fun c14 => by exfalso; omega) (fun c14 => ?_)
  refine k_iload_n C rfl rfl rfl ?_
  refine z_bipush C (z := 90) rfl rfl rfl (fun x15 ex15 => ?_)
  refine b_icmp_gt C (t := 28) rfl rfl rfl (fun c16 => ?_) (fun c16 => by exfalso; omega)
  refine z_iconst C (z := 0) rfl rfl rfl (fun x17 ex17 => ?_)
  exact k_iret C rfl (Or.inr ⟨rfl, z01 (by omega) (by omega)⟩) (Nat.le_of_ble_eq_true rfl) (Nat.le_of_ble_eq_true rfl) ⟨_, _, _, rfl, rfl, by omega, by omega, rfl, rfl⟩

theorem s_X4_readLetter {d : Nat} {T N : Nat → Nat} {I : IT} {L : LT} {R : RT} {A B : Nat → Prop} {r0 : Nat} (hS : SUB B A) (hI : IX A T I) (H_r0 : (hs_Rd T N R A B) r0) : Ex (d + 2) 69 [.ref r0] (T, N, I, L, R) 0 0 (pI T N R (fun x9 I9 L9 => (0 ≤ x9.toInt) ∧ (x9.toInt ≤ 1) ∧ (IX A T I9 ∧ Chg B T [(5, 4), (5, 5), (8, 2)] I L I9 L9))) := by
  refine ⟨_, rfl, Nat.le_of_ble_eq_true rfl, fun V C S => ?_⟩
  show V 0 [(0, .ref r0)] [] (T, N, I, L, R) 0 0
  refine k_aload_n C rfl rfl rfl ?_
  obtain ⟨T_r0, A_r0, B_r0, ⟨r0_0, R_r0_0, H_r0_0⟩, ⟨r0_2, R_r0_2, H_r0_2⟩⟩ := id H_r0
  refine c_VI C (s_X4_isThingMore hS hI H_r0) rfl rfl rfl rfl rfl ⟨_, rfl, rfl, T_r0, Nat.le_of_ble_eq_true rfl⟩ rfl rfl (Nat.le_of_ble_eq_true rfl) (Nat.le_of_ble_eq_true rfl) (Nat.le_of_ble_eq_true rfl) ?_
  rintro x1 I2 L3 ⟨o0x1, o1x1, hI2, S4⟩
  have gx1 := rg x1
  refine b_if_eq C (t := 36) rfl rfl rfl (fun c5 => ?_) (fun c5 => ?_)
  · skip
    refine z_iconst C (z := 0) rfl rfl rfl (fun x6 ex6 => ?_)
    exact k_iret C rfl (Or.inr ⟨rfl, z01 (by omega) (by omega)⟩) (Nat.le_of_ble_eq_true rfl) (Nat.le_of_ble_eq_true rfl) ⟨_, _, _, rfl, rfl, by omega, by omega, hI2, (Chg.mono S4 (by decide))⟩
  refine k_aload_n C rfl rfl rfl ?_
  refine z_gI C rfl rfl rfl T_r0 rfl (fun x7 ex7 => ?_)
  have gx7 := rg x7
  refine z_iconst C (z := 1) rfl rfl rfl (fun x8 ex8 => ?_)
  refine zt_iadd C rfl rfl (fun x9 => ?_)
  have gx9 := rg x9
  refine k_aload_n C rfl rfl rfl ?_
  refine z_gI C rfl rfl rfl T_r0 rfl (fun x10 ex10 => ?_)
  have gx10 := rg x10
  refine b_icmp_ge C (t := 38) rfl rfl rfl (fun c11 => ?_) (fun c11 => ?_)
  · skip
    refine k_aload_n C rfl rfl rfl ?_
    refine k_dup C rfl rfl rfl ?_
    refine g_I C rfl rfl rfl T_r0 rfl ex7 ?_
    refine z_iconst C (z := 1) rfl rfl rfl (fun x12 ex12 => ?_)
    refine zt_iadd C rfl rfl (fun x13 => ?_)
    have gx13 := rg x13
    refine z_pI C rfl rfl rfl T_r0 (Or.inr rfl) rfl (fun I14 uI14 => ?_)
    have hI14 : IX A T I14 := IX.f hI2 T_r0 (boX.tr (by decide) (by decide)) uI14
    have S15 : Chg B T [(5, 4)] I2 L3 I14 L3 := Chg.f B_r0 T_r0 uI14
    have e16 := u2_j uI14 (by decide) ex10
    have e17 := u2_e uI14
    refine k_aload_n C rfl rfl rfl ?_
    refine g_R C rfl rfl rfl T_r0 rfl R_r0_0 ?_
    refine z_iconst C (z := 0) rfl rfl rfl (fun x18 ex18 => ?_)
    refine z_iconst C (z := 0) rfl rfl rfl (fun x19 ex19 => ?_)
    obtain ⟨T_r0_0, A_r0_0, B_r0_0, ⟨r0_0_0, R_r0_0_0, H_r0_0_0⟩, ⟨r0_0_1, R_r0_0_1, H_r0_0_1⟩⟩ := id H_r0_0
    refine c_VV C (s_X7_put hS hI14 H_r0_0) rfl rfl rfl rfl rfl ⟨_, rfl, rfl, T_r0_0, Nat.le_of_ble_eq_true rfl⟩ rfl rfl (Nat.le_of_ble_eq_true rfl) (Nat.le_of_ble_eq_true rfl) (Nat.le_of_ble_eq_true rfl) ?_
    rintro I21 L22 ⟨hI21, S23⟩
    have e24 := Chg.k S23 T_r0 (by decide) (by decide) e16
    have e25 := Chg.k S23 T_r0 (by decide) (by decide) e17
    refine z_iconst C (z := 1) rfl rfl rfl (fun x26 ex26 => ?_)
    exact k_iret C rfl (Or.inr ⟨rfl, z01 (by omega) (by omega)⟩) (Nat.le_of_ble_eq_true rfl) (Nat.le_of_ble_eq_true rfl) ⟨_, _, _, rfl, rfl, by omega, by omega, hI21, (Chg.cons S4 (Chg.cons S15 (Chg.mono S23 (by decide)) (by decide)) (by decide))⟩
  refine k_aload_n C rfl rfl rfl ?_
  refine k_aload_n C rfl rfl rfl ?_
  refine g_I C rfl rfl rfl T_r0 rfl ex7 ?_
  refine z_iconst C (z := 1) rfl rfl rfl (fun x27 ex27 => ?_)
  refine zt_iadd C rfl rfl (fun x28 => ?_)
  have gx28 := rg x28
  refine c_VI C (s_X4_byteAt hS hI2 H_r0) rfl rfl rfl rfl rfl ⟨_, rfl, rfl, T_r0, Nat.le_of_ble_eq_true rfl⟩ rfl rfl (Nat.le_of_ble_eq_true rfl) (Nat.le_of_ble_eq_true rfl) (Nat.le_of_ble_eq_true rfl) ?_
  rintro x29 _ _ ⟨rfl, rfl⟩
  have gx29 := rg x29
  refine c_SI C (s_X4_isLetter hS hI2 ) rfl rfl rfl rfl rfl rfl rfl (Nat.le_of_ble_eq_true rfl) (Nat.le_of_ble_eq_true rfl) (Nat.le_of_ble_eq_true rfl) ?_
  rintro x30 _ _ ⟨o0x30, o1x30, rfl, rfl⟩
  have gx30 := rg x30
  refine b_if_eq C (t := 38) rfl rfl rfl (fun c31 => ?_) (fun c31 => ?_)
  · skip
    refine k_aload_n C rfl rfl rfl ?_
    refine k_dup C rfl rfl rfl ?_
    refine g_I C rfl rfl rfl T_r0 rfl ex7 ?_
    refine z_iconst C (z := 1) rfl rfl rfl (fun x32 ex32 => ?_)
    refine zt_iadd C rfl rfl (fun x33 => ?_)
    have gx33 := rg x33
    refine z_pI C rfl rfl rfl T_r0 (Or.inr rfl) rfl (fun I34 uI34 => ?_)
    have hI34 : IX A T I34 := IX.f hI2 T_r0 (boX.tr (by decide) (by decide)) uI34
    have S35 : Chg B T [(5, 4)] I2 L3 I34 L3 := Chg.f B_r0 T_r0 uI34
    have e36 := u2_j uI34 (by decide) ex10
    have e37 := u2_e uI34
    refine k_aload_n C rfl rfl rfl ?_
    refine g_R C rfl rfl rfl T_r0 rfl R_r0_0 ?_
    refine z_iconst C (z := 0) rfl rfl rfl (fun x38 ex38 => ?_)
    refine z_iconst C (z := 0) rfl rfl rfl (fun x39 ex39 => ?_)
    obtain ⟨T_r0_0, A_r0_0, B_r0_0, ⟨r0_0_0, R_r0_0_0, H_r0_0_0⟩, ⟨r0_0_1, R_r0_0_1, H_r0_0_1⟩⟩ := id H_r0_0
    refine c_VV C (s_X7_put hS hI34 H_r0_0) rfl rfl rfl rfl rfl ⟨_, rfl, rfl, T_r0_0, Nat.le_of_ble_eq_true rfl⟩ rfl rfl (Nat.le_of_ble_eq_true rfl) (Nat.le_of_ble_eq_true rfl) (Nat.le_of_ble_eq_true rfl) ?_
    rintro I41 L42 ⟨hI41, S43⟩
    have e44 := Chg.k S43 T_r0 (by decide) (by decide) e36
    have e45 := Chg.k S43 T_r0 (by decide) (by decide) e37
    refine z_iconst C (z := 1) rfl rfl rfl (fun x46 ex46 => ?_)
    exact k_iret C rfl (Or.inr ⟨rfl, z01 (by omega) (by omega)⟩) (Nat.le_of_ble_eq_true rfl) (Nat.le_of_ble_eq_true rfl) ⟨_, _, _, rfl, rfl, by omega, by omega, hI41, (Chg.cons S4 (Chg.cons S35 (Chg.mono S43 (by decide)) (by decide)) (by decide))⟩
  refine z_iconst C (z := 0) rfl rfl rfl (fun x47 ex47 => ?_)
  exact k_iret C rfl (Or.inr ⟨rfl, z01 (by omega) (by omega)⟩) (Nat.le_of_ble_eq_true rfl) (Nat.le_of_ble_eq_true rfl) ⟨_, _, _, rfl, rfl, by omega, by omega, hI2, (Chg.mono S4 (by decide))⟩

theorem s_X4_readPart_6 {d : Nat} {T N : Nat → Nat} {I : IT} {L : LT} {R : RT} {A B : Nat → Prop} {r0 : Nat} {n1 : Int32} (hS : SUB B A) (hI : IX A T I) (H_r0 : (hs_Rd T N R A B) r0) (b0_n1 : 6 ≤ n1.toInt) (b1_n1 : n1.toInt ≤ 6) : Ex (d + 3) 71 [.ref r0, .int n1] (T, N, I, L, R) 0 0 (pI T N R (fun x9 I9 L9 => (0 ≤ x9.toInt) ∧ (x9.toInt ≤ 1) ∧ (IX A T I9 ∧ Chg B T [(5, 4), (5, 5), (8, 2)] I L I9 L9))) := by
  refine ⟨_, rfl, Nat.le_of_ble_eq_true rfl, fun V C S => ?_⟩
  show V 0 [(0, .ref r0), (1, .int n1)] [] (T, N, I, L, R) 0 0
  have gn1 := rg n1
  refine k_aload_n C rfl rfl rfl ?_
  obtain ⟨T_r0, A_r0, B_r0, ⟨r0_0, R_r0_0, H_r0_0⟩, ⟨r0_2, R_r0_2, H_r0_2⟩⟩ := id H_r0
  refine c_VI C (s_X4_next hS hI H_r0) rfl rfl rfl rfl rfl ⟨_, rfl, rfl, T_r0, Nat.le_of_ble_eq_true rfl⟩ rfl rfl (Nat.le_of_ble_eq_true rfl) (Nat.le_of_ble_eq_true rfl) (Nat.le_of_ble_eq_true rfl) ?_
  rintro x1 I2 L3 ⟨hI2, S4⟩
  have gx1 := rg x1
  refine k_istore_n C (lw := [(2, .int x1), (0, .ref r0), (1, .int n1)]) rfl rfl (Nat.le_of_ble_eq_true rfl) rfl ?_
  refine k_iload_n C rfl rfl rfl ?_
  refine z_bipush C (z := 102) rfl rfl rfl (fun x5 ex5 => ?_)
  refine b_icmp_ne C (t := 16) rfl rfl rfl (fun c6 => ?_) (fun c6 => ?_)
  · skip
    refine k_iload_n C rfl rfl rfl ?_
    refine c_SI C (s_X4_isDigit hS hI2 ) rfl rfl rfl rfl rfl rfl rfl (Nat.le_of_ble_eq_true rfl) (Nat.le_of_ble_eq_true rfl) (Nat.le_of_ble_eq_true rfl) ?_
    rintro x7 _ _ ⟨o0x7, o1x7, rfl, rfl⟩
    have gx7 := rg x7
    refine b_if_eq C (t := 47) rfl rfl rfl (fun c8 => ?_) (fun c8 => ?_)
    · skip
      refine k_iload_n C rfl rfl rfl ?_
      refine z_bipush C (z := 6) rfl rfl rfl (fun x9 ex9 => ?_)
      refine b_icmp_lt C (t := 55) rfl rfl rfl (fun c10 => by exfalso; omega) (fun c10 => ?_)
      refine z_iconst C (z := 0) rfl rfl rfl (fun x11 ex11 => ?_)
      exact k_iret C rfl (Or.inr ⟨rfl, z01 (by omega) (by omega)⟩) (Nat.le_of_ble_eq_true rfl) (Nat.le_of_ble_eq_true rfl) ⟨_, _, _, rfl, rfl, by omega, by omega, hI2, (Chg.mono S4 (by decide))⟩
    refine k_aload_n C rfl rfl rfl ?_
    refine c_VI C (s_X4_isThingMore hS hI2 H_r0) rfl rfl rfl rfl rfl ⟨_, rfl, rfl, T_r0, Nat.le_of_ble_eq_true rfl⟩ rfl rfl (Nat.le_of_ble_eq_true rfl) (Nat.le_of_ble_eq_true rfl) (Nat.le_of_ble_eq_true rfl) ?_
    rintro x12 I13 L14 ⟨o0x12, o1x12, hI13, S15⟩
    have gx12 := rg x12
    refine b_if_eq C (t := 45) rfl rfl rfl (fun c16 => ?_) (fun c16 => ?_)
    · skip
      refine z_iconst C (z := 0) rfl rfl rfl (fun x17 ex17 => ?_)
      exact k_iret C rfl (Or.inr ⟨rfl, z01 (by omega) (by omega)⟩) (Nat.le_of_ble_eq_true rfl) (Nat.le_of_ble_eq_true rfl) ⟨_, _, _, rfl, rfl, by omega, by omega, hI13, (Chg.cons S4 (Chg.mono S15 (by decide)) (by decide))⟩
    refine k_aload_n C rfl rfl rfl ?_
    refine z_iconst C (z := 1) rfl rfl rfl (fun x18 ex18 => ?_)
    refine z_sipush C (z := 999) rfl rfl rfl (fun x19 ex19 => ?_)
    refine c_VI C (s_X4_readNumber hS hI13 H_r0) rfl rfl rfl rfl rfl ⟨_, rfl, rfl, T_r0, Nat.le_of_ble_eq_true rfl⟩ rfl rfl (Nat.le_of_ble_eq_true rfl) (Nat.le_of_ble_eq_true rfl) (Nat.le_of_ble_eq_true rfl) ?_
    rintro x20 I21 L22 ⟨o0x20, o1x20, hI21, S23⟩
    have gx20 := rg x20
    refine b_if_eq C (t := 45) rfl rfl rfl (fun c24 => ?_) (fun c24 => ?_)
    · skip
      refine z_iconst C (z := 0) rfl rfl rfl (fun x25 ex25 => ?_)
      exact k_iret C rfl (Or.inr ⟨rfl, z01 (by omega) (by omega)⟩) (Nat.le_of_ble_eq_true rfl) (Nat.le_of_ble_eq_true rfl) ⟨_, _, _, rfl, rfl, by omega, by omega, hI21, (Chg.cons S4 (Chg.cons S15 (Chg.mono S23 (by decide)) (by decide)) (by decide))⟩
    refine z_iconst C (z := 1) rfl rfl rfl (fun x26 ex26 => ?_)
    refine k_goto C (pc2 := 46) rfl rfl ?_
    exact k_iret C rfl (Or.inr ⟨rfl, z01 (by omega) (by omega)⟩) (Nat.le_of_ble_eq_true rfl) (Nat.le_of_ble_eq_true rfl) ⟨_, _, _, rfl, rfl, by omega, by omega, hI21, (Chg.cons S4 (Chg.cons S15 (Chg.mono S23 (by decide)) (by decide)) (by decide))⟩
  refine k_aload_n C rfl rfl rfl ?_
  refine c_VI C (s_X4_readLetter hS hI2 H_r0) rfl rfl rfl rfl rfl ⟨_, rfl, rfl, T_r0, Nat.le_of_ble_eq_true rfl⟩ rfl rfl (Nat.le_of_ble_eq_true rfl) (Nat.le_of_ble_eq_true rfl) (Nat.le_of_ble_eq_true rfl) ?_
  rintro x27 I28 L29 ⟨o0x27, o1x27, hI28, S30⟩
  have gx27 := rg x27
  exact k_iret C rfl (Or.inr ⟨rfl, z01 (by omega) (by omega)⟩) (Nat.le_of_ble_eq_true rfl) (Nat.le_of_ble_eq_true rfl) ⟨_, _, _, rfl, rfl, by omega, by omega, hI28, (Chg.cons S4 (Chg.mono S30 (by decide)) (by decide))⟩

theorem s_X4_readProduct_6 {d : Nat} {T N : Nat → Nat} {I : IT} {L : LT} {R : RT} {A B : Nat → Prop} {r0 : Nat} {n1 : Int32} (hS : SUB B A) (hI : IX A T I) (H_r0 : (hs_Rd T N R A B) r0) (b0_n1 : 6 ≤ n1.toInt) (b1_n1 : n1.toInt ≤ 6) : Ex (d + 4) 72 [.ref r0, .int n1] (T, N, I, L, R) 0 0 (pI T N R (fun x9 I9 L9 => (0 ≤ x9.toInt) ∧ (x9.toInt ≤ 1) ∧ (IX A T I9 ∧ Chg B T [(5, 4), (5, 5), (8, 2)] I L I9 L9))) := by
  refine ⟨_, rfl, Nat.le_of_ble_eq_true rfl, fun V C S => ?_⟩
  show V 0 [(0, .ref r0), (1, .int n1)] [] (T, N, I, L, R) 0 0
  have gn1 := rg n1
  refine k_aload_n C rfl rfl rfl ?_
  refine k_iload_n C rfl rfl rfl ?_
  obtain ⟨T_r0, A_r0, B_r0, ⟨r0_0, R_r0_0, H_r0_0⟩, ⟨r0_2, R_r0_2, H_r0_2⟩⟩ := id H_r0
  refine c_VI C (s_X4_readPart_6 hS hI H_r0 (by omega) (by omega)) rfl rfl rfl rfl rfl ⟨_, rfl, rfl, T_r0, Nat.le_of_ble_eq_true rfl⟩ rfl rfl (Nat.le_of_ble_eq_true rfl) (Nat.le_of_ble_eq_true rfl) (Nat.le_of_ble_eq_true rfl) ?_
  rintro x1 I2 L3 ⟨o0x1, o1x1, hI2, S4⟩
  have gx1 := rg x1
  refine b_if_ne C (t := 10) rfl rfl rfl (fun c5 => ?_) (fun c5 => ?_)
  · skip
    refine z_iconst C (z := 0) rfl rfl rfl (fun x6 ex6 => ?_)
    have J7 : ∀ (nn8 : Nat) (I9 : IT) (L10 : LT) (x11 : Int32), (MN (400 - x11.toInt) nn8) → (IX A T I9) → (Chg B T [(5, 4), (5, 5), (8, 2)] I2 L3 I9 L10) → (0 ≤ x11.toInt) → (x11.toInt ≤ 400) → V 12 [(0, .ref r0), (1, .int n1), (2, .int x11)] [] (T, N, I9, L10, R) 0 0 := by
      intro nn8
      induction nn8 using Nat.strongRecOn with
      | _ nn8 ihJ7 =>
        intro I9 L10 x11 hmnn8 hI15 S14 b12 b13
        have gx11 := rg x11
        refine k_iload_n C rfl rfl rfl ?_
        refine z_sipush C (z := 400) rfl rfl rfl (fun x16 ex16 => ?_)
        refine b_icmp_ge C (t := 72) rfl rfl rfl (fun c17 => ?_) (fun c17 => ?_)
        · skip
          refine z_iconst C (z := 1) rfl rfl rfl (fun x18 ex18 => ?_)
          exact k_iret C rfl (Or.inr ⟨rfl, z01 (by omega) (by omega)⟩) (Nat.le_of_ble_eq_true rfl) (Nat.le_of_ble_eq_true rfl) ⟨_, _, _, rfl, rfl, by omega, by omega, hI15, (Chg.cons S4 (Chg.mono S14 (by decide)) (by decide))⟩
        refine k_aload_n C rfl rfl rfl ?_
        refine c_VI C (s_X4_next hS hI15 H_r0) rfl rfl rfl rfl rfl ⟨_, rfl, rfl, T_r0, Nat.le_of_ble_eq_true rfl⟩ rfl rfl (Nat.le_of_ble_eq_true rfl) (Nat.le_of_ble_eq_true rfl) (Nat.le_of_ble_eq_true rfl) ?_
        rintro x19 I20 L21 ⟨hI20, S22⟩
        have gx19 := rg x19
        refine z_bipush C (z := 42) rfl rfl rfl (fun x23 ex23 => ?_)
        refine b_icmp_ne C (t := 72) rfl rfl rfl (fun c24 => ?_) (fun c24 => ?_)
        · skip
          refine z_iconst C (z := 1) rfl rfl rfl (fun x25 ex25 => ?_)
          exact k_iret C rfl (Or.inr ⟨rfl, z01 (by omega) (by omega)⟩) (Nat.le_of_ble_eq_true rfl) (Nat.le_of_ble_eq_true rfl) ⟨_, _, _, rfl, rfl, by omega, by omega, hI20, (Chg.cons S4 (Chg.cons S14 (Chg.mono S22 (by decide)) (by decide)) (by decide))⟩
        refine k_aload_n C rfl rfl rfl ?_
        refine c_VI C (s_X4_isThingMore hS hI20 H_r0) rfl rfl rfl rfl rfl ⟨_, rfl, rfl, T_r0, Nat.le_of_ble_eq_true rfl⟩ rfl rfl (Nat.le_of_ble_eq_true rfl) (Nat.le_of_ble_eq_true rfl) (Nat.le_of_ble_eq_true rfl) ?_
        rintro x26 I27 L28 ⟨o0x26, o1x26, hI27, S29⟩
        have gx26 := rg x26
        refine b_if_ne C (t := 37) rfl rfl rfl (fun c30 => ?_) (fun c30 => ?_)
        · skip
          refine k_aload_n C rfl rfl rfl ?_
          refine k_dup C rfl rfl rfl ?_
          refine z_gI C rfl rfl rfl T_r0 rfl (fun x31 ex31 => ?_)
          have gx31 := rg x31
          refine z_iconst C (z := 1) rfl rfl rfl (fun x32 ex32 => ?_)
          refine zt_iadd C rfl rfl (fun x33 => ?_)
          have gx33 := rg x33
          refine z_pI C rfl rfl rfl T_r0 (Or.inr rfl) rfl (fun I34 uI34 => ?_)
          have hI34 : IX A T I34 := IX.f hI27 T_r0 (boX.tr (by decide) (by decide)) uI34
          have S35 : Chg B T [(5, 4)] I27 L28 I34 L28 := Chg.f B_r0 T_r0 uI34
          have e36 := u2_e uI34
          refine k_aload_n C rfl rfl rfl ?_
          refine k_iload_n C rfl rfl rfl ?_
          refine c_VI C (s_X4_readPart_6 hS hI34 H_r0 (by omega) (by omega)) rfl rfl rfl rfl rfl ⟨_, rfl, rfl, T_r0, Nat.le_of_ble_eq_true rfl⟩ rfl rfl (Nat.le_of_ble_eq_true rfl) (Nat.le_of_ble_eq_true rfl) (Nat.le_of_ble_eq_true rfl) ?_
          rintro x37 I38 L39 ⟨o0x37, o1x37, hI38, S40⟩
          have gx37 := rg x37
          refine b_if_ne C (t := 57) rfl rfl rfl (fun c41 => ?_) (fun c41 => ?_)
          · skip
            refine k_aload_n C rfl rfl rfl ?_
            refine g_R C rfl rfl rfl T_r0 rfl R_r0_0 ?_
            refine z_iconst C (z := 3) rfl rfl rfl (fun x42 ex42 => ?_)
            refine z_iconst C (z := 0) rfl rfl rfl (fun x43 ex43 => ?_)
            obtain ⟨T_r0_0, A_r0_0, B_r0_0, ⟨r0_0_0, R_r0_0_0, H_r0_0_0⟩, ⟨r0_0_1, R_r0_0_1, H_r0_0_1⟩⟩ := id H_r0_0
            refine c_VV C (s_X7_put hS hI38 H_r0_0) rfl rfl rfl rfl rfl ⟨_, rfl, rfl, T_r0_0, Nat.le_of_ble_eq_true rfl⟩ rfl rfl (Nat.le_of_ble_eq_true rfl) (Nat.le_of_ble_eq_true rfl) (Nat.le_of_ble_eq_true rfl) ?_
            rintro I45 L46 ⟨hI45, S47⟩
            refine z_iinc C (z := 1) (lw := fun x48 => [(2, .int x48), (0, .ref r0), (1, .int n1)]) rfl rfl rfl (Nat.le_of_ble_eq_true rfl) rfl ⟨by omega, by omega⟩ (fun _ => rfl) (fun x48 ex48 => ?_)
            show V 69 [(2, .int x48), (0, .ref r0), (1, .int n1)] _ _ _ _
            refine k_goto C (pc2 := 12) rfl rfl ?_
            refine k_sub S [(0, .ref r0), (1, .int n1), (2, .int x48)] (List.forall_mem_cons.mpr ⟨List.mem_of_getElem? (i := 1) rfl, List.forall_mem_cons.mpr ⟨List.mem_of_getElem? (i := 2) rfl, List.forall_mem_cons.mpr ⟨List.mem_of_getElem? (i := 0) rfl, fun _ h => nomatch h⟩⟩⟩) ?_
            exact ihJ7 _ (MN.lt hmnn8 (by omega) (by omega)) I45 L46 x48 rfl hI45 (Chg.cons S14 (Chg.cons S22 (Chg.cons S29 (Chg.cons S35 (Chg.cons S40 (Chg.mono S47 (by decide)) (by decide)) (by decide)) (by decide)) (by decide)) (by decide)) (by omega) (by omega)
          refine z_iconst C (z := 0) rfl rfl rfl (fun x49 ex49 => ?_)
          exact k_iret C rfl (Or.inr ⟨rfl, z01 (by omega) (by omega)⟩) (Nat.le_of_ble_eq_true rfl) (Nat.le_of_ble_eq_true rfl) ⟨_, _, _, rfl, rfl, by omega, by omega, hI38, (Chg.cons S4 (Chg.cons S14 (Chg.cons S22 (Chg.cons S29 (Chg.cons S35 (Chg.mono S40 (by decide)) (by decide)) (by decide)) (by decide)) (by decide)) (by decide))⟩
        refine z_iconst C (z := 0) rfl rfl rfl (fun x50 ex50 => ?_)
        exact k_iret C rfl (Or.inr ⟨rfl, z01 (by omega) (by omega)⟩) (Nat.le_of_ble_eq_true rfl) (Nat.le_of_ble_eq_true rfl) ⟨_, _, _, rfl, rfl, by omega, by omega, hI27, (Chg.cons S4 (Chg.cons S14 (Chg.cons S22 (Chg.mono S29 (by decide)) (by decide)) (by decide)) (by decide))⟩
    refine k_istore_n C (lw := [(2, .int x6), (0, .ref r0), (1, .int n1)]) rfl rfl (Nat.le_of_ble_eq_true rfl) rfl ?_
    refine k_sub S [(0, .ref r0), (1, .int n1), (2, .int x6)] (List.forall_mem_cons.mpr ⟨List.mem_of_getElem? (i := 1) rfl, List.forall_mem_cons.mpr ⟨List.mem_of_getElem? (i := 2) rfl, List.forall_mem_cons.mpr ⟨List.mem_of_getElem? (i := 0) rfl, fun _ h => nomatch h⟩⟩⟩) ?_
    exact J7 _ I2 L3 x6 rfl hI2 Chg.rf (by omega) (by omega)
  refine z_iconst C (z := 0) rfl rfl rfl (fun x51 ex51 => ?_)
  exact k_iret C rfl (Or.inr ⟨rfl, z01 (by omega) (by omega)⟩) (Nat.le_of_ble_eq_true rfl) (Nat.le_of_ble_eq_true rfl) ⟨_, _, _, rfl, rfl, by omega, by omega, hI2, (Chg.mono S4 (by decide))⟩

theorem s_X4_readSum_6 {d : Nat} {T N : Nat → Nat} {I : IT} {L : LT} {R : RT} {A B : Nat → Prop} {r0 : Nat} {n1 : Int32} (hS : SUB B A) (hI : IX A T I) (H_r0 : (hs_Rd T N R A B) r0) (b0_n1 : 6 ≤ n1.toInt) (b1_n1 : n1.toInt ≤ 6) : Ex (d + 5) 73 [.ref r0, .int n1] (T, N, I, L, R) 0 0 (pI T N R (fun x9 I9 L9 => (0 ≤ x9.toInt) ∧ (x9.toInt ≤ 1) ∧ (IX A T I9 ∧ Chg B T [(5, 4), (5, 5), (8, 2)] I L I9 L9))) := by
  refine ⟨_, rfl, Nat.le_of_ble_eq_true rfl, fun V C S => ?_⟩
  show V 0 [(0, .ref r0), (1, .int n1)] [] (T, N, I, L, R) 0 0
  have gn1 := rg n1
  refine k_aload_n C rfl rfl rfl ?_
  refine k_iload_n C rfl rfl rfl ?_
  obtain ⟨T_r0, A_r0, B_r0, ⟨r0_0, R_r0_0, H_r0_0⟩, ⟨r0_2, R_r0_2, H_r0_2⟩⟩ := id H_r0
  refine c_VI C (s_X4_readProduct_6 hS hI H_r0 (by omega) (by omega)) rfl rfl rfl rfl rfl ⟨_, rfl, rfl, T_r0, Nat.le_of_ble_eq_true rfl⟩ rfl rfl (Nat.le_of_ble_eq_true rfl) (Nat.le_of_ble_eq_true rfl) (Nat.le_of_ble_eq_true rfl) ?_
  rintro x1 I2 L3 ⟨o0x1, o1x1, hI2, S4⟩
  have gx1 := rg x1
  refine b_if_ne C (t := 10) rfl rfl rfl (fun c5 => ?_) (fun c5 => ?_)
  · skip
    refine z_iconst C (z := 0) rfl rfl rfl (fun x6 ex6 => ?_)
    have J7 : ∀ (nn8 : Nat) (I9 : IT) (L10 : LT) (x11 : Int32), (MN (400 - x11.toInt) nn8) → (IX A T I9) → (Chg B T [(5, 4), (5, 5), (8, 2)] I2 L3 I9 L10) → (0 ≤ x11.toInt) → (x11.toInt ≤ 400) → V 12 [(0, .ref r0), (1, .int n1), (2, .int x11)] [] (T, N, I9, L10, R) 0 0 := by
      intro nn8
      induction nn8 using Nat.strongRecOn with
      | _ nn8 ihJ7 =>
        intro I9 L10 x11 hmnn8 hI15 S14 b12 b13
        have gx11 := rg x11
        refine k_iload_n C rfl rfl rfl ?_
        refine z_sipush C (z := 400) rfl rfl rfl (fun x16 ex16 => ?_)
        refine b_icmp_ge C (t := 72) rfl rfl rfl (fun c17 => ?_) (fun c17 => ?_)
        · skip
          refine z_iconst C (z := 1) rfl rfl rfl (fun x18 ex18 => ?_)
          exact k_iret C rfl (Or.inr ⟨rfl, z01 (by omega) (by omega)⟩) (Nat.le_of_ble_eq_true rfl) (Nat.le_of_ble_eq_true rfl) ⟨_, _, _, rfl, rfl, by omega, by omega, hI15, (Chg.cons S4 (Chg.mono S14 (by decide)) (by decide))⟩
        refine k_aload_n C rfl rfl rfl ?_
        refine c_VI C (s_X4_next hS hI15 H_r0) rfl rfl rfl rfl rfl ⟨_, rfl, rfl, T_r0, Nat.le_of_ble_eq_true rfl⟩ rfl rfl (Nat.le_of_ble_eq_true rfl) (Nat.le_of_ble_eq_true rfl) (Nat.le_of_ble_eq_true rfl) ?_
        rintro x19 I20 L21 ⟨hI20, S22⟩
        have gx19 := rg x19
        refine z_bipush C (z := 43) rfl rfl rfl (fun x23 ex23 => ?_)
        refine b_icmp_ne C (t := 72) rfl rfl rfl (fun c24 => ?_) (fun c24 => ?_)
        · skip
          refine z_iconst C (z := 1) rfl rfl rfl (fun x25 ex25 => ?_)
          exact k_iret C rfl (Or.inr ⟨rfl, z01 (by omega) (by omega)⟩) (Nat.le_of_ble_eq_true rfl) (Nat.le_of_ble_eq_true rfl) ⟨_, _, _, rfl, rfl, by omega, by omega, hI20, (Chg.cons S4 (Chg.cons S14 (Chg.mono S22 (by decide)) (by decide)) (by decide))⟩
        refine k_aload_n C rfl rfl rfl ?_
        refine c_VI C (s_X4_isThingMore hS hI20 H_r0) rfl rfl rfl rfl rfl ⟨_, rfl, rfl, T_r0, Nat.le_of_ble_eq_true rfl⟩ rfl rfl (Nat.le_of_ble_eq_true rfl) (Nat.le_of_ble_eq_true rfl) (Nat.le_of_ble_eq_true rfl) ?_
        rintro x26 I27 L28 ⟨o0x26, o1x26, hI27, S29⟩
        have gx26 := rg x26
        refine b_if_ne C (t := 37) rfl rfl rfl (fun c30 => ?_) (fun c30 => ?_)
        · skip
          refine k_aload_n C rfl rfl rfl ?_
          refine k_dup C rfl rfl rfl ?_
          refine z_gI C rfl rfl rfl T_r0 rfl (fun x31 ex31 => ?_)
          have gx31 := rg x31
          refine z_iconst C (z := 1) rfl rfl rfl (fun x32 ex32 => ?_)
          refine zt_iadd C rfl rfl (fun x33 => ?_)
          have gx33 := rg x33
          refine z_pI C rfl rfl rfl T_r0 (Or.inr rfl) rfl (fun I34 uI34 => ?_)
          have hI34 : IX A T I34 := IX.f hI27 T_r0 (boX.tr (by decide) (by decide)) uI34
          have S35 : Chg B T [(5, 4)] I27 L28 I34 L28 := Chg.f B_r0 T_r0 uI34
          have e36 := u2_e uI34
          refine k_aload_n C rfl rfl rfl ?_
          refine k_iload_n C rfl rfl rfl ?_
          refine c_VI C (s_X4_readProduct_6 hS hI34 H_r0 (by omega) (by omega)) rfl rfl rfl rfl rfl ⟨_, rfl, rfl, T_r0, Nat.le_of_ble_eq_true rfl⟩ rfl rfl (Nat.le_of_ble_eq_true rfl) (Nat.le_of_ble_eq_true rfl) (Nat.le_of_ble_eq_true rfl) ?_
          rintro x37 I38 L39 ⟨o0x37, o1x37, hI38, S40⟩
          have gx37 := rg x37
          refine b_if_ne C (t := 57) rfl rfl rfl (fun c41 => ?_) (fun c41 => ?_)
          · skip
            refine k_aload_n C rfl rfl rfl ?_
            refine g_R C rfl rfl rfl T_r0 rfl R_r0_0 ?_
            refine z_iconst C (z := 2) rfl rfl rfl (fun x42 ex42 => ?_)
            refine z_iconst C (z := 0) rfl rfl rfl (fun x43 ex43 => ?_)
            obtain ⟨T_r0_0, A_r0_0, B_r0_0, ⟨r0_0_0, R_r0_0_0, H_r0_0_0⟩, ⟨r0_0_1, R_r0_0_1, H_r0_0_1⟩⟩ := id H_r0_0
            refine c_VV C (s_X7_put hS hI38 H_r0_0) rfl rfl rfl rfl rfl ⟨_, rfl, rfl, T_r0_0, Nat.le_of_ble_eq_true rfl⟩ rfl rfl (Nat.le_of_ble_eq_true rfl) (Nat.le_of_ble_eq_true rfl) (Nat.le_of_ble_eq_true rfl) ?_
            rintro I45 L46 ⟨hI45, S47⟩
            refine z_iinc C (z := 1) (lw := fun x48 => [(2, .int x48), (0, .ref r0), (1, .int n1)]) rfl rfl rfl (Nat.le_of_ble_eq_true rfl) rfl ⟨by omega, by omega⟩ (fun _ => rfl) (fun x48 ex48 => ?_)
            show V 69 [(2, .int x48), (0, .ref r0), (1, .int n1)] _ _ _ _
            refine k_goto C (pc2 := 12) rfl rfl ?_
            refine k_sub S [(0, .ref r0), (1, .int n1), (2, .int x48)] (List.forall_mem_cons.mpr ⟨List.mem_of_getElem? (i := 1) rfl, List.forall_mem_cons.mpr ⟨List.mem_of_getElem? (i := 2) rfl, List.forall_mem_cons.mpr ⟨List.mem_of_getElem? (i := 0) rfl, fun _ h => nomatch h⟩⟩⟩) ?_
            exact ihJ7 _ (MN.lt hmnn8 (by omega) (by omega)) I45 L46 x48 rfl hI45 (Chg.cons S14 (Chg.cons S22 (Chg.cons S29 (Chg.cons S35 (Chg.cons S40 (Chg.mono S47 (by decide)) (by decide)) (by decide)) (by decide)) (by decide)) (by decide)) (by omega) (by omega)
          refine z_iconst C (z := 0) rfl rfl rfl (fun x49 ex49 => ?_)
          exact k_iret C rfl (Or.inr ⟨rfl, z01 (by omega) (by omega)⟩) (Nat.le_of_ble_eq_true rfl) (Nat.le_of_ble_eq_true rfl) ⟨_, _, _, rfl, rfl, by omega, by omega, hI38, (Chg.cons S4 (Chg.cons S14 (Chg.cons S22 (Chg.cons S29 (Chg.cons S35 (Chg.mono S40 (by decide)) (by decide)) (by decide)) (by decide)) (by decide)) (by decide))⟩
        refine z_iconst C (z := 0) rfl rfl rfl (fun x50 ex50 => ?_)
        exact k_iret C rfl (Or.inr ⟨rfl, z01 (by omega) (by omega)⟩) (Nat.le_of_ble_eq_true rfl) (Nat.le_of_ble_eq_true rfl) ⟨_, _, _, rfl, rfl, by omega, by omega, hI27, (Chg.cons S4 (Chg.cons S14 (Chg.cons S22 (Chg.mono S29 (by decide)) (by decide)) (by decide)) (by decide))⟩
    refine k_istore_n C (lw := [(2, .int x6), (0, .ref r0), (1, .int n1)]) rfl rfl (Nat.le_of_ble_eq_true rfl) rfl ?_
    refine k_sub S [(0, .ref r0), (1, .int n1), (2, .int x6)] (List.forall_mem_cons.mpr ⟨List.mem_of_getElem? (i := 1) rfl, List.forall_mem_cons.mpr ⟨List.mem_of_getElem? (i := 2) rfl, List.forall_mem_cons.mpr ⟨List.mem_of_getElem? (i := 0) rfl, fun _ h => nomatch h⟩⟩⟩) ?_
    exact J7 _ I2 L3 x6 rfl hI2 Chg.rf (by omega) (by omega)
  refine z_iconst C (z := 0) rfl rfl rfl (fun x51 ex51 => ?_)
  exact k_iret C rfl (Or.inr ⟨rfl, z01 (by omega) (by omega)⟩) (Nat.le_of_ble_eq_true rfl) (Nat.le_of_ble_eq_true rfl) ⟨_, _, _, rfl, rfl, by omega, by omega, hI2, (Chg.mono S4 (by decide))⟩

theorem s_X4_readOverlap_6 {d : Nat} {T N : Nat → Nat} {I : IT} {L : LT} {R : RT} {A B : Nat → Prop} {r0 : Nat} {n1 : Int32} (hS : SUB B A) (hI : IX A T I) (H_r0 : (hs_Rd T N R A B) r0) (b0_n1 : 6 ≤ n1.toInt) (b1_n1 : n1.toInt ≤ 6) : Ex (d + 6) 70 [.ref r0, .int n1] (T, N, I, L, R) 0 0 (pI T N R (fun x9 I9 L9 => (0 ≤ x9.toInt) ∧ (x9.toInt ≤ 1) ∧ (IX A T I9 ∧ Chg B T [(5, 4), (5, 5), (8, 2)] I L I9 L9))) := by
  refine ⟨_, rfl, Nat.le_of_ble_eq_true rfl, fun V C S => ?_⟩
  show V 0 [(0, .ref r0), (1, .int n1)] [] (T, N, I, L, R) 0 0
  have gn1 := rg n1
  refine k_aload_n C rfl rfl rfl ?_
  obtain ⟨T_r0, A_r0, B_r0, ⟨r0_0, R_r0_0, H_r0_0⟩, ⟨r0_2, R_r0_2, H_r0_2⟩⟩ := id H_r0
  refine c_VI C (s_X4_isThingMore hS hI H_r0) rfl rfl rfl rfl rfl ⟨_, rfl, rfl, T_r0, Nat.le_of_ble_eq_true rfl⟩ rfl rfl (Nat.le_of_ble_eq_true rfl) (Nat.le_of_ble_eq_true rfl) (Nat.le_of_ble_eq_true rfl) ?_
  rintro x1 I2 L3 ⟨o0x1, o1x1, hI2, S4⟩
  have gx1 := rg x1
  refine b_if_ne C (t := 9) rfl rfl rfl (fun c5 => ?_) (fun c5 => ?_)
  · skip
    refine k_aload_n C rfl rfl rfl ?_
    refine k_dup C rfl rfl rfl ?_
    refine z_gI C rfl rfl rfl T_r0 rfl (fun x6 ex6 => ?_)
    have gx6 := rg x6
    refine z_iconst C (z := 1) rfl rfl rfl (fun x7 ex7 => ?_)
    refine zt_iadd C rfl rfl (fun x8 => ?_)
    have gx8 := rg x8
    refine z_pI C rfl rfl rfl T_r0 (Or.inr rfl) rfl (fun I9 uI9 => ?_)
    have hI9 : IX A T I9 := IX.f hI2 T_r0 (boX.tr (by decide) (by decide)) uI9
    have S10 : Chg B T [(5, 4)] I2 L3 I9 L3 := Chg.f B_r0 T_r0 uI9
    have e11 := u2_e uI9
    refine k_aload_n C rfl rfl rfl ?_
    refine k_iload_n C rfl rfl rfl ?_
    refine c_VI C (s_X4_readSum_6 hS hI9 H_r0 (by omega) (by omega)) rfl rfl rfl rfl rfl ⟨_, rfl, rfl, T_r0, Nat.le_of_ble_eq_true rfl⟩ rfl rfl (Nat.le_of_ble_eq_true rfl) (Nat.le_of_ble_eq_true rfl) (Nat.le_of_ble_eq_true rfl) ?_
    rintro x12 I13 L14 ⟨o0x12, o1x12, hI13, S15⟩
    have gx12 := rg x12
    refine b_if_eq C (t := 53) rfl rfl rfl (fun c16 => ?_) (fun c16 => ?_)
    · skip
      refine z_iconst C (z := 0) rfl rfl rfl (fun x17 ex17 => ?_)
      exact k_iret C rfl (Or.inr ⟨rfl, z01 (by omega) (by omega)⟩) (Nat.le_of_ble_eq_true rfl) (Nat.le_of_ble_eq_true rfl) ⟨_, _, _, rfl, rfl, by omega, by omega, hI13, (Chg.cons S4 (Chg.cons S10 (Chg.mono S15 (by decide)) (by decide)) (by decide))⟩
    refine k_aload_n C rfl rfl rfl ?_
    refine z_bipush C (z := 44) rfl rfl rfl (fun x18 ex18 => ?_)
    refine c_VI C (s_X4_take hS hI13 H_r0) rfl rfl rfl rfl rfl ⟨_, rfl, rfl, T_r0, Nat.le_of_ble_eq_true rfl⟩ rfl rfl (Nat.le_of_ble_eq_true rfl) (Nat.le_of_ble_eq_true rfl) (Nat.le_of_ble_eq_true rfl) ?_
    rintro x19 I20 L21 ⟨o0x19, o1x19, hI20, S22⟩
    have gx19 := rg x19
    refine b_if_eq C (t := 53) rfl rfl rfl (fun c23 => ?_) (fun c23 => ?_)
    · skip
      refine z_iconst C (z := 0) rfl rfl rfl (fun x24 ex24 => ?_)
      exact k_iret C rfl (Or.inr ⟨rfl, z01 (by omega) (by omega)⟩) (Nat.le_of_ble_eq_true rfl) (Nat.le_of_ble_eq_true rfl) ⟨_, _, _, rfl, rfl, by omega, by omega, hI20, (Chg.cons S4 (Chg.cons S10 (Chg.cons S15 (Chg.mono S22 (by decide)) (by decide)) (by decide)) (by decide))⟩
    refine k_aload_n C rfl rfl rfl ?_
    refine k_iload_n C rfl rfl rfl ?_
    refine c_VI C (s_X4_readSum_6 hS hI20 H_r0 (by omega) (by omega)) rfl rfl rfl rfl rfl ⟨_, rfl, rfl, T_r0, Nat.le_of_ble_eq_true rfl⟩ rfl rfl (Nat.le_of_ble_eq_true rfl) (Nat.le_of_ble_eq_true rfl) (Nat.le_of_ble_eq_true rfl) ?_
    rintro x25 I26 L27 ⟨o0x25, o1x25, hI26, S28⟩
    have gx25 := rg x25
    refine b_if_eq C (t := 53) rfl rfl rfl (fun c29 => ?_) (fun c29 => ?_)
    · skip
      refine z_iconst C (z := 0) rfl rfl rfl (fun x30 ex30 => ?_)
      exact k_iret C rfl (Or.inr ⟨rfl, z01 (by omega) (by omega)⟩) (Nat.le_of_ble_eq_true rfl) (Nat.le_of_ble_eq_true rfl) ⟨_, _, _, rfl, rfl, by omega, by omega, hI26, (Chg.cons S4 (Chg.cons S10 (Chg.cons S15 (Chg.cons S22 (Chg.mono S28 (by decide)) (by decide)) (by decide)) (by decide)) (by decide))⟩
    refine k_aload_n C rfl rfl rfl ?_
    refine z_bipush C (z := 93) rfl rfl rfl (fun x31 ex31 => ?_)
    refine c_VI C (s_X4_take hS hI26 H_r0) rfl rfl rfl rfl rfl ⟨_, rfl, rfl, T_r0, Nat.le_of_ble_eq_true rfl⟩ rfl rfl (Nat.le_of_ble_eq_true rfl) (Nat.le_of_ble_eq_true rfl) (Nat.le_of_ble_eq_true rfl) ?_
    rintro x32 I33 L34 ⟨o0x32, o1x32, hI33, S35⟩
    have gx32 := rg x32
    refine b_if_ne C (t := 55) rfl rfl rfl (fun c36 => ?_) (fun c36 => ?_)
    · skip
      refine k_aload_n C rfl rfl rfl ?_
      refine c_VI C (s_X4_next hS hI33 H_r0) rfl rfl rfl rfl rfl ⟨_, rfl, rfl, T_r0, Nat.le_of_ble_eq_true rfl⟩ rfl rfl (Nat.le_of_ble_eq_true rfl) (Nat.le_of_ble_eq_true rfl) (Nat.le_of_ble_eq_true rfl) ?_
      rintro x37 I38 L39 ⟨hI38, S40⟩
      have gx37 := rg x37
      refine c_SI C (s_X4_isDigit hS hI38 ) rfl rfl rfl rfl rfl rfl rfl (Nat.le_of_ble_eq_true rfl) (Nat.le_of_ble_eq_true rfl) (Nat.le_of_ble_eq_true rfl) ?_
      rintro x41 _ _ ⟨o0x41, o1x41, rfl, rfl⟩
      have gx41 := rg x41
      refine b_if_eq C (t := 79) rfl rfl rfl (fun c42 => ?_) (fun c42 => ?_)
      · skip
        refine z_iconst C (z := 0) rfl rfl rfl (fun x43 ex43 => ?_)
        exact k_iret C rfl (Or.inr ⟨rfl, z01 (by omega) (by omega)⟩) (Nat.le_of_ble_eq_true rfl) (Nat.le_of_ble_eq_true rfl) ⟨_, _, _, rfl, rfl, by omega, by omega, hI38, (Chg.cons S4 (Chg.cons S10 (Chg.cons S15 (Chg.cons S22 (Chg.cons S28 (Chg.cons S35 (Chg.mono S40 (by decide)) (by decide)) (by decide)) (by decide)) (by decide)) (by decide)) (by decide))⟩
      refine k_aload_n C rfl rfl rfl ?_
      refine z_iconst C (z := 4) rfl rfl rfl (fun x44 ex44 => ?_)
      refine z_bipush C (z := 8) rfl rfl rfl (fun x45 ex45 => ?_)
      refine c_VI C (s_X4_readNumber hS hI38 H_r0) rfl rfl rfl rfl rfl ⟨_, rfl, rfl, T_r0, Nat.le_of_ble_eq_true rfl⟩ rfl rfl (Nat.le_of_ble_eq_true rfl) (Nat.le_of_ble_eq_true rfl) (Nat.le_of_ble_eq_true rfl) ?_
      rintro x46 I47 L48 ⟨o0x46, o1x46, hI47, S49⟩
      have gx46 := rg x46
      refine b_if_eq C (t := 79) rfl rfl rfl (fun c50 => ?_) (fun c50 => ?_)
      · skip
        refine z_iconst C (z := 0) rfl rfl rfl (fun x51 ex51 => ?_)
        exact k_iret C rfl (Or.inr ⟨rfl, z01 (by omega) (by omega)⟩) (Nat.le_of_ble_eq_true rfl) (Nat.le_of_ble_eq_true rfl) ⟨_, _, _, rfl, rfl, by omega, by omega, hI47, (Chg.cons S4 (Chg.cons S10 (Chg.cons S15 (Chg.cons S22 (Chg.cons S28 (Chg.cons S35 (Chg.cons S40 (Chg.mono S49 (by decide)) (by decide)) (by decide)) (by decide)) (by decide)) (by decide)) (by decide)) (by decide))⟩
      refine z_iconst C (z := 1) rfl rfl rfl (fun x52 ex52 => ?_)
      refine k_goto C (pc2 := 80) rfl rfl ?_
      exact k_iret C rfl (Or.inr ⟨rfl, z01 (by omega) (by omega)⟩) (Nat.le_of_ble_eq_true rfl) (Nat.le_of_ble_eq_true rfl) ⟨_, _, _, rfl, rfl, by omega, by omega, hI47, (Chg.cons S4 (Chg.cons S10 (Chg.cons S15 (Chg.cons S22 (Chg.cons S28 (Chg.cons S35 (Chg.cons S40 (Chg.mono S49 (by decide)) (by decide)) (by decide)) (by decide)) (by decide)) (by decide)) (by decide)) (by decide))⟩
    refine z_iconst C (z := 0) rfl rfl rfl (fun x53 ex53 => ?_)
    exact k_iret C rfl (Or.inr ⟨rfl, z01 (by omega) (by omega)⟩) (Nat.le_of_ble_eq_true rfl) (Nat.le_of_ble_eq_true rfl) ⟨_, _, _, rfl, rfl, by omega, by omega, hI33, (Chg.cons S4 (Chg.cons S10 (Chg.cons S15 (Chg.cons S22 (Chg.cons S28 (Chg.mono S35 (by decide)) (by decide)) (by decide)) (by decide)) (by decide)) (by decide))⟩
  refine z_iconst C (z := 0) rfl rfl rfl (fun x54 ex54 => ?_)
  exact k_iret C rfl (Or.inr ⟨rfl, z01 (by omega) (by omega)⟩) (Nat.le_of_ble_eq_true rfl) (Nat.le_of_ble_eq_true rfl) ⟨_, _, _, rfl, rfl, by omega, by omega, hI2, (Chg.mono S4 (by decide))⟩

