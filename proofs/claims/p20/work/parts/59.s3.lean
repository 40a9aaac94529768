/-! the class in any state, the states' forms kept -/
theorem s_X3_takeOut {d : Nat} {T N : Nat → Nat} {I : IT} {L : LT} {R : RT} {A B : Nat → Prop} {r0 : Nat} {n1 : Int32} (hS : SUB B A) (hI : IX A T I) (H_r0 : (hs_Po T N R A B) r0) : Ex (d + 2) 51 [.ref r0, .int n1] (T, N, I, L, R) 0 0 (pV T N R (fun I9 L9 => (IX A T I9 ∧ Chg B T [(4, 7)] I L I9 L9))) := by
  refine ⟨_, rfl, Nat.le_of_ble_eq_true rfl, fun V C S => ?_⟩
  show V 0 [(0, .ref r0), (1, .int n1)] [] (T, N, I, L, R) 0 0
  have gn1 := rg n1
  refine k_aload_n C rfl rfl rfl ?_
  refine k_dup C rfl rfl rfl ?_
  obtain ⟨T_r0, A_r0, B_r0, ⟨r0_1, R_r0_1, H_r0_1⟩, ⟨r0_2, R_r0_2, H_r0_2⟩, ⟨r0_3, R_r0_3, H_r0_3⟩, ⟨r0_4, R_r0_4, H_r0_4⟩, ⟨r0_5, R_r0_5, H_r0_5⟩⟩ := id H_r0
  refine z_gI C rfl rfl rfl T_r0 rfl (fun x1 ex1 => ?_)
  have gx1 := rg x1
  refine z_iconst C (z := 1) rfl rfl rfl (fun x2 ex2 => ?_)
  refine zt_isub C rfl rfl (fun x3 => ?_)
  have gx3 := rg x3
  refine z_pI C rfl rfl rfl T_r0 (Or.inr rfl) rfl (fun I4 uI4 => ?_)
  have hI4 : IX A T I4 := IX.f hI T_r0 (boX.tr (by decide) (by decide)) uI4
  have S5 : Chg B T [(4, 7)] I L I4 L := Chg.f B_r0 T_r0 uI4
  have e6 := u2_e uI4
  refine z_iconst C (z := 0) rfl rfl rfl (fun x7 ex7 => ?_)
  have J8 : ∀ (nn9 : Nat) (I10 : IT) (L11 : LT) (x12 : Int32), (MN (8 - x12.toInt) nn9) → (IX A T I10) → (Chg B T [] I4 L I10 L11) → (0 ≤ x12.toInt) → (x12.toInt ≤ 8) → V 12 [(0, .ref r0), (1, .int n1), (2, .int x12)] [] (T, N, I10, L11, R) 0 0 := by
    intro nn9
    induction nn9 using Nat.strongRecOn with
    | _ nn9 ihJ8 =>
      intro I10 L11 x12 hmnn9 hI16 S15 b13 b14
      have gx12 := rg x12
      have e17 := Chg.k S15 T_r0 (by decide) (by decide) e6
      refine k_iload_n C rfl rfl rfl ?_
      refine k_aload_n C rfl rfl rfl ?_
      refine g_R C rfl rfl rfl T_r0 rfl R_r0_1 ?_
      obtain ⟨T_r0_1, A_r0_1, B_r0_1, ⟨r0_1_0, R_r0_1_0, H_r0_1_0⟩, ⟨r0_1_1, R_r0_1_1, H_r0_1_1⟩, ⟨r0_1_2, R_r0_1_2, H_r0_1_2⟩⟩ := id H_r0_1
      refine c_VI C (s_X0_p hS hI16 H_r0_1) rfl rfl rfl rfl rfl ⟨_, rfl, rfl, T_r0_1, Nat.le_of_ble_eq_true rfl⟩ rfl rfl (Nat.le_of_ble_eq_true rfl) (Nat.le_of_ble_eq_true rfl) (Nat.le_of_ble_eq_true rfl) ?_
      rintro x18 _ _ ⟨o0x18, o1x18, rfl, rfl⟩
      have gx18 := rg x18
      refine b_icmp_eq C (t := 79) rfl rfl rfl (fun c19 => ?_) (fun c19 => ?_)
      · skip
        exact k_vret C rfl rfl (Nat.le_of_ble_eq_true rfl) (Nat.le_of_ble_eq_true rfl) ⟨_, _, rfl, rfl, hI16, (Chg.cons S5 (Chg.mono S15 (by decide)) (by decide))⟩
      refine k_iload_n C rfl rfl rfl ?_
      refine k_aload_n C rfl rfl rfl ?_
      refine g_I C rfl rfl rfl T_r0 rfl e17 ?_
      refine b_icmp_ge C (t := 79) rfl rfl rfl (fun c20 => ?_) (fun c20 => ?_)
      · skip
        exact k_vret C rfl rfl (Nat.le_of_ble_eq_true rfl) (Nat.le_of_ble_eq_true rfl) ⟨_, _, rfl, rfl, hI16, (Chg.cons S5 (Chg.mono S15 (by decide)) (by decide))⟩
      refine k_iload_n C rfl rfl rfl ?_
      refine z_iconst C (z := 1) rfl rfl rfl (fun x21 ex21 => ?_)
      refine z_iadd C rfl rfl ⟨by omega, by omega⟩ (fun x22 ex22 => ?_)
      refine k_aload_n C rfl rfl rfl ?_
      refine g_R C rfl rfl rfl T_r0 rfl R_r0_5 ?_
      obtain ⟨T_r0_5, N_r0_5, A_r0_5⟩ := id H_r0_5
      refine z_len C (n := 9) rfl rfl (by rw [T_r0_5]; exact Nat.le_of_ble_eq_true rfl) N_r0_5 (Nat.le_of_ble_eq_true rfl) (fun x23 ex23 => ?_)
      refine b_icmp_ge C (t := 79) rfl rfl rfl (fun c24 => ?_) (fun c24 => ?_)
      · skip
        exact k_vret C rfl rfl (Nat.le_of_ble_eq_true rfl) (Nat.le_of_ble_eq_true rfl) ⟨_, _, rfl, rfl, hI16, (Chg.cons S5 (Chg.mono S15 (by decide)) (by decide))⟩
      refine k_aload_n C rfl rfl rfl ?_
      refine g_R C rfl rfl rfl T_r0 rfl R_r0_5 ?_
      refine k_iload_n C rfl rfl rfl ?_
      refine k_aload_n C rfl rfl rfl ?_
      refine g_R C rfl rfl rfl T_r0 rfl R_r0_1 ?_
      refine k_aload_n C rfl rfl rfl ?_
      refine g_R C rfl rfl rfl T_r0 rfl R_r0_5 ?_
      refine k_iload_n C rfl rfl rfl ?_
      refine z_iconst C (z := 1) rfl rfl rfl (fun x25 ex25 => ?_)
      refine z_iadd C rfl rfl ⟨by omega, by omega⟩ (fun x26 ex26 => ?_)
      refine z_aI C rfl rfl T_r0_5 N_r0_5 (by omega) (by omega) (fun x27 ex27 => ?_)
      have gx27 := rg x27
      refine k_iload_n C rfl rfl rfl ?_
      refine k_aload_n C rfl rfl rfl ?_
      refine g_R C rfl rfl rfl T_r0 rfl R_r0_5 ?_
      refine k_iload_n C rfl rfl rfl ?_
      refine z_aI C rfl rfl T_r0_5 N_r0_5 (by omega) (by omega) (fun x28 ex28 => ?_)
      have gx28 := rg x28
      refine zt_imul C rfl rfl (fun x29 => ?_)
      have gx29 := rg x29
      refine zt_iadd C rfl rfl (fun x30 => ?_)
      have gx30 := rg x30
      refine z_i2l C rfl rfl (fun lg31 elg31 => ?_)
      refine c_VI C (s_X0_of hS hI16 H_r0_1) rfl rfl rfl rfl rfl ⟨_, rfl, rfl, T_r0_1, Nat.le_of_ble_eq_true rfl⟩ rfl rfl (Nat.le_of_ble_eq_true rfl) (Nat.le_of_ble_eq_true rfl) (Nat.le_of_ble_eq_true rfl) ?_
      rintro x32 _ _ ⟨rfl, rfl⟩
      have gx32 := rg x32
      refine z_sI C rfl rfl T_r0_5 N_r0_5 (by omega) (by omega) (fun I33 uI33 => ?_)
      have hI33 : IX A T I33 := IX.a hI16 T_r0_5 (Nat.le_of_ble_eq_true rfl) uI33
      have S34 : Chg B T [] I10 L11 I33 L11 := Chg.a A_r0_5 T_r0_5 (Nat.le_of_ble_eq_true rfl) uI33
      have e35 := u2_n uI33 (t_nq T_r0 T_r0_5 (by decide)) e17
      refine z_iinc C (z := 1) (lw := fun x36 => [(2, .int x36), (0, .ref r0), (1, .int n1)]) rfl rfl rfl (Nat.le_of_ble_eq_true rfl) rfl ⟨by omega, by omega⟩ (fun _ => rfl) (fun x36 ex36 => ?_)
      show V 76 [(2, .int x36), (0, .ref r0), (1, .int n1)] _ _ _ _
      refine k_goto C (pc2 := 12) rfl rfl ?_
      refine k_sub S [(0, .ref r0), (1, .int n1), (2, .int x36)] (List.forall_mem_cons.mpr ⟨List.mem_of_getElem? (i := 1) rfl, List.forall_mem_cons.mpr ⟨List.mem_of_getElem? (i := 2) rfl, List.forall_mem_cons.mpr ⟨List.mem_of_getElem? (i := 0) rfl, fun _ h => nomatch h⟩⟩⟩) ?_
      exact ihJ8 _ (MN.lt hmnn9 (by omega) (by omega)) I33 L11 x36 rfl hI33 (Chg.cons S15 (Chg.mono S34 (by decide)) (by decide)) (by omega) (by omega)
  refine k_istore_n C (lw := [(2, .int x7), (0, .ref r0), (1, .int n1)]) rfl rfl (Nat.le_of_ble_eq_true rfl) rfl ?_
  refine k_sub S [(0, .ref r0), (1, .int n1), (2, .int x7)] (List.forall_mem_cons.mpr ⟨List.mem_of_getElem? (i := 1) rfl, List.forall_mem_cons.mpr ⟨List.mem_of_getElem? (i := 2) rfl, List.forall_mem_cons.mpr ⟨List.mem_of_getElem? (i := 0) rfl, fun _ h => nomatch h⟩⟩⟩) ?_
  exact J8 _ I4 L x7 rfl hI4 Chg.rf (by omega) (by omega)

theorem s_X3_isSumOf {d : Nat} {T N : Nat → Nat} {I : IT} {L : LT} {R : RT} {A B : Nat → Prop} {r0 : Nat} {n1 : Int32} (hS : SUB B A) (hI : IX A T I) (H_r0 : (hs_Po T N R A B) r0) : Ex (d + 3) 52 [.ref r0, .int n1] (T, N, I, L, R) 0 0 (pI T N R (fun x9 I9 L9 => (0 ≤ x9.toInt) ∧ (x9.toInt ≤ 1) ∧ (IX A T I9 ∧ Chg B T [(4, 7)] I L I9 L9))) := by
  refine ⟨_, rfl, Nat.le_of_ble_eq_true rfl, fun V C S => ?_⟩
  show V 0 [(0, .ref r0), (1, .int n1)] [] (T, N, I, L, R) 0 0
  have gn1 := rg n1
  refine k_aload_n C rfl rfl rfl ?_
  obtain ⟨T_r0, A_r0, B_r0, ⟨r0_1, R_r0_1, H_r0_1⟩, ⟨r0_2, R_r0_2, H_r0_2⟩, ⟨r0_3, R_r0_3, H_r0_3⟩, ⟨r0_4, R_r0_4, H_r0_4⟩, ⟨r0_5, R_r0_5, H_r0_5⟩⟩ := id H_r0
  refine c_VV C (s_X3_beginRow hS hI H_r0) rfl rfl rfl rfl rfl ⟨_, rfl, rfl, T_r0, Nat.le_of_ble_eq_true rfl⟩ rfl rfl (Nat.le_of_ble_eq_true rfl) (Nat.le_of_ble_eq_true rfl) (Nat.le_of_ble_eq_true rfl) ?_
  rintro I2 L3 ⟨hI2, S4⟩
  refine z_iconst C (z := 0) rfl rfl rfl (fun x5 ex5 => ?_)
  have J6 : ∀ (nn7 : Nat) (I8 : IT) (L9 : LT) (x10 : Int32), (MN (3 - x10.toInt) nn7) → (IX A T I8) → (Chg B T [(4, 7)] I2 L3 I8 L9) → (0 ≤ x10.toInt) → (x10.toInt ≤ 3) → V 6 [(0, .ref r0), (1, .int n1), (2, .int x10)] [] (T, N, I8, L9, R) 0 0 := by
    intro nn7
    induction nn7 using Nat.strongRecOn with
    | _ nn7 ihJ6 =>
      intro I8 L9 x10 hmnn7 hI14 S13 b11 b12
      have gx10 := rg x10
      refine k_iload_n C rfl rfl rfl ?_
      refine k_iload_n C rfl rfl rfl ?_
      refine b_icmp_ge C (t := 36) rfl rfl rfl (fun c15 => ?_) (fun c15 => ?_)
      · skip
        refine z_iconst C (z := 0) rfl rfl rfl (fun x16 ex16 => ?_)
        have J17 : ∀ (nn18 : Nat) (x19 : Int32), (MN (9 - x19.toInt) nn18) → (0 ≤ x19.toInt) → (x19.toInt ≤ 9) → V 38 [(0, .ref r0), (2, .int x19)] [] (T, N, I8, L9, R) 0 0 := by
          intro nn18
          induction nn18 using Nat.strongRecOn with
          | _ nn18 ihJ17 =>
            intro x19 hmnn18 b20 b21
            have gx19 := rg x19
            refine k_iload_n C rfl rfl rfl ?_
            refine k_aload_n C rfl rfl rfl ?_
            refine z_gI C rfl rfl rfl T_r0 rfl (fun x22 ex22 => ?_)
            have gx22 := rg x22
            refine b_icmp_ge C (t := 72) rfl rfl rfl (fun c23 => ?_) (fun c23 => ?_)
            · skip
              refine z_iconst C (z := 1) rfl rfl rfl (fun x24 ex24 => ?_)
              exact k_iret C rfl (Or.inr ⟨rfl, z01 (by omega) (by omega)⟩) (Nat.le_of_ble_eq_true rfl) (Nat.le_of_ble_eq_true rfl) ⟨_, _, _, rfl, rfl, by omega, by omega, hI14, (Chg.cons S4 (Chg.mono S13 (by decide)) (by decide))⟩
            refine k_iload_n C rfl rfl rfl ?_
            refine k_aload_n C rfl rfl rfl ?_
            refine g_R C rfl rfl rfl T_r0 rfl R_r0_5 ?_
            obtain ⟨T_r0_5, N_r0_5, A_r0_5⟩ := id H_r0_5
            refine z_len C (n := 9) rfl rfl (by rw [T_r0_5]; exact Nat.le_of_ble_eq_true rfl) N_r0_5 (Nat.le_of_ble_eq_true rfl) (fun x25 ex25 => ?_)
            refine b_icmp_ge C (t := 72) rfl rfl rfl (fun c26 => ?_) (fun c26 => ?_)
            · skip
              refine z_iconst C (z := 1) rfl rfl rfl (fun x27 ex27 => ?_)
              exact k_iret C rfl (Or.inr ⟨rfl, z01 (by omega) (by omega)⟩) (Nat.le_of_ble_eq_true rfl) (Nat.le_of_ble_eq_true rfl) ⟨_, _, _, rfl, rfl, by omega, by omega, hI14, (Chg.cons S4 (Chg.mono S13 (by decide)) (by decide))⟩
            refine k_aload_n C rfl rfl rfl ?_
            refine g_R C rfl rfl rfl T_r0 rfl R_r0_5 ?_
            refine k_iload_n C rfl rfl rfl ?_
            refine z_aI C rfl rfl T_r0_5 N_r0_5 (by omega) (by omega) (fun x28 ex28 => ?_)
            have gx28 := rg x28
            refine b_if_eq C (t := 66) rfl rfl rfl (fun c29 => ?_) (fun c29 => ?_)
            · skip
              refine z_iinc C (z := 1) (lw := fun x30 => [(2, .int x30), (0, .ref r0)]) rfl rfl rfl (Nat.le_of_ble_eq_true rfl) rfl ⟨by omega, by omega⟩ (fun _ => rfl) (fun x30 ex30 => ?_)
              show V 69 [(2, .int x30), (0, .ref r0)] _ _ _ _
              refine k_goto C (pc2 := 38) rfl rfl ?_
              refine k_sub S [(0, .ref r0), (2, .int x30)] (List.forall_mem_cons.mpr ⟨List.mem_of_getElem? (i := 1) rfl, List.forall_mem_cons.mpr ⟨List.mem_of_getElem? (i := 0) rfl, fun _ h => nomatch h⟩⟩) ?_
              exact ihJ17 _ (MN.lt hmnn18 (by omega) (by omega)) x30 rfl (by omega) (by omega)
            refine z_iconst C (z := 0) rfl rfl rfl (fun x31 ex31 => ?_)
            exact k_iret C rfl (Or.inr ⟨rfl, z01 (by omega) (by omega)⟩) (Nat.le_of_ble_eq_true rfl) (Nat.le_of_ble_eq_true rfl) ⟨_, _, _, rfl, rfl, by omega, by omega, hI14, (Chg.cons S4 (Chg.mono S13 (by decide)) (by decide))⟩
        refine k_istore_n C (lw := [(2, .int x16), (0, .ref r0), (1, .int n1)]) rfl rfl (Nat.le_of_ble_eq_true rfl) rfl ?_
        refine k_sub S [(0, .ref r0), (2, .int x16)] (List.forall_mem_cons.mpr ⟨List.mem_of_getElem? (i := 1) rfl, List.forall_mem_cons.mpr ⟨List.mem_of_getElem? (i := 0) rfl, fun _ h => nomatch h⟩⟩) ?_
        exact J17 _ x16 rfl (by omega) (by omega)
      refine k_iload_n C rfl rfl rfl ?_
      refine k_aload_n C rfl rfl rfl ?_
      refine g_R C rfl rfl rfl T_r0 rfl R_r0_2 ?_
      obtain ⟨T_r0_2, N_r0_2, A_r0_2⟩ := id H_r0_2
      refine z_len C (n := 3) rfl rfl (by rw [T_r0_2]; exact Nat.le_of_ble_eq_true rfl) N_r0_2 (Nat.le_of_ble_eq_true rfl) (fun x32 ex32 => ?_)
      refine b_icmp_ge C (t := 36) rfl rfl rfl (fun c33 => ?_) (fun c33 => ?_)
      · skip
        refine z_iconst C (z := 0) rfl rfl rfl (fun x34 ex34 => ?_)
        have J35 : ∀ (nn36 : Nat) (x37 : Int32), (MN (9 - x37.toInt) nn36) → (0 ≤ x37.toInt) → (x37.toInt ≤ 9) → V 38 [(0, .ref r0), (2, .int x37)] [] (T, N, I8, L9, R) 0 0 := by
          intro nn36
          induction nn36 using Nat.strongRecOn with
          | _ nn36 ihJ35 =>
            intro x37 hmnn36 b38 b39
            have gx37 := rg x37
            refine k_iload_n C rfl rfl rfl ?_
            refine k_aload_n C rfl rfl rfl ?_
            refine z_gI C rfl rfl rfl T_r0 rfl (fun x40 ex40 => ?_)
            have gx40 := rg x40
            refine b_icmp_ge C (t := 72) rfl rfl rfl (fun c41 => ?_) (fun c41 => ?_)
            · skip
              refine z_iconst C (z := 1) rfl rfl rfl (fun x42 ex42 => ?_)
              exact k_iret C rfl (Or.inr ⟨rfl, z01 (by omega) (by omega)⟩) (Nat.le_of_ble_eq_true rfl) (Nat.le_of_ble_eq_true rfl) ⟨_, _, _, rfl, rfl, by omega, by omega, hI14, (Chg.cons S4 (Chg.mono S13 (by decide)) (by decide))⟩
            refine k_iload_n C rfl rfl rfl ?_
            refine k_aload_n C rfl rfl rfl ?_
            refine g_R C rfl rfl rfl T_r0 rfl R_r0_5 ?_
            obtain ⟨T_r0_5, N_r0_5, A_r0_5⟩ := id H_r0_5
            refine z_len C (n := 9) rfl rfl (by rw [T_r0_5]; exact Nat.le_of_ble_eq_true rfl) N_r0_5 (Nat.le_of_ble_eq_true rfl) (fun x43 ex43 => ?_)
            refine b_icmp_ge C (t := 72) rfl rfl rfl (fun c44 => ?_) (fun c44 => ?_)
            · skip
              refine z_iconst C (z := 1) rfl rfl rfl (fun x45 ex45 => ?_)
              exact k_iret C rfl (Or.inr ⟨rfl, z01 (by omega) (by omega)⟩) (Nat.le_of_ble_eq_true rfl) (Nat.le_of_ble_eq_true rfl) ⟨_, _, _, rfl, rfl, by omega, by omega, hI14, (Chg.cons S4 (Chg.mono S13 (by decide)) (by decide))⟩
            refine k_aload_n C rfl rfl rfl ?_
            refine g_R C rfl rfl rfl T_r0 rfl R_r0_5 ?_
            refine k_iload_n C rfl rfl rfl ?_
            refine z_aI C rfl rfl T_r0_5 N_r0_5 (by omega) (by omega) (fun x46 ex46 => ?_)
            have gx46 := rg x46
            refine b_if_eq C (t := 66) rfl rfl rfl (fun c47 => ?_) (fun c47 => ?_)
            · skip
              refine z_iinc C (z := 1) (lw := fun x48 => [(2, .int x48), (0, .ref r0)]) rfl rfl rfl (Nat.le_of_ble_eq_true rfl) rfl ⟨by omega, by omega⟩ (fun _ => rfl) (fun x48 ex48 => ?_)
              show V 69 [(2, .int x48), (0, .ref r0)] _ _ _ _
              refine k_goto C (pc2 := 38) rfl rfl ?_
              refine k_sub S [(0, .ref r0), (2, .int x48)] (List.forall_mem_cons.mpr ⟨List.mem_of_getElem? (i := 1) rfl, List.forall_mem_cons.mpr ⟨List.mem_of_getElem? (i := 0) rfl, fun _ h => nomatch h⟩⟩) ?_
              exact ihJ35 _ (MN.lt hmnn36 (by omega) (by omega)) x48 rfl (by omega) (by omega)
            refine z_iconst C (z := 0) rfl rfl rfl (fun x49 ex49 => ?_)
            exact k_iret C rfl (Or.inr ⟨rfl, z01 (by omega) (by omega)⟩) (Nat.le_of_ble_eq_true rfl) (Nat.le_of_ble_eq_true rfl) ⟨_, _, _, rfl, rfl, by omega, by omega, hI14, (Chg.cons S4 (Chg.mono S13 (by decide)) (by decide))⟩
        refine k_istore_n C (lw := [(2, .int x34), (0, .ref r0), (1, .int n1)]) rfl rfl (Nat.le_of_ble_eq_true rfl) rfl ?_
        refine k_sub S [(0, .ref r0), (2, .int x34)] (List.forall_mem_cons.mpr ⟨List.mem_of_getElem? (i := 1) rfl, List.forall_mem_cons.mpr ⟨List.mem_of_getElem? (i := 0) rfl, fun _ h => nomatch h⟩⟩) ?_
        exact J35 _ x34 rfl (by omega) (by omega)
      refine k_aload_n C rfl rfl rfl ?_
      refine k_aload_n C rfl rfl rfl ?_
      refine g_R C rfl rfl rfl T_r0 rfl R_r0_2 ?_
      refine k_iload_n C rfl rfl rfl ?_
      refine z_aI C rfl rfl T_r0_2 N_r0_2 (by omega) (by omega) (fun x50 ex50 => ?_)
      have gx50 := rg x50
      refine c_VV C (s_X3_takeOut hS hI14 H_r0) rfl rfl rfl rfl rfl ⟨_, rfl, rfl, T_r0, Nat.le_of_ble_eq_true rfl⟩ rfl rfl (Nat.le_of_ble_eq_true rfl) (Nat.le_of_ble_eq_true rfl) (Nat.le_of_ble_eq_true rfl) ?_
      rintro I52 L53 ⟨hI52, S54⟩
      refine z_iinc C (z := 1) (lw := fun x55 => [(2, .int x55), (0, .ref r0), (1, .int n1)]) rfl rfl rfl (Nat.le_of_ble_eq_true rfl) rfl ⟨by omega, by omega⟩ (fun _ => rfl) (fun x55 ex55 => ?_)
      show V 33 [(2, .int x55), (0, .ref r0), (1, .int n1)] _ _ _ _
      refine k_goto C (pc2 := 6) rfl rfl ?_
      refine k_sub S [(0, .ref r0), (1, .int n1), (2, .int x55)] (List.forall_mem_cons.mpr ⟨List.mem_of_getElem? (i := 1) rfl, List.forall_mem_cons.mpr ⟨List.mem_of_getElem? (i := 2) rfl, List.forall_mem_cons.mpr ⟨List.mem_of_getElem? (i := 0) rfl, fun _ h => nomatch h⟩⟩⟩) ?_
      exact ihJ6 _ (MN.lt hmnn7 (by omega) (by omega)) I52 L53 x55 rfl hI52 (Chg.cons S13 (Chg.mono S54 (by decide)) (by decide)) (by omega) (by omega)
  refine k_istore_n C (lw := [(2, .int x5), (0, .ref r0), (1, .int n1)]) rfl rfl (Nat.le_of_ble_eq_true rfl) rfl ?_
  refine k_sub S [(0, .ref r0), (1, .int n1), (2, .int x5)] (List.forall_mem_cons.mpr ⟨List.mem_of_getElem? (i := 1) rfl, List.forall_mem_cons.mpr ⟨List.mem_of_getElem? (i := 2) rfl, List.forall_mem_cons.mpr ⟨List.mem_of_getElem? (i := 0) rfl, fun _ h => nomatch h⟩⟩⟩) ?_
  exact J6 _ I2 L3 x5 rfl hI2 Chg.rf (by omega) (by omega)

theorem s_X3_isNextChoice {d : Nat} {T N : Nat → Nat} {I : IT} {L : LT} {R : RT} {A B : Nat → Prop} {r0 : Nat} {n1 : Int32} (hS : SUB B A) (hI : IX A T I) (H_r0 : (hs_Po T N R A B) r0) (b0_n1 : 0 ≤ n1.toInt) (b1_n1 : n1.toInt ≤ 3) : Ex (d + 2) 53 [.ref r0, .int n1] (T, N, I, L, R) 0 0 (pI T N R (fun x9 I9 L9 => (0 ≤ x9.toInt) ∧ (x9.toInt ≤ 1) ∧ (IX A T I9 ∧ Chg B T [] I L I9 L9))) := by
  refine ⟨_, rfl, Nat.le_of_ble_eq_true rfl, fun V C S => ?_⟩
  show V 0 [(0, .ref r0), (1, .int n1)] [] (T, N, I, L, R) 0 0
  have gn1 := rg n1
  refine k_iload_n C rfl rfl rfl ?_
  refine k_aload_n C rfl rfl rfl ?_
  obtain ⟨T_r0, A_r0, B_r0, ⟨r0_1, R_r0_1, H_r0_1⟩, ⟨r0_2, R_r0_2, H_r0_2⟩, ⟨r0_3, R_r0_3, H_r0_3⟩, ⟨r0_4, R_r0_4, H_r0_4⟩, ⟨r0_5, R_r0_5, H_r0_5⟩⟩ := id H_r0
  refine g_R C rfl rfl rfl T_r0 rfl R_r0_2 ?_
  obtain ⟨T_r0_2, N_r0_2, A_r0_2⟩ := id H_r0_2
  refine z_len C (n := 3) rfl rfl (by rw [T_r0_2]; exact Nat.le_of_ble_eq_true rfl) N_r0_2 (Nat.le_of_ble_eq_true rfl) (fun x1 ex1 => ?_)
  refine c_SI C (s_J9_min_7cf53 hS hI ) rfl rfl rfl rfl rfl rfl rfl (Nat.le_of_ble_eq_true rfl) (Nat.le_of_ble_eq_true rfl) (Nat.le_of_ble_eq_true rfl) ?_
  rintro x2 _ _ ⟨p0x2, p1x2, p2x2, rfl, rfl⟩
  have gx2 := rg x2
  refine z_iconst C (z := 1) rfl rfl rfl (fun x3 ex3 => ?_)
  refine z_isub C rfl rfl ⟨by omega, by omega⟩ (fun x4 ex4 => ?_)
  have J5 : ∀ (nn6 : Nat) (x7 : Int32), (MN (x7.toInt - (-1)) nn6) → (-1 ≤ x7.toInt) → (x7.toInt ≤ 2) → V 12 [(0, .ref r0), (1, .int n1), (2, .int x7)] [] (T, N, I, L, R) 0 0 := by
    intro nn6
    induction nn6 using Nat.strongRecOn with
    | _ nn6 ihJ5 =>
      intro x7 hmnn6 b8 b9
      have gx7 := rg x7
      refine k_iload_n C rfl rfl rfl ?_
      have J10 : V 44 [(0, .ref r0), (1, .int n1), (2, .int x7)] [] (T, N, I, L, R) 0 0 := by
        refine k_iload_n C rfl rfl rfl ?_
        refine b_if_ge C (t := 50) rfl rfl rfl (fun c12 => ?_) (fun c12 => ?_)
        · skip
          refine k_aload_n C rfl rfl rfl ?_
          refine g_R C rfl rfl rfl T_r0 rfl R_r0_2 ?_
          refine k_iload_n C rfl rfl rfl ?_
          refine k_dup2 C rfl rfl rfl rfl ?_
          refine z_aI C rfl rfl T_r0_2 N_r0_2 (by omega) (by omega) (fun x13 ex13 => ?_)
          have gx13 := rg x13
          refine z_iconst C (z := 1) rfl rfl rfl (fun x14 ex14 => ?_)
          refine zt_iadd C rfl rfl (fun x15 => ?_)
          have gx15 := rg x15
          refine z_sI C rfl rfl T_r0_2 N_r0_2 (by omega) (by omega) (fun I16 uI16 => ?_)
          have hI16 : IX A T I16 := IX.a hI T_r0_2 (Nat.le_of_ble_eq_true rfl) uI16
          have S17 : Chg B T [] I L I16 L := Chg.a A_r0_2 T_r0_2 (Nat.le_of_ble_eq_true rfl) uI16
          refine k_iload_n C rfl rfl rfl ?_
          refine z_iconst C (z := 1) rfl rfl rfl (fun x18 ex18 => ?_)
          refine z_iadd C rfl rfl ⟨by omega, by omega⟩ (fun x19 ex19 => ?_)
          have J20 : ∀ (nn21 : Nat) (I22 : IT) (L23 : LT) (x24 : Int32), (MN (3 - x24.toInt) nn21) → (IX A T I22) → (Chg B T [] I16 L I22 L23) → (1 ≤ x24.toInt) → (x24.toInt ≤ 3) → V 64 [(0, .ref r0), (1, .int n1), (3, .int x24)] [] (T, N, I22, L23, R) 0 0 := by
            intro nn21
            induction nn21 using Nat.strongRecOn with
            | _ nn21 ihJ20 =>
              intro I22 L23 x24 hmnn21 hI28 S27 b25 b26
              have gx24 := rg x24
              refine k_iload_n C rfl rfl rfl ?_
              refine k_iload_n C rfl rfl rfl ?_
              refine b_icmp_ge C (t := 100) rfl rfl rfl (fun c29 => ?_) (fun c29 => ?_)
              · skip
                refine z_iconst C (z := 1) rfl rfl rfl (fun x30 ex30 => ?_)
                exact k_iret C rfl (Or.inr ⟨rfl, z01 (by omega) (by omega)⟩) (Nat.le_of_ble_eq_true rfl) (Nat.le_of_ble_eq_true rfl) ⟨_, _, _, rfl, rfl, by omega, by omega, hI28, (Chg.cons S17 (Chg.mono S27 (by decide)) (by decide))⟩
              refine k_iload_n C rfl rfl rfl ?_
              refine k_aload_n C rfl rfl rfl ?_
              refine g_R C rfl rfl rfl T_r0 rfl R_r0_2 ?_
              refine z_len C (n := 3) rfl rfl (by rw [T_r0_2]; exact Nat.le_of_ble_eq_true rfl) N_r0_2 (Nat.le_of_ble_eq_true rfl) (fun x31 ex31 => ?_)
              refine b_icmp_ge C (t := 100) rfl rfl rfl (fun c32 => by exfalso; omega) (fun c32 => ?_)
              refine k_aload_n C rfl rfl rfl ?_
              refine g_R C rfl rfl rfl T_r0 rfl R_r0_2 ?_
              refine k_iload_n C rfl rfl rfl ?_
              refine k_aload_n C rfl rfl rfl ?_
              refine g_R C rfl rfl rfl T_r0 rfl R_r0_2 ?_
              refine k_iload_n C rfl rfl rfl ?_
              refine z_iconst C (z := 1) rfl rfl rfl (fun x33 ex33 => ?_)
              refine z_isub C rfl rfl ⟨by omega, by omega⟩ (fun x34 ex34 => ?_)
              refine z_aI C rfl rfl T_r0_2 N_r0_2 (by omega) (by omega) (fun x35 ex35 => ?_)
              have gx35 := rg x35
              refine z_iconst C (z := 1) rfl rfl rfl (fun x36 ex36 => ?_)
              refine zt_iadd C rfl rfl (fun x37 => ?_)
              have gx37 := rg x37
              refine z_sI C rfl rfl T_r0_2 N_r0_2 (by omega) (by omega) (fun I38 uI38 => ?_)
              have hI38 : IX A T I38 := IX.a hI28 T_r0_2 (Nat.le_of_ble_eq_true rfl) uI38
              have S39 : Chg B T [] I22 L23 I38 L23 := Chg.a A_r0_2 T_r0_2 (Nat.le_of_ble_eq_true rfl) uI38
              refine z_iinc C (z := 1) (lw := fun x40 => [(3, .int x40), (0, .ref r0), (1, .int n1)]) rfl rfl rfl (Nat.le_of_ble_eq_true rfl) rfl ⟨by omega, by omega⟩ (fun _ => rfl) (fun x40 ex40 => ?_)
              show V 97 [(3, .int x40), (0, .ref r0), (1, .int n1)] _ _ _ _
              refine k_goto C (pc2 := 64) rfl rfl ?_
              refine k_sub S [(0, .ref r0), (1, .int n1), (3, .int x40)] (List.forall_mem_cons.mpr ⟨List.mem_of_getElem? (i := 1) rfl, List.forall_mem_cons.mpr ⟨List.mem_of_getElem? (i := 2) rfl, List.forall_mem_cons.mpr ⟨List.mem_of_getElem? (i := 0) rfl, fun _ h => nomatch h⟩⟩⟩) ?_
              exact ihJ20 _ (MN.lt hmnn21 (by omega) (by omega)) I38 L23 x40 rfl hI38 (Chg.cons S27 (Chg.mono S39 (by decide)) (by decide)) (by omega) (by omega)
          refine k_istore_n C (lw := [(3, .int x19), (0, .ref r0), (1, .int n1), (2, .int x7)]) rfl rfl (Nat.le_of_ble_eq_true rfl) rfl ?_
          refine k_sub S [(0, .ref r0), (1, .int n1), (3, .int x19)] (List.forall_mem_cons.mpr ⟨List.mem_of_getElem? (i := 1) rfl, List.forall_mem_cons.mpr ⟨List.mem_of_getElem? (i := 2) rfl, List.forall_mem_cons.mpr ⟨List.mem_of_getElem? (i := 0) rfl, fun _ h => nomatch h⟩⟩⟩) ?_
          exact J20 _ I16 L x19 rfl hI16 Chg.rf (by omega) (by omega)
        refine z_iconst C (z := 0) rfl rfl rfl (fun x41 ex41 => ?_)
        exact k_iret C rfl (Or.inr ⟨rfl, z01 (by omega) (by omega)⟩) (Nat.le_of_ble_eq_true rfl) (Nat.le_of_ble_eq_true rfl) ⟨_, _, _, rfl, rfl, by omega, by omega, hI, Chg.rf⟩
      refine b_if_lt C (t := 44) rfl rfl rfl (fun c42 => ?_) (fun c42 => ?_)
      · skip
        refine k_sub S [(0, .ref r0), (1, .int n1), (2, .int x7)] (List.forall_mem_cons.mpr ⟨List.mem_of_getElem? (i := 0) rfl, List.forall_mem_cons.mpr ⟨List.mem_of_getElem? (i := 1) rfl, List.forall_mem_cons.mpr ⟨List.mem_of_getElem? (i := 2) rfl, fun _ h => nomatch h⟩⟩⟩) ?_
        exact J10 
      refine k_aload_n C rfl rfl rfl ?_
      refine g_R C rfl rfl rfl T_r0 rfl R_r0_2 ?_
      refine k_iload_n C rfl rfl rfl ?_
      refine z_aI C rfl rfl T_r0_2 N_r0_2 (by omega) (by omega) (fun x43 ex43 => ?_)
      have gx43 := rg x43
      refine k_aload_n C rfl rfl rfl ?_
      refine g_R C rfl rfl rfl T_r0 rfl R_r0_1 ?_
      obtain ⟨T_r0_1, A_r0_1, B_r0_1, ⟨r0_1_0, R_r0_1_0, H_r0_1_0⟩, ⟨r0_1_1, R_r0_1_1, H_r0_1_1⟩, ⟨r0_1_2, R_r0_1_2, H_r0_1_2⟩⟩ := id H_r0_1
      refine c_VI C (s_X0_p hS hI H_r0_1) rfl rfl rfl rfl rfl ⟨_, rfl, rfl, T_r0_1, Nat.le_of_ble_eq_true rfl⟩ rfl rfl (Nat.le_of_ble_eq_true rfl) (Nat.le_of_ble_eq_true rfl) (Nat.le_of_ble_eq_true rfl) ?_
      rintro x44 _ _ ⟨o0x44, o1x44, rfl, rfl⟩
      have gx44 := rg x44
      refine k_iload_n C rfl rfl rfl ?_
      refine z_iconst C (z := 1) rfl rfl rfl (fun x45 ex45 => ?_)
      refine z_isub C rfl rfl ⟨by omega, by omega⟩ (fun x46 ex46 => ?_)
      refine k_iload_n C rfl rfl rfl ?_
      refine z_isub C rfl rfl ⟨by omega, by omega⟩ (fun x47 ex47 => ?_)
      refine z_isub C rfl rfl ⟨by omega, by omega⟩ (fun x48 ex48 => ?_)
      refine b_icmp_lt C (t := 44) rfl rfl rfl (fun c49 => ?_) (fun c49 => ?_)
      · skip
        refine k_sub S [(0, .ref r0), (1, .int n1), (2, .int x7)] (List.forall_mem_cons.mpr ⟨List.mem_of_getElem? (i := 0) rfl, List.forall_mem_cons.mpr ⟨List.mem_of_getElem? (i := 1) rfl, List.forall_mem_cons.mpr ⟨List.mem_of_getElem? (i := 2) rfl, fun _ h => nomatch h⟩⟩⟩) ?_
        exact J10 
      refine z_iinc C (z := -1) (lw := fun x50 => [(2, .int x50), (0, .ref r0), (1, .int n1)]) rfl rfl rfl (Nat.le_of_ble_eq_true rfl) rfl ⟨by omega, by omega⟩ (fun _ => rfl) (fun x50 ex50 => ?_)
      show V 41 [(2, .int x50), (0, .ref r0), (1, .int n1)] _ _ _ _
      refine k_goto C (pc2 := 12) rfl rfl ?_
      refine k_sub S [(0, .ref r0), (1, .int n1), (2, .int x50)] (List.forall_mem_cons.mpr ⟨List.mem_of_getElem? (i := 1) rfl, List.forall_mem_cons.mpr ⟨List.mem_of_getElem? (i := 2) rfl, List.forall_mem_cons.mpr ⟨List.mem_of_getElem? (i := 0) rfl, fun _ h => nomatch h⟩⟩⟩) ?_
      exact ihJ5 _ (MN.lt hmnn6 (by omega) (by omega)) x50 rfl (by omega) (by omega)
  refine k_istore_n C (lw := [(2, .int x4), (0, .ref r0), (1, .int n1)]) rfl rfl (Nat.le_of_ble_eq_true rfl) rfl ?_
  refine k_sub S [(0, .ref r0), (1, .int n1), (2, .int x4)] (List.forall_mem_cons.mpr ⟨List.mem_of_getElem? (i := 1) rfl, List.forall_mem_cons.mpr ⟨List.mem_of_getElem? (i := 2) rfl, List.forall_mem_cons.mpr ⟨List.mem_of_getElem? (i := 0) rfl, fun _ h => nomatch h⟩⟩⟩) ?_
  exact J5 _ x4 rfl (by omega) (by omega)

theorem s_X3_isFound {d : Nat} {T N : Nat → Nat} {I : IT} {L : LT} {R : RT} {A B : Nat → Prop} {r0 : Nat} {n1 : Int32} (hS : SUB B A) (hI : IX A T I) (H_r0 : (hs_Po T N R A B) r0) (b0_n1 : 0 ≤ n1.toInt) (b1_n1 : n1.toInt ≤ 3) : Ex (d + 4) 54 [.ref r0, .int n1] (T, N, I, L, R) 0 0 (pI T N R (fun x9 I9 L9 => (0 ≤ x9.toInt) ∧ (x9.toInt ≤ 1) ∧ (IX A T I9 ∧ Chg B T [(4, 7)] I L I9 L9))) := by
  refine ⟨_, rfl, Nat.le_of_ble_eq_true rfl, fun V C S => ?_⟩
  show V 0 [(0, .ref r0), (1, .int n1)] [] (T, N, I, L, R) 0 0
  have gn1 := rg n1
  refine z_iconst C (z := 0) rfl rfl rfl (fun x1 ex1 => ?_)
  have J2 : ∀ (nn3 : Nat) (I4 : IT) (L5 : LT) (x6 : Int32), (MN (3 - x6.toInt) nn3) → (IX A T I4) → (Chg B T [] I L I4 L5) → (0 ≤ x6.toInt) → (x6.toInt ≤ 3) → V 2 [(0, .ref r0), (1, .int n1), (2, .int x6)] [] (T, N, I4, L5, R) 0 0 := by
    intro nn3
    induction nn3 using Nat.strongRecOn with
    | _ nn3 ihJ2 =>
      intro I4 L5 x6 hmnn3 hI10 S9 b7 b8
      have gx6 := rg x6
      refine k_iload_n C rfl rfl rfl ?_
      refine k_iload_n C rfl rfl rfl ?_
      refine b_icmp_ge C (t := 29) rfl rfl rfl (fun c11 => ?_) (fun c11 => ?_)
      · skip
        refine k_aload_n C rfl rfl rfl ?_
        refine k_iload_n C rfl rfl rfl ?_
        obtain ⟨T_r0, A_r0, B_r0, ⟨r0_1, R_r0_1, H_r0_1⟩, ⟨r0_2, R_r0_2, H_r0_2⟩, ⟨r0_3, R_r0_3, H_r0_3⟩, ⟨r0_4, R_r0_4, H_r0_4⟩, ⟨r0_5, R_r0_5, H_r0_5⟩⟩ := id H_r0
        refine c_VI C (s_X3_isSumOf hS hI10 H_r0) rfl rfl rfl rfl rfl ⟨_, rfl, rfl, T_r0, Nat.le_of_ble_eq_true rfl⟩ rfl rfl (Nat.le_of_ble_eq_true rfl) (Nat.le_of_ble_eq_true rfl) (Nat.le_of_ble_eq_true rfl) ?_
        rintro x12 I13 L14 ⟨o0x12, o1x12, hI13, S15⟩
        have gx12 := rg x12
        refine k_istore_n C (lw := [(2, .int x12), (0, .ref r0), (1, .int n1)]) rfl rfl (Nat.le_of_ble_eq_true rfl) rfl ?_
        refine z_iconst C (z := 0) rfl rfl rfl (fun x16 ex16 => ?_)
        have J17 : ∀ (nn18 : Nat) (I19 : IT) (L20 : LT) (x21 : Int32) (x24 : Int32), (MN (2000 - x24.toInt) nn18) → (IX A T I19) → (Chg B T [(4, 7)] I13 L14 I19 L20) → (0 ≤ x21.toInt) → (x21.toInt ≤ 1) → (0 ≤ x24.toInt) → (x24.toInt ≤ 2000) → V 37 [(0, .ref r0), (1, .int n1), (2, .int x21), (3, .int x24)] [] (T, N, I19, L20, R) 0 0 := by
          intro nn18
          induction nn18 using Nat.strongRecOn with
          | _ nn18 ihJ17 =>
            intro I19 L20 x21 x24 hmnn18 hI28 S27 b22 b23 b25 b26
            have gx21 := rg x21
            have gx24 := rg x24
            refine k_iload_n C rfl rfl rfl ?_
            refine z_sipush C (z := 2000) rfl rfl rfl (fun x29 ex29 => ?_)
            refine b_icmp_ge C (t := 68) rfl rfl rfl (fun c30 => ?_) (fun c30 => ?_)
            · skip
              refine k_iload_n C rfl rfl rfl ?_
              exact k_iret C rfl (Or.inr ⟨rfl, z01 (by omega) (by omega)⟩) (Nat.le_of_ble_eq_true rfl) (Nat.le_of_ble_eq_true rfl) ⟨_, _, _, rfl, rfl, by omega, by omega, hI28, (Chg.cons S9 (Chg.cons S15 (Chg.mono S27 (by decide)) (by decide)) (by decide))⟩
            refine k_iload_n C rfl rfl rfl ?_
            refine b_if_ne C (t := 68) rfl rfl rfl (fun c31 => ?_) (fun c31 => ?_)
            · skip
              refine k_iload_n C rfl rfl rfl ?_
              exact k_iret C rfl (Or.inr ⟨rfl, z01 (by omega) (by omega)⟩) (Nat.le_of_ble_eq_true rfl) (Nat.le_of_ble_eq_true rfl) ⟨_, _, _, rfl, rfl, by omega, by omega, hI28, (Chg.cons S9 (Chg.cons S15 (Chg.mono S27 (by decide)) (by decide)) (by decide))⟩
            refine k_aload_n C rfl rfl rfl ?_
            refine k_iload_n C rfl rfl rfl ?_
            refine c_VI C (s_X3_isNextChoice hS hI28 H_r0 (by omega) (by omega)) rfl rfl rfl rfl rfl ⟨_, rfl, rfl, T_r0, Nat.le_of_ble_eq_true rfl⟩ rfl rfl (Nat.le_of_ble_eq_true rfl) (Nat.le_of_ble_eq_true rfl) (Nat.le_of_ble_eq_true rfl) ?_
            rintro x32 I33 L34 ⟨o0x32, o1x32, hI33, S35⟩
            have gx32 := rg x32
            refine b_if_eq C (t := 68) rfl rfl rfl (fun c36 => ?_) (fun c36 => ?_)
            · skip
              refine k_iload_n C rfl rfl rfl ?_
              exact k_iret C rfl (Or.inr ⟨rfl, z01 (by omega) (by omega)⟩) (Nat.le_of_ble_eq_true rfl) (Nat.le_of_ble_eq_true rfl) ⟨_, _, _, rfl, rfl, by omega, by omega, hI33, (Chg.cons S9 (Chg.cons S15 (Chg.cons S27 (Chg.mono S35 (by decide)) (by decide)) (by decide)) (by decide))⟩
            refine k_aload_n C rfl rfl rfl ?_
            refine k_iload_n C rfl rfl rfl ?_
            refine c_VI C (s_X3_isSumOf hS hI33 H_r0) rfl rfl rfl rfl rfl ⟨_, rfl, rfl, T_r0, Nat.le_of_ble_eq_true rfl⟩ rfl rfl (Nat.le_of_ble_eq_true rfl) (Nat.le_of_ble_eq_true rfl) (Nat.le_of_ble_eq_true rfl) ?_
            rintro x37 I38 L39 ⟨o0x37, o1x37, hI38, S40⟩
            have gx37 := rg x37
            refine k_istore_n C (lw := [(2, .int x37), (0, .ref r0), (1, .int n1), (3, .int x24)]) rfl rfl (Nat.le_of_ble_eq_true rfl) rfl ?_
            refine z_iinc C (z := 1) (lw := fun x41 => [(3, .int x41), (2, .int x37), (0, .ref r0), (1, .int n1)]) rfl rfl rfl (Nat.le_of_ble_eq_true rfl) rfl ⟨by omega, by omega⟩ (fun _ => rfl) (fun x41 ex41 => ?_)
            show V 65 [(3, .int x41), (2, .int x37), (0, .ref r0), (1, .int n1)] _ _ _ _
            refine k_goto C (pc2 := 37) rfl rfl ?_
            refine k_sub S [(0, .ref r0), (1, .int n1), (2, .int x37), (3, .int x41)] (List.forall_mem_cons.mpr ⟨List.mem_of_getElem? (i := 2) rfl, List.forall_mem_cons.mpr ⟨List.mem_of_getElem? (i := 3) rfl, List.forall_mem_cons.mpr ⟨List.mem_of_getElem? (i := 1) rfl, List.forall_mem_cons.mpr ⟨List.mem_of_getElem? (i := 0) rfl, fun _ h => nomatch h⟩⟩⟩⟩) ?_
            exact ihJ17 _ (MN.lt hmnn18 (by omega) (by omega)) I38 L39 x37 x41 rfl hI38 (Chg.cons S27 (Chg.cons S35 (Chg.mono S40 (by decide)) (by decide)) (by decide)) (by omega) (by omega) (by omega) (by omega)
        refine k_istore_n C (lw := [(3, .int x16), (2, .int x12), (0, .ref r0), (1, .int n1)]) rfl rfl (Nat.le_of_ble_eq_true rfl) rfl ?_
        refine k_sub S [(0, .ref r0), (1, .int n1), (2, .int x12), (3, .int x16)] (List.forall_mem_cons.mpr ⟨List.mem_of_getElem? (i := 2) rfl, List.forall_mem_cons.mpr ⟨List.mem_of_getElem? (i := 3) rfl, List.forall_mem_cons.mpr ⟨List.mem_of_getElem? (i := 1) rfl, List.forall_mem_cons.mpr ⟨List.mem_of_getElem? (i := 0) rfl, fun _ h => nomatch h⟩⟩⟩⟩) ?_
        exact J17 _ I13 L14 x12 x16 rfl hI13 Chg.rf (by omega) (by omega) (by omega) (by omega)
      refine k_iload_n C rfl rfl rfl ?_
      refine k_aload_n C rfl rfl rfl ?_
      obtain ⟨T_r0, A_r0, B_r0, ⟨r0_1, R_r0_1, H_r0_1⟩, ⟨r0_2, R_r0_2, H_r0_2⟩, ⟨r0_3, R_r0_3, H_r0_3⟩, ⟨r0_4, R_r0_4, H_r0_4⟩, ⟨r0_5, R_r0_5, H_r0_5⟩⟩ := id H_r0
      refine g_R C rfl rfl rfl T_r0 rfl R_r0_2 ?_
      obtain ⟨T_r0_2, N_r0_2, A_r0_2⟩ := id H_r0_2
      refine z_len C (n := 3) rfl rfl (by rw [T_r0_2]; exact Nat.le_of_ble_eq_true rfl) N_r0_2 (Nat.le_of_ble_eq_true rfl) (fun x42 ex42 => ?_)
      refine b_icmp_ge C (t := 29) rfl rfl rfl (fun c43 => by exfalso; omega) (fun c43 => ?_)
      refine k_aload_n C rfl rfl rfl ?_
      refine g_R C rfl rfl rfl T_r0 rfl R_r0_2 ?_
      refine k_iload_n C rfl rfl rfl ?_
      refine k_iload_n C rfl rfl rfl ?_
      refine z_sI C rfl rfl T_r0_2 N_r0_2 (by omega) (by omega) (fun I44 uI44 => ?_)
      have hI44 : IX A T I44 := IX.a hI10 T_r0_2 (Nat.le_of_ble_eq_true rfl) uI44
      have S45 : Chg B T [] I4 L5 I44 L5 := Chg.a A_r0_2 T_r0_2 (Nat.le_of_ble_eq_true rfl) uI44
      refine z_iinc C (z := 1) (lw := fun x46 => [(2, .int x46), (0, .ref r0), (1, .int n1)]) rfl rfl rfl (Nat.le_of_ble_eq_true rfl) rfl ⟨by omega, by omega⟩ (fun _ => rfl) (fun x46 ex46 => ?_)
      show V 26 [(2, .int x46), (0, .ref r0), (1, .int n1)] _ _ _ _
      refine k_goto C (pc2 := 2) rfl rfl ?_
      refine k_sub S [(0, .ref r0), (1, .int n1), (2, .int x46)] (List.forall_mem_cons.mpr ⟨List.mem_of_getElem? (i := 1) rfl, List.forall_mem_cons.mpr ⟨List.mem_of_getElem? (i := 2) rfl, List.forall_mem_cons.mpr ⟨List.mem_of_getElem? (i := 0) rfl, fun _ h => nomatch h⟩⟩⟩) ?_
      exact ihJ2 _ (MN.lt hmnn3 (by omega) (by omega)) I44 L5 x46 rfl hI44 (Chg.cons S9 (Chg.mono S45 (by decide)) (by decide)) (by omega) (by omega)
  refine k_istore_n C (lw := [(2, .int x1), (0, .ref r0), (1, .int n1)]) rfl rfl (Nat.le_of_ble_eq_true rfl) rfl ?_
  refine k_sub S [(0, .ref r0), (1, .int n1), (2, .int x1)] (List.forall_mem_cons.mpr ⟨List.mem_of_getElem? (i := 1) rfl, List.forall_mem_cons.mpr ⟨List.mem_of_getElem? (i := 2) rfl, List.forall_mem_cons.mpr ⟨List.mem_of_getElem? (i := 0) rfl, fun _ h => nomatch h⟩⟩⟩) ?_
  exact J2 _ I L x1 rfl hI Chg.rf (by omega) (by omega)

theorem s_X3_numberOf {d : Nat} {T N : Nat → Nat} {I : IT} {L : LT} {R : RT} {A B : Nat → Prop} {r0 : Nat} {n1 : Int32} (hS : SUB B A) (hI : IX A T I) (H_r0 : (hs_Po T N R A B) r0) : Ex (d + 4) 55 [.ref r0, .int n1] (T, N, I, L, R) 0 0 (pI T N R (fun x9 I9 L9 => (IX A T I9 ∧ Chg B T [(4, 7)] I L I9 L9))) := by
  refine ⟨_, rfl, Nat.le_of_ble_eq_true rfl, fun V C S => ?_⟩
  show V 0 [(0, .ref r0), (1, .int n1)] [] (T, N, I, L, R) 0 0
  have gn1 := rg n1
  refine k_aload_n C rfl rfl rfl ?_
  refine k_iload_n C rfl rfl rfl ?_
  obtain ⟨T_r0, A_r0, B_r0, ⟨r0_1, R_r0_1, H_r0_1⟩, ⟨r0_2, R_r0_2, H_r0_2⟩, ⟨r0_3, R_r0_3, H_r0_3⟩, ⟨r0_4, R_r0_4, H_r0_4⟩, ⟨r0_5, R_r0_5, H_r0_5⟩⟩ := id H_r0
  refine c_VI C (s_X3_pointAt hS hI H_r0) rfl rfl rfl rfl rfl ⟨_, rfl, rfl, T_r0, Nat.le_of_ble_eq_true rfl⟩ rfl rfl (Nat.le_of_ble_eq_true rfl) (Nat.le_of_ble_eq_true rfl) (Nat.le_of_ble_eq_true rfl) ?_
  rintro x1 _ _ ⟨rfl, rfl⟩
  have gx1 := rg x1
  refine k_istore_n C (lw := [(2, .int x1), (0, .ref r0), (1, .int n1)]) rfl rfl (Nat.le_of_ble_eq_true rfl) rfl ?_
  refine z_iconst C (z := 1) rfl rfl rfl (fun x2 ex2 => ?_)
  refine k_istore_n C (lw := [(3, .int x2), (2, .int x1), (0, .ref r0), (1, .int n1)]) rfl rfl (Nat.le_of_ble_eq_true rfl) rfl ?_
  refine k_aload_n C rfl rfl rfl ?_
  refine c_VV C (s_X3_beginRow hS hI H_r0) rfl rfl rfl rfl rfl ⟨_, rfl, rfl, T_r0, Nat.le_of_ble_eq_true rfl⟩ rfl rfl (Nat.le_of_ble_eq_true rfl) (Nat.le_of_ble_eq_true rfl) (Nat.le_of_ble_eq_true rfl) ?_
  rintro I4 L5 ⟨hI4, S6⟩
  refine z_iconst C (z := 0) rfl rfl rfl (fun x7 ex7 => ?_)
  have J8 : ∀ (nn9 : Nat) (I10 : IT) (L11 : LT) (x12 : Int32) (x13 : Int32), (MN (3 - x13.toInt) nn9) → (IX A T I10) → (Chg B T [(4, 7)] I4 L5 I10 L11) → (0 ≤ x13.toInt) → (x13.toInt ≤ 3) → V 15 [(0, .ref r0), (1, .int n1), (2, .int x1), (3, .int x12), (4, .int x13)] [] (T, N, I10, L11, R) 0 0 := by
    intro nn9
    induction nn9 using Nat.strongRecOn with
    | _ nn9 ihJ8 =>
      intro I10 L11 x12 x13 hmnn9 hI17 S16 b14 b15
      have gx12 := rg x12
      have gx13 := rg x13
      refine k_iload C rfl rfl rfl ?_
      refine k_aload_n C rfl rfl rfl ?_
      refine z_gI C rfl rfl rfl T_r0 rfl (fun x18 ex18 => ?_)
      have gx18 := rg x18
      refine b_icmp_ge C (t := 98) rfl rfl rfl (fun c19 => ?_) (fun c19 => ?_)
      · skip
        refine k_iload_n C rfl rfl rfl ?_
        refine k_aload_n C rfl rfl rfl ?_
        refine g_R C rfl rfl rfl T_r0 rfl R_r0_1 ?_
        obtain ⟨T_r0_1, A_r0_1, B_r0_1, ⟨r0_1_0, R_r0_1_0, H_r0_1_0⟩, ⟨r0_1_1, R_r0_1_1, H_r0_1_1⟩, ⟨r0_1_2, R_r0_1_2, H_r0_1_2⟩⟩ := id H_r0_1
        refine c_VI C (s_X0_p hS hI17 H_r0_1) rfl rfl rfl rfl rfl ⟨_, rfl, rfl, T_r0_1, Nat.le_of_ble_eq_true rfl⟩ rfl rfl (Nat.le_of_ble_eq_true rfl) (Nat.le_of_ble_eq_true rfl) (Nat.le_of_ble_eq_true rfl) ?_
        rintro x20 _ _ ⟨o0x20, o1x20, rfl, rfl⟩
        have gx20 := rg x20
        have J21 : ∀ (x23 : Int32), V 119 [(0, .ref r0), (2, .int x1), (3, .int x12)] [.int x23] (T, N, I10, L11, R) 0 0 := by
          intro x23
          have gx23 := rg x23
          refine k_istore C (lw := [(4, .int x23), (0, .ref r0), (2, .int x1), (3, .int x12)]) rfl rfl (Nat.le_of_ble_eq_true rfl) rfl ?_
          refine k_iload C rfl rfl rfl ?_
          have J24 : ∀ (x26 : Int32), V 147 [(0, .ref r0), (2, .int x1), (3, .int x12)] [.int x26] (T, N, I10, L11, R) 0 0 := by
            intro x26
            have gx26 := rg x26
            refine k_istore C (lw := [(5, .int x26), (0, .ref r0), (2, .int x1), (3, .int x12)]) rfl rfl (Nat.le_of_ble_eq_true rfl) rfl ?_
            refine k_iload_n C rfl rfl rfl ?_
            refine k_aload_n C rfl rfl rfl ?_
            refine g_R C rfl rfl rfl T_r0 rfl R_r0_1 ?_
            refine c_VI C (s_X0_p hS hI17 H_r0_1) rfl rfl rfl rfl rfl ⟨_, rfl, rfl, T_r0_1, Nat.le_of_ble_eq_true rfl⟩ rfl rfl (Nat.le_of_ble_eq_true rfl) (Nat.le_of_ble_eq_true rfl) (Nat.le_of_ble_eq_true rfl) ?_
            rintro x27 _ _ ⟨o0x27, o1x27, rfl, rfl⟩
            have gx27 := rg x27
            refine b_icmp_ne C (t := 165) rfl rfl rfl (fun c28 => ?_) (fun c28 => ?_)
            · skip
              refine k_aload_n C rfl rfl rfl ?_
              refine g_R C rfl rfl rfl T_r0 rfl R_r0_1 ?_
              refine k_iload C rfl rfl rfl ?_
              refine k_aload_n C rfl rfl rfl ?_
              refine g_R C rfl rfl rfl T_r0 rfl R_r0_1 ?_
              refine k_iload_n C rfl rfl rfl ?_
              refine c_VI C (s_X0_inverse hS hI17 H_r0_1) rfl rfl rfl rfl rfl ⟨_, rfl, rfl, T_r0_1, Nat.le_of_ble_eq_true rfl⟩ rfl rfl (Nat.le_of_ble_eq_true rfl) (Nat.le_of_ble_eq_true rfl) (Nat.le_of_ble_eq_true rfl) ?_
              rintro x29 _ _ ⟨rfl, rfl⟩
              have gx29 := rg x29
              refine zt_imul C rfl rfl (fun x30 => ?_)
              have gx30 := rg x30
              refine z_i2l C rfl rfl (fun lg31 elg31 => ?_)
              refine c_VI C (s_X0_of hS hI17 H_r0_1) rfl rfl rfl rfl rfl ⟨_, rfl, rfl, T_r0_1, Nat.le_of_ble_eq_true rfl⟩ rfl rfl (Nat.le_of_ble_eq_true rfl) (Nat.le_of_ble_eq_true rfl) (Nat.le_of_ble_eq_true rfl) ?_
              rintro x32 _ _ ⟨rfl, rfl⟩
              have gx32 := rg x32
              exact k_iret C rfl (Or.inl rfl) (Nat.le_of_ble_eq_true rfl) (Nat.le_of_ble_eq_true rfl) ⟨_, _, _, rfl, rfl, hI17, (Chg.cons S6 (Chg.mono S16 (by decide)) (by decide))⟩
            refine k_iload C rfl rfl rfl ?_
            refine k_goto C (pc2 := 184) rfl rfl ?_
            exact k_iret C rfl (Or.inl rfl) (Nat.le_of_ble_eq_true rfl) (Nat.le_of_ble_eq_true rfl) ⟨_, _, _, rfl, rfl, hI17, (Chg.cons S6 (Chg.mono S16 (by decide)) (by decide))⟩
          refine b_if_lt C (t := 136) rfl rfl rfl (fun c33 => ?_) (fun c33 => ?_)
          · skip
            refine z_iconst C (z := 0) rfl rfl rfl (fun x34 ex34 => ?_)
            refine k_goto C (pc2 := 147) rfl rfl ?_
            refine k_sub S [(0, .ref r0), (2, .int x1), (3, .int x12)] (List.forall_mem_cons.mpr ⟨List.mem_of_getElem? (i := 1) rfl, List.forall_mem_cons.mpr ⟨List.mem_of_getElem? (i := 2) rfl, List.forall_mem_cons.mpr ⟨List.mem_of_getElem? (i := 3) rfl, fun _ h => nomatch h⟩⟩⟩) ?_
            exact J24 x34
          refine k_iload C rfl rfl rfl ?_
          refine k_aload_n C rfl rfl rfl ?_
          refine g_R C rfl rfl rfl T_r0 rfl R_r0_5 ?_
          obtain ⟨T_r0_5, N_r0_5, A_r0_5⟩ := id H_r0_5
          refine z_len C (n := 9) rfl rfl (by rw [T_r0_5]; exact Nat.le_of_ble_eq_true rfl) N_r0_5 (Nat.le_of_ble_eq_true rfl) (fun x35 ex35 => ?_)
          refine b_icmp_lt C (t := 140) rfl rfl rfl (fun c36 => ?_) (fun c36 => ?_)
          · skip
            refine k_aload_n C rfl rfl rfl ?_
            refine g_R C rfl rfl rfl T_r0 rfl R_r0_5 ?_
            refine k_iload C rfl rfl rfl ?_
            refine z_aI C rfl rfl T_r0_5 N_r0_5 (by omega) (by omega) (fun x37 ex37 => ?_)
            have gx37 := rg x37
            refine k_sub S [(0, .ref r0), (2, .int x1), (3, .int x12)] (List.forall_mem_cons.mpr ⟨List.mem_of_getElem? (i := 1) rfl, List.forall_mem_cons.mpr ⟨List.mem_of_getElem? (i := 2) rfl, List.forall_mem_cons.mpr ⟨List.mem_of_getElem? (i := 3) rfl, fun _ h => nomatch h⟩⟩⟩) ?_
            exact J24 x37
          refine z_iconst C (z := 0) rfl rfl rfl (fun x38 ex38 => ?_)
          refine k_goto C (pc2 := 147) rfl rfl ?_
          refine k_sub S [(0, .ref r0), (2, .int x1), (3, .int x12)] (List.forall_mem_cons.mpr ⟨List.mem_of_getElem? (i := 1) rfl, List.forall_mem_cons.mpr ⟨List.mem_of_getElem? (i := 2) rfl, List.forall_mem_cons.mpr ⟨List.mem_of_getElem? (i := 3) rfl, fun _ h => nomatch h⟩⟩⟩) ?_
          exact J24 x38
        refine b_icmp_ne C (t := 118) rfl rfl rfl (fun c39 => ?_) (fun c39 => ?_)
        · skip
          refine z_iconst C (z := 0) rfl rfl rfl (fun x40 ex40 => ?_)
          refine k_sub S [(0, .ref r0), (2, .int x1), (3, .int x12)] (List.forall_mem_cons.mpr ⟨List.mem_of_getElem? (i := 0) rfl, List.forall_mem_cons.mpr ⟨List.mem_of_getElem? (i := 2) rfl, List.forall_mem_cons.mpr ⟨List.mem_of_getElem? (i := 3) rfl, fun _ h => nomatch h⟩⟩⟩) ?_
          exact J21 x40
        refine k_aload_n C rfl rfl rfl ?_
        refine z_gI C rfl rfl rfl T_r0 rfl (fun x41 ex41 => ?_)
        have gx41 := rg x41
        refine z_iconst C (z := 1) rfl rfl rfl (fun x42 ex42 => ?_)
        refine zt_isub C rfl rfl (fun x43 => ?_)
        have gx43 := rg x43
        refine k_goto C (pc2 := 119) rfl rfl ?_
        refine k_sub S [(0, .ref r0), (2, .int x1), (3, .int x12)] (List.forall_mem_cons.mpr ⟨List.mem_of_getElem? (i := 0) rfl, List.forall_mem_cons.mpr ⟨List.mem_of_getElem? (i := 2) rfl, List.forall_mem_cons.mpr ⟨List.mem_of_getElem? (i := 3) rfl, fun _ h => nomatch h⟩⟩⟩) ?_
        exact J21 x43
      refine k_iload C rfl rfl rfl ?_
      refine k_aload_n C rfl rfl rfl ?_
      refine g_R C rfl rfl rfl T_r0 rfl R_r0_2 ?_
      obtain ⟨T_r0_2, N_r0_2, A_r0_2⟩ := id H_r0_2
      refine z_len C (n := 3) rfl rfl (by rw [T_r0_2]; exact Nat.le_of_ble_eq_true rfl) N_r0_2 (Nat.le_of_ble_eq_true rfl) (fun x44 ex44 => ?_)
      refine b_icmp_ge C (t := 98) rfl rfl rfl (fun c45 => ?_) (fun c45 => ?_)
      · skip
        refine k_iload_n C rfl rfl rfl ?_
        refine k_aload_n C rfl rfl rfl ?_
        refine g_R C rfl rfl rfl T_r0 rfl R_r0_1 ?_
        obtain ⟨T_r0_1, A_r0_1, B_r0_1, ⟨r0_1_0, R_r0_1_0, H_r0_1_0⟩, ⟨r0_1_1, R_r0_1_1, H_r0_1_1⟩, ⟨r0_1_2, R_r0_1_2, H_r0_1_2⟩⟩ := id H_r0_1
        refine c_VI C (s_X0_p hS hI17 H_r0_1) rfl rfl rfl rfl rfl ⟨_, rfl, rfl, T_r0_1, Nat.le_of_ble_eq_true rfl⟩ rfl rfl (Nat.le_of_ble_eq_true rfl) (Nat.le_of_ble_eq_true rfl) (Nat.le_of_ble_eq_true rfl) ?_
        rintro x46 _ _ ⟨o0x46, o1x46, rfl, rfl⟩
        have gx46 := rg x46
        have J47 : ∀ (x49 : Int32), V 119 [(0, .ref r0), (2, .int x1), (3, .int x12)] [.int x49] (T, N, I10, L11, R) 0 0 := by
          intro x49
          have gx49 := rg x49
          refine k_istore C (lw := [(4, .int x49), (0, .ref r0), (2, .int x1), (3, .int x12)]) rfl rfl (Nat.le_of_ble_eq_true rfl) rfl ?_
          refine k_iload C rfl rfl rfl ?_
          have J50 : ∀ (x52 : Int32), V 147 [(0, .ref r0), (2, .int x1), (3, .int x12)] [.int x52] (T, N, I10, L11, R) 0 0 := by
            intro x52
            have gx52 := rg x52
            refine k_istore C (lw := [(5, .int x52), (0, .ref r0), (2, .int x1), (3, .int x12)]) rfl rfl (Nat.le_of_ble_eq_true rfl) rfl ?_
            refine k_iload_n C rfl rfl rfl ?_
            refine k_aload_n C rfl rfl rfl ?_
            refine g_R C rfl rfl rfl T_r0 rfl R_r0_1 ?_
            refine c_VI C (s_X0_p hS hI17 H_r0_1) rfl rfl rfl rfl rfl ⟨_, rfl, rfl, T_r0_1, Nat.le_of_ble_eq_true rfl⟩ rfl rfl (Nat.le_of_ble_eq_true rfl) (Nat.le_of_ble_eq_true rfl) (Nat.le_of_ble_eq_true rfl) ?_
            rintro x53 _ _ ⟨o0x53, o1x53, rfl, rfl⟩
            have gx53 := rg x53
            refine b_icmp_ne C (t := 165) rfl rfl rfl (fun c54 => ?_) (fun c54 => ?_)
            · skip
              refine k_aload_n C rfl rfl rfl ?_
              refine g_R C rfl rfl rfl T_r0 rfl R_r0_1 ?_
              refine k_iload C rfl rfl rfl ?_
              refine k_aload_n C rfl rfl rfl ?_
              refine g_R C rfl rfl rfl T_r0 rfl R_r0_1 ?_
              refine k_iload_n C rfl rfl rfl ?_
              refine c_VI C (s_X0_inverse hS hI17 H_r0_1) rfl rfl rfl rfl rfl ⟨_, rfl, rfl, T_r0_1, Nat.le_of_ble_eq_true rfl⟩ rfl rfl (Nat.le_of_ble_eq_true rfl) (Nat.le_of_ble_eq_true rfl) (Nat.le_of_ble_eq_true rfl) ?_
              rintro x55 _ _ ⟨rfl, rfl⟩
              have gx55 := rg x55
              refine zt_imul C rfl rfl (fun x56 => ?_)
              have gx56 := rg x56
              refine z_i2l C rfl rfl (fun lg57 elg57 => ?_)
              refine c_VI C (s_X0_of hS hI17 H_r0_1) rfl rfl rfl rfl rfl ⟨_, rfl, rfl, T_r0_1, Nat.le_of_ble_eq_true rfl⟩ rfl rfl (Nat.le_of_ble_eq_true rfl) (Nat.le_of_ble_eq_true rfl) (Nat.le_of_ble_eq_true rfl) ?_
              rintro x58 _ _ ⟨rfl, rfl⟩
              have gx58 := rg x58
              exact k_iret C rfl (Or.inl rfl) (Nat.le_of_ble_eq_true rfl) (Nat.le_of_ble_eq_true rfl) ⟨_, _, _, rfl, rfl, hI17, (Chg.cons S6 (Chg.mono S16 (by decide)) (by decide))⟩
            refine k_iload C rfl rfl rfl ?_
            refine k_goto C (pc2 := 184) rfl rfl ?_
            exact k_iret C rfl (Or.inl rfl) (Nat.le_of_ble_eq_true rfl) (Nat.le_of_ble_eq_true rfl) ⟨_, _, _, rfl, rfl, hI17, (Chg.cons S6 (Chg.mono S16 (by decide)) (by decide))⟩
          refine b_if_lt C (t := 136) rfl rfl rfl (fun c59 => ?_) (fun c59 => ?_)
          · skip
            refine z_iconst C (z := 0) rfl rfl rfl (fun x60 ex60 => ?_)
            refine k_goto C (pc2 := 147) rfl rfl ?_
            refine k_sub S [(0, .ref r0), (2, .int x1), (3, .int x12)] (List.forall_mem_cons.mpr ⟨List.mem_of_getElem? (i := 1) rfl, List.forall_mem_cons.mpr ⟨List.mem_of_getElem? (i := 2) rfl, List.forall_mem_cons.mpr ⟨List.mem_of_getElem? (i := 3) rfl, fun _ h => nomatch h⟩⟩⟩) ?_
            exact J50 x60
          refine k_iload C rfl rfl rfl ?_
          refine k_aload_n C rfl rfl rfl ?_
          refine g_R C rfl rfl rfl T_r0 rfl R_r0_5 ?_
          obtain ⟨T_r0_5, N_r0_5, A_r0_5⟩ := id H_r0_5
          refine z_len C (n := 9) rfl rfl (by rw [T_r0_5]; exact Nat.le_of_ble_eq_true rfl) N_r0_5 (Nat.le_of_ble_eq_true rfl) (fun x61 ex61 => ?_)
          refine b_icmp_lt C (t := 140) rfl rfl rfl (fun c62 => ?_) (fun c62 => ?_)
          · skip
            refine k_aload_n C rfl rfl rfl ?_
            refine g_R C rfl rfl rfl T_r0 rfl R_r0_5 ?_
            refine k_iload C rfl rfl rfl ?_
            refine z_aI C rfl rfl T_r0_5 N_r0_5 (by omega) (by omega) (fun x63 ex63 => ?_)
            have gx63 := rg x63
            refine k_sub S [(0, .ref r0), (2, .int x1), (3, .int x12)] (List.forall_mem_cons.mpr ⟨List.mem_of_getElem? (i := 1) rfl, List.forall_mem_cons.mpr ⟨List.mem_of_getElem? (i := 2) rfl, List.forall_mem_cons.mpr ⟨List.mem_of_getElem? (i := 3) rfl, fun _ h => nomatch h⟩⟩⟩) ?_
            exact J50 x63
          refine z_iconst C (z := 0) rfl rfl rfl (fun x64 ex64 => ?_)
          refine k_goto C (pc2 := 147) rfl rfl ?_
          refine k_sub S [(0, .ref r0), (2, .int x1), (3, .int x12)] (List.forall_mem_cons.mpr ⟨List.mem_of_getElem? (i := 1) rfl, List.forall_mem_cons.mpr ⟨List.mem_of_getElem? (i := 2) rfl, List.forall_mem_cons.mpr ⟨List.mem_of_getElem? (i := 3) rfl, fun _ h => nomatch h⟩⟩⟩) ?_
          exact J50 x64
        refine b_icmp_ne C (t := 118) rfl rfl rfl (fun c65 => ?_) (fun c65 => ?_)
        · skip
          refine z_iconst C (z := 0) rfl rfl rfl (fun x66 ex66 => ?_)
          refine k_sub S [(0, .ref r0), (2, .int x1), (3, .int x12)] (List.forall_mem_cons.mpr ⟨List.mem_of_getElem? (i := 0) rfl, List.forall_mem_cons.mpr ⟨List.mem_of_getElem? (i := 2) rfl, List.forall_mem_cons.mpr ⟨List.mem_of_getElem? (i := 3) rfl, fun _ h => nomatch h⟩⟩⟩) ?_
          exact J47 x66
        refine k_aload_n C rfl rfl rfl ?_
        refine z_gI C rfl rfl rfl T_r0 rfl (fun x67 ex67 => ?_)
        have gx67 := rg x67
        refine z_iconst C (z := 1) rfl rfl rfl (fun x68 ex68 => ?_)
        refine zt_isub C rfl rfl (fun x69 => ?_)
        have gx69 := rg x69
        refine k_goto C (pc2 := 119) rfl rfl ?_
        refine k_sub S [(0, .ref r0), (2, .int x1), (3, .int x12)] (List.forall_mem_cons.mpr ⟨List.mem_of_getElem? (i := 0) rfl, List.forall_mem_cons.mpr ⟨List.mem_of_getElem? (i := 2) rfl, List.forall_mem_cons.mpr ⟨List.mem_of_getElem? (i := 3) rfl, fun _ h => nomatch h⟩⟩⟩) ?_
        exact J47 x69
      refine k_iload C rfl rfl rfl ?_
      refine k_iload_n C rfl rfl rfl ?_
      refine b_icmp_eq C (t := 92) rfl rfl rfl (fun c70 => ?_) (fun c70 => ?_)
      · skip
        refine z_iinc C (z := 1) (lw := fun x71 => [(4, .int x71), (0, .ref r0), (1, .int n1), (2, .int x1), (3, .int x12)]) rfl rfl rfl (Nat.le_of_ble_eq_true rfl) rfl ⟨by omega, by omega⟩ (fun _ => rfl) (fun x71 ex71 => ?_)
        show V 95 [(4, .int x71), (0, .ref r0), (1, .int n1), (2, .int x1), (3, .int x12)] _ _ _ _
        refine k_goto C (pc2 := 15) rfl rfl ?_
        refine k_sub S [(0, .ref r0), (1, .int n1), (2, .int x1), (3, .int x12), (4, .int x71)] (List.forall_mem_cons.mpr ⟨List.mem_of_getElem? (i := 1) rfl, List.forall_mem_cons.mpr ⟨List.mem_of_getElem? (i := 2) rfl, List.forall_mem_cons.mpr ⟨List.mem_of_getElem? (i := 3) rfl, List.forall_mem_cons.mpr ⟨List.mem_of_getElem? (i := 4) rfl, List.forall_mem_cons.mpr ⟨List.mem_of_getElem? (i := 0) rfl, fun _ h => nomatch h⟩⟩⟩⟩⟩) ?_
        exact ihJ8 _ (MN.lt hmnn9 (by omega) (by omega)) I10 L11 x12 x71 rfl hI17 (Chg.mono S16 (by decide)) (by omega) (by omega)
      refine k_aload_n C rfl rfl rfl ?_
      refine k_aload_n C rfl rfl rfl ?_
      refine g_R C rfl rfl rfl T_r0 rfl R_r0_2 ?_
      refine k_iload C rfl rfl rfl ?_
      refine z_aI C rfl rfl T_r0_2 N_r0_2 (by omega) (by omega) (fun x72 ex72 => ?_)
      have gx72 := rg x72
      refine c_VV C (s_X3_takeOut hS hI17 H_r0) rfl rfl rfl rfl rfl ⟨_, rfl, rfl, T_r0, Nat.le_of_ble_eq_true rfl⟩ rfl rfl (Nat.le_of_ble_eq_true rfl) (Nat.le_of_ble_eq_true rfl) (Nat.le_of_ble_eq_true rfl) ?_
      rintro I74 L75 ⟨hI74, S76⟩
      have e77 := Chg.k S76 T_r0 (by decide) (by decide) ex18
      refine k_aload_n C rfl rfl rfl ?_
      refine g_R C rfl rfl rfl T_r0 rfl R_r0_2 ?_
      refine k_iload C rfl rfl rfl ?_
      refine z_aI C rfl rfl T_r0_2 N_r0_2 (by omega) (by omega) (fun x78 ex78 => ?_)
      have gx78 := rg x78
      refine k_aload_n C rfl rfl rfl ?_
      refine g_R C rfl rfl rfl T_r0 rfl R_r0_1 ?_
      obtain ⟨T_r0_1, A_r0_1, B_r0_1, ⟨r0_1_0, R_r0_1_0, H_r0_1_0⟩, ⟨r0_1_1, R_r0_1_1, H_r0_1_1⟩, ⟨r0_1_2, R_r0_1_2, H_r0_1_2⟩⟩ := id H_r0_1
      refine c_VI C (s_X0_p hS hI74 H_r0_1) rfl rfl rfl rfl rfl ⟨_, rfl, rfl, T_r0_1, Nat.le_of_ble_eq_true rfl⟩ rfl rfl (Nat.le_of_ble_eq_true rfl) (Nat.le_of_ble_eq_true rfl) (Nat.le_of_ble_eq_true rfl) ?_
      rintro x79 _ _ ⟨o0x79, o1x79, rfl, rfl⟩
      have gx79 := rg x79
      refine b_icmp_ne C (t := 72) rfl rfl rfl (fun c80 => ?_) (fun c80 => ?_)
      · skip
        refine k_aload_n C rfl rfl rfl ?_
        refine g_R C rfl rfl rfl T_r0 rfl R_r0_1 ?_
        refine k_iload_n C rfl rfl rfl ?_
        refine k_aload_n C rfl rfl rfl ?_
        refine g_R C rfl rfl rfl T_r0 rfl R_r0_2 ?_
        refine k_iload C rfl rfl rfl ?_
        refine z_aI C rfl rfl T_r0_2 N_r0_2 (by omega) (by omega) (fun x81 ex81 => ?_)
        have gx81 := rg x81
        refine k_iload_n C rfl rfl rfl ?_
        refine zt_isub C rfl rfl (fun x82 => ?_)
        have gx82 := rg x82
        refine zt_imul C rfl rfl (fun x83 => ?_)
        have gx83 := rg x83
        refine z_i2l C rfl rfl (fun lg84 elg84 => ?_)
        refine c_VI C (s_X0_of hS hI74 H_r0_1) rfl rfl rfl rfl rfl ⟨_, rfl, rfl, T_r0_1, Nat.le_of_ble_eq_true rfl⟩ rfl rfl (Nat.le_of_ble_eq_true rfl) (Nat.le_of_ble_eq_true rfl) (Nat.le_of_ble_eq_true rfl) ?_
        rintro x85 _ _ ⟨rfl, rfl⟩
        have gx85 := rg x85
        refine k_istore_n C (lw := [(3, .int x85), (0, .ref r0), (1, .int n1), (2, .int x1), (4, .int x13)]) rfl rfl (Nat.le_of_ble_eq_true rfl) rfl ?_
        refine z_iinc C (z := 1) (lw := fun x86 => [(4, .int x86), (3, .int x85), (0, .ref r0), (1, .int n1), (2, .int x1)]) rfl rfl rfl (Nat.le_of_ble_eq_true rfl) rfl ⟨by omega, by omega⟩ (fun _ => rfl) (fun x86 ex86 => ?_)
        show V 95 [(4, .int x86), (3, .int x85), (0, .ref r0), (1, .int n1), (2, .int x1)] _ _ _ _
        refine k_goto C (pc2 := 15) rfl rfl ?_
        refine k_sub S [(0, .ref r0), (1, .int n1), (2, .int x1), (3, .int x85), (4, .int x86)] (List.forall_mem_cons.mpr ⟨List.mem_of_getElem? (i := 2) rfl, List.forall_mem_cons.mpr ⟨List.mem_of_getElem? (i := 3) rfl, List.forall_mem_cons.mpr ⟨List.mem_of_getElem? (i := 4) rfl, List.forall_mem_cons.mpr ⟨List.mem_of_getElem? (i := 1) rfl, List.forall_mem_cons.mpr ⟨List.mem_of_getElem? (i := 0) rfl, fun _ h => nomatch h⟩⟩⟩⟩⟩) ?_
        exact ihJ8 _ (MN.lt hmnn9 (by omega) (by omega)) I74 L75 x85 x86 rfl hI74 (Chg.cons S16 (Chg.mono S76 (by decide)) (by decide)) (by omega) (by omega)
      refine k_iload_n C rfl rfl rfl ?_
      refine k_goto C (pc2 := 91) rfl rfl ?_
      refine k_istore_n C (lw := [(3, .int x12), (0, .ref r0), (1, .int n1), (2, .int x1), (4, .int x13)]) rfl rfl (Nat.le_of_ble_eq_true rfl) rfl ?_
      refine z_iinc C (z := 1) (lw := fun x87 => [(4, .int x87), (3, .int x12), (0, .ref r0), (1, .int n1), (2, .int x1)]) rfl rfl rfl (Nat.le_of_ble_eq_true rfl) rfl ⟨by omega, by omega⟩ (fun _ => rfl) (fun x87 ex87 => ?_)
      show V 95 [(4, .int x87), (3, .int x12), (0, .ref r0), (1, .int n1), (2, .int x1)] _ _ _ _
      refine k_goto C (pc2 := 15) rfl rfl ?_
      refine k_sub S [(0, .ref r0), (1, .int n1), (2, .int x1), (3, .int x12), (4, .int x87)] (List.forall_mem_cons.mpr ⟨List.mem_of_getElem? (i := 2) rfl, List.forall_mem_cons.mpr ⟨List.mem_of_getElem? (i := 3) rfl, List.forall_mem_cons.mpr ⟨List.mem_of_getElem? (i := 4) rfl, List.forall_mem_cons.mpr ⟨List.mem_of_getElem? (i := 1) rfl, List.forall_mem_cons.mpr ⟨List.mem_of_getElem? (i := 0) rfl, fun _ h => nomatch h⟩⟩⟩⟩⟩) ?_
      exact ihJ8 _ (MN.lt hmnn9 (by omega) (by omega)) I74 L75 x12 x87 rfl hI74 (Chg.cons S16 (Chg.mono S76 (by decide)) (by decide)) (by omega) (by omega)
  refine k_istore C (lw := [(4, .int x7), (3, .int x2), (2, .int x1), (0, .ref r0), (1, .int n1)]) rfl rfl (Nat.le_of_ble_eq_true rfl) rfl ?_
  refine k_sub S [(0, .ref r0), (1, .int n1), (2, .int x1), (3, .int x2), (4, .int x7)] (List.forall_mem_cons.mpr ⟨List.mem_of_getElem? (i := 3) rfl, List.forall_mem_cons.mpr ⟨List.mem_of_getElem? (i := 4) rfl, List.forall_mem_cons.mpr ⟨List.mem_of_getElem? (i := 2) rfl, List.forall_mem_cons.mpr ⟨List.mem_of_getElem? (i := 1) rfl, List.forall_mem_cons.mpr ⟨List.mem_of_getElem? (i := 0) rfl, fun _ h => nomatch h⟩⟩⟩⟩⟩) ?_
  exact J8 _ I4 L5 x2 x7 rfl hI4 Chg.rf (by omega) (by omega)

theorem s_X3_find {d : Nat} {T N : Nat → Nat} {I : IT} {L : LT} {R : RT} {A B : Nat → Prop} {r0 r1 : Nat} (hS : SUB B A) (hI : IX A T I) (H_r0 : (hs_Po T N R A B) r0) (H_r1 : (hs_F T N R A B) r1) : Ex (d + 5) 56 [.ref r0, .ref r1] (T, N, I, L, R) 0 0 (pV T N R (fun I9 L9 => (IX A T I9 ∧ Chg B T [(4, 0), (4, 6), (4, 7)] I L I9 L9))) := by
  refine ⟨_, rfl, Nat.le_of_ble_eq_true rfl, fun V C S => ?_⟩
  show V 0 [(0, .ref r0), (1, .ref r1)] [] (T, N, I, L, R) 0 0
  refine k_aload_n C rfl rfl rfl ?_
  refine z_iconst C (z := -1) rfl rfl rfl (fun x1 ex1 => ?_)
  obtain ⟨T_r0, A_r0, B_r0, ⟨r0_1, R_r0_1, H_r0_1⟩, ⟨r0_2, R_r0_2, H_r0_2⟩, ⟨r0_3, R_r0_3, H_r0_3⟩, ⟨r0_4, R_r0_4, H_r0_4⟩, ⟨r0_5, R_r0_5, H_r0_5⟩⟩ := id H_r0
  refine z_pI C rfl rfl rfl T_r0 (Or.inr rfl) rfl (fun I2 uI2 => ?_)
  have hI2 : IX A T I2 := IX.f hI T_r0 (boX.tr (by decide) (by decide)) uI2
  have S3 : Chg B T [(4, 0)] I L I2 L := Chg.f B_r0 T_r0 uI2
  have e4 := u2_e uI2
  refine k_aload_n C rfl rfl rfl ?_
  refine k_aload_n C rfl rfl rfl ?_
  obtain ⟨T_r1, A_r1, ⟨r1_1, R_r1_1, H_r1_1⟩⟩ := id H_r1
  refine z_gI C rfl rfl rfl T_r1 rfl (fun x5 ex5 => ?_)
  have gx5 := rg x5
  have ox5 := IX.deg hI2 A_r1 T_r1 ex5
  refine z_pI C rfl rfl rfl T_r0 (Or.inr rfl) rfl (fun I6 uI6 => ?_)
  have hI6 : IX A T I6 := IX.f hI2 T_r0 (boX.tr (by decide) (by decide)) uI6
  have S7 : Chg B T [(4, 6)] I2 L I6 L := Chg.f B_r0 T_r0 uI6
  have e8 := u2_j uI6 (by decide) e4
  have e9 := u2_j uI6 (by decide) ex5
  have e10 := u2_e uI6
  refine k_aload_n C rfl rfl rfl ?_
  refine k_aload_n C rfl rfl rfl ?_
  refine c_VV C (s_X3_share hS hI6 H_r0 H_r1) rfl rfl rfl rfl rfl ⟨_, rfl, rfl, T_r0, Nat.le_of_ble_eq_true rfl⟩ rfl rfl (Nat.le_of_ble_eq_true rfl) (Nat.le_of_ble_eq_true rfl) (Nat.le_of_ble_eq_true rfl) ?_
  rintro I12 L13 ⟨hI12, S14⟩
  have e15 := Chg.k S14 T_r0 (by decide) (by decide) e8
  have e16 := Chg.k S14 T_r1 (by decide) (by decide) e9
  have e17 := Chg.k S14 T_r0 (by decide) (by decide) e10
  refine z_iconst C (z := 0) rfl rfl rfl (fun x18 ex18 => ?_)
  have J19 : ∀ (nn20 : Nat) (I21 : IT) (L22 : LT) (x23 : Int32), (MN (4 - x23.toInt) nn20) → (IX A T I21) → (Chg B T [(4, 0), (4, 7)] I12 L13 I21 L22) → (0 ≤ x23.toInt) → (x23.toInt ≤ 4) → V 20 [(0, .ref r0), (2, .int x23)] [] (T, N, I21, L22, R) 0 0 := by
    intro nn20
    induction nn20 using Nat.strongRecOn with
    | _ nn20 ihJ19 =>
      intro I21 L22 x23 hmnn20 hI27 S26 b24 b25
      have gx23 := rg x23
      have e28 := Chg.k S26 T_r1 (by decide) (by decide) e16
      have e29 := Chg.k S26 T_r0 (by decide) (by decide) e17
      refine k_iload_n C rfl rfl rfl ?_
      refine z_iconst C (z := 3) rfl rfl rfl (fun x30 ex30 => ?_)
      refine b_icmp_gt C (t := 52) rfl rfl rfl (fun c31 => ?_) (fun c31 => ?_)
      · skip
        refine z_iconst C (z := 0) rfl rfl rfl (fun x32 ex32 => ?_)
        have J33 : ∀ (nn34 : Nat) (I35 : IT) (L36 : LT) (x37 : Int32), (MN (3 - x37.toInt) nn34) → (IX A T I35) → (Chg B T [(4, 7)] I21 L22 I35 L36) → (0 ≤ x37.toInt) → (x37.toInt ≤ 3) → V 54 [(0, .ref r0), (2, .int x37)] [] (T, N, I35, L36, R) 0 0 := by
          intro nn34
          induction nn34 using Nat.strongRecOn with
          | _ nn34 ihJ33 =>
            intro I35 L36 x37 hmnn34 hI41 S40 b38 b39
            have gx37 := rg x37
            have e42 := Chg.k S40 T_r1 (by decide) (by decide) e28
            have e43 := Chg.k S40 T_r0 (by decide) (by decide) e29
            refine k_iload_n C rfl rfl rfl ?_
            refine k_aload_n C rfl rfl rfl ?_
            refine z_gI C rfl rfl rfl T_r0 rfl (fun x44 ex44 => ?_)
            have gx44 := rg x44
            refine b_icmp_ge C (t := 88) rfl rfl rfl (fun c45 => ?_) (fun c45 => ?_)
            · skip
              exact k_vret C rfl rfl (Nat.le_of_ble_eq_true rfl) (Nat.le_of_ble_eq_true rfl) ⟨_, _, rfl, rfl, hI41, (Chg.cons S3 (Chg.cons S7 (Chg.cons S14 (Chg.cons S26 (Chg.mono S40 (by decide)) (by decide)) (by decide)) (by decide)) (by decide))⟩
            refine k_iload_n C rfl rfl rfl ?_
            refine k_aload_n C rfl rfl rfl ?_
            refine g_R C rfl rfl rfl T_r0 rfl R_r0_3 ?_
            obtain ⟨T_r0_3, N_r0_3, A_r0_3⟩ := id H_r0_3
            refine z_len C (n := 3) rfl rfl (by rw [T_r0_3]; exact Nat.le_of_ble_eq_true rfl) N_r0_3 (Nat.le_of_ble_eq_true rfl) (fun x46 ex46 => ?_)
            refine b_icmp_ge C (t := 88) rfl rfl rfl (fun c47 => ?_) (fun c47 => ?_)
            · skip
              exact k_vret C rfl rfl (Nat.le_of_ble_eq_true rfl) (Nat.le_of_ble_eq_true rfl) ⟨_, _, rfl, rfl, hI41, (Chg.cons S3 (Chg.cons S7 (Chg.cons S14 (Chg.cons S26 (Chg.mono S40 (by decide)) (by decide)) (by decide)) (by decide)) (by decide))⟩
            refine k_aload_n C rfl rfl rfl ?_
            refine g_R C rfl rfl rfl T_r0 rfl R_r0_3 ?_
            refine k_iload_n C rfl rfl rfl ?_
            refine k_aload_n C rfl rfl rfl ?_
            refine k_iload_n C rfl rfl rfl ?_
            refine c_VI C (s_X3_numberOf hS hI41 H_r0) rfl rfl rfl rfl rfl ⟨_, rfl, rfl, T_r0, Nat.le_of_ble_eq_true rfl⟩ rfl rfl (Nat.le_of_ble_eq_true rfl) (Nat.le_of_ble_eq_true rfl) (Nat.le_of_ble_eq_true rfl) ?_
            rintro x48 I49 L50 ⟨hI49, S51⟩
            have e52 := Chg.k S51 T_r1 (by decide) (by decide) e42
            have e53 := Chg.k S51 T_r0 (by decide) (by decide) e43
            have e54 := Chg.k S51 T_r0 (by decide) (by decide) ex44
            have gx48 := rg x48
            refine z_sI C rfl rfl T_r0_3 N_r0_3 (by omega) (by omega) (fun I55 uI55 => ?_)
            have hI55 : IX A T I55 := IX.a hI49 T_r0_3 (Nat.le_of_ble_eq_true rfl) uI55
            have S56 : Chg B T [] I49 L50 I55 L50 := Chg.a A_r0_3 T_r0_3 (Nat.le_of_ble_eq_true rfl) uI55
            have e57 := u2_n uI55 (t_nq T_r1 T_r0_3 (by decide)) e52
            have e58 := u2_n uI55 (t_nq T_r0 T_r0_3 (by decide)) e53
            have e59 := u2_n uI55 (t_nq T_r0 T_r0_3 (by decide)) e54
            refine z_iinc C (z := 1) (lw := fun x60 => [(2, .int x60), (0, .ref r0)]) rfl rfl rfl (Nat.le_of_ble_eq_true rfl) rfl ⟨by omega, by omega⟩ (fun _ => rfl) (fun x60 ex60 => ?_)
            show V 85 [(2, .int x60), (0, .ref r0)] _ _ _ _
            refine k_goto C (pc2 := 54) rfl rfl ?_
            refine k_sub S [(0, .ref r0), (2, .int x60)] (List.forall_mem_cons.mpr ⟨List.mem_of_getElem? (i := 1) rfl, List.forall_mem_cons.mpr ⟨List.mem_of_getElem? (i := 0) rfl, fun _ h => nomatch h⟩⟩) ?_
            exact ihJ33 _ (MN.lt hmnn34 (by omega) (by omega)) I55 L50 x60 rfl hI55 (Chg.cons S40 (Chg.cons S51 (Chg.mono S56 (by decide)) (by decide)) (by decide)) (by omega) (by omega)
        refine k_istore_n C (lw := [(2, .int x32), (0, .ref r0)]) rfl rfl (Nat.le_of_ble_eq_true rfl) rfl ?_
        refine k_sub S [(0, .ref r0), (2, .int x32)] (List.forall_mem_cons.mpr ⟨List.mem_of_getElem? (i := 1) rfl, List.forall_mem_cons.mpr ⟨List.mem_of_getElem? (i := 0) rfl, fun _ h => nomatch h⟩⟩) ?_
        exact J33 _ I21 L22 x32 rfl hI27 Chg.rf (by omega) (by omega)
      refine k_aload_n C rfl rfl rfl ?_
      refine z_gI C rfl rfl rfl T_r0 rfl (fun x61 ex61 => ?_)
      have gx61 := rg x61
      refine z_iconst C (z := -1) rfl rfl rfl (fun x62 ex62 => ?_)
      refine b_icmp_ne C (t := 52) rfl rfl rfl (fun c63 => ?_) (fun c63 => ?_)
      · skip
        refine z_iconst C (z := 0) rfl rfl rfl (fun x64 ex64 => ?_)
        have J65 : ∀ (nn66 : Nat) (I67 : IT) (L68 : LT) (x69 : Int32), (MN (3 - x69.toInt) nn66) → (IX A T I67) → (Chg B T [(4, 7)] I21 L22 I67 L68) → (0 ≤ x69.toInt) → (x69.toInt ≤ 3) → V 54 [(0, .ref r0), (2, .int x69)] [] (T, N, I67, L68, R) 0 0 := by
          intro nn66
          induction nn66 using Nat.strongRecOn with
          | _ nn66 ihJ65 =>
            intro I67 L68 x69 hmnn66 hI73 S72 b70 b71
            have gx69 := rg x69
            have e74 := Chg.k S72 T_r1 (by decide) (by decide) e28
            have e75 := Chg.k S72 T_r0 (by decide) (by decide) e29
            have e76 := Chg.k S72 T_r0 (by decide) (by decide) ex61
            refine k_iload_n C rfl rfl rfl ?_
            refine k_aload_n C rfl rfl rfl ?_
            refine g_I C rfl rfl rfl T_r0 rfl e76 ?_
            refine b_icmp_ge C (t := 88) rfl rfl rfl (fun c77 => ?_) (fun c77 => ?_)
            · skip
              exact k_vret C rfl rfl (Nat.le_of_ble_eq_true rfl) (Nat.le_of_ble_eq_true rfl) ⟨_, _, rfl, rfl, hI73, (Chg.cons S3 (Chg.cons S7 (Chg.cons S14 (Chg.cons S26 (Chg.mono S72 (by decide)) (by decide)) (by decide)) (by decide)) (by decide))⟩
            refine k_iload_n C rfl rfl rfl ?_
            refine k_aload_n C rfl rfl rfl ?_
            refine g_R C rfl rfl rfl T_r0 rfl R_r0_3 ?_
            obtain ⟨T_r0_3, N_r0_3, A_r0_3⟩ := id H_r0_3
            refine z_len C (n := 3) rfl rfl (by rw [T_r0_3]; exact Nat.le_of_ble_eq_true rfl) N_r0_3 (Nat.le_of_ble_eq_true rfl) (fun x78 ex78 => ?_)
            refine b_icmp_ge C (t := 88) rfl rfl rfl (fun c79 => ?_) (fun c79 => ?_)
            · skip
              exact k_vret C rfl rfl (Nat.le_of_ble_eq_true rfl) (Nat.le_of_ble_eq_true rfl) ⟨_, _, rfl, rfl, hI73, (Chg.cons S3 (Chg.cons S7 (Chg.cons S14 (Chg.cons S26 (Chg.mono S72 (by decide)) (by decide)) (by decide)) (by decide)) (by decide))⟩
            refine k_aload_n C rfl rfl rfl ?_
            refine g_R C rfl rfl rfl T_r0 rfl R_r0_3 ?_
            refine k_iload_n C rfl rfl rfl ?_
            refine k_aload_n C rfl rfl rfl ?_
            refine k_iload_n C rfl rfl rfl ?_
            refine c_VI C (s_X3_numberOf hS hI73 H_r0) rfl rfl rfl rfl rfl ⟨_, rfl, rfl, T_r0, Nat.le_of_ble_eq_true rfl⟩ rfl rfl (Nat.le_of_ble_eq_true rfl) (Nat.le_of_ble_eq_true rfl) (Nat.le_of_ble_eq_true rfl) ?_
            rintro x80 I81 L82 ⟨hI81, S83⟩
            have e84 := Chg.k S83 T_r1 (by decide) (by decide) e74
            have e85 := Chg.k S83 T_r0 (by decide) (by decide) e75
            have e86 := Chg.k S83 T_r0 (by decide) (by decide) e76
            have gx80 := rg x80
            refine z_sI C rfl rfl T_r0_3 N_r0_3 (by omega) (by omega) (fun I87 uI87 => ?_)
            have hI87 : IX A T I87 := IX.a hI81 T_r0_3 (Nat.le_of_ble_eq_true rfl) uI87
            have S88 : Chg B T [] I81 L82 I87 L82 := Chg.a A_r0_3 T_r0_3 (Nat.le_of_ble_eq_true rfl) uI87
            have e89 := u2_n uI87 (t_nq T_r1 T_r0_3 (by decide)) e84
            have e90 := u2_n uI87 (t_nq T_r0 T_r0_3 (by decide)) e85
            have e91 := u2_n uI87 (t_nq T_r0 T_r0_3 (by decide)) e86
            refine z_iinc C (z := 1) (lw := fun x92 => [(2, .int x92), (0, .ref r0)]) rfl rfl rfl (Nat.le_of_ble_eq_true rfl) rfl ⟨by omega, by omega⟩ (fun _ => rfl) (fun x92 ex92 => ?_)
            show V 85 [(2, .int x92), (0, .ref r0)] _ _ _ _
            refine k_goto C (pc2 := 54) rfl rfl ?_
            refine k_sub S [(0, .ref r0), (2, .int x92)] (List.forall_mem_cons.mpr ⟨List.mem_of_getElem? (i := 1) rfl, List.forall_mem_cons.mpr ⟨List.mem_of_getElem? (i := 0) rfl, fun _ h => nomatch h⟩⟩) ?_
            exact ihJ65 _ (MN.lt hmnn66 (by omega) (by omega)) I87 L82 x92 rfl hI87 (Chg.cons S72 (Chg.cons S83 (Chg.mono S88 (by decide)) (by decide)) (by decide)) (by omega) (by omega)
        refine k_istore_n C (lw := [(2, .int x64), (0, .ref r0)]) rfl rfl (Nat.le_of_ble_eq_true rfl) rfl ?_
        refine k_sub S [(0, .ref r0), (2, .int x64)] (List.forall_mem_cons.mpr ⟨List.mem_of_getElem? (i := 1) rfl, List.forall_mem_cons.mpr ⟨List.mem_of_getElem? (i := 0) rfl, fun _ h => nomatch h⟩⟩) ?_
        exact J65 _ I21 L22 x64 rfl hI27 Chg.rf (by omega) (by omega)
      refine k_aload_n C rfl rfl rfl ?_
      refine k_iload_n C rfl rfl rfl ?_
      refine c_VI C (s_X3_isFound hS hI27 H_r0 (by omega) (by omega)) rfl rfl rfl rfl rfl ⟨_, rfl, rfl, T_r0, Nat.le_of_ble_eq_true rfl⟩ rfl rfl (Nat.le_of_ble_eq_true rfl) (Nat.le_of_ble_eq_true rfl) (Nat.le_of_ble_eq_true rfl) ?_
      rintro x93 I94 L95 ⟨o0x93, o1x93, hI94, S96⟩
      have e97 := Chg.k S96 T_r1 (by decide) (by decide) e28
      have e98 := Chg.k S96 T_r0 (by decide) (by decide) e29
      have e99 := Chg.k S96 T_r0 (by decide) (by decide) ex61
      have gx93 := rg x93
      refine b_if_eq C (t := 46) rfl rfl rfl (fun c100 => ?_) (fun c100 => ?_)
      · skip
        refine z_iinc C (z := 1) (lw := fun x101 => [(2, .int x101), (0, .ref r0)]) rfl rfl rfl (Nat.le_of_ble_eq_true rfl) rfl ⟨by omega, by omega⟩ (fun _ => rfl) (fun x101 ex101 => ?_)
        show V 49 [(2, .int x101), (0, .ref r0)] _ _ _ _
        refine k_goto C (pc2 := 20) rfl rfl ?_
        refine k_sub S [(0, .ref r0), (2, .int x101)] (List.forall_mem_cons.mpr ⟨List.mem_of_getElem? (i := 1) rfl, List.forall_mem_cons.mpr ⟨List.mem_of_getElem? (i := 0) rfl, fun _ h => nomatch h⟩⟩) ?_
        exact ihJ19 _ (MN.lt hmnn20 (by omega) (by omega)) I94 L95 x101 rfl hI94 (Chg.cons S26 (Chg.mono S96 (by decide)) (by decide)) (by omega) (by omega)
      refine k_aload_n C rfl rfl rfl ?_
      refine k_iload_n C rfl rfl rfl ?_
      refine z_pI C rfl rfl rfl T_r0 (Or.inr rfl) rfl (fun I102 uI102 => ?_)
      have hI102 : IX A T I102 := IX.f hI94 T_r0 (boX.tr (by decide) (by decide)) uI102
      have S103 : Chg B T [(4, 0)] I94 L95 I102 L95 := Chg.f B_r0 T_r0 uI102
      have e104 := u2_n uI102 (t_nq T_r1 T_r0 (by decide)) e97
      have e105 := u2_j uI102 (by decide) e98
      have e106 := u2_e uI102
      refine z_iinc C (z := 1) (lw := fun x107 => [(2, .int x107), (0, .ref r0)]) rfl rfl rfl (Nat.le_of_ble_eq_true rfl) rfl ⟨by omega, by omega⟩ (fun _ => rfl) (fun x107 ex107 => ?_)
      show V 49 [(2, .int x107), (0, .ref r0)] _ _ _ _
      refine k_goto C (pc2 := 20) rfl rfl ?_
      refine k_sub S [(0, .ref r0), (2, .int x107)] (List.forall_mem_cons.mpr ⟨List.mem_of_getElem? (i := 1) rfl, List.forall_mem_cons.mpr ⟨List.mem_of_getElem? (i := 0) rfl, fun _ h => nomatch h⟩⟩) ?_
      exact ihJ19 _ (MN.lt hmnn20 (by omega) (by omega)) I102 L95 x107 rfl hI102 (Chg.cons S26 (Chg.cons S96 (Chg.mono S103 (by decide)) (by decide)) (by decide)) (by omega) (by omega)
  refine k_istore_n C (lw := [(2, .int x18), (0, .ref r0), (1, .ref r1)]) rfl rfl (Nat.le_of_ble_eq_true rfl) rfl ?_
  refine k_sub S [(0, .ref r0), (2, .int x18)] (List.forall_mem_cons.mpr ⟨List.mem_of_getElem? (i := 1) rfl, List.forall_mem_cons.mpr ⟨List.mem_of_getElem? (i := 0) rfl, fun _ h => nomatch h⟩⟩) ?_
  exact J19 _ I12 L13 x18 rfl hI12 Chg.rf (by omega) (by omega)

