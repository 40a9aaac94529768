/-! the class in any state, the states' forms kept -/
theorem s_X6_pointX {d : Nat} {T N : Nat → Nat} {I : IT} {L : LT} {R : RT} {A B : Nat → Prop} {n0 : Int32} (hS : SUB B A) (hI : IX A T I)  : Ex (d + 1) 85 [.int n0] (T, N, I, L, R) 0 0 (pI T N R (fun x9 I9 L9 => (I = I9 ∧ L = L9))) := by
  refine ⟨_, rfl, Nat.le_of_ble_eq_true rfl, fun V C S => ?_⟩
  show V 0 [(0, .int n0)] [] (T, N, I, L, R) 0 0
  have gn0 := rg n0
  refine k_iload_n C rfl rfl rfl ?_
  refine b_if_ne C (t := 8) rfl rfl rfl (fun c1 => ?_) (fun c1 => ?_)
  · skip
    refine k_iload_n C rfl rfl rfl ?_
    refine z_iconst C (z := 1) rfl rfl rfl (fun x2 ex2 => ?_)
    refine zt_isub C rfl rfl (fun x3 => ?_)
    have gx3 := rg x3
    exact k_iret C rfl (Or.inl rfl) (Nat.le_of_ble_eq_true rfl) (Nat.le_of_ble_eq_true rfl) ⟨_, _, _, rfl, rfl, rfl, rfl⟩
  refine z_iconst C (z := 1) rfl rfl rfl (fun x4 ex4 => ?_)
  refine k_goto C (pc2 := 11) rfl rfl ?_
  exact k_iret C rfl (Or.inl rfl) (Nat.le_of_ble_eq_true rfl) (Nat.le_of_ble_eq_true rfl) ⟨_, _, _, rfl, rfl, rfl, rfl⟩

theorem s_X6_pointY {d : Nat} {T N : Nat → Nat} {I : IT} {L : LT} {R : RT} {A B : Nat → Prop} {n0 : Int32} (hS : SUB B A) (hI : IX A T I)  : Ex (d + 1) 86 [.int n0] (T, N, I, L, R) 0 0 (pI T N R (fun x9 I9 L9 => (0 ≤ x9.toInt) ∧ (x9.toInt ≤ 1) ∧ (I = I9 ∧ L = L9))) := by
  refine ⟨_, rfl, Nat.le_of_ble_eq_true rfl, fun V C S => ?_⟩
  show V 0 [(0, .int n0)] [] (T, N, I, L, R) 0 0
  have gn0 := rg n0
  refine k_iload_n C rfl rfl rfl ?_
  refine b_if_ne C (t := 8) rfl rfl rfl (fun c1 => ?_) (fun c1 => ?_)
  · skip
    refine z_iconst C (z := 1) rfl rfl rfl (fun x2 ex2 => ?_)
    exact k_iret C rfl (Or.inl rfl) (Nat.le_of_ble_eq_true rfl) (Nat.le_of_ble_eq_true rfl) ⟨_, _, _, rfl, rfl, by omega, by omega, rfl, rfl⟩
  refine z_iconst C (z := 0) rfl rfl rfl (fun x3 ex3 => ?_)
  refine k_goto C (pc2 := 9) rfl rfl ?_
  exact k_iret C rfl (Or.inl rfl) (Nat.le_of_ble_eq_true rfl) (Nat.le_of_ble_eq_true rfl) ⟨_, _, _, rfl, rfl, by omega, by omega, rfl, rfl⟩

theorem s_X6_aim {d : Nat} {T N : Nat → Nat} {I : IT} {L : LT} {R : RT} {A B : Nat → Prop} {r0 r1 r2 : Nat} (hS : SUB B A) (hI : IX A T I) (H_r0 : (hs_Se T N R A B) r0) (H_r1 : (hs_F T N R A B) r1) (H_r2 : (hs_F T N R A B) r2) : Ex (d + 3) 87 [.ref r0, .ref r1, .ref r2] (T, N, I, L, R) 0 0 (pV T N R (fun I9 L9 => (IX A T I9 ∧ Chg B T [] I L I9 L9))) := by
  refine ⟨_, rfl, Nat.le_of_ble_eq_true rfl, fun V C S => ?_⟩
  show V 0 [(0, .ref r0), (1, .ref r1), (2, .ref r2)] [] (T, N, I, L, R) 0 0
  refine z_iconst C (z := 0) rfl rfl rfl (fun x1 ex1 => ?_)
  have J2 : ∀ (nn3 : Nat) (I4 : IT) (L5 : LT) (x6 : Int32), (MN (9 - x6.toInt) nn3) → (IX A T I4) → (Chg B T [] I L I4 L5) → (0 ≤ x6.toInt) → (x6.toInt ≤ 9) → V 2 [(0, .ref r0), (1, .ref r1), (2, .ref r2), (3, .int x6)] [] (T, N, I4, L5, R) 0 0 := by
    intro nn3
    induction nn3 using Nat.strongRecOn with
    | _ nn3 ihJ2 =>
      intro I4 L5 x6 hmnn3 hI10 S9 b7 b8
      have gx6 := rg x6
      refine k_iload_n C rfl rfl rfl ?_
      refine k_aload_n C rfl rfl rfl ?_
      obtain ⟨T_r2, A_r2, ⟨r2_1, R_r2_1, H_r2_1⟩⟩ := id H_r2
      refine z_gI C rfl rfl rfl T_r2 rfl (fun x11 ex11 => ?_)
      have gx11 := rg x11
      have ox11 := IX.deg hI10 A_r2 T_r2 ex11
      refine b_icmp_gt C (t := 47) rfl rfl rfl (fun c12 => ?_) (fun c12 => ?_)
      · skip
        refine z_iconst C (z := 0) rfl rfl rfl (fun x13 ex13 => ?_)
        have J14 : ∀ (nn15 : Nat) (I16 : IT) (L17 : LT) (x18 : Int32), (MN (19 - x18.toInt) nn15) → (IX A T I16) → (Chg B T [] I4 L5 I16 L17) → (0 ≤ x18.toInt) → (x18.toInt ≤ 19) → V 49 [(0, .ref r0), (1, .ref r1), (3, .int x18)] [] (T, N, I16, L17, R) 0 0 := by
          intro nn15
          induction nn15 using Nat.strongRecOn with
          | _ nn15 ihJ14 =>
            intro I16 L17 x18 hmnn15 hI22 S21 b19 b20
            have gx18 := rg x18
            have e23 := Chg.k S21 T_r2 (by decide) (by decide) ex11
            refine k_iload_n C rfl rfl rfl ?_
            refine k_aload_n C rfl rfl rfl ?_
            obtain ⟨T_r0, A_r0, B_r0, ⟨r0_2, R_r0_2, H_r0_2⟩, ⟨r0_3, R_r0_3, H_r0_3⟩, ⟨r0_4, R_r0_4, H_r0_4⟩, ⟨r0_5, R_r0_5, H_r0_5⟩, ⟨r0_6, R_r0_6, H_r0_6⟩⟩ := id H_r0
            refine g_R C rfl rfl rfl T_r0 rfl R_r0_2 ?_
            obtain ⟨T_r0_2, A_r0_2, B_r0_2, ⟨r0_2_0, R_r0_2_0, H_r0_2_0⟩, ⟨r0_2_1, R_r0_2_1, H_r0_2_1⟩, ⟨r0_2_2, R_r0_2_2, H_r0_2_2⟩⟩ := id H_r0_2
            refine c_VI C (s_X0_p hS hI22 H_r0_2) rfl rfl rfl rfl rfl ⟨_, rfl, rfl, T_r0_2, Nat.le_of_ble_eq_true rfl⟩ rfl rfl (Nat.le_of_ble_eq_true rfl) (Nat.le_of_ble_eq_true rfl) (Nat.le_of_ble_eq_true rfl) ?_
            rintro x24 _ _ ⟨o0x24, o1x24, rfl, rfl⟩
            have gx24 := rg x24
            refine b_icmp_ge C (t := 124) rfl rfl rfl (fun c25 => ?_) (fun c25 => ?_)
            · skip
              exact k_vret C rfl rfl (Nat.le_of_ble_eq_true rfl) (Nat.le_of_ble_eq_true rfl) ⟨_, _, rfl, rfl, hI22, (Chg.cons S9 (Chg.mono S21 (by decide)) (by decide))⟩
            refine z_iconst C (z := 0) rfl rfl rfl (fun x26 ex26 => ?_)
            have J27 : ∀ (nn28 : Nat) (I29 : IT) (L30 : LT) (x31 : Int32), (MN (19 - x31.toInt) nn28) → (IX A T I29) → (Chg B T [] I16 L17 I29 L30) → (0 ≤ x31.toInt) → (x31.toInt ≤ 19) → V 63 [(0, .ref r0), (1, .ref r1), (3, .int x18), (4, .int x31)] [] (T, N, I29, L30, R) 0 0 := by
              intro nn28
              induction nn28 using Nat.strongRecOn with
              | _ nn28 ihJ27 =>
                intro I29 L30 x31 hmnn28 hI35 S34 b32 b33
                have gx31 := rg x31
                have e36 := Chg.k S34 T_r2 (by decide) (by decide) e23
                refine k_iload C rfl rfl rfl ?_
                refine k_aload_n C rfl rfl rfl ?_
                refine g_R C rfl rfl rfl T_r0 rfl R_r0_2 ?_
                refine c_VI C (s_X0_p hS hI35 H_r0_2) rfl rfl rfl rfl rfl ⟨_, rfl, rfl, T_r0_2, Nat.le_of_ble_eq_true rfl⟩ rfl rfl (Nat.le_of_ble_eq_true rfl) (Nat.le_of_ble_eq_true rfl) (Nat.le_of_ble_eq_true rfl) ?_
                rintro x37 _ _ ⟨o0x37, o1x37, rfl, rfl⟩
                have gx37 := rg x37
                refine b_icmp_ge C (t := 118) rfl rfl rfl (fun c38 => ?_) (fun c38 => ?_)
                · skip
                  refine z_iinc C (z := 1) (lw := fun x39 => [(3, .int x39), (0, .ref r0), (1, .ref r1), (4, .int x31)]) rfl rfl rfl (Nat.le_of_ble_eq_true rfl) rfl ⟨by omega, by omega⟩ (fun _ => rfl) (fun x39 ex39 => ?_)
                  show V 121 [(3, .int x39), (0, .ref r0), (1, .ref r1), (4, .int x31)] _ _ _ _
                  refine k_goto C (pc2 := 49) rfl rfl ?_
                  refine k_sub S [(0, .ref r0), (1, .ref r1), (3, .int x39)] (List.forall_mem_cons.mpr ⟨List.mem_of_getElem? (i := 1) rfl, List.forall_mem_cons.mpr ⟨List.mem_of_getElem? (i := 2) rfl, List.forall_mem_cons.mpr ⟨List.mem_of_getElem? (i := 0) rfl, fun _ h => nomatch h⟩⟩⟩) ?_
                  exact ihJ14 _ (MN.lt hmnn15 (by omega) (by omega)) I29 L30 x39 rfl hI35 (Chg.cons S21 (Chg.mono S34 (by decide)) (by decide)) (by omega) (by omega)
                refine k_iload_n C rfl rfl rfl ?_
                refine z_bipush C (z := 20) rfl rfl rfl (fun x40 ex40 => ?_)
                refine z_imulR C (c := 20) rfl rfl (by omega) ⟨by omega, by omega⟩ (fun x41 ex41 => ?_)
                refine k_iload C rfl rfl rfl ?_
                refine z_iadd C rfl rfl ⟨by omega, by omega⟩ (fun x42 ex42 => ?_)
                refine k_istore C (lw := [(5, .int x42), (0, .ref r0), (1, .ref r1), (3, .int x18), (4, .int x31)]) rfl rfl (Nat.le_of_ble_eq_true rfl) rfl ?_
                refine k_iload C rfl rfl rfl ?_
                refine k_aload_n C rfl rfl rfl ?_
                refine g_R C rfl rfl rfl T_r0 rfl R_r0_3 ?_
                obtain ⟨T_r0_3, N_r0_3, A_r0_3⟩ := id H_r0_3
                refine z_len C (n := 400) rfl rfl (by rw [T_r0_3]; exact Nat.le_of_ble_eq_true rfl) N_r0_3 (Nat.le_of_ble_eq_true rfl) (fun x43 ex43 => ?_)
                refine b_icmp_ge C (t := 112) rfl rfl rfl (fun c44 => by exfalso; omega) (fun c44 => ?_)
                refine k_aload_n C rfl rfl rfl ?_
                refine g_R C rfl rfl rfl T_r0 rfl R_r0_3 ?_
                refine k_iload C rfl rfl rfl ?_
                refine k_aload_n C rfl rfl rfl ?_
                refine g_R C rfl rfl rfl T_r0 rfl R_r0_2 ?_
                refine k_aload_n C rfl rfl rfl ?_
                refine k_iload_n C rfl rfl rfl ?_
                refine k_iload C rfl rfl rfl ?_
                refine c_VI C (s_X0_worth hS hI35 H_r0_2 H_r1) rfl rfl rfl rfl rfl ⟨_, rfl, rfl, T_r0_2, Nat.le_of_ble_eq_true rfl⟩ rfl rfl (Nat.le_of_ble_eq_true rfl) (Nat.le_of_ble_eq_true rfl) (Nat.le_of_ble_eq_true rfl) ?_
                rintro x45 _ _ ⟨rfl, rfl⟩
                have gx45 := rg x45
                refine z_sI C rfl rfl T_r0_3 N_r0_3 (by omega) (by omega) (fun I46 uI46 => ?_)
                have hI46 : IX A T I46 := IX.a hI35 T_r0_3 (Nat.le_of_ble_eq_true rfl) uI46
                have S47 : Chg B T [] I29 L30 I46 L30 := Chg.a A_r0_3 T_r0_3 (Nat.le_of_ble_eq_true rfl) uI46
                have e48 := u2_n uI46 (t_nq T_r2 T_r0_3 (by decide)) e36
                refine z_iinc C (z := 1) (lw := fun x49 => [(4, .int x49), (5, .int x42), (0, .ref r0), (1, .ref r1), (3, .int x18)]) rfl rfl rfl (Nat.le_of_ble_eq_true rfl) rfl ⟨by omega, by omega⟩ (fun _ => rfl) (fun x49 ex49 => ?_)
                show V 115 [(4, .int x49), (5, .int x42), (0, .ref r0), (1, .ref r1), (3, .int x18)] _ _ _ _
                refine k_goto C (pc2 := 63) rfl rfl ?_
                refine k_sub S [(0, .ref r0), (1, .ref r1), (3, .int x18), (4, .int x49)] (List.forall_mem_cons.mpr ⟨List.mem_of_getElem? (i := 2) rfl, List.forall_mem_cons.mpr ⟨List.mem_of_getElem? (i := 3) rfl, List.forall_mem_cons.mpr ⟨List.mem_of_getElem? (i := 4) rfl, List.forall_mem_cons.mpr ⟨List.mem_of_getElem? (i := 0) rfl, fun _ h => nomatch h⟩⟩⟩⟩) ?_
                exact ihJ27 _ (MN.lt hmnn28 (by omega) (by omega)) I46 L30 x49 rfl hI46 (Chg.cons S34 (Chg.mono S47 (by decide)) (by decide)) (by omega) (by omega)
            refine k_istore C (lw := [(4, .int x26), (0, .ref r0), (1, .ref r1), (3, .int x18)]) rfl rfl (Nat.le_of_ble_eq_true rfl) rfl ?_
            refine k_sub S [(0, .ref r0), (1, .ref r1), (3, .int x18), (4, .int x26)] (List.forall_mem_cons.mpr ⟨List.mem_of_getElem? (i := 1) rfl, List.forall_mem_cons.mpr ⟨List.mem_of_getElem? (i := 2) rfl, List.forall_mem_cons.mpr ⟨List.mem_of_getElem? (i := 3) rfl, List.forall_mem_cons.mpr ⟨List.mem_of_getElem? (i := 0) rfl, fun _ h => nomatch h⟩⟩⟩⟩) ?_
            exact J27 _ I16 L17 x26 rfl hI22 Chg.rf (by omega) (by omega)
        refine k_istore_n C (lw := [(3, .int x13), (0, .ref r0), (1, .ref r1), (2, .ref r2)]) rfl rfl (Nat.le_of_ble_eq_true rfl) rfl ?_
        refine k_sub S [(0, .ref r0), (1, .ref r1), (3, .int x13)] (List.forall_mem_cons.mpr ⟨List.mem_of_getElem? (i := 1) rfl, List.forall_mem_cons.mpr ⟨List.mem_of_getElem? (i := 2) rfl, List.forall_mem_cons.mpr ⟨List.mem_of_getElem? (i := 0) rfl, fun _ h => nomatch h⟩⟩⟩) ?_
        exact J14 _ I4 L5 x13 rfl hI10 Chg.rf (by omega) (by omega)
      refine k_iload_n C rfl rfl rfl ?_
      refine k_aload_n C rfl rfl rfl ?_
      obtain ⟨T_r0, A_r0, B_r0, ⟨r0_2, R_r0_2, H_r0_2⟩, ⟨r0_3, R_r0_3, H_r0_3⟩, ⟨r0_4, R_r0_4, H_r0_4⟩, ⟨r0_5, R_r0_5, H_r0_5⟩, ⟨r0_6, R_r0_6, H_r0_6⟩⟩ := id H_r0
      refine g_R C rfl rfl rfl T_r0 rfl R_r0_4 ?_
      obtain ⟨T_r0_4, N_r0_4, A_r0_4⟩ := id H_r0_4
      refine z_len C (n := 9) rfl rfl (by rw [T_r0_4]; exact Nat.le_of_ble_eq_true rfl) N_r0_4 (Nat.le_of_ble_eq_true rfl) (fun x50 ex50 => ?_)
      refine b_icmp_ge C (t := 47) rfl rfl rfl (fun c51 => ?_) (fun c51 => ?_)
      · skip
        refine z_iconst C (z := 0) rfl rfl rfl (fun x52 ex52 => ?_)
        have J53 : ∀ (nn54 : Nat) (I55 : IT) (L56 : LT) (x57 : Int32), (MN (19 - x57.toInt) nn54) → (IX A T I55) → (Chg B T [] I4 L5 I55 L56) → (0 ≤ x57.toInt) → (x57.toInt ≤ 19) → V 49 [(0, .ref r0), (1, .ref r1), (3, .int x57)] [] (T, N, I55, L56, R) 0 0 := by
          intro nn54
          induction nn54 using Nat.strongRecOn with
          | _ nn54 ihJ53 =>
            intro I55 L56 x57 hmnn54 hI61 S60 b58 b59
            have gx57 := rg x57
            have e62 := Chg.k S60 T_r2 (by decide) (by decide) ex11
            refine k_iload_n C rfl rfl rfl ?_
            refine k_aload_n C rfl rfl rfl ?_
            refine g_R C rfl rfl rfl T_r0 rfl R_r0_2 ?_
            obtain ⟨T_r0_2, A_r0_2, B_r0_2, ⟨r0_2_0, R_r0_2_0, H_r0_2_0⟩, ⟨r0_2_1, R_r0_2_1, H_r0_2_1⟩, ⟨r0_2_2, R_r0_2_2, H_r0_2_2⟩⟩ := id H_r0_2
            refine c_VI C (s_X0_p hS hI61 H_r0_2) rfl rfl rfl rfl rfl ⟨_, rfl, rfl, T_r0_2, Nat.le_of_ble_eq_true rfl⟩ rfl rfl (Nat.le_of_ble_eq_true rfl) (Nat.le_of_ble_eq_true rfl) (Nat.le_of_ble_eq_true rfl) ?_
            rintro x63 _ _ ⟨o0x63, o1x63, rfl, rfl⟩
            have gx63 := rg x63
            refine b_icmp_ge C (t := 124) rfl rfl rfl (fun c64 => ?_) (fun c64 => ?_)
            · skip
              exact k_vret C rfl rfl (Nat.le_of_ble_eq_true rfl) (Nat.le_of_ble_eq_true rfl) ⟨_, _, rfl, rfl, hI61, (Chg.cons S9 (Chg.mono S60 (by decide)) (by decide))⟩
            refine z_iconst C (z := 0) rfl rfl rfl (fun x65 ex65 => ?_)
            have J66 : ∀ (nn67 : Nat) (I68 : IT) (L69 : LT) (x70 : Int32), (MN (19 - x70.toInt) nn67) → (IX A T I68) → (Chg B T [] I55 L56 I68 L69) → (0 ≤ x70.toInt) → (x70.toInt ≤ 19) → V 63 [(0, .ref r0), (1, .ref r1), (3, .int x57), (4, .int x70)] [] (T, N, I68, L69, R) 0 0 := by
              intro nn67
              induction nn67 using Nat.strongRecOn with
              | _ nn67 ihJ66 =>
                intro I68 L69 x70 hmnn67 hI74 S73 b71 b72
                have gx70 := rg x70
                have e75 := Chg.k S73 T_r2 (by decide) (by decide) e62
                refine k_iload C rfl rfl rfl ?_
                refine k_aload_n C rfl rfl rfl ?_
                refine g_R C rfl rfl rfl T_r0 rfl R_r0_2 ?_
                refine c_VI C (s_X0_p hS hI74 H_r0_2) rfl rfl rfl rfl rfl ⟨_, rfl, rfl, T_r0_2, Nat.le_of_ble_eq_true rfl⟩ rfl rfl (Nat.le_of_ble_eq_true rfl) (Nat.le_of_ble_eq_true rfl) (Nat.le_of_ble_eq_true rfl) ?_
                rintro x76 _ _ ⟨o0x76, o1x76, rfl, rfl⟩
                have gx76 := rg x76
                refine b_icmp_ge C (t := 118) rfl rfl rfl (fun c77 => ?_) (fun c77 => ?_)
                · skip
                  refine z_iinc C (z := 1) (lw := fun x78 => [(3, .int x78), (0, .ref r0), (1, .ref r1), (4, .int x70)]) rfl rfl rfl (Nat.le_of_ble_eq_true rfl) rfl ⟨by omega, by omega⟩ (fun _ => rfl) (fun x78 ex78 => ?_)
                  show V 121 [(3, .int x78), (0, .ref r0), (1, .ref r1), (4, .int x70)] _ _ _ _
                  refine k_goto C (pc2 := 49) rfl rfl ?_
                  refine k_sub S [(0, .ref r0), (1, .ref r1), (3, .int x78)] (List.forall_mem_cons.mpr ⟨List.mem_of_getElem? (i := 1) rfl, List.forall_mem_cons.mpr ⟨List.mem_of_getElem? (i := 2) rfl, List.forall_mem_cons.mpr ⟨List.mem_of_getElem? (i := 0) rfl, fun _ h => nomatch h⟩⟩⟩) ?_
                  exact ihJ53 _ (MN.lt hmnn54 (by omega) (by omega)) I68 L69 x78 rfl hI74 (Chg.cons S60 (Chg.mono S73 (by decide)) (by decide)) (by omega) (by omega)
                refine k_iload_n C rfl rfl rfl ?_
                refine z_bipush C (z := 20) rfl rfl rfl (fun x79 ex79 => ?_)
                refine z_imulR C (c := 20) rfl rfl (by omega) ⟨by omega, by omega⟩ (fun x80 ex80 => ?_)
                refine k_iload C rfl rfl rfl ?_
                refine z_iadd C rfl rfl ⟨by omega, by omega⟩ (fun x81 ex81 => ?_)
                refine k_istore C (lw := [(5, .int x81), (0, .ref r0), (1, .ref r1), (3, .int x57), (4, .int x70)]) rfl rfl (Nat.le_of_ble_eq_true rfl) rfl ?_
                refine k_iload C rfl rfl rfl ?_
                refine k_aload_n C rfl rfl rfl ?_
                refine g_R C rfl rfl rfl T_r0 rfl R_r0_3 ?_
                obtain ⟨T_r0_3, N_r0_3, A_r0_3⟩ := id H_r0_3
                refine z_len C (n := 400) rfl rfl (by rw [T_r0_3]; exact Nat.le_of_ble_eq_true rfl) N_r0_3 (Nat.le_of_ble_eq_true rfl) (fun x82 ex82 => ?_)
                refine b_icmp_ge C (t := 112) rfl rfl rfl (fun c83 => by exfalso; omega) (fun c83 => ?_)
                refine k_aload_n C rfl rfl rfl ?_
                refine g_R C rfl rfl rfl T_r0 rfl R_r0_3 ?_
                refine k_iload C rfl rfl rfl ?_
                refine k_aload_n C rfl rfl rfl ?_
                refine g_R C rfl rfl rfl T_r0 rfl R_r0_2 ?_
                refine k_aload_n C rfl rfl rfl ?_
                refine k_iload_n C rfl rfl rfl ?_
                refine k_iload C rfl rfl rfl ?_
                refine c_VI C (s_X0_worth hS hI74 H_r0_2 H_r1) rfl rfl rfl rfl rfl ⟨_, rfl, rfl, T_r0_2, Nat.le_of_ble_eq_true rfl⟩ rfl rfl (Nat.le_of_ble_eq_true rfl) (Nat.le_of_ble_eq_true rfl) (Nat.le_of_ble_eq_true rfl) ?_
                rintro x84 _ _ ⟨rfl, rfl⟩
                have gx84 := rg x84
                refine z_sI C rfl rfl T_r0_3 N_r0_3 (by omega) (by omega) (fun I85 uI85 => ?_)
                have hI85 : IX A T I85 := IX.a hI74 T_r0_3 (Nat.le_of_ble_eq_true rfl) uI85
                have S86 : Chg B T [] I68 L69 I85 L69 := Chg.a A_r0_3 T_r0_3 (Nat.le_of_ble_eq_true rfl) uI85
                have e87 := u2_n uI85 (t_nq T_r2 T_r0_3 (by decide)) e75
                refine z_iinc C (z := 1) (lw := fun x88 => [(4, .int x88), (5, .int x81), (0, .ref r0), (1, .ref r1), (3, .int x57)]) rfl rfl rfl (Nat.le_of_ble_eq_true rfl) rfl ⟨by omega, by omega⟩ (fun _ => rfl) (fun x88 ex88 => ?_)
                show V 115 [(4, .int x88), (5, .int x81), (0, .ref r0), (1, .ref r1), (3, .int x57)] _ _ _ _
                refine k_goto C (pc2 := 63) rfl rfl ?_
                refine k_sub S [(0, .ref r0), (1, .ref r1), (3, .int x57), (4, .int x88)] (List.forall_mem_cons.mpr ⟨List.mem_of_getElem? (i := 2) rfl, List.forall_mem_cons.mpr ⟨List.mem_of_getElem? (i := 3) rfl, List.forall_mem_cons.mpr ⟨List.mem_of_getElem? (i := 4) rfl, List.forall_mem_cons.mpr ⟨List.mem_of_getElem? (i := 0) rfl, fun _ h => nomatch h⟩⟩⟩⟩) ?_
                exact ihJ66 _ (MN.lt hmnn67 (by omega) (by omega)) I85 L69 x88 rfl hI85 (Chg.cons S73 (Chg.mono S86 (by decide)) (by decide)) (by omega) (by omega)
            refine k_istore C (lw := [(4, .int x65), (0, .ref r0), (1, .ref r1), (3, .int x57)]) rfl rfl (Nat.le_of_ble_eq_true rfl) rfl ?_
            refine k_sub S [(0, .ref r0), (1, .ref r1), (3, .int x57), (4, .int x65)] (List.forall_mem_cons.mpr ⟨List.mem_of_getElem? (i := 1) rfl, List.forall_mem_cons.mpr ⟨List.mem_of_getElem? (i := 2) rfl, List.forall_mem_cons.mpr ⟨List.mem_of_getElem? (i := 3) rfl, List.forall_mem_cons.mpr ⟨List.mem_of_getElem? (i := 0) rfl, fun _ h => nomatch h⟩⟩⟩⟩) ?_
            exact J66 _ I55 L56 x65 rfl hI61 Chg.rf (by omega) (by omega)
        refine k_istore_n C (lw := [(3, .int x52), (0, .ref r0), (1, .ref r1), (2, .ref r2)]) rfl rfl (Nat.le_of_ble_eq_true rfl) rfl ?_
        refine k_sub S [(0, .ref r0), (1, .ref r1), (3, .int x52)] (List.forall_mem_cons.mpr ⟨List.mem_of_getElem? (i := 1) rfl, List.forall_mem_cons.mpr ⟨List.mem_of_getElem? (i := 2) rfl, List.forall_mem_cons.mpr ⟨List.mem_of_getElem? (i := 0) rfl, fun _ h => nomatch h⟩⟩⟩) ?_
        exact J53 _ I4 L5 x52 rfl hI10 Chg.rf (by omega) (by omega)
      refine k_aload_n C rfl rfl rfl ?_
      refine g_R C rfl rfl rfl T_r0 rfl R_r0_4 ?_
      refine k_iload_n C rfl rfl rfl ?_
      refine k_aload_n C rfl rfl rfl ?_
      refine g_R C rfl rfl rfl T_r0 rfl R_r0_2 ?_
      refine k_aload_n C rfl rfl rfl ?_
      refine k_iload_n C rfl rfl rfl ?_
      refine c_SI C (s_X6_pointX hS hI10 ) rfl rfl rfl rfl rfl rfl rfl (Nat.le_of_ble_eq_true rfl) (Nat.le_of_ble_eq_true rfl) (Nat.le_of_ble_eq_true rfl) ?_
      rintro x89 _ _ ⟨rfl, rfl⟩
      have gx89 := rg x89
      refine k_iload_n C rfl rfl rfl ?_
      refine c_SI C (s_X6_pointY hS hI10 ) rfl rfl rfl rfl rfl rfl rfl (Nat.le_of_ble_eq_true rfl) (Nat.le_of_ble_eq_true rfl) (Nat.le_of_ble_eq_true rfl) ?_
      rintro x90 _ _ ⟨o0x90, o1x90, rfl, rfl⟩
      have gx90 := rg x90
      obtain ⟨T_r0_2, A_r0_2, B_r0_2, ⟨r0_2_0, R_r0_2_0, H_r0_2_0⟩, ⟨r0_2_1, R_r0_2_1, H_r0_2_1⟩, ⟨r0_2_2, R_r0_2_2, H_r0_2_2⟩⟩ := id H_r0_2
      refine c_VI C (s_X0_worth hS hI10 H_r0_2 H_r2) rfl rfl rfl rfl rfl ⟨_, rfl, rfl, T_r0_2, Nat.le_of_ble_eq_true rfl⟩ rfl rfl (Nat.le_of_ble_eq_true rfl) (Nat.le_of_ble_eq_true rfl) (Nat.le_of_ble_eq_true rfl) ?_
      rintro x91 _ _ ⟨rfl, rfl⟩
      have gx91 := rg x91
      refine z_sI C rfl rfl T_r0_4 N_r0_4 (by omega) (by omega) (fun I92 uI92 => ?_)
      have hI92 : IX A T I92 := IX.a hI10 T_r0_4 (Nat.le_of_ble_eq_true rfl) uI92
      have S93 : Chg B T [] I4 L5 I92 L5 := Chg.a A_r0_4 T_r0_4 (Nat.le_of_ble_eq_true rfl) uI92
      have e94 := u2_n uI92 (t_nq T_r2 T_r0_4 (by decide)) ex11
      refine z_iinc C (z := 1) (lw := fun x95 => [(3, .int x95), (0, .ref r0), (1, .ref r1), (2, .ref r2)]) rfl rfl rfl (Nat.le_of_ble_eq_true rfl) rfl ⟨by omega, by omega⟩ (fun _ => rfl) (fun x95 ex95 => ?_)
      show V 44 [(3, .int x95), (0, .ref r0), (1, .ref r1), (2, .ref r2)] _ _ _ _
      refine k_goto C (pc2 := 2) rfl rfl ?_
      refine k_sub S [(0, .ref r0), (1, .ref r1), (2, .ref r2), (3, .int x95)] (List.forall_mem_cons.mpr ⟨List.mem_of_getElem? (i := 1) rfl, List.forall_mem_cons.mpr ⟨List.mem_of_getElem? (i := 2) rfl, List.forall_mem_cons.mpr ⟨List.mem_of_getElem? (i := 3) rfl, List.forall_mem_cons.mpr ⟨List.mem_of_getElem? (i := 0) rfl, fun _ h => nomatch h⟩⟩⟩⟩) ?_
      exact ihJ2 _ (MN.lt hmnn3 (by omega) (by omega)) I92 L5 x95 rfl hI92 (Chg.cons S9 (Chg.mono S93 (by decide)) (by decide)) (by omega) (by omega)
  refine k_istore_n C (lw := [(3, .int x1), (0, .ref r0), (1, .ref r1), (2, .ref r2)]) rfl rfl (Nat.le_of_ble_eq_true rfl) rfl ?_
  refine k_sub S [(0, .ref r0), (1, .ref r1), (2, .ref r2), (3, .int x1)] (List.forall_mem_cons.mpr ⟨List.mem_of_getElem? (i := 1) rfl, List.forall_mem_cons.mpr ⟨List.mem_of_getElem? (i := 2) rfl, List.forall_mem_cons.mpr ⟨List.mem_of_getElem? (i := 3) rfl, List.forall_mem_cons.mpr ⟨List.mem_of_getElem? (i := 0) rfl, fun _ h => nomatch h⟩⟩⟩⟩) ?_
  exact J2 _ I L x1 rfl hI Chg.rf (by omega) (by omega)

theorem s_X6_aimAt {d : Nat} {T N : Nat → Nat} {I : IT} {L : LT} {R : RT} {A B : Nat → Prop} {r0 : Nat} {n1 : Int32} (hS : SUB B A) (hI : IX A T I) (H_r0 : (hs_Se T N R A B) r0) : Ex (d + 1) 88 [.ref r0, .int n1] (T, N, I, L, R) 0 0 (pI T N R (fun x9 I9 L9 => (I = I9 ∧ L = L9))) := by
  refine ⟨_, rfl, Nat.le_of_ble_eq_true rfl, fun V C S => ?_⟩
  show V 0 [(0, .ref r0), (1, .int n1)] [] (T, N, I, L, R) 0 0
  have gn1 := rg n1
  refine k_iload_n C rfl rfl rfl ?_
  refine b_if_lt C (t := 13) rfl rfl rfl (fun c1 => ?_) (fun c1 => ?_)
  · skip
    refine z_iconst C (z := 0) rfl rfl rfl (fun x2 ex2 => ?_)
    refine k_goto C (pc2 := 23) rfl rfl ?_
    exact k_iret C rfl (Or.inl rfl) (Nat.le_of_ble_eq_true rfl) (Nat.le_of_ble_eq_true rfl) ⟨_, _, _, rfl, rfl, rfl, rfl⟩
  refine k_iload_n C rfl rfl rfl ?_
  refine k_aload_n C rfl rfl rfl ?_
  obtain ⟨T_r0, A_r0, B_r0, ⟨r0_2, R_r0_2, H_r0_2⟩, ⟨r0_3, R_r0_3, H_r0_3⟩, ⟨r0_4, R_r0_4, H_r0_4⟩, ⟨r0_5, R_r0_5, H_r0_5⟩, ⟨r0_6, R_r0_6, H_r0_6⟩⟩ := id H_r0
  refine g_R C rfl rfl rfl T_r0 rfl R_r0_4 ?_
  obtain ⟨T_r0_4, N_r0_4, A_r0_4⟩ := id H_r0_4
  refine z_len C (n := 9) rfl rfl (by rw [T_r0_4]; exact Nat.le_of_ble_eq_true rfl) N_r0_4 (Nat.le_of_ble_eq_true rfl) (fun x3 ex3 => ?_)
  refine b_icmp_lt C (t := 17) rfl rfl rfl (fun c4 => ?_) (fun c4 => ?_)
  · skip
    refine k_aload_n C rfl rfl rfl ?_
    refine g_R C rfl rfl rfl T_r0 rfl R_r0_4 ?_
    refine k_iload_n C rfl rfl rfl ?_
    refine z_aI C rfl rfl T_r0_4 N_r0_4 (by omega) (by omega) (fun x5 ex5 => ?_)
    have gx5 := rg x5
    exact k_iret C rfl (Or.inl rfl) (Nat.le_of_ble_eq_true rfl) (Nat.le_of_ble_eq_true rfl) ⟨_, _, _, rfl, rfl, rfl, rfl⟩
  refine z_iconst C (z := 0) rfl rfl rfl (fun x6 ex6 => ?_)
  refine k_goto C (pc2 := 23) rfl rfl ?_
  exact k_iret C rfl (Or.inl rfl) (Nat.le_of_ble_eq_true rfl) (Nat.le_of_ble_eq_true rfl) ⟨_, _, _, rfl, rfl, rfl, rfl⟩

theorem s_X6_valueAt {d : Nat} {T N : Nat → Nat} {I : IT} {L : LT} {R : RT} {A B : Nat → Prop} {r0 : Nat} {n1 n2 : Int32} (hS : SUB B A) (hI : IX A T I) (H_r0 : (hs_Se T N R A B) r0) : Ex (d + 1) 89 [.ref r0, .int n1, .int n2] (T, N, I, L, R) 0 0 (pI T N R (fun x9 I9 L9 => (I = I9 ∧ L = L9))) := by
  refine ⟨_, rfl, Nat.le_of_ble_eq_true rfl, fun V C S => ?_⟩
  show V 0 [(0, .ref r0), (1, .int n1), (2, .int n2)] [] (T, N, I, L, R) 0 0
  have gn1 := rg n1
  have gn2 := rg n2
  refine k_iload_n C rfl rfl rfl ?_
  refine z_bipush C (z := 20) rfl rfl rfl (fun x1 ex1 => ?_)
  refine zt_imul C rfl rfl (fun x2 => ?_)
  have gx2 := rg x2
  refine k_iload_n C rfl rfl rfl ?_
  refine zt_iadd C rfl rfl (fun x3 => ?_)
  have gx3 := rg x3
  refine k_istore_n C (lw := [(3, .int x3), (0, .ref r0), (1, .int n1), (2, .int n2)]) rfl rfl (Nat.le_of_ble_eq_true rfl) rfl ?_
  refine k_iload_n C rfl rfl rfl ?_
  refine b_if_lt C (t := 20) rfl rfl rfl (fun c4 => ?_) (fun c4 => ?_)
  · skip
    refine z_iconst C (z := 0) rfl rfl rfl (fun x5 ex5 => ?_)
    refine k_goto C (pc2 := 30) rfl rfl ?_
    exact k_iret C rfl (Or.inl rfl) (Nat.le_of_ble_eq_true rfl) (Nat.le_of_ble_eq_true rfl) ⟨_, _, _, rfl, rfl, rfl, rfl⟩
  refine k_iload_n C rfl rfl rfl ?_
  refine k_aload_n C rfl rfl rfl ?_
  obtain ⟨T_r0, A_r0, B_r0, ⟨r0_2, R_r0_2, H_r0_2⟩, ⟨r0_3, R_r0_3, H_r0_3⟩, ⟨r0_4, R_r0_4, H_r0_4⟩, ⟨r0_5, R_r0_5, H_r0_5⟩, ⟨r0_6, R_r0_6, H_r0_6⟩⟩ := id H_r0
  refine g_R C rfl rfl rfl T_r0 rfl R_r0_3 ?_
  obtain ⟨T_r0_3, N_r0_3, A_r0_3⟩ := id H_r0_3
  refine z_len C (n := 400) rfl rfl (by rw [T_r0_3]; exact Nat.le_of_ble_eq_true rfl) N_r0_3 (Nat.le_of_ble_eq_true rfl) (fun x6 ex6 => ?_)
  refine b_icmp_lt C (t := 24) rfl rfl rfl (fun c7 => ?_) (fun c7 => ?_)
  · skip
    refine k_aload_n C rfl rfl rfl ?_
    refine g_R C rfl rfl rfl T_r0 rfl R_r0_3 ?_
    refine k_iload_n C rfl rfl rfl ?_
    refine z_aI C rfl rfl T_r0_3 N_r0_3 (by omega) (by omega) (fun x8 ex8 => ?_)
    have gx8 := rg x8
    exact k_iret C rfl (Or.inl rfl) (Nat.le_of_ble_eq_true rfl) (Nat.le_of_ble_eq_true rfl) ⟨_, _, _, rfl, rfl, rfl, rfl⟩
  refine z_iconst C (z := 0) rfl rfl rfl (fun x9 ex9 => ?_)
  refine k_goto C (pc2 := 30) rfl rfl ?_
  exact k_iret C rfl (Or.inl rfl) (Nat.le_of_ble_eq_true rfl) (Nat.le_of_ble_eq_true rfl) ⟨_, _, _, rfl, rfl, rfl, rfl⟩

theorem s_X6_meet {d : Nat} {T N : Nat → Nat} {I : IT} {L : LT} {R : RT} {A B : Nat → Prop} {r0 : Nat} {n1 n2 n3 : Int32} (hS : SUB B A) (hI : IX A T I) (H_r0 : (hs_Se T N R A B) r0) (b0_n3 : 0 ≤ n3.toInt) (b1_n3 : n3.toInt ≤ 40) : Ex (d + 3) 91 [.ref r0, .int n1, .int n2, .int n3] (T, N, I, L, R) 0 0 (pV T N R (fun I9 L9 => (IX A T I9 ∧ Chg B T [(7, 0), (7, 1)] I L I9 L9))) := by
  refine ⟨_, rfl, Nat.le_of_ble_eq_true rfl, fun V C S => ?_⟩
  show V 0 [(0, .ref r0), (1, .int n1), (2, .int n2), (3, .int n3)] [] (T, N, I, L, R) 0 0
  have gn1 := rg n1
  have gn2 := rg n2
  have gn3 := rg n3
  refine k_iload_n C rfl rfl rfl ?_
  refine z_bipush C (z := 20) rfl rfl rfl (fun x1 ex1 => ?_)
  refine zt_idiv C rfl rfl (by omega) (fun x2 => ?_)
  have gx2 := rg x2
  refine k_istore C (lw := [(4, .int x2), (0, .ref r0), (1, .int n1), (2, .int n2), (3, .int n3)]) rfl rfl (Nat.le_of_ble_eq_true rfl) rfl ?_
  refine k_iload_n C rfl rfl rfl ?_
  refine z_bipush C (z := 20) rfl rfl rfl (fun x3 ex3 => ?_)
  refine zt_irem C rfl rfl (by omega) (fun x4 => ?_)
  have gx4 := rg x4
  refine k_istore C (lw := [(5, .int x4), (4, .int x2), (0, .ref r0), (1, .int n1), (2, .int n2), (3, .int n3)]) rfl rfl (Nat.le_of_ble_eq_true rfl) rfl ?_
  refine k_iload_n C rfl rfl rfl ?_
  refine z_bipush C (z := 20) rfl rfl rfl (fun x5 ex5 => ?_)
  refine zt_idiv C rfl rfl (by omega) (fun x6 => ?_)
  have gx6 := rg x6
  refine k_istore C (lw := [(6, .int x6), (5, .int x4), (4, .int x2), (0, .ref r0), (1, .int n1), (2, .int n2), (3, .int n3)]) rfl rfl (Nat.le_of_ble_eq_true rfl) rfl ?_
  refine k_iload_n C rfl rfl rfl ?_
  refine z_bipush C (z := 20) rfl rfl rfl (fun x7 ex7 => ?_)
  refine zt_irem C rfl rfl (by omega) (fun x8 => ?_)
  have gx8 := rg x8
  refine k_istore C (lw := [(7, .int x8), (6, .int x6), (5, .int x4), (4, .int x2), (0, .ref r0), (1, .int n1), (2, .int n2), (3, .int n3)]) rfl rfl (Nat.le_of_ble_eq_true rfl) rfl ?_
  refine k_aload_n C rfl rfl rfl ?_
  obtain ⟨T_r0, A_r0, B_r0, ⟨r0_2, R_r0_2, H_r0_2⟩, ⟨r0_3, R_r0_3, H_r0_3⟩, ⟨r0_4, R_r0_4, H_r0_4⟩, ⟨r0_5, R_r0_5, H_r0_5⟩, ⟨r0_6, R_r0_6, H_r0_6⟩⟩ := id H_r0
  refine g_R C rfl rfl rfl T_r0 rfl R_r0_2 ?_
  refine k_iload C rfl rfl rfl ?_
  refine k_iload C rfl rfl rfl ?_
  refine k_iload C rfl rfl rfl ?_
  refine k_iload C rfl rfl rfl ?_
  obtain ⟨T_r0_2, A_r0_2, B_r0_2, ⟨r0_2_0, R_r0_2_0, H_r0_2_0⟩, ⟨r0_2_1, R_r0_2_1, H_r0_2_1⟩, ⟨r0_2_2, R_r0_2_2, H_r0_2_2⟩⟩ := id H_r0_2
  refine c_VI C (s_X0_detOf hS hI H_r0_2) rfl rfl rfl rfl rfl ⟨_, rfl, rfl, T_r0_2, Nat.le_of_ble_eq_true rfl⟩ rfl rfl (Nat.le_of_ble_eq_true rfl) (Nat.le_of_ble_eq_true rfl) (Nat.le_of_ble_eq_true rfl) ?_
  rintro x9 _ _ ⟨rfl, rfl⟩
  have gx9 := rg x9
  refine b_if_ne C (t := 43) rfl rfl rfl (fun c10 => ?_) (fun c10 => ?_)
  · skip
    refine z_iconst C (z := 2) rfl rfl rfl (fun x11 ex11 => ?_)
    have J12 : ∀ (nn13 : Nat) (x14 : Int32), (MN (41 - x14.toInt) nn13) → (2 ≤ x14.toInt) → (x14.toInt ≤ 41) → V 46 [(0, .ref r0), (3, .int n3), (4, .int x2), (5, .int x4), (6, .int x6), (7, .int x8), (8, .int x14)] [] (T, N, I, L, R) 0 0 := by
      intro nn13
      induction nn13 using Nat.strongRecOn with
      | _ nn13 ihJ12 =>
        intro x14 hmnn13 b15 b16
        have gx14 := rg x14
        refine k_iload C rfl rfl rfl ?_
        refine k_iload_n C rfl rfl rfl ?_
        refine b_icmp_gt C (t := 111) rfl rfl rfl (fun c17 => ?_) (fun c17 => ?_)
        · skip
          refine k_iload C rfl rfl rfl ?_
          refine z_bipush C (z := 20) rfl rfl rfl (fun x18 ex18 => ?_)
          refine zt_imul C rfl rfl (fun x19 => ?_)
          have gx19 := rg x19
          refine k_iload C rfl rfl rfl ?_
          refine zt_iadd C rfl rfl (fun x20 => ?_)
          have gx20 := rg x20
          refine z_bipush C (z := 20) rfl rfl rfl (fun x21 ex21 => ?_)
          refine zt_imul C rfl rfl (fun x22 => ?_)
          have gx22 := rg x22
          refine k_iload C rfl rfl rfl ?_
          refine zt_iadd C rfl rfl (fun x23 => ?_)
          have gx23 := rg x23
          refine z_bipush C (z := 20) rfl rfl rfl (fun x24 ex24 => ?_)
          refine zt_imul C rfl rfl (fun x25 => ?_)
          have gx25 := rg x25
          refine k_iload C rfl rfl rfl ?_
          refine zt_iadd C rfl rfl (fun x26 => ?_)
          have gx26 := rg x26
          refine k_istore C (lw := [(8, .int x26), (0, .ref r0), (3, .int n3), (4, .int x2), (5, .int x4), (6, .int x6), (7, .int x8)]) rfl rfl (Nat.le_of_ble_eq_true rfl) rfl ?_
          refine k_aload_n C rfl rfl rfl ?_
          refine k_aload_n C rfl rfl rfl ?_
          refine z_gI C rfl rfl rfl T_r0 rfl (fun x27 ex27 => ?_)
          have gx27 := rg x27
          refine b_if_ne C (t := 146) rfl rfl rfl (fun c28 => ?_) (fun c28 => ?_)
          · skip
            refine k_aload_n C rfl rfl rfl ?_
            refine z_gI C rfl rfl rfl T_r0 rfl (fun x29 ex29 => ?_)
            have gx29 := rg x29
            refine k_iload C rfl rfl rfl ?_
            refine c_SI C (s_J9_min_7cf53 hS hI ) rfl rfl rfl rfl rfl rfl rfl (Nat.le_of_ble_eq_true rfl) (Nat.le_of_ble_eq_true rfl) (Nat.le_of_ble_eq_true rfl) ?_
            rintro x30 _ _ ⟨p0x30, p1x30, p2x30, rfl, rfl⟩
            have gx30 := rg x30
            try simp only [ex27, ex29] at p0x30
            try have q0x30 := congrArg Int32.toInt p0x30
            try simp only [ex27, ex29] at p1x30
            try have q1x30 := congrArg Int32.toInt p1x30
            try simp only [ex27, ex29] at p2x30
            try have q2x30 := congrArg Int32.toInt p2x30
            refine z_pI C rfl rfl rfl T_r0 (Or.inr rfl) rfl (fun I31 uI31 => ?_)
            have hI31 : IX A T I31 := IX.f hI T_r0 (boX.tr (by decide) (by decide)) uI31
            have S32 : Chg B T [(7, 0)] I L I31 L := Chg.f B_r0 T_r0 uI31
            have e33 := u2_j uI31 (by decide) ex27
            have e34 := u2_e uI31
            refine k_aload_n C rfl rfl rfl ?_
            refine k_dup C rfl rfl rfl ?_
            refine g_I C rfl rfl rfl T_r0 rfl e33 ?_
            refine z_iconst C (z := 1) rfl rfl rfl (fun x35 ex35 => ?_)
            refine zt_iadd C rfl rfl (fun x36 => ?_)
            have gx36 := rg x36
            refine z_pI C rfl rfl rfl T_r0 (Or.inr rfl) rfl (fun I37 uI37 => ?_)
            have hI37 : IX A T I37 := IX.f hI31 T_r0 (boX.tr (by decide) (by decide)) uI37
            have S38 : Chg B T [(7, 1)] I31 L I37 L := Chg.f B_r0 T_r0 uI37
            have e39 := u2_j uI37 (by decide) e34
            have e40 := u2_e uI37
            exact k_vret C rfl rfl (Nat.le_of_ble_eq_true rfl) (Nat.le_of_ble_eq_true rfl) ⟨_, _, rfl, rfl, hI37, (Chg.cons S32 (Chg.mono S38 (by decide)) (by decide))⟩
          refine k_iload C rfl rfl rfl ?_
          refine k_goto C (pc2 := 155) rfl rfl ?_
          refine z_pI C rfl rfl rfl T_r0 (Or.inr rfl) rfl (fun I41 uI41 => ?_)
          have hI41 : IX A T I41 := IX.f hI T_r0 (boX.tr (by decide) (by decide)) uI41
          have S42 : Chg B T [(7, 0)] I L I41 L := Chg.f B_r0 T_r0 uI41
          have e43 := u2_j uI41 (by decide) ex27
          have e44 := u2_e uI41
          refine k_aload_n C rfl rfl rfl ?_
          refine k_dup C rfl rfl rfl ?_
          refine g_I C rfl rfl rfl T_r0 rfl e43 ?_
          refine z_iconst C (z := 1) rfl rfl rfl (fun x45 ex45 => ?_)
          refine z_iadd C rfl rfl ⟨by omega, by omega⟩ (fun x46 ex46 => ?_)
          refine z_pI C rfl rfl rfl T_r0 (Or.inr rfl) rfl (fun I47 uI47 => ?_)
          have hI47 : IX A T I47 := IX.f hI41 T_r0 (boX.tr (by decide) (by decide)) uI47
          have S48 : Chg B T [(7, 1)] I41 L I47 L := Chg.f B_r0 T_r0 uI47
          have e49 := u2_j uI47 (by decide) e44
          have e50 := u2_e uI47
          exact k_vret C rfl rfl (Nat.le_of_ble_eq_true rfl) (Nat.le_of_ble_eq_true rfl) ⟨_, _, rfl, rfl, hI47, (Chg.cons S42 (Chg.mono S48 (by decide)) (by decide))⟩
        refine k_iload C rfl rfl rfl ?_
        refine c_SI C (s_X6_pointX hS hI ) rfl rfl rfl rfl rfl rfl rfl (Nat.le_of_ble_eq_true rfl) (Nat.le_of_ble_eq_true rfl) (Nat.le_of_ble_eq_true rfl) ?_
        rintro x51 _ _ ⟨rfl, rfl⟩
        have gx51 := rg x51
        refine k_istore C (lw := [(9, .int x51), (0, .ref r0), (3, .int n3), (4, .int x2), (5, .int x4), (6, .int x6), (7, .int x8), (8, .int x14)]) rfl rfl (Nat.le_of_ble_eq_true rfl) rfl ?_
        refine k_aload_n C rfl rfl rfl ?_
        refine k_aload_n C rfl rfl rfl ?_
        refine g_R C rfl rfl rfl T_r0 rfl R_r0_2 ?_
        refine k_iload C rfl rfl rfl ?_
        refine k_iload C rfl rfl rfl ?_
        refine zt_imul C rfl rfl (fun x52 => ?_)
        have gx52 := rg x52
        refine k_iload C rfl rfl rfl ?_
        refine zt_iadd C rfl rfl (fun x53 => ?_)
        have gx53 := rg x53
        refine z_i2l C rfl rfl (fun lg54 elg54 => ?_)
        refine c_VI C (s_X0_of hS hI H_r0_2) rfl rfl rfl rfl rfl ⟨_, rfl, rfl, T_r0_2, Nat.le_of_ble_eq_true rfl⟩ rfl rfl (Nat.le_of_ble_eq_true rfl) (Nat.le_of_ble_eq_true rfl) (Nat.le_of_ble_eq_true rfl) ?_
        rintro x55 _ _ ⟨rfl, rfl⟩
        have gx55 := rg x55
        refine k_aload_n C rfl rfl rfl ?_
        refine g_R C rfl rfl rfl T_r0 rfl R_r0_2 ?_
        refine k_iload C rfl rfl rfl ?_
        refine k_iload C rfl rfl rfl ?_
        refine zt_imul C rfl rfl (fun x56 => ?_)
        have gx56 := rg x56
        refine k_iload C rfl rfl rfl ?_
        refine zt_iadd C rfl rfl (fun x57 => ?_)
        have gx57 := rg x57
        refine z_i2l C rfl rfl (fun lg58 elg58 => ?_)
        refine c_VI C (s_X0_of hS hI H_r0_2) rfl rfl rfl rfl rfl ⟨_, rfl, rfl, T_r0_2, Nat.le_of_ble_eq_true rfl⟩ rfl rfl (Nat.le_of_ble_eq_true rfl) (Nat.le_of_ble_eq_true rfl) (Nat.le_of_ble_eq_true rfl) ?_
        rintro x59 _ _ ⟨rfl, rfl⟩
        have gx59 := rg x59
        refine c_VI C (s_X6_valueAt hS hI H_r0) rfl rfl rfl rfl rfl ⟨_, rfl, rfl, T_r0, Nat.le_of_ble_eq_true rfl⟩ rfl rfl (Nat.le_of_ble_eq_true rfl) (Nat.le_of_ble_eq_true rfl) (Nat.le_of_ble_eq_true rfl) ?_
        rintro x60 _ _ ⟨rfl, rfl⟩
        have gx60 := rg x60
        refine k_aload_n C rfl rfl rfl ?_
        refine k_iload C rfl rfl rfl ?_
        refine c_VI C (s_X6_aimAt hS hI H_r0) rfl rfl rfl rfl rfl ⟨_, rfl, rfl, T_r0, Nat.le_of_ble_eq_true rfl⟩ rfl rfl (Nat.le_of_ble_eq_true rfl) (Nat.le_of_ble_eq_true rfl) (Nat.le_of_ble_eq_true rfl) ?_
        rintro x61 _ _ ⟨rfl, rfl⟩
        have gx61 := rg x61
        refine b_icmp_eq C (t := 105) rfl rfl rfl (fun c62 => ?_) (fun c62 => ?_)
        · skip
          refine z_iinc C (z := 1) (lw := fun x63 => [(8, .int x63), (9, .int x51), (0, .ref r0), (3, .int n3), (4, .int x2), (5, .int x4), (6, .int x6), (7, .int x8)]) rfl rfl rfl (Nat.le_of_ble_eq_true rfl) rfl ⟨by omega, by omega⟩ (fun _ => rfl) (fun x63 ex63 => ?_)
          show V 108 [(8, .int x63), (9, .int x51), (0, .ref r0), (3, .int n3), (4, .int x2), (5, .int x4), (6, .int x6), (7, .int x8)] _ _ _ _
          refine k_goto C (pc2 := 46) rfl rfl ?_
          refine k_sub S [(0, .ref r0), (3, .int n3), (4, .int x2), (5, .int x4), (6, .int x6), (7, .int x8), (8, .int x63)] (List.forall_mem_cons.mpr ⟨List.mem_of_getElem? (i := 2) rfl, List.forall_mem_cons.mpr ⟨List.mem_of_getElem? (i := 3) rfl, List.forall_mem_cons.mpr ⟨List.mem_of_getElem? (i := 4) rfl, List.forall_mem_cons.mpr ⟨List.mem_of_getElem? (i := 5) rfl, List.forall_mem_cons.mpr ⟨List.mem_of_getElem? (i := 6) rfl, List.forall_mem_cons.mpr ⟨List.mem_of_getElem? (i := 7) rfl, List.forall_mem_cons.mpr ⟨List.mem_of_getElem? (i := 0) rfl, fun _ h => nomatch h⟩⟩⟩⟩⟩⟩⟩) ?_
          exact ihJ12 _ (MN.lt hmnn13 (by omega) (by omega)) x63 rfl (by omega) (by omega)
        exact k_vret C rfl rfl (Nat.le_of_ble_eq_true rfl) (Nat.le_of_ble_eq_true rfl) ⟨_, _, rfl, rfl, hI, Chg.rf⟩
    refine k_istore C (lw := [(8, .int x11), (7, .int x8), (6, .int x6), (5, .int x4), (4, .int x2), (0, .ref r0), (1, .int n1), (2, .int n2), (3, .int n3)]) rfl rfl (Nat.le_of_ble_eq_true rfl) rfl ?_
    refine k_sub S [(0, .ref r0), (3, .int n3), (4, .int x2), (5, .int x4), (6, .int x6), (7, .int x8), (8, .int x11)] (List.forall_mem_cons.mpr ⟨List.mem_of_getElem? (i := 5) rfl, List.forall_mem_cons.mpr ⟨List.mem_of_getElem? (i := 8) rfl, List.forall_mem_cons.mpr ⟨List.mem_of_getElem? (i := 4) rfl, List.forall_mem_cons.mpr ⟨List.mem_of_getElem? (i := 3) rfl, List.forall_mem_cons.mpr ⟨List.mem_of_getElem? (i := 2) rfl, List.forall_mem_cons.mpr ⟨List.mem_of_getElem? (i := 1) rfl, List.forall_mem_cons.mpr ⟨List.mem_of_getElem? (i := 0) rfl, fun _ h => nomatch h⟩⟩⟩⟩⟩⟩⟩) ?_
    exact J12 _ x11 rfl (by omega) (by omega)
  exact k_vret C rfl rfl (Nat.le_of_ble_eq_true rfl) (Nat.le_of_ble_eq_true rfl) ⟨_, _, rfl, rfl, hI, Chg.rf⟩

theorem s_X6_choose_w400 {d : Nat} {T N : Nat → Nat} {I : IT} {L : LT} {R : RT} {A B : Nat → Prop} {r0 r1 : Nat} {n2 : Int32} (hS : SUB B A) (hI : IX A T I) (H_r0 : (hs_Se T N R A B) r0) (H_r1 : (h_A T N B 20 400) r1) : Ex (d + 2) 90 [.ref r0, .ref r1, .int n2] (T, N, I, L, R) 0 0 (pI T N R (fun x9 I9 L9 => (0 ≤ x9.toInt) ∧ (x9.toInt ≤ 400) ∧ (IX A T I9 ∧ Chg B T [] I L I9 L9))) := by
  refine ⟨_, rfl, Nat.le_of_ble_eq_true rfl, fun V C S => ?_⟩
  show V 0 [(0, .ref r0), (1, .ref r1), (2, .int n2)] [] (T, N, I, L, R) 0 0
  have gn2 := rg n2
  refine z_iconst C (z := 0) rfl rfl rfl (fun x1 ex1 => ?_)
  refine k_istore_n C (lw := [(3, .int x1), (0, .ref r0), (1, .ref r1), (2, .int n2)]) rfl rfl (Nat.le_of_ble_eq_true rfl) rfl ?_
  refine z_iconst C (z := 0) rfl rfl rfl (fun x2 ex2 => ?_)
  have J3 : ∀ (nn4 : Nat) (I5 : IT) (L6 : LT) (x7 : Int32) (x10 : Int32), (MN (19 - x10.toInt) nn4) → (IX A T I5) → (Chg B T [] I L I5 L6) → (0 ≤ x7.toInt) → (x7.toInt ≤ 400) → (0 ≤ x10.toInt) → (x10.toInt ≤ 19) → V 5 [(0, .ref r0), (1, .ref r1), (2, .int n2), (3, .int x7), (4, .int x10)] [] (T, N, I5, L6, R) 0 0 := by
    intro nn4
    induction nn4 using Nat.strongRecOn with
    | _ nn4 ihJ3 =>
      intro I5 L6 x7 x10 hmnn4 hI14 S13 b8 b9 b11 b12
      have gx7 := rg x7
      have gx10 := rg x10
      refine k_iload C rfl rfl rfl ?_
      refine k_aload_n C rfl rfl rfl ?_
      obtain ⟨T_r0, A_r0, B_r0, ⟨r0_2, R_r0_2, H_r0_2⟩, ⟨r0_3, R_r0_3, H_r0_3⟩, ⟨r0_4, R_r0_4, H_r0_4⟩, ⟨r0_5, R_r0_5, H_r0_5⟩, ⟨r0_6, R_r0_6, H_r0_6⟩⟩ := id H_r0
      refine g_R C rfl rfl rfl T_r0 rfl R_r0_2 ?_
      obtain ⟨T_r0_2, A_r0_2, B_r0_2, ⟨r0_2_0, R_r0_2_0, H_r0_2_0⟩, ⟨r0_2_1, R_r0_2_1, H_r0_2_1⟩, ⟨r0_2_2, R_r0_2_2, H_r0_2_2⟩⟩ := id H_r0_2
      refine c_VI C (s_X0_p hS hI14 H_r0_2) rfl rfl rfl rfl rfl ⟨_, rfl, rfl, T_r0_2, Nat.le_of_ble_eq_true rfl⟩ rfl rfl (Nat.le_of_ble_eq_true rfl) (Nat.le_of_ble_eq_true rfl) (Nat.le_of_ble_eq_true rfl) ?_
      rintro x15 _ _ ⟨o0x15, o1x15, rfl, rfl⟩
      have gx15 := rg x15
      refine b_icmp_ge C (t := 76) rfl rfl rfl (fun c16 => ?_) (fun c16 => ?_)
      · skip
        refine k_iload_n C rfl rfl rfl ?_
        exact k_iret C rfl (Or.inl rfl) (Nat.le_of_ble_eq_true rfl) (Nat.le_of_ble_eq_true rfl) ⟨_, _, _, rfl, rfl, by omega, by omega, hI14, (Chg.mono S13 (by decide))⟩
      refine z_iconst C (z := 0) rfl rfl rfl (fun x17 ex17 => ?_)
      have J18 : ∀ (nn19 : Nat) (I20 : IT) (L21 : LT) (x22 : Int32) (x25 : Int32), (MN (19 - x25.toInt) nn19) → (IX A T I20) → (Chg B T [] I5 L6 I20 L21) → (0 ≤ x22.toInt) → (x22.toInt ≤ 400) → (0 ≤ x25.toInt) → (x25.toInt ≤ 19) → V 20 [(0, .ref r0), (1, .ref r1), (2, .int n2), (3, .int x22), (4, .int x10), (5, .int x25)] [] (T, N, I20, L21, R) 0 0 := by
        intro nn19
        induction nn19 using Nat.strongRecOn with
        | _ nn19 ihJ18 =>
          intro I20 L21 x22 x25 hmnn19 hI29 S28 b23 b24 b26 b27
          have gx22 := rg x22
          have gx25 := rg x25
          refine k_iload C rfl rfl rfl ?_
          refine k_aload_n C rfl rfl rfl ?_
          refine g_R C rfl rfl rfl T_r0 rfl R_r0_2 ?_
          refine c_VI C (s_X0_p hS hI29 H_r0_2) rfl rfl rfl rfl rfl ⟨_, rfl, rfl, T_r0_2, Nat.le_of_ble_eq_true rfl⟩ rfl rfl (Nat.le_of_ble_eq_true rfl) (Nat.le_of_ble_eq_true rfl) (Nat.le_of_ble_eq_true rfl) ?_
          rintro x30 _ _ ⟨o0x30, o1x30, rfl, rfl⟩
          have gx30 := rg x30
          refine b_icmp_ge C (t := 70) rfl rfl rfl (fun c31 => ?_) (fun c31 => ?_)
          · skip
            refine z_iinc C (z := 1) (lw := fun x32 => [(4, .int x32), (0, .ref r0), (1, .ref r1), (2, .int n2), (3, .int x22), (5, .int x25)]) rfl rfl rfl (Nat.le_of_ble_eq_true rfl) rfl ⟨by omega, by omega⟩ (fun _ => rfl) (fun x32 ex32 => ?_)
            show V 73 [(4, .int x32), (0, .ref r0), (1, .ref r1), (2, .int n2), (3, .int x22), (5, .int x25)] _ _ _ _
            refine k_goto C (pc2 := 5) rfl rfl ?_
            refine k_sub S [(0, .ref r0), (1, .ref r1), (2, .int n2), (3, .int x22), (4, .int x32)] (List.forall_mem_cons.mpr ⟨List.mem_of_getElem? (i := 1) rfl, List.forall_mem_cons.mpr ⟨List.mem_of_getElem? (i := 2) rfl, List.forall_mem_cons.mpr ⟨List.mem_of_getElem? (i := 3) rfl, List.forall_mem_cons.mpr ⟨List.mem_of_getElem? (i := 4) rfl, List.forall_mem_cons.mpr ⟨List.mem_of_getElem? (i := 0) rfl, fun _ h => nomatch h⟩⟩⟩⟩⟩) ?_
            exact ihJ3 _ (MN.lt hmnn4 (by omega) (by omega)) I20 L21 x22 x32 rfl hI29 (Chg.cons S13 (Chg.mono S28 (by decide)) (by decide)) (by omega) (by omega) (by omega) (by omega)
          refine k_aload_n C rfl rfl rfl ?_
          refine k_iload C rfl rfl rfl ?_
          refine k_iload C rfl rfl rfl ?_
          refine c_VI C (s_X6_valueAt hS hI29 H_r0) rfl rfl rfl rfl rfl ⟨_, rfl, rfl, T_r0, Nat.le_of_ble_eq_true rfl⟩ rfl rfl (Nat.le_of_ble_eq_true rfl) (Nat.le_of_ble_eq_true rfl) (Nat.le_of_ble_eq_true rfl) ?_
          rintro x33 _ _ ⟨rfl, rfl⟩
          have gx33 := rg x33
          refine k_iload_n C rfl rfl rfl ?_
          refine b_icmp_ne C (t := 64) rfl rfl rfl (fun c34 => ?_) (fun c34 => ?_)
          · skip
            refine z_iinc C (z := 1) (lw := fun x35 => [(5, .int x35), (0, .ref r0), (1, .ref r1), (2, .int n2), (3, .int x22), (4, .int x10)]) rfl rfl rfl (Nat.le_of_ble_eq_true rfl) rfl ⟨by omega, by omega⟩ (fun _ => rfl) (fun x35 ex35 => ?_)
            show V 67 [(5, .int x35), (0, .ref r0), (1, .ref r1), (2, .int n2), (3, .int x22), (4, .int x10)] _ _ _ _
            refine k_goto C (pc2 := 20) rfl rfl ?_
            refine k_sub S [(0, .ref r0), (1, .ref r1), (2, .int n2), (3, .int x22), (4, .int x10), (5, .int x35)] (List.forall_mem_cons.mpr ⟨List.mem_of_getElem? (i := 1) rfl, List.forall_mem_cons.mpr ⟨List.mem_of_getElem? (i := 2) rfl, List.forall_mem_cons.mpr ⟨List.mem_of_getElem? (i := 3) rfl, List.forall_mem_cons.mpr ⟨List.mem_of_getElem? (i := 4) rfl, List.forall_mem_cons.mpr ⟨List.mem_of_getElem? (i := 5) rfl, List.forall_mem_cons.mpr ⟨List.mem_of_getElem? (i := 0) rfl, fun _ h => nomatch h⟩⟩⟩⟩⟩⟩) ?_
            exact ihJ18 _ (MN.lt hmnn19 (by omega) (by omega)) I20 L21 x22 x35 rfl hI29 (Chg.mono S28 (by decide)) (by omega) (by omega) (by omega) (by omega)
          refine k_iload_n C rfl rfl rfl ?_
          refine k_aload_n C rfl rfl rfl ?_
          obtain ⟨T_r1, N_r1, A_r1⟩ := id H_r1
          refine z_len C (n := 400) rfl rfl (by rw [T_r1]; exact Nat.le_of_ble_eq_true rfl) N_r1 (Nat.le_of_ble_eq_true rfl) (fun x36 ex36 => ?_)
          refine b_icmp_ge C (t := 64) rfl rfl rfl (fun c37 => ?_) (fun c37 => ?_)
          · skip
            refine z_iinc C (z := 1) (lw := fun x38 => [(5, .int x38), (0, .ref r0), (1, .ref r1), (2, .int n2), (3, .int x22), (4, .int x10)]) rfl rfl rfl (Nat.le_of_ble_eq_true rfl) rfl ⟨by omega, by omega⟩ (fun _ => rfl) (fun x38 ex38 => ?_)
            show V 67 [(5, .int x38), (0, .ref r0), (1, .ref r1), (2, .int n2), (3, .int x22), (4, .int x10)] _ _ _ _
            refine k_goto C (pc2 := 20) rfl rfl ?_
            refine k_sub S [(0, .ref r0), (1, .ref r1), (2, .int n2), (3, .int x22), (4, .int x10), (5, .int x38)] (List.forall_mem_cons.mpr ⟨List.mem_of_getElem? (i := 1) rfl, List.forall_mem_cons.mpr ⟨List.mem_of_getElem? (i := 2) rfl, List.forall_mem_cons.mpr ⟨List.mem_of_getElem? (i := 3) rfl, List.forall_mem_cons.mpr ⟨List.mem_of_getElem? (i := 4) rfl, List.forall_mem_cons.mpr ⟨List.mem_of_getElem? (i := 5) rfl, List.forall_mem_cons.mpr ⟨List.mem_of_getElem? (i := 0) rfl, fun _ h => nomatch h⟩⟩⟩⟩⟩⟩) ?_
            exact ihJ18 _ (MN.lt hmnn19 (by omega) (by omega)) I20 L21 x22 x38 rfl hI29 (Chg.mono S28 (by decide)) (by omega) (by omega) (by omega) (by omega)
          refine k_aload_n C rfl rfl rfl ?_
          refine k_iload_n C rfl rfl rfl ?_
          refine k_iload C rfl rfl rfl ?_
          refine z_bipush C (z := 20) rfl rfl rfl (fun x39 ex39 => ?_)
          refine z_imulR C (c := 20) rfl rfl (by omega) ⟨by omega, by omega⟩ (fun x40 ex40 => ?_)
          refine k_iload C rfl rfl rfl ?_
          refine z_iadd C rfl rfl ⟨by omega, by omega⟩ (fun x41 ex41 => ?_)
          refine z_sI C rfl rfl T_r1 N_r1 (by omega) (by omega) (fun I42 uI42 => ?_)
          have hI42 : IX A T I42 := IX.a hI29 T_r1 (Nat.le_of_ble_eq_true rfl) uI42
          have S43 : Chg B T [] I20 L21 I42 L21 := Chg.a A_r1 T_r1 (Nat.le_of_ble_eq_true rfl) uI42
          refine z_iinc C (z := 1) (lw := fun x44 => [(3, .int x44), (0, .ref r0), (1, .ref r1), (2, .int n2), (4, .int x10), (5, .int x25)]) rfl rfl rfl (Nat.le_of_ble_eq_true rfl) rfl ⟨by omega, by omega⟩ (fun _ => rfl) (fun x44 ex44 => ?_)
          show V 64 [(3, .int x44), (0, .ref r0), (1, .ref r1), (2, .int n2), (4, .int x10), (5, .int x25)] _ _ _ _
          refine z_iinc C (z := 1) (lw := fun x45 => [(5, .int x45), (3, .int x44), (0, .ref r0), (1, .ref r1), (2, .int n2), (4, .int x10)]) rfl rfl rfl (Nat.le_of_ble_eq_true rfl) rfl ⟨by omega, by omega⟩ (fun _ => rfl) (fun x45 ex45 => ?_)
          show V 67 [(5, .int x45), (3, .int x44), (0, .ref r0), (1, .ref r1), (2, .int n2), (4, .int x10)] _ _ _ _
          refine k_goto C (pc2 := 20) rfl rfl ?_
          refine k_sub S [(0, .ref r0), (1, .ref r1), (2, .int n2), (3, .int x44), (4, .int x10), (5, .int x45)] (List.forall_mem_cons.mpr ⟨List.mem_of_getElem? (i := 2) rfl, List.forall_mem_cons.mpr ⟨List.mem_of_getElem? (i := 3) rfl, List.forall_mem_cons.mpr ⟨List.mem_of_getElem? (i := 4) rfl, List.forall_mem_cons.mpr ⟨List.mem_of_getElem? (i := 1) rfl, List.forall_mem_cons.mpr ⟨List.mem_of_getElem? (i := 5) rfl, List.forall_mem_cons.mpr ⟨List.mem_of_getElem? (i := 0) rfl, fun _ h => nomatch h⟩⟩⟩⟩⟩⟩) ?_
          exact ihJ18 _ (MN.lt hmnn19 (by omega) (by omega)) I42 L21 x44 x45 rfl hI42 (Chg.cons S28 (Chg.mono S43 (by decide)) (by decide)) (by omega) (by omega) (by omega) (by omega)
      refine k_istore C (lw := [(5, .int x17), (0, .ref r0), (1, .ref r1), (2, .int n2), (3, .int x7), (4, .int x10)]) rfl rfl (Nat.le_of_ble_eq_true rfl) rfl ?_
      refine k_sub S [(0, .ref r0), (1, .ref r1), (2, .int n2), (3, .int x7), (4, .int x10), (5, .int x17)] (List.forall_mem_cons.mpr ⟨List.mem_of_getElem? (i := 1) rfl, List.forall_mem_cons.mpr ⟨List.mem_of_getElem? (i := 2) rfl, List.forall_mem_cons.mpr ⟨List.mem_of_getElem? (i := 3) rfl, List.forall_mem_cons.mpr ⟨List.mem_of_getElem? (i := 4) rfl, List.forall_mem_cons.mpr ⟨List.mem_of_getElem? (i := 5) rfl, List.forall_mem_cons.mpr ⟨List.mem_of_getElem? (i := 0) rfl, fun _ h => nomatch h⟩⟩⟩⟩⟩⟩) ?_
      exact J18 _ I5 L6 x7 x17 rfl hI14 Chg.rf (by omega) (by omega) (by omega) (by omega)
  refine k_istore C (lw := [(4, .int x2), (3, .int x1), (0, .ref r0), (1, .ref r1), (2, .int n2)]) rfl rfl (Nat.le_of_ble_eq_true rfl) rfl ?_
  refine k_sub S [(0, .ref r0), (1, .ref r1), (2, .int n2), (3, .int x1), (4, .int x2)] (List.forall_mem_cons.mpr ⟨List.mem_of_getElem? (i := 2) rfl, List.forall_mem_cons.mpr ⟨List.mem_of_getElem? (i := 3) rfl, List.forall_mem_cons.mpr ⟨List.mem_of_getElem? (i := 4) rfl, List.forall_mem_cons.mpr ⟨List.mem_of_getElem? (i := 1) rfl, List.forall_mem_cons.mpr ⟨List.mem_of_getElem? (i := 0) rfl, fun _ h => nomatch h⟩⟩⟩⟩⟩) ?_
  exact J3 _ I L x1 x2 rfl hI Chg.rf (by omega) (by omega) (by omega) (by omega)

theorem s_X6_run {d : Nat} {T N : Nat → Nat} {I : IT} {L : LT} {R : RT} {A B : Nat → Prop} {r0 r1 r2 : Nat} (hS : SUB B A) (hI : IX A T I) (H_r0 : (hs_Se T N R A B) r0) (H_r1 : (hs_F T N R A B) r1) (H_r2 : (hs_F T N R A B) r2) : Ex (d + 4) 92 [.ref r0, .ref r1, .ref r2] (T, N, I, L, R) 0 0 (pV T N R (fun I9 L9 => (IX A T I9 ∧ Chg B T [(7, 0), (7, 1)] I L I9 L9))) := by
  refine ⟨_, rfl, Nat.le_of_ble_eq_true rfl, fun V C S => ?_⟩
  show V 0 [(0, .ref r0), (1, .ref r1), (2, .ref r2)] [] (T, N, I, L, R) 0 0
  refine k_aload_n C rfl rfl rfl ?_
  refine z_iconst C (z := -1) rfl rfl rfl (fun x1 ex1 => ?_)
  obtain ⟨T_r0, A_r0, B_r0, ⟨r0_2, R_r0_2, H_r0_2⟩, ⟨r0_3, R_r0_3, H_r0_3⟩, ⟨r0_4, R_r0_4, H_r0_4⟩, ⟨r0_5, R_r0_5, H_r0_5⟩, ⟨r0_6, R_r0_6, H_r0_6⟩⟩ := id H_r0
  refine z_pI C rfl rfl rfl T_r0 (Or.inr rfl) rfl (fun I2 uI2 => ?_)
  have hI2 : IX A T I2 := IX.f hI T_r0 (boX.tr (by decide) (by decide)) uI2
  have S3 : Chg B T [(7, 0)] I L I2 L := Chg.f B_r0 T_r0 uI2
  have e4 := u2_e uI2
  refine k_aload_n C rfl rfl rfl ?_
  refine z_iconst C (z := 0) rfl rfl rfl (fun x5 ex5 => ?_)
  refine z_pI C rfl rfl rfl T_r0 (Or.inr rfl) rfl (fun I6 uI6 => ?_)
  have hI6 : IX A T I6 := IX.f hI2 T_r0 (boX.tr (by decide) (by decide)) uI6
  have S7 : Chg B T [(7, 1)] I2 L I6 L := Chg.f B_r0 T_r0 uI6
  have e8 := u2_j uI6 (by decide) e4
  have e9 := u2_e uI6
  refine k_aload_n C rfl rfl rfl ?_
  obtain ⟨T_r1, A_r1, ⟨r1_1, R_r1_1, H_r1_1⟩⟩ := id H_r1
  refine z_gI C rfl rfl rfl T_r1 rfl (fun x10 ex10 => ?_)
  have gx10 := rg x10
  have ox10 := IX.deg hI6 A_r1 T_r1 ex10
  refine k_aload_n C rfl rfl rfl ?_
  obtain ⟨T_r2, A_r2, ⟨r2_1, R_r2_1, H_r2_1⟩⟩ := id H_r2
  refine z_gI C rfl rfl rfl T_r2 rfl (fun x11 ex11 => ?_)
  have gx11 := rg x11
  have ox11 := IX.deg hI6 A_r2 T_r2 ex11
  refine b_icmp_eq C (t := 22) rfl rfl rfl (fun c12 => ?_) (fun c12 => ?_)
  · skip
    refine k_aload_n C rfl rfl rfl ?_
    refine g_I C rfl rfl rfl T_r1 rfl ex10 ?_
    refine b_if_eq C (t := 36) rfl rfl rfl (fun c13 => ?_) (fun c13 => ?_)
    · skip
      refine k_aload_n C rfl rfl rfl ?_
      refine k_aload_n C rfl rfl rfl ?_
      refine c_VI C (s_X2_matches hS hI6 H_r1 H_r2) rfl rfl rfl rfl rfl ⟨_, rfl, rfl, T_r1, Nat.le_of_ble_eq_true rfl⟩ rfl rfl (Nat.le_of_ble_eq_true rfl) (Nat.le_of_ble_eq_true rfl) (Nat.le_of_ble_eq_true rfl) ?_
      rintro x14 _ _ ⟨o0x14, o1x14, rfl, rfl⟩
      have gx14 := rg x14
      refine b_if_eq C (t := 62) rfl rfl rfl (fun c15 => ?_) (fun c15 => ?_)
      · skip
        exact k_vret C rfl rfl (Nat.le_of_ble_eq_true rfl) (Nat.le_of_ble_eq_true rfl) ⟨_, _, rfl, rfl, hI6, (Chg.cons S3 (Chg.mono S7 (by decide)) (by decide))⟩
      refine k_aload_n C rfl rfl rfl ?_
      refine z_sipush C (z := 420) rfl rfl rfl (fun x16 ex16 => ?_)
      refine z_pI C rfl rfl rfl T_r0 (Or.inr rfl) rfl (fun I17 uI17 => ?_)
      have hI17 : IX A T I17 := IX.f hI6 T_r0 (boX.tr (by decide) (by decide)) uI17
      have S18 : Chg B T [(7, 0)] I6 L I17 L := Chg.f B_r0 T_r0 uI17
      have e19 := u2_j uI17 (by decide) e9
      have e20 := u2_n uI17 (t_nq T_r1 T_r0 (by decide)) ex10
      have e21 := u2_n uI17 (t_nq T_r2 T_r0 (by decide)) ex11
      have e22 := u2_e uI17
      refine k_aload_n C rfl rfl rfl ?_
      refine k_aload_n C rfl rfl rfl ?_
      refine g_R C rfl rfl rfl T_r0 rfl R_r0_2 ?_
      obtain ⟨T_r0_2, A_r0_2, B_r0_2, ⟨r0_2_0, R_r0_2_0, H_r0_2_0⟩, ⟨r0_2_1, R_r0_2_1, H_r0_2_1⟩, ⟨r0_2_2, R_r0_2_2, H_r0_2_2⟩⟩ := id H_r0_2
      refine c_VI C (s_X0_tables hS hI17 H_r0_2) rfl rfl rfl rfl rfl ⟨_, rfl, rfl, T_r0_2, Nat.le_of_ble_eq_true rfl⟩ rfl rfl (Nat.le_of_ble_eq_true rfl) (Nat.le_of_ble_eq_true rfl) (Nat.le_of_ble_eq_true rfl) ?_
      rintro x23 _ _ ⟨rfl, rfl⟩
      have gx23 := rg x23
      refine z_pI C rfl rfl rfl T_r0 (Or.inr rfl) rfl (fun I24 uI24 => ?_)
      have hI24 : IX A T I24 := IX.f hI17 T_r0 (boX.tr (by decide) (by decide)) uI24
      have S25 : Chg B T [(7, 1)] I17 L I24 L := Chg.f B_r0 T_r0 uI24
      have e26 := u2_j uI24 (by decide) e20
      have e27 := u2_j uI24 (by decide) e21
      have e28 := u2_j uI24 (by decide) e22
      have e29 := u2_e uI24
      exact k_vret C rfl rfl (Nat.le_of_ble_eq_true rfl) (Nat.le_of_ble_eq_true rfl) ⟨_, _, rfl, rfl, hI24, (Chg.cons S3 (Chg.cons S7 (Chg.cons S18 (Chg.mono S25 (by decide)) (by decide)) (by decide)) (by decide))⟩
    refine k_aload_n C rfl rfl rfl ?_
    refine c_VI C (s_X2_isNought hS hI6 H_r1) rfl rfl rfl rfl rfl ⟨_, rfl, rfl, T_r1, Nat.le_of_ble_eq_true rfl⟩ rfl rfl (Nat.le_of_ble_eq_true rfl) (Nat.le_of_ble_eq_true rfl) (Nat.le_of_ble_eq_true rfl) ?_
    rintro x30 _ _ ⟨o0x30, o1x30, rfl, rfl⟩
    have gx30 := rg x30
    refine b_if_eq C (t := 63) rfl rfl rfl (fun c31 => ?_) (fun c31 => ?_)
    · skip
      refine k_aload_n C rfl rfl rfl ?_
      refine k_aload_n C rfl rfl rfl ?_
      refine k_aload_n C rfl rfl rfl ?_
      refine c_VV C (s_X6_aim hS hI6 H_r0 H_r1 H_r2) rfl rfl rfl rfl rfl ⟨_, rfl, rfl, T_r0, Nat.le_of_ble_eq_true rfl⟩ rfl rfl (Nat.le_of_ble_eq_true rfl) (Nat.le_of_ble_eq_true rfl) (Nat.le_of_ble_eq_true rfl) ?_
      rintro I33 L34 ⟨hI33, S35⟩
      have e36 := Chg.k S35 T_r0 (by decide) (by decide) e8
      have e37 := Chg.k S35 T_r0 (by decide) (by decide) e9
      have e38 := Chg.k S35 T_r1 (by decide) (by decide) ex10
      have e39 := Chg.k S35 T_r2 (by decide) (by decide) ex11
      refine k_aload_n C rfl rfl rfl ?_
      refine k_aload_n C rfl rfl rfl ?_
      refine g_R C rfl rfl rfl T_r0 rfl R_r0_5 ?_
      refine k_aload_n C rfl rfl rfl ?_
      refine z_iconst C (z := 0) rfl rfl rfl (fun x40 ex40 => ?_)
      refine c_VI C (s_X6_aimAt hS hI33 H_r0) rfl rfl rfl rfl rfl ⟨_, rfl, rfl, T_r0, Nat.le_of_ble_eq_true rfl⟩ rfl rfl (Nat.le_of_ble_eq_true rfl) (Nat.le_of_ble_eq_true rfl) (Nat.le_of_ble_eq_true rfl) ?_
      rintro x41 _ _ ⟨rfl, rfl⟩
      have gx41 := rg x41
      refine c_VI C (s_X6_choose_w400 hS hI33 H_r0 H_r0_5) rfl rfl rfl rfl rfl ⟨_, rfl, rfl, T_r0, Nat.le_of_ble_eq_true rfl⟩ rfl rfl (Nat.le_of_ble_eq_true rfl) (Nat.le_of_ble_eq_true rfl) (Nat.le_of_ble_eq_true rfl) ?_
      rintro x42 I43 L44 ⟨o0x42, o1x42, hI43, S45⟩
      have e46 := Chg.k S45 T_r0 (by decide) (by decide) e36
      have e47 := Chg.k S45 T_r0 (by decide) (by decide) e37
      have e48 := Chg.k S45 T_r1 (by decide) (by decide) e38
      have e49 := Chg.k S45 T_r2 (by decide) (by decide) e39
      have gx42 := rg x42
      refine k_istore_n C (lw := [(3, .int x42), (0, .ref r0), (1, .ref r1), (2, .ref r2)]) rfl rfl (Nat.le_of_ble_eq_true rfl) rfl ?_
      refine k_aload_n C rfl rfl rfl ?_
      refine k_aload_n C rfl rfl rfl ?_
      refine g_R C rfl rfl rfl T_r0 rfl R_r0_6 ?_
      refine k_aload_n C rfl rfl rfl ?_
      refine z_iconst C (z := 1) rfl rfl rfl (fun x50 ex50 => ?_)
      refine c_VI C (s_X6_aimAt hS hI43 H_r0) rfl rfl rfl rfl rfl ⟨_, rfl, rfl, T_r0, Nat.le_of_ble_eq_true rfl⟩ rfl rfl (Nat.le_of_ble_eq_true rfl) (Nat.le_of_ble_eq_true rfl) (Nat.le_of_ble_eq_true rfl) ?_
      rintro x51 _ _ ⟨rfl, rfl⟩
      have gx51 := rg x51
      refine c_VI C (s_X6_choose_w400 hS hI43 H_r0 H_r0_6) rfl rfl rfl rfl rfl ⟨_, rfl, rfl, T_r0, Nat.le_of_ble_eq_true rfl⟩ rfl rfl (Nat.le_of_ble_eq_true rfl) (Nat.le_of_ble_eq_true rfl) (Nat.le_of_ble_eq_true rfl) ?_
      rintro x52 I53 L54 ⟨o0x52, o1x52, hI53, S55⟩
      have e56 := Chg.k S55 T_r0 (by decide) (by decide) e46
      have e57 := Chg.k S55 T_r0 (by decide) (by decide) e47
      have e58 := Chg.k S55 T_r1 (by decide) (by decide) e48
      have e59 := Chg.k S55 T_r2 (by decide) (by decide) e49
      have gx52 := rg x52
      refine k_istore C (lw := [(4, .int x52), (3, .int x42), (0, .ref r0), (1, .ref r1), (2, .ref r2)]) rfl rfl (Nat.le_of_ble_eq_true rfl) rfl ?_
      refine z_iconst C (z := 0) rfl rfl rfl (fun x60 ex60 => ?_)
      have J61 : ∀ (nn62 : Nat) (I63 : IT) (L64 : LT) (x65 : Int32), (MN (401 - x65.toInt) nn62) → (IX A T I63) → (Chg B T [(7, 0), (7, 1)] I53 L54 I63 L64) → (0 ≤ x65.toInt) → (x65.toInt ≤ 401) → V 101 [(0, .ref r0), (1, .ref r1), (3, .int x42), (4, .int x52), (5, .int x65)] [] (T, N, I63, L64, R) 0 0 := by
        intro nn62
        induction nn62 using Nat.strongRecOn with
        | _ nn62 ihJ61 =>
          intro I63 L64 x65 hmnn62 hI69 S68 b66 b67
          have gx65 := rg x65
          have e70 := Chg.k S68 T_r1 (by decide) (by decide) e58
          have e71 := Chg.k S68 T_r2 (by decide) (by decide) e59
          refine k_iload C rfl rfl rfl ?_
          refine k_iload_n C rfl rfl rfl ?_
          refine b_icmp_ge C (t := 171) rfl rfl rfl (fun c72 => ?_) (fun c72 => ?_)
          · skip
            exact k_vret C rfl rfl (Nat.le_of_ble_eq_true rfl) (Nat.le_of_ble_eq_true rfl) ⟨_, _, rfl, rfl, hI69, (Chg.cons S3 (Chg.cons S7 (Chg.cons S35 (Chg.cons S45 (Chg.cons S55 (Chg.mono S68 (by decide)) (by decide)) (by decide)) (by decide)) (by decide)) (by decide))⟩
          refine k_iload C rfl rfl rfl ?_
          refine k_aload_n C rfl rfl rfl ?_
          refine g_R C rfl rfl rfl T_r0 rfl R_r0_5 ?_
          obtain ⟨T_r0_5, N_r0_5, A_r0_5⟩ := id H_r0_5
          refine z_len C (n := 400) rfl rfl (by rw [T_r0_5]; exact Nat.le_of_ble_eq_true rfl) N_r0_5 (Nat.le_of_ble_eq_true rfl) (fun x73 ex73 => ?_)
          refine b_icmp_ge C (t := 171) rfl rfl rfl (fun c74 => by exfalso; omega) (fun c74 => ?_)
          refine z_iconst C (z := 0) rfl rfl rfl (fun x75 ex75 => ?_)
          have J76 : ∀ (nn77 : Nat) (I78 : IT) (L79 : LT) (x80 : Int32), (MN (400 - x80.toInt) nn77) → (IX A T I78) → (Chg B T [(7, 0), (7, 1)] I63 L64 I78 L79) → (0 ≤ x80.toInt) → (x80.toInt ≤ 400) → V 120 [(0, .ref r0), (1, .ref r1), (3, .int x42), (4, .int x52), (5, .int x65), (6, .int x80)] [] (T, N, I78, L79, R) 0 0 := by
            intro nn77
            induction nn77 using Nat.strongRecOn with
            | _ nn77 ihJ76 =>
              intro I78 L79 x80 hmnn77 hI84 S83 b81 b82
              have gx80 := rg x80
              have e85 := Chg.k S83 T_r1 (by decide) (by decide) e70
              have e86 := Chg.k S83 T_r2 (by decide) (by decide) e71
              refine k_iload C rfl rfl rfl ?_
              refine k_iload C rfl rfl rfl ?_
              refine b_icmp_ge C (t := 165) rfl rfl rfl (fun c87 => ?_) (fun c87 => ?_)
              · skip
                refine z_iinc C (z := 1) (lw := fun x88 => [(5, .int x88), (0, .ref r0), (1, .ref r1), (3, .int x42), (4, .int x52), (6, .int x80)]) rfl rfl rfl (Nat.le_of_ble_eq_true rfl) rfl ⟨by omega, by omega⟩ (fun _ => rfl) (fun x88 ex88 => ?_)
                show V 168 [(5, .int x88), (0, .ref r0), (1, .ref r1), (3, .int x42), (4, .int x52), (6, .int x80)] _ _ _ _
                refine k_goto C (pc2 := 101) rfl rfl ?_
                refine k_sub S [(0, .ref r0), (1, .ref r1), (3, .int x42), (4, .int x52), (5, .int x88)] (List.forall_mem_cons.mpr ⟨List.mem_of_getElem? (i := 1) rfl, List.forall_mem_cons.mpr ⟨List.mem_of_getElem? (i := 2) rfl, List.forall_mem_cons.mpr ⟨List.mem_of_getElem? (i := 3) rfl, List.forall_mem_cons.mpr ⟨List.mem_of_getElem? (i := 4) rfl, List.forall_mem_cons.mpr ⟨List.mem_of_getElem? (i := 0) rfl, fun _ h => nomatch h⟩⟩⟩⟩⟩) ?_
                exact ihJ61 _ (MN.lt hmnn62 (by omega) (by omega)) I78 L79 x88 rfl hI84 (Chg.cons S68 (Chg.mono S83 (by decide)) (by decide)) (by omega) (by omega)
              refine k_iload C rfl rfl rfl ?_
              refine k_aload_n C rfl rfl rfl ?_
              refine g_R C rfl rfl rfl T_r0 rfl R_r0_6 ?_
              obtain ⟨T_r0_6, N_r0_6, A_r0_6⟩ := id H_r0_6
              refine z_len C (n := 400) rfl rfl (by rw [T_r0_6]; exact Nat.le_of_ble_eq_true rfl) N_r0_6 (Nat.le_of_ble_eq_true rfl) (fun x89 ex89 => ?_)
              refine b_icmp_ge C (t := 165) rfl rfl rfl (fun c90 => by exfalso; omega) (fun c90 => ?_)
              refine k_aload_n C rfl rfl rfl ?_
              refine k_aload_n C rfl rfl rfl ?_
              refine g_R C rfl rfl rfl T_r0 rfl R_r0_5 ?_
              refine k_iload C rfl rfl rfl ?_
              refine z_aI C rfl rfl T_r0_5 N_r0_5 (by omega) (by omega) (fun x91 ex91 => ?_)
              have gx91 := rg x91
              refine k_aload_n C rfl rfl rfl ?_
              refine g_R C rfl rfl rfl T_r0 rfl R_r0_6 ?_
              refine k_iload C rfl rfl rfl ?_
              refine z_aI C rfl rfl T_r0_6 N_r0_6 (by omega) (by omega) (fun x92 ex92 => ?_)
              have gx92 := rg x92
              refine k_aload_n C rfl rfl rfl ?_
              refine g_I C rfl rfl rfl T_r1 rfl e85 ?_
              refine c_VV C (s_X6_meet hS hI84 H_r0 (by omega) (by omega)) rfl rfl rfl rfl rfl ⟨_, rfl, rfl, T_r0, Nat.le_of_ble_eq_true rfl⟩ rfl rfl (Nat.le_of_ble_eq_true rfl) (Nat.le_of_ble_eq_true rfl) (Nat.le_of_ble_eq_true rfl) ?_
              rintro I94 L95 ⟨hI94, S96⟩
              have e97 := Chg.k S96 T_r1 (by decide) (by decide) e85
              have e98 := Chg.k S96 T_r2 (by decide) (by decide) e86
              refine z_iinc C (z := 1) (lw := fun x99 => [(6, .int x99), (0, .ref r0), (1, .ref r1), (3, .int x42), (4, .int x52), (5, .int x65)]) rfl rfl rfl (Nat.le_of_ble_eq_true rfl) rfl ⟨by omega, by omega⟩ (fun _ => rfl) (fun x99 ex99 => ?_)
              show V 162 [(6, .int x99), (0, .ref r0), (1, .ref r1), (3, .int x42), (4, .int x52), (5, .int x65)] _ _ _ _
              refine k_goto C (pc2 := 120) rfl rfl ?_
              refine k_sub S [(0, .ref r0), (1, .ref r1), (3, .int x42), (4, .int x52), (5, .int x65), (6, .int x99)] (List.forall_mem_cons.mpr ⟨List.mem_of_getElem? (i := 1) rfl, List.forall_mem_cons.mpr ⟨List.mem_of_getElem? (i := 2) rfl, List.forall_mem_cons.mpr ⟨List.mem_of_getElem? (i := 3) rfl, List.forall_mem_cons.mpr ⟨List.mem_of_getElem? (i := 4) rfl, List.forall_mem_cons.mpr ⟨List.mem_of_getElem? (i := 5) rfl, List.forall_mem_cons.mpr ⟨List.mem_of_getElem? (i := 0) rfl, fun _ h => nomatch h⟩⟩⟩⟩⟩⟩) ?_
              exact ihJ76 _ (MN.lt hmnn77 (by omega) (by omega)) I94 L95 x99 rfl hI94 (Chg.cons S83 (Chg.mono S96 (by decide)) (by decide)) (by omega) (by omega)
          refine k_istore C (lw := [(6, .int x75), (0, .ref r0), (1, .ref r1), (3, .int x42), (4, .int x52), (5, .int x65)]) rfl rfl (Nat.le_of_ble_eq_true rfl) rfl ?_
          refine k_sub S [(0, .ref r0), (1, .ref r1), (3, .int x42), (4, .int x52), (5, .int x65), (6, .int x75)] (List.forall_mem_cons.mpr ⟨List.mem_of_getElem? (i := 1) rfl, List.forall_mem_cons.mpr ⟨List.mem_of_getElem? (i := 2) rfl, List.forall_mem_cons.mpr ⟨List.mem_of_getElem? (i := 3) rfl, List.forall_mem_cons.mpr ⟨List.mem_of_getElem? (i := 4) rfl, List.forall_mem_cons.mpr ⟨List.mem_of_getElem? (i := 5) rfl, List.forall_mem_cons.mpr ⟨List.mem_of_getElem? (i := 0) rfl, fun _ h => nomatch h⟩⟩⟩⟩⟩⟩) ?_
          exact J76 _ I63 L64 x75 rfl hI69 Chg.rf (by omega) (by omega)
      refine k_istore C (lw := [(5, .int x60), (4, .int x52), (3, .int x42), (0, .ref r0), (1, .ref r1), (2, .ref r2)]) rfl rfl (Nat.le_of_ble_eq_true rfl) rfl ?_
      refine k_sub S [(0, .ref r0), (1, .ref r1), (3, .int x42), (4, .int x52), (5, .int x60)] (List.forall_mem_cons.mpr ⟨List.mem_of_getElem? (i := 3) rfl, List.forall_mem_cons.mpr ⟨List.mem_of_getElem? (i := 4) rfl, List.forall_mem_cons.mpr ⟨List.mem_of_getElem? (i := 2) rfl, List.forall_mem_cons.mpr ⟨List.mem_of_getElem? (i := 1) rfl, List.forall_mem_cons.mpr ⟨List.mem_of_getElem? (i := 0) rfl, fun _ h => nomatch h⟩⟩⟩⟩⟩) ?_
      exact J61 _ I53 L54 x60 rfl hI53 Chg.rf (by omega) (by omega)
    refine k_aload_n C rfl rfl rfl ?_
    refine k_aload_n C rfl rfl rfl ?_
    refine c_VI C (s_X2_matches hS hI6 H_r1 H_r2) rfl rfl rfl rfl rfl ⟨_, rfl, rfl, T_r1, Nat.le_of_ble_eq_true rfl⟩ rfl rfl (Nat.le_of_ble_eq_true rfl) (Nat.le_of_ble_eq_true rfl) (Nat.le_of_ble_eq_true rfl) ?_
    rintro x100 _ _ ⟨o0x100, o1x100, rfl, rfl⟩
    have gx100 := rg x100
    refine b_if_eq C (t := 62) rfl rfl rfl (fun c101 => ?_) (fun c101 => ?_)
    · skip
      exact k_vret C rfl rfl (Nat.le_of_ble_eq_true rfl) (Nat.le_of_ble_eq_true rfl) ⟨_, _, rfl, rfl, hI6, (Chg.cons S3 (Chg.mono S7 (by decide)) (by decide))⟩
    refine k_aload_n C rfl rfl rfl ?_
    refine z_sipush C (z := 420) rfl rfl rfl (fun x102 ex102 => ?_)
    refine z_pI C rfl rfl rfl T_r0 (Or.inr rfl) rfl (fun I103 uI103 => ?_)
    have hI103 : IX A T I103 := IX.f hI6 T_r0 (boX.tr (by decide) (by decide)) uI103
    have S104 : Chg B T [(7, 0)] I6 L I103 L := Chg.f B_r0 T_r0 uI103
    have e105 := u2_j uI103 (by decide) e9
    have e106 := u2_n uI103 (t_nq T_r1 T_r0 (by decide)) ex10
    have e107 := u2_n uI103 (t_nq T_r2 T_r0 (by decide)) ex11
    have e108 := u2_e uI103
    refine k_aload_n C rfl rfl rfl ?_
    refine k_aload_n C rfl rfl rfl ?_
    refine g_R C rfl rfl rfl T_r0 rfl R_r0_2 ?_
    obtain ⟨T_r0_2, A_r0_2, B_r0_2, ⟨r0_2_0, R_r0_2_0, H_r0_2_0⟩, ⟨r0_2_1, R_r0_2_1, H_r0_2_1⟩, ⟨r0_2_2, R_r0_2_2, H_r0_2_2⟩⟩ := id H_r0_2
    refine c_VI C (s_X0_tables hS hI103 H_r0_2) rfl rfl rfl rfl rfl ⟨_, rfl, rfl, T_r0_2, Nat.le_of_ble_eq_true rfl⟩ rfl rfl (Nat.le_of_ble_eq_true rfl) (Nat.le_of_ble_eq_true rfl) (Nat.le_of_ble_eq_true rfl) ?_
    rintro x109 _ _ ⟨rfl, rfl⟩
    have gx109 := rg x109
    refine z_pI C rfl rfl rfl T_r0 (Or.inr rfl) rfl (fun I110 uI110 => ?_)
    have hI110 : IX A T I110 := IX.f hI103 T_r0 (boX.tr (by decide) (by decide)) uI110
    have S111 : Chg B T [(7, 1)] I103 L I110 L := Chg.f B_r0 T_r0 uI110
    have e112 := u2_j uI110 (by decide) e106
    have e113 := u2_j uI110 (by decide) e107
    have e114 := u2_j uI110 (by decide) e108
    have e115 := u2_e uI110
    exact k_vret C rfl rfl (Nat.le_of_ble_eq_true rfl) (Nat.le_of_ble_eq_true rfl) ⟨_, _, rfl, rfl, hI110, (Chg.cons S3 (Chg.cons S7 (Chg.cons S104 (Chg.mono S111 (by decide)) (by decide)) (by decide)) (by decide))⟩
  exact k_vret C rfl rfl (Nat.le_of_ble_eq_true rfl) (Nat.le_of_ble_eq_true rfl) ⟨_, _, rfl, rfl, hI6, (Chg.cons S3 (Chg.mono S7 (by decide)) (by decide))⟩

theorem s_X2_pick_Row16 {d : Nat} {T N : Nat → Nat} {I : IT} {L : LT} {R : RT} {A B : Nat → Prop} {r0 : Nat} {n1 : Int32} (hS : SUB B A) (hI : IX A T I) (H_r0 : (hs_Row16 T N R A B) r0) : Ex (d + 1) 36 [.ref r0, .int n1] (T, N, I, L, R) 0 0 (pR T N R (fun x9 I9 L9 => (∀ b, x9 = some b → (hs_F T N R A B) b) ∧ (I = I9 ∧ L = L9))) := by
  refine ⟨_, rfl, Nat.le_of_ble_eq_true rfl, fun V C S => ?_⟩
  show V 0 [(0, .ref r0), (1, .int n1)] [] (T, N, I, L, R) 0 0
  have gn1 := rg n1
  refine k_iload_n C rfl rfl rfl ?_
  refine b_if_lt C (t := 10) rfl rfl rfl (fun c1 => ?_) (fun c1 => ?_)
  · skip
    refine k_null C rfl rfl ?_
    refine k_goto C (pc2 := 17) rfl rfl ?_
    exact k_aret C (x := none) rfl (Or.inl ⟨_, rfl⟩) (Nat.le_of_ble_eq_true rfl) (Nat.le_of_ble_eq_true rfl) ⟨_, _, _, rfl, rfl, fz, rfl, rfl⟩
  refine k_iload_n C rfl rfl rfl ?_
  refine k_aload_n C rfl rfl rfl ?_
  obtain ⟨T_r0, N_r0, A_r0, E_r0⟩ := id H_r0
  refine z_len C (n := 16) rfl rfl (by rw [T_r0]; exact Nat.le_of_ble_eq_true rfl) N_r0 (Nat.le_of_ble_eq_true rfl) (fun x2 ex2 => ?_)
  refine b_icmp_lt C (t := 14) rfl rfl rfl (fun c3 => ?_) (fun c3 => ?_)
  · skip
    refine k_aload_n C rfl rfl rfl ?_
    refine k_iload_n C rfl rfl rfl ?_
    refine z_aR C (t := 0) rfl rfl (Nat.le_of_ble_eq_true rfl) T_r0 N_r0 E_r0 (by omega) (by omega) (fun rr4 H_rr4 => ?_)
    exact k_aret C (x := some _) rfl (Or.inl ⟨_, rfl⟩) (Nat.le_of_ble_eq_true rfl) (Nat.le_of_ble_eq_true rfl) ⟨_, _, _, rfl, rfl, fb H_rr4, rfl, rfl⟩
  refine k_null C rfl rfl ?_
  refine k_goto C (pc2 := 17) rfl rfl ?_
  exact k_aret C (x := none) rfl (Or.inl ⟨_, rfl⟩) (Nat.le_of_ble_eq_true rfl) (Nat.le_of_ble_eq_true rfl) ⟨_, _, _, rfl, rfl, fz, rfl, rfl⟩

theorem s_X8_formAt {d : Nat} {T N : Nat → Nat} {I : IT} {L : LT} {R : RT} {A B : Nat → Prop} {r0 : Nat} {n1 : Int32} (hS : SUB B A) (hI : IX A T I) (H_r0 : (hs_St T N R A B) r0) : Ex (d + 2) 96 [.ref r0, .int n1] (T, N, I, L, R) 0 0 (pR T N R (fun x9 I9 L9 => (∀ b, x9 = some b → (hs_F T N R A B) b) ∧ (I = I9 ∧ L = L9))) := by
  refine ⟨_, rfl, Nat.le_of_ble_eq_true rfl, fun V C S => ?_⟩
  show V 0 [(0, .ref r0), (1, .int n1)] [] (T, N, I, L, R) 0 0
  have gn1 := rg n1
  refine k_iload_n C rfl rfl rfl ?_
  refine k_aload_n C rfl rfl rfl ?_
  obtain ⟨T_r0, A_r0, B_r0, ⟨r0_6, R_r0_6, H_r0_6⟩, ⟨r0_7, R_r0_7, H_r0_7⟩, ⟨r0_8, R_r0_8, H_r0_8⟩, ⟨r0_9, R_r0_9, H_r0_9⟩, ⟨r0_10, R_r0_10, H_r0_10⟩⟩ := id H_r0
  refine z_gI C rfl rfl rfl T_r0 rfl (fun x1 ex1 => ?_)
  have gx1 := rg x1
  refine b_icmp_ge C (t := 19) rfl rfl rfl (fun c2 => ?_) (fun c2 => ?_)
  · skip
    refine k_null C rfl rfl ?_
    exact k_aret C (x := none) rfl (Or.inl ⟨_, rfl⟩) (Nat.le_of_ble_eq_true rfl) (Nat.le_of_ble_eq_true rfl) ⟨_, _, _, rfl, rfl, fz, rfl, rfl⟩
  refine k_aload_n C rfl rfl rfl ?_
  refine g_R C rfl rfl rfl T_r0 rfl R_r0_8 ?_
  refine k_iload_n C rfl rfl rfl ?_
  refine c_SR C (s_X2_pick_Row16 hS hI H_r0_8) rfl rfl rfl rfl rfl rfl rfl (Nat.le_of_ble_eq_true rfl) (Nat.le_of_ble_eq_true rfl) (Nat.le_of_ble_eq_true rfl) ?_
  rintro yy3 _ _ ⟨hyy3, rfl, rfl⟩
  refine k_goto C (pc2 := 20) rfl rfl ?_
  exact k_aret C (x := yy3) rfl (Or.inl ⟨_, rfl⟩) (Nat.le_of_ble_eq_true rfl) (Nat.le_of_ble_eq_true rfl) ⟨_, _, _, rfl, rfl, hyy3, rfl, rfl⟩

theorem s_X8_tableAt {d : Nat} {T N : Nat → Nat} {I : IT} {L : LT} {R : RT} {A B : Nat → Prop} {r0 : Nat} {n1 : Int32} (hS : SUB B A) (hI : IX A T I) (H_r0 : (hs_St T N R A B) r0) : Ex (d + 1) 97 [.ref r0, .int n1] (T, N, I, L, R) 0 0 (pR T N R (fun x9 I9 L9 => (∀ b, x9 = some b → (hs_Tb T N R A B) b) ∧ (I = I9 ∧ L = L9))) := by
  refine ⟨_, rfl, Nat.le_of_ble_eq_true rfl, fun V C S => ?_⟩
  show V 0 [(0, .ref r0), (1, .int n1)] [] (T, N, I, L, R) 0 0
  have gn1 := rg n1
  refine k_iload_n C rfl rfl rfl ?_
  refine b_if_lt C (t := 21) rfl rfl rfl (fun c1 => ?_) (fun c1 => ?_)
  · skip
    refine k_null C rfl rfl ?_
    refine k_goto C (pc2 := 31) rfl rfl ?_
    exact k_aret C (x := none) rfl (Or.inl ⟨_, rfl⟩) (Nat.le_of_ble_eq_true rfl) (Nat.le_of_ble_eq_true rfl) ⟨_, _, _, rfl, rfl, fz, rfl, rfl⟩
  refine k_iload_n C rfl rfl rfl ?_
  refine k_aload_n C rfl rfl rfl ?_
  obtain ⟨T_r0, A_r0, B_r0, ⟨r0_6, R_r0_6, H_r0_6⟩, ⟨r0_7, R_r0_7, H_r0_7⟩, ⟨r0_8, R_r0_8, H_r0_8⟩, ⟨r0_9, R_r0_9, H_r0_9⟩, ⟨r0_10, R_r0_10, H_r0_10⟩⟩ := id H_r0
  refine z_gI C rfl rfl rfl T_r0 rfl (fun x2 ex2 => ?_)
  have gx2 := rg x2
  refine b_icmp_ge C (t := 21) rfl rfl rfl (fun c3 => ?_) (fun c3 => ?_)
  · skip
    refine k_null C rfl rfl ?_
    refine k_goto C (pc2 := 31) rfl rfl ?_
    exact k_aret C (x := none) rfl (Or.inl ⟨_, rfl⟩) (Nat.le_of_ble_eq_true rfl) (Nat.le_of_ble_eq_true rfl) ⟨_, _, _, rfl, rfl, fz, rfl, rfl⟩
  refine k_iload_n C rfl rfl rfl ?_
  refine k_aload_n C rfl rfl rfl ?_
  refine g_R C rfl rfl rfl T_r0 rfl R_r0_9 ?_
  obtain ⟨T_r0_9, N_r0_9, A_r0_9, E_r0_9⟩ := id H_r0_9
  refine z_len C (n := 8) rfl rfl (by rw [T_r0_9]; exact Nat.le_of_ble_eq_true rfl) N_r0_9 (Nat.le_of_ble_eq_true rfl) (fun x4 ex4 => ?_)
  refine b_icmp_lt C (t := 25) rfl rfl rfl (fun c5 => ?_) (fun c5 => ?_)
  · skip
    refine k_aload_n C rfl rfl rfl ?_
    refine g_R C rfl rfl rfl T_r0 rfl R_r0_9 ?_
    refine k_iload_n C rfl rfl rfl ?_
    refine z_aR C (t := 1) rfl rfl (Nat.le_of_ble_eq_true rfl) T_r0_9 N_r0_9 E_r0_9 (by omega) (by omega) (fun rr6 H_rr6 => ?_)
    exact k_aret C (x := some _) rfl (Or.inl ⟨_, rfl⟩) (Nat.le_of_ble_eq_true rfl) (Nat.le_of_ble_eq_true rfl) ⟨_, _, _, rfl, rfl, fb H_rr6, rfl, rfl⟩
  refine k_null C rfl rfl ?_
  refine k_goto C (pc2 := 31) rfl rfl ?_
  exact k_aret C (x := none) rfl (Or.inl ⟨_, rfl⟩) (Nat.le_of_ble_eq_true rfl) (Nat.le_of_ble_eq_true rfl) ⟨_, _, _, rfl, rfl, fz, rfl, rfl⟩

theorem s_X8_noughts {d : Nat} {T N : Nat → Nat} {I : IT} {L : LT} {R : RT} {A B : Nat → Prop} {r0 : Nat} (hS : SUB B A) (hI : IX A T I) (H_r0 : (hs_St T N R A B) r0) : Ex (d + 4) 101 [.ref r0] (T, N, I, L, R) 0 0 (pI T N R (fun x9 I9 L9 => (I = I9 ∧ L = L9))) := by
  refine ⟨_, rfl, Nat.le_of_ble_eq_true rfl, fun V C S => ?_⟩
  show V 0 [(0, .ref r0)] [] (T, N, I, L, R) 0 0
  refine z_iconst C (z := 0) rfl rfl rfl (fun x1 ex1 => ?_)
  refine k_istore_n C (lw := [(1, .int x1), (0, .ref r0)]) rfl rfl (Nat.le_of_ble_eq_true rfl) rfl ?_
  refine z_iconst C (z := 0) rfl rfl rfl (fun x2 ex2 => ?_)
  have J3 : ∀ (nn4 : Nat) (x5 : Int32) (x6 : Int32), (MN (2147483647 - x6.toInt) nn4) → (0 ≤ x6.toInt) → V 4 [(0, .ref r0), (1, .int x5), (2, .int x6)] [] (T, N, I, L, R) 0 0 := by
    intro nn4
    induction nn4 using Nat.strongRecOn with
    | _ nn4 ihJ3 =>
      intro x5 x6 hmnn4 b7
      have gx5 := rg x5
      have gx6 := rg x6
      refine k_iload_n C rfl rfl rfl ?_
      refine k_aload_n C rfl rfl rfl ?_
      obtain ⟨T_r0, A_r0, B_r0, ⟨r0_6, R_r0_6, H_r0_6⟩, ⟨r0_7, R_r0_7, H_r0_7⟩, ⟨r0_8, R_r0_8, H_r0_8⟩, ⟨r0_9, R_r0_9, H_r0_9⟩, ⟨r0_10, R_r0_10, H_r0_10⟩⟩ := id H_r0
      refine z_gI C rfl rfl rfl T_r0 rfl (fun x8 ex8 => ?_)
      have gx8 := rg x8
      refine b_icmp_ge C (t := 43) rfl rfl rfl (fun c9 => ?_) (fun c9 => ?_)
      · skip
        refine k_iload_n C rfl rfl rfl ?_
        exact k_iret C rfl (Or.inl rfl) (Nat.le_of_ble_eq_true rfl) (Nat.le_of_ble_eq_true rfl) ⟨_, _, _, rfl, rfl, rfl, rfl⟩
      refine k_aload_n C rfl rfl rfl ?_
      refine k_iload_n C rfl rfl rfl ?_
      refine c_VR C (s_X8_formAt hS hI H_r0) rfl rfl rfl rfl rfl ⟨_, rfl, rfl, T_r0, Nat.le_of_ble_eq_true rfl⟩ rfl rfl (Nat.le_of_ble_eq_true rfl) (Nat.le_of_ble_eq_true rfl) (Nat.le_of_ble_eq_true rfl) ?_
      rintro yy10 _ _ ⟨hyy10, rfl, rfl⟩
      refine k_astore_nV C (x := yy10) (lw := [(3, va_rf yy10), (0, .ref r0), (1, .int x5), (2, .int x6)]) rfl rfl (Nat.le_of_ble_eq_true rfl) rfl ?_
      refine k_iload_n C rfl rfl rfl ?_
      refine k_aload_nV C (x := yy10) rfl rfl rfl ?_
      refine k_ifnull C (x := yy10) (t := 34) rfl rfl rfl (fun c11 => ?_) (fun rr12 c11 => ?_)
      · skip
        subst c11
        refine z_iconst C (z := 0) rfl rfl rfl (fun x13 ex13 => ?_)
        refine z_iadd C rfl rfl ⟨by omega, by omega⟩ (fun x14 ex14 => ?_)
        refine k_istore_n C (lw := [(1, .int x14), (3, va_rf none), (0, .ref r0), (2, .int x6)]) rfl rfl (Nat.le_of_ble_eq_true rfl) rfl ?_
        refine z_iinc C (z := 1) (lw := fun x15 => [(2, .int x15), (1, .int x14), (3, va_rf none), (0, .ref r0)]) rfl rfl rfl (Nat.le_of_ble_eq_true rfl) rfl ⟨by omega, by omega⟩ (fun _ => rfl) (fun x15 ex15 => ?_)
        show V 40 [(2, .int x15), (1, .int x14), (3, va_rf none), (0, .ref r0)] _ _ _ _
        refine k_goto C (pc2 := 4) rfl rfl ?_
        refine k_sub S [(0, .ref r0), (1, .int x14), (2, .int x15)] (List.forall_mem_cons.mpr ⟨List.mem_of_getElem? (i := 3) rfl, List.forall_mem_cons.mpr ⟨List.mem_of_getElem? (i := 1) rfl, List.forall_mem_cons.mpr ⟨List.mem_of_getElem? (i := 0) rfl, fun _ h => nomatch h⟩⟩⟩) ?_
        exact ihJ3 _ (MN.lt hmnn4 (by omega) (by omega)) x14 x15 rfl (by omega)
      subst c11
      have H_rr12 := hyy10 rr12 rfl
      refine k_aload_n C rfl rfl rfl ?_
      obtain ⟨T_rr12, A_rr12, ⟨rr12_1, R_rr12_1, H_rr12_1⟩⟩ := id H_rr12
      refine c_VI C (s_X2_isNought hS hI H_rr12) rfl rfl rfl rfl rfl ⟨_, rfl, rfl, T_rr12, Nat.le_of_ble_eq_true rfl⟩ rfl rfl (Nat.le_of_ble_eq_true rfl) (Nat.le_of_ble_eq_true rfl) (Nat.le_of_ble_eq_true rfl) ?_
      rintro x16 _ _ ⟨o0x16, o1x16, rfl, rfl⟩
      have gx16 := rg x16
      refine b_if_eq C (t := 34) rfl rfl rfl (fun c17 => ?_) (fun c17 => ?_)
      · skip
        refine z_iconst C (z := 0) rfl rfl rfl (fun x18 ex18 => ?_)
        refine z_iadd C rfl rfl ⟨by omega, by omega⟩ (fun x19 ex19 => ?_)
        refine k_istore_n C (lw := [(1, .int x19), (3, .ref rr12), (0, .ref r0), (2, .int x6)]) rfl rfl (Nat.le_of_ble_eq_true rfl) rfl ?_
        refine z_iinc C (z := 1) (lw := fun x20 => [(2, .int x20), (1, .int x19), (3, .ref rr12), (0, .ref r0)]) rfl rfl rfl (Nat.le_of_ble_eq_true rfl) rfl ⟨by omega, by omega⟩ (fun _ => rfl) (fun x20 ex20 => ?_)
        show V 40 [(2, .int x20), (1, .int x19), (3, .ref rr12), (0, .ref r0)] _ _ _ _
        refine k_goto C (pc2 := 4) rfl rfl ?_
        refine k_sub S [(0, .ref r0), (1, .int x19), (2, .int x20)] (List.forall_mem_cons.mpr ⟨List.mem_of_getElem? (i := 3) rfl, List.forall_mem_cons.mpr ⟨List.mem_of_getElem? (i := 1) rfl, List.forall_mem_cons.mpr ⟨List.mem_of_getElem? (i := 0) rfl, fun _ h => nomatch h⟩⟩⟩) ?_
        exact ihJ3 _ (MN.lt hmnn4 (by omega) (by omega)) x19 x20 rfl (by omega)
      refine z_iconst C (z := 1) rfl rfl rfl (fun x21 ex21 => ?_)
      refine k_goto C (pc2 := 35) rfl rfl ?_
      refine zt_iadd C rfl rfl (fun x22 => ?_)
      have gx22 := rg x22
      refine k_istore_n C (lw := [(1, .int x22), (3, .ref rr12), (0, .ref r0), (2, .int x6)]) rfl rfl (Nat.le_of_ble_eq_true rfl) rfl ?_
      refine z_iinc C (z := 1) (lw := fun x23 => [(2, .int x23), (1, .int x22), (3, .ref rr12), (0, .ref r0)]) rfl rfl rfl (Nat.le_of_ble_eq_true rfl) rfl ⟨by omega, by omega⟩ (fun _ => rfl) (fun x23 ex23 => ?_)
      show V 40 [(2, .int x23), (1, .int x22), (3, .ref rr12), (0, .ref r0)] _ _ _ _
      refine k_goto C (pc2 := 4) rfl rfl ?_
      refine k_sub S [(0, .ref r0), (1, .int x22), (2, .int x23)] (List.forall_mem_cons.mpr ⟨List.mem_of_getElem? (i := 3) rfl, List.forall_mem_cons.mpr ⟨List.mem_of_getElem? (i := 1) rfl, List.forall_mem_cons.mpr ⟨List.mem_of_getElem? (i := 0) rfl, fun _ h => nomatch h⟩⟩⟩) ?_
      exact ihJ3 _ (MN.lt hmnn4 (by omega) (by omega)) x22 x23 rfl (by omega)
  refine k_istore_n C (lw := [(2, .int x2), (1, .int x1), (0, .ref r0)]) rfl rfl (Nat.le_of_ble_eq_true rfl) rfl ?_
  refine k_sub S [(0, .ref r0), (1, .int x1), (2, .int x2)] (List.forall_mem_cons.mpr ⟨List.mem_of_getElem? (i := 2) rfl, List.forall_mem_cons.mpr ⟨List.mem_of_getElem? (i := 1) rfl, List.forall_mem_cons.mpr ⟨List.mem_of_getElem? (i := 0) rfl, fun _ h => nomatch h⟩⟩⟩) ?_
  exact J3 _ x1 x2 rfl (by omega)

theorem s_X11_fault {d : Nat} {T N : Nat → Nat} {I : IT} {L : LT} {R : RT} {A B : Nat → Prop} {r0 : Nat} (hS : SUB B A) (hI : IX A T I) (H_r0 : (hs_LF T N R A B) r0) : Ex (d + 1) 132 [.ref r0] (T, N, I, L, R) 0 0 (pI T N R (fun x9 I9 L9 => (I = I9 ∧ L = L9))) := by
  refine ⟨_, rfl, Nat.le_of_ble_eq_true rfl, fun V C S => ?_⟩
  show V 0 [(0, .ref r0)] [] (T, N, I, L, R) 0 0
  refine k_aload_n C rfl rfl rfl ?_
  obtain ⟨T_r0, A_r0, B_r0, ⟨r0_0, R_r0_0, H_r0_0⟩, ⟨r0_1, R_r0_1, H_r0_1⟩, ⟨r0_2, R_r0_2, H_r0_2⟩, ⟨r0_5, R_r0_5, H_r0_5⟩, ⟨r0_6, R_r0_6, H_r0_6⟩, ⟨r0_7, R_r0_7, H_r0_7⟩, ⟨r0_8, R_r0_8, H_r0_8⟩, ⟨r0_9, R_r0_9, H_r0_9⟩, ⟨r0_10, R_r0_10, H_r0_10⟩, ⟨r0_11, R_r0_11, H_r0_11⟩, ⟨r0_12, R_r0_12, H_r0_12⟩, ⟨r0_13, R_r0_13, H_r0_13⟩⟩ := id H_r0
  refine z_gI C rfl rfl rfl T_r0 rfl (fun x1 ex1 => ?_)
  have gx1 := rg x1
  exact k_iret C rfl (Or.inl rfl) (Nat.le_of_ble_eq_true rfl) (Nat.le_of_ble_eq_true rfl) ⟨_, _, _, rfl, rfl, rfl, rfl⟩

theorem s_X11_toldForm {d : Nat} {T N : Nat → Nat} {I : IT} {L : LT} {R : RT} {A B : Nat → Prop} {r0 : Nat} {n1 : Int32} (hS : SUB B A) (hI : IX A T I) (H_r0 : (hs_LF T N R A B) r0) : Ex (d + 3) 133 [.ref r0, .int n1] (T, N, I, L, R) 1 6 (pW [3] T N R (pR T N R (fun x9 I9 L9 => (∃ b, x9 = some b ∧ (hs_F T N R A B) b) ∧ (I = I9 ∧ L = L9))) (fun I9 L9 => I = I9 ∧ L = L9)) := by
  refine ⟨_, rfl, Nat.le_of_ble_eq_true rfl, fun V C S => ?_⟩
  show V 0 [(0, .ref r0), (1, .int n1)] [] (T, N, I, L, R) 0 0
  have gn1 := rg n1
  refine k_aload_n C rfl rfl rfl ?_
  obtain ⟨T_r0, A_r0, B_r0, ⟨r0_0, R_r0_0, H_r0_0⟩, ⟨r0_1, R_r0_1, H_r0_1⟩, ⟨r0_2, R_r0_2, H_r0_2⟩, ⟨r0_5, R_r0_5, H_r0_5⟩, ⟨r0_6, R_r0_6, H_r0_6⟩, ⟨r0_7, R_r0_7, H_r0_7⟩, ⟨r0_8, R_r0_8, H_r0_8⟩, ⟨r0_9, R_r0_9, H_r0_9⟩, ⟨r0_10, R_r0_10, H_r0_10⟩, ⟨r0_11, R_r0_11, H_r0_11⟩, ⟨r0_12, R_r0_12, H_r0_12⟩, ⟨r0_13, R_r0_13, H_r0_13⟩⟩ := id H_r0
  refine g_R C rfl rfl rfl T_r0 rfl R_r0_1 ?_
  refine k_iload_n C rfl rfl rfl ?_
  obtain ⟨T_r0_1, A_r0_1, B_r0_1, ⟨r0_1_6, R_r0_1_6, H_r0_1_6⟩, ⟨r0_1_7, R_r0_1_7, H_r0_1_7⟩, ⟨r0_1_8, R_r0_1_8, H_r0_1_8⟩, ⟨r0_1_9, R_r0_1_9, H_r0_1_9⟩, ⟨r0_1_10, R_r0_1_10, H_r0_1_10⟩⟩ := id H_r0_1
  refine c_VR C (s_X8_formAt hS hI H_r0_1) rfl rfl rfl rfl rfl ⟨_, rfl, rfl, T_r0_1, Nat.le_of_ble_eq_true rfl⟩ rfl rfl (Nat.le_of_ble_eq_true rfl) (Nat.le_of_ble_eq_true rfl) (Nat.le_of_ble_eq_true rfl) ?_
  rintro yy1 _ _ ⟨hyy1, rfl, rfl⟩
  refine k_astore_nV C (x := yy1) (lw := [(2, va_rf yy1), (0, .ref r0), (1, .int n1)]) rfl rfl (Nat.le_of_ble_eq_true rfl) rfl ?_
  refine k_aload_nV C (x := yy1) rfl rfl rfl ?_
  refine k_ifnonnull C (x := yy1) (t := 21) rfl rfl rfl (fun c2 => ?_) (fun rr3 c2 => ?_)
  · skip
    subst c2
    exact k_throw C rfl rfl rfl rfl rfl rfl (Nat.le_of_ble_eq_true rfl) (Nat.le_of_ble_eq_true rfl) (Nat.le_of_ble_eq_true rfl) (Or.inr ⟨_, _, _, (by decide : 3 ∈ [3]), rfl, rfl, rfl, rfl⟩)
  subst c2
  have H_rr3 := hyy1 rr3 rfl
  refine k_aload_n C rfl rfl rfl ?_
  exact k_aret C (x := some _) rfl (Or.inl ⟨_, rfl⟩) (Nat.le_of_ble_eq_true rfl) (Nat.le_of_ble_eq_true rfl) (Or.inl ⟨_, _, _, rfl, rfl, ⟨_, rfl, H_rr3⟩, rfl, rfl⟩)

theorem s_X11_toldTable {d : Nat} {T N : Nat → Nat} {I : IT} {L : LT} {R : RT} {A B : Nat → Prop} {r0 : Nat} {n1 : Int32} (hS : SUB B A) (hI : IX A T I) (H_r0 : (hs_LF T N R A B) r0) : Ex (d + 2) 134 [.ref r0, .int n1] (T, N, I, L, R) 1 6 (pW [3] T N R (pR T N R (fun x9 I9 L9 => (∃ b, x9 = some b ∧ (hs_Tb T N R A B) b) ∧ (I = I9 ∧ L = L9))) (fun I9 L9 => I = I9 ∧ L = L9)) := by
  refine ⟨_, rfl, Nat.le_of_ble_eq_true rfl, fun V C S => ?_⟩
  show V 0 [(0, .ref r0), (1, .int n1)] [] (T, N, I, L, R) 0 0
  have gn1 := rg n1
  refine k_aload_n C rfl rfl rfl ?_
  obtain ⟨T_r0, A_r0, B_r0, ⟨r0_0, R_r0_0, H_r0_0⟩, ⟨r0_1, R_r0_1, H_r0_1⟩, ⟨r0_2, R_r0_2, H_r0_2⟩, ⟨r0_5, R_r0_5, H_r0_5⟩, ⟨r0_6, R_r0_6, H_r0_6⟩, ⟨r0_7, R_r0_7, H_r0_7⟩, ⟨r0_8, R_r0_8, H_r0_8⟩, ⟨r0_9, R_r0_9, H_r0_9⟩, ⟨r0_10, R_r0_10, H_r0_10⟩, ⟨r0_11, R_r0_11, H_r0_11⟩, ⟨r0_12, R_r0_12, H_r0_12⟩, ⟨r0_13, R_r0_13, H_r0_13⟩⟩ := id H_r0
  refine g_R C rfl rfl rfl T_r0 rfl R_r0_1 ?_
  refine k_iload_n C rfl rfl rfl ?_
  obtain ⟨T_r0_1, A_r0_1, B_r0_1, ⟨r0_1_6, R_r0_1_6, H_r0_1_6⟩, ⟨r0_1_7, R_r0_1_7, H_r0_1_7⟩, ⟨r0_1_8, R_r0_1_8, H_r0_1_8⟩, ⟨r0_1_9, R_r0_1_9, H_r0_1_9⟩, ⟨r0_1_10, R_r0_1_10, H_r0_1_10⟩⟩ := id H_r0_1
  refine c_VR C (s_X8_tableAt hS hI H_r0_1) rfl rfl rfl rfl rfl ⟨_, rfl, rfl, T_r0_1, Nat.le_of_ble_eq_true rfl⟩ rfl rfl (Nat.le_of_ble_eq_true rfl) (Nat.le_of_ble_eq_true rfl) (Nat.le_of_ble_eq_true rfl) ?_
  rintro yy1 _ _ ⟨hyy1, rfl, rfl⟩
  refine k_astore_nV C (x := yy1) (lw := [(2, va_rf yy1), (0, .ref r0), (1, .int n1)]) rfl rfl (Nat.le_of_ble_eq_true rfl) rfl ?_
  refine k_aload_nV C (x := yy1) rfl rfl rfl ?_
  refine k_ifnonnull C (x := yy1) (t := 21) rfl rfl rfl (fun c2 => ?_) (fun rr3 c2 => ?_)
  · skip
    subst c2
    exact k_throw C rfl rfl rfl rfl rfl rfl (Nat.le_of_ble_eq_true rfl) (Nat.le_of_ble_eq_true rfl) (Nat.le_of_ble_eq_true rfl) (Or.inr ⟨_, _, _, (by decide : 3 ∈ [3]), rfl, rfl, rfl, rfl⟩)
  subst c2
  have H_rr3 := hyy1 rr3 rfl
  refine k_aload_n C rfl rfl rfl ?_
  exact k_aret C (x := some _) rfl (Or.inl ⟨_, rfl⟩) (Nat.le_of_ble_eq_true rfl) (Nat.le_of_ble_eq_true rfl) (Or.inl ⟨_, _, _, rfl, rfl, ⟨_, rfl, H_rr3⟩, rfl, rfl⟩)

theorem s_X11_toldSigns {d : Nat} {T N : Nat → Nat} {I : IT} {L : LT} {R : RT} {A B : Nat → Prop} {r0 : Nat} {n1 : Int32} (hS : SUB B A) (hI : IX A T I) (H_r0 : (hs_LF T N R A B) r0) : Ex (d + 2) 135 [.ref r0, .int n1] (T, N, I, L, R) 1 6 (pW [3] T N R (pR T N R (fun x9 I9 L9 => (∃ b, x9 = some b ∧ (hs_Sg T N R A B) b) ∧ (I = I9 ∧ L = L9))) (fun I9 L9 => I = I9 ∧ L = L9)) := by
  refine ⟨_, rfl, Nat.le_of_ble_eq_true rfl, fun V C S => ?_⟩
  show V 0 [(0, .ref r0), (1, .int n1)] [] (T, N, I, L, R) 0 0
  have gn1 := rg n1
  refine k_aload_n C rfl rfl rfl ?_
  obtain ⟨T_r0, A_r0, B_r0, ⟨r0_0, R_r0_0, H_r0_0⟩, ⟨r0_1, R_r0_1, H_r0_1⟩, ⟨r0_2, R_r0_2, H_r0_2⟩, ⟨r0_5, R_r0_5, H_r0_5⟩, ⟨r0_6, R_r0_6, H_r0_6⟩, ⟨r0_7, R_r0_7, H_r0_7⟩, ⟨r0_8, R_r0_8, H_r0_8⟩, ⟨r0_9, R_r0_9, H_r0_9⟩, ⟨r0_10, R_r0_10, H_r0_10⟩, ⟨r0_11, R_r0_11, H_r0_11⟩, ⟨r0_12, R_r0_12, H_r0_12⟩, ⟨r0_13, R_r0_13, H_r0_13⟩⟩ := id H_r0
  refine g_R C rfl rfl rfl T_r0 rfl R_r0_1 ?_
  refine k_iload_n C rfl rfl rfl ?_
  obtain ⟨T_r0_1, A_r0_1, B_r0_1, ⟨r0_1_6, R_r0_1_6, H_r0_1_6⟩, ⟨r0_1_7, R_r0_1_7, H_r0_1_7⟩, ⟨r0_1_8, R_r0_1_8, H_r0_1_8⟩, ⟨r0_1_9, R_r0_1_9, H_r0_1_9⟩, ⟨r0_1_10, R_r0_1_10, H_r0_1_10⟩⟩ := id H_r0_1
  refine c_VR C (s_X8_signsAt hS hI H_r0_1) rfl rfl rfl rfl rfl ⟨_, rfl, rfl, T_r0_1, Nat.le_of_ble_eq_true rfl⟩ rfl rfl (Nat.le_of_ble_eq_true rfl) (Nat.le_of_ble_eq_true rfl) (Nat.le_of_ble_eq_true rfl) ?_
  rintro yy1 _ _ ⟨hyy1, rfl, rfl⟩
  refine k_astore_nV C (x := yy1) (lw := [(2, va_rf yy1), (0, .ref r0), (1, .int n1)]) rfl rfl (Nat.le_of_ble_eq_true rfl) rfl ?_
  refine k_aload_nV C (x := yy1) rfl rfl rfl ?_
  refine k_ifnonnull C (x := yy1) (t := 21) rfl rfl rfl (fun c2 => ?_) (fun rr3 c2 => ?_)
  · skip
    subst c2
    exact k_throw C rfl rfl rfl rfl rfl rfl (Nat.le_of_ble_eq_true rfl) (Nat.le_of_ble_eq_true rfl) (Nat.le_of_ble_eq_true rfl) (Or.inr ⟨_, _, _, (by decide : 3 ∈ [3]), rfl, rfl, rfl, rfl⟩)
  subst c2
  have H_rr3 := hyy1 rr3 rfl
  refine k_aload_n C rfl rfl rfl ?_
  exact k_aret C (x := some _) rfl (Or.inl ⟨_, rfl⟩) (Nat.le_of_ble_eq_true rfl) (Nat.le_of_ble_eq_true rfl) (Or.inl ⟨_, _, _, rfl, rfl, ⟨_, rfl, H_rr3⟩, rfl, rfl⟩)

theorem s_X11_degreeOrNumber {d : Nat} {T N : Nat → Nat} {I : IT} {L : LT} {R : RT} {A B : Nat → Prop} {r0 : Nat} {n1 : Int32} (hS : SUB B A) (hI : IX A T I) (H_r0 : (hs_F T N R A B) r0) : Ex (d + 2) 136 [.ref r0, .int n1] (T, N, I, L, R) 0 0 (pI T N R (fun x9 I9 L9 => (I = I9 ∧ L = L9))) := by
  refine ⟨_, rfl, Nat.le_of_ble_eq_true rfl, fun V C S => ?_⟩
  show V 0 [(0, .ref r0), (1, .int n1)] [] (T, N, I, L, R) 0 0
  have gn1 := rg n1
  refine k_iload_n C rfl rfl rfl ?_
  refine z_iconst C (z := -1) rfl rfl rfl (fun x1 ex1 => ?_)
  refine b_icmp_ne C (t := 10) rfl rfl rfl (fun c2 => ?_) (fun c2 => ?_)
  · skip
    refine k_iload_n C rfl rfl rfl ?_
    refine b_if_lt C (t := 22) rfl rfl rfl (fun c3 => ?_) (fun c3 => ?_)
    · skip
      refine z_iconst C (z := -1) rfl rfl rfl (fun x4 ex4 => ?_)
      refine k_goto C (pc2 := 31) rfl rfl ?_
      exact k_iret C rfl (Or.inl rfl) (Nat.le_of_ble_eq_true rfl) (Nat.le_of_ble_eq_true rfl) ⟨_, _, _, rfl, rfl, rfl, rfl⟩
    refine k_iload_n C rfl rfl rfl ?_
    refine k_aload_n C rfl rfl rfl ?_
    obtain ⟨T_r0, A_r0, ⟨r0_1, R_r0_1, H_r0_1⟩⟩ := id H_r0
    refine z_gI C rfl rfl rfl T_r0 rfl (fun x5 ex5 => ?_)
    have gx5 := rg x5
    have ox5 := IX.deg hI A_r0 T_r0 ex5
    refine b_icmp_le C (t := 26) rfl rfl rfl (fun c6 => ?_) (fun c6 => ?_)
    · skip
      refine k_aload_n C rfl rfl rfl ?_
      refine k_iload_n C rfl rfl rfl ?_
      refine c_VI C (s_X2_get hS hI H_r0) rfl rfl rfl rfl rfl ⟨_, rfl, rfl, T_r0, Nat.le_of_ble_eq_true rfl⟩ rfl rfl (Nat.le_of_ble_eq_true rfl) (Nat.le_of_ble_eq_true rfl) (Nat.le_of_ble_eq_true rfl) ?_
      rintro x7 _ _ ⟨rfl, rfl⟩
      have gx7 := rg x7
      exact k_iret C rfl (Or.inl rfl) (Nat.le_of_ble_eq_true rfl) (Nat.le_of_ble_eq_true rfl) ⟨_, _, _, rfl, rfl, rfl, rfl⟩
    refine z_iconst C (z := -1) rfl rfl rfl (fun x8 ex8 => ?_)
    refine k_goto C (pc2 := 31) rfl rfl ?_
    exact k_iret C rfl (Or.inl rfl) (Nat.le_of_ble_eq_true rfl) (Nat.le_of_ble_eq_true rfl) ⟨_, _, _, rfl, rfl, rfl, rfl⟩
  refine k_aload_n C rfl rfl rfl ?_
  obtain ⟨T_r0, A_r0, ⟨r0_1, R_r0_1, H_r0_1⟩⟩ := id H_r0
  refine z_gI C rfl rfl rfl T_r0 rfl (fun x9 ex9 => ?_)
  have gx9 := rg x9
  have ox9 := IX.deg hI A_r0 T_r0 ex9
  exact k_iret C rfl (Or.inl rfl) (Nat.le_of_ble_eq_true rfl) (Nat.le_of_ble_eq_true rfl) ⟨_, _, _, rfl, rfl, rfl, rfl⟩

theorem s_X11_look {d : Nat} {T N : Nat → Nat} {I : IT} {L : LT} {R : RT} {A B : Nat → Prop} {r0 : Nat} {n1 n2 : Int32} (hS : SUB B A) (hI : IX A T I) (H_r0 : (hs_LF T N R A B) r0) : Ex (d + 4) 137 [.ref r0, .int n1, .int n2] (T, N, I, L, R) 1 6 (pW [3] T N R (pI T N R (fun x9 I9 L9 => (I = I9 ∧ L = L9))) (fun I9 L9 => I = I9 ∧ L = L9)) := by
  refine ⟨_, rfl, Nat.le_of_ble_eq_true rfl, fun V C S => ?_⟩
  show V 0 [(0, .ref r0), (1, .int n1), (2, .int n2)] [] (T, N, I, L, R) 0 0
  have gn1 := rg n1
  have gn2 := rg n2
  refine k_aload_n C rfl rfl rfl ?_
  refine k_iload_n C rfl rfl rfl ?_
  obtain ⟨T_r0, A_r0, B_r0, ⟨r0_0, R_r0_0, H_r0_0⟩, ⟨r0_1, R_r0_1, H_r0_1⟩, ⟨r0_2, R_r0_2, H_r0_2⟩, ⟨r0_5, R_r0_5, H_r0_5⟩, ⟨r0_6, R_r0_6, H_r0_6⟩, ⟨r0_7, R_r0_7, H_r0_7⟩, ⟨r0_8, R_r0_8, H_r0_8⟩, ⟨r0_9, R_r0_9, H_r0_9⟩, ⟨r0_10, R_r0_10, H_r0_10⟩, ⟨r0_11, R_r0_11, H_r0_11⟩, ⟨r0_12, R_r0_12, H_r0_12⟩, ⟨r0_13, R_r0_13, H_r0_13⟩⟩ := id H_r0
  refine w_VR C (s_X11_toldForm hS hI H_r0) rfl rfl rfl rfl rfl ⟨_, rfl, rfl, T_r0, Nat.le_of_ble_eq_true rfl⟩ rfl rfl (Nat.le_of_ble_eq_true rfl) (Nat.le_of_ble_eq_true rfl) (Nat.le_of_ble_eq_true rfl) (by decide) (fun e9 he I9 L9 hq => by obtain ⟨rfl, rfl⟩ := hq; exact Or.inl ⟨rfl, Or.inr ⟨e9, _, _, (by decide : ∀ z ∈ [3], z ∈ [3]) e9 he, rfl, rfl, rfl, rfl⟩⟩) ?_
  rintro yy1 _ _ ⟨hyy1, rfl, rfl⟩
  obtain ⟨rr2, err2, H_rr2⟩ := hyy1
  subst err2
  refine k_iload_n C rfl rfl rfl ?_
  refine c_SI C (s_X11_degreeOrNumber hS hI H_rr2) rfl rfl rfl rfl rfl rfl rfl (Nat.le_of_ble_eq_true rfl) (Nat.le_of_ble_eq_true rfl) (Nat.le_of_ble_eq_true rfl) ?_
  rintro x3 _ _ ⟨rfl, rfl⟩
  have gx3 := rg x3
  exact k_iret C rfl (Or.inl rfl) (Nat.le_of_ble_eq_true rfl) (Nat.le_of_ble_eq_true rfl) (Or.inl ⟨_, _, _, rfl, rfl, rfl, rfl⟩)

theorem s_X11_at {d : Nat} {T N : Nat → Nat} {I : IT} {L : LT} {R : RT} {A B : Nat → Prop} {r0 : Nat} {n1 n2 n3 : Int32} (hS : SUB B A) (hI : IX A T I) (H_r0 : (hs_LF T N R A B) r0) : Ex (d + 4) 138 [.ref r0, .int n1, .int n2, .int n3] (T, N, I, L, R) 1 6 (pW [3] T N R (pI T N R (fun x9 I9 L9 => (I = I9 ∧ L = L9))) (fun I9 L9 => I = I9 ∧ L = L9)) := by
  refine ⟨_, rfl, Nat.le_of_ble_eq_true rfl, fun V C S => ?_⟩
  show V 0 [(0, .ref r0), (1, .int n1), (2, .int n2), (3, .int n3)] [] (T, N, I, L, R) 0 0
  have gn1 := rg n1
  have gn2 := rg n2
  have gn3 := rg n3
  refine k_aload_n C rfl rfl rfl ?_
  refine k_iload_n C rfl rfl rfl ?_
  obtain ⟨T_r0, A_r0, B_r0, ⟨r0_0, R_r0_0, H_r0_0⟩, ⟨r0_1, R_r0_1, H_r0_1⟩, ⟨r0_2, R_r0_2, H_r0_2⟩, ⟨r0_5, R_r0_5, H_r0_5⟩, ⟨r0_6, R_r0_6, H_r0_6⟩, ⟨r0_7, R_r0_7, H_r0_7⟩, ⟨r0_8, R_r0_8, H_r0_8⟩, ⟨r0_9, R_r0_9, H_r0_9⟩, ⟨r0_10, R_r0_10, H_r0_10⟩, ⟨r0_11, R_r0_11, H_r0_11⟩, ⟨r0_12, R_r0_12, H_r0_12⟩, ⟨r0_13, R_r0_13, H_r0_13⟩⟩ := id H_r0
  refine w_VR C (s_X11_toldForm hS hI H_r0) rfl rfl rfl rfl rfl ⟨_, rfl, rfl, T_r0, Nat.le_of_ble_eq_true rfl⟩ rfl rfl (Nat.le_of_ble_eq_true rfl) (Nat.le_of_ble_eq_true rfl) (Nat.le_of_ble_eq_true rfl) (by decide) (fun e9 he I9 L9 hq => by obtain ⟨rfl, rfl⟩ := hq; exact Or.inl ⟨rfl, Or.inr ⟨e9, _, _, (by decide : ∀ z ∈ [3], z ∈ [3]) e9 he, rfl, rfl, rfl, rfl⟩⟩) ?_
  rintro yy1 _ _ ⟨hyy1, rfl, rfl⟩
  obtain ⟨rr2, err2, H_rr2⟩ := hyy1
  subst err2
  refine k_astore C (lw := [(4, .ref rr2), (0, .ref r0), (1, .int n1), (2, .int n2), (3, .int n3)]) rfl rfl (Nat.le_of_ble_eq_true rfl) rfl ?_
  refine k_aload_n C rfl rfl rfl ?_
  refine g_R C rfl rfl rfl T_r0 rfl R_r0_5 ?_
  refine k_aload C rfl rfl rfl ?_
  refine k_aload_n C rfl rfl rfl ?_
  refine g_R C rfl rfl rfl T_r0 rfl R_r0_5 ?_
  refine k_iload_n C rfl rfl rfl ?_
  refine z_i2l C rfl rfl (fun lg3 elg3 => ?_)
  obtain ⟨T_r0_5, A_r0_5, B_r0_5, ⟨r0_5_0, R_r0_5_0, H_r0_5_0⟩, ⟨r0_5_1, R_r0_5_1, H_r0_5_1⟩, ⟨r0_5_2, R_r0_5_2, H_r0_5_2⟩⟩ := id H_r0_5
  refine c_VI C (s_X0_of hS hI H_r0_5) rfl rfl rfl rfl rfl ⟨_, rfl, rfl, T_r0_5, Nat.le_of_ble_eq_true rfl⟩ rfl rfl (Nat.le_of_ble_eq_true rfl) (Nat.le_of_ble_eq_true rfl) (Nat.le_of_ble_eq_true rfl) ?_
  rintro x4 _ _ ⟨rfl, rfl⟩
  have gx4 := rg x4
  refine k_aload_n C rfl rfl rfl ?_
  refine g_R C rfl rfl rfl T_r0 rfl R_r0_5 ?_
  refine k_iload_n C rfl rfl rfl ?_
  refine z_i2l C rfl rfl (fun lg5 elg5 => ?_)
  refine c_VI C (s_X0_of hS hI H_r0_5) rfl rfl rfl rfl rfl ⟨_, rfl, rfl, T_r0_5, Nat.le_of_ble_eq_true rfl⟩ rfl rfl (Nat.le_of_ble_eq_true rfl) (Nat.le_of_ble_eq_true rfl) (Nat.le_of_ble_eq_true rfl) ?_
  rintro x6 _ _ ⟨rfl, rfl⟩
  have gx6 := rg x6
  refine c_VI C (s_X0_worth hS hI H_r0_5 H_rr2) rfl rfl rfl rfl rfl ⟨_, rfl, rfl, T_r0_5, Nat.le_of_ble_eq_true rfl⟩ rfl rfl (Nat.le_of_ble_eq_true rfl) (Nat.le_of_ble_eq_true rfl) (Nat.le_of_ble_eq_true rfl) ?_
  rintro x7 _ _ ⟨rfl, rfl⟩
  have gx7 := rg x7
  exact k_iret C rfl (Or.inl rfl) (Nat.le_of_ble_eq_true rfl) (Nat.le_of_ble_eq_true rfl) (Or.inl ⟨_, _, _, rfl, rfl, rfl, rfl⟩)

theorem s_X11_det {d : Nat} {T N : Nat → Nat} {I : IT} {L : LT} {R : RT} {A B : Nat → Prop} {r0 : Nat} {n1 : Int32} (hS : SUB B A) (hI : IX A T I) (H_r0 : (hs_LF T N R A B) r0) : Ex (d + 3) 139 [.ref r0, .int n1] (T, N, I, L, R) 1 6 (pW [3] T N R (pI T N R (fun x9 I9 L9 => (I = I9 ∧ L = L9))) (fun I9 L9 => I = I9 ∧ L = L9)) := by
  refine ⟨_, rfl, Nat.le_of_ble_eq_true rfl, fun V C S => ?_⟩
  show V 0 [(0, .ref r0), (1, .int n1)] [] (T, N, I, L, R) 0 0
  have gn1 := rg n1
  refine k_aload_n C rfl rfl rfl ?_
  refine k_iload_n C rfl rfl rfl ?_
  obtain ⟨T_r0, A_r0, B_r0, ⟨r0_0, R_r0_0, H_r0_0⟩, ⟨r0_1, R_r0_1, H_r0_1⟩, ⟨r0_2, R_r0_2, H_r0_2⟩, ⟨r0_5, R_r0_5, H_r0_5⟩, ⟨r0_6, R_r0_6, H_r0_6⟩, ⟨r0_7, R_r0_7, H_r0_7⟩, ⟨r0_8, R_r0_8, H_r0_8⟩, ⟨r0_9, R_r0_9, H_r0_9⟩, ⟨r0_10, R_r0_10, H_r0_10⟩, ⟨r0_11, R_r0_11, H_r0_11⟩, ⟨r0_12, R_r0_12, H_r0_12⟩, ⟨r0_13, R_r0_13, H_r0_13⟩⟩ := id H_r0
  refine w_VR C (s_X11_toldTable hS hI H_r0) rfl rfl rfl rfl rfl ⟨_, rfl, rfl, T_r0, Nat.le_of_ble_eq_true rfl⟩ rfl rfl (Nat.le_of_ble_eq_true rfl) (Nat.le_of_ble_eq_true rfl) (Nat.le_of_ble_eq_true rfl) (by decide) (fun e9 he I9 L9 hq => by obtain ⟨rfl, rfl⟩ := hq; exact Or.inl ⟨rfl, Or.inr ⟨e9, _, _, (by decide : ∀ z ∈ [3], z ∈ [3]) e9 he, rfl, rfl, rfl, rfl⟩⟩) ?_
  rintro yy1 _ _ ⟨hyy1, rfl, rfl⟩
  obtain ⟨rr2, err2, H_rr2⟩ := hyy1
  subst err2
  refine k_astore_n C (lw := [(2, .ref rr2), (0, .ref r0), (1, .int n1)]) rfl rfl (Nat.le_of_ble_eq_true rfl) rfl ?_
  refine k_aload_n C rfl rfl rfl ?_
  refine g_R C rfl rfl rfl T_r0 rfl R_r0_5 ?_
  refine k_aload_n C rfl rfl rfl ?_
  obtain ⟨T_rr2, A_rr2, B_rr2⟩ := id H_rr2
  refine z_gI C rfl rfl rfl T_rr2 rfl (fun x3 ex3 => ?_)
  have gx3 := rg x3
  refine k_aload_n C rfl rfl rfl ?_
  refine z_gI C rfl rfl rfl T_rr2 rfl (fun x4 ex4 => ?_)
  have gx4 := rg x4
  refine k_aload_n C rfl rfl rfl ?_
  refine z_gI C rfl rfl rfl T_rr2 rfl (fun x5 ex5 => ?_)
  have gx5 := rg x5
  refine k_aload_n C rfl rfl rfl ?_
  refine z_gI C rfl rfl rfl T_rr2 rfl (fun x6 ex6 => ?_)
  have gx6 := rg x6
  obtain ⟨T_r0_5, A_r0_5, B_r0_5, ⟨r0_5_0, R_r0_5_0, H_r0_5_0⟩, ⟨r0_5_1, R_r0_5_1, H_r0_5_1⟩, ⟨r0_5_2, R_r0_5_2, H_r0_5_2⟩⟩ := id H_r0_5
  refine c_VI C (s_X0_detOf hS hI H_r0_5) rfl rfl rfl rfl rfl ⟨_, rfl, rfl, T_r0_5, Nat.le_of_ble_eq_true rfl⟩ rfl rfl (Nat.le_of_ble_eq_true rfl) (Nat.le_of_ble_eq_true rfl) (Nat.le_of_ble_eq_true rfl) ?_
  rintro x7 _ _ ⟨rfl, rfl⟩
  have gx7 := rg x7
  exact k_iret C rfl (Or.inl rfl) (Nat.le_of_ble_eq_true rfl) (Nat.le_of_ble_eq_true rfl) (Or.inl ⟨_, _, _, rfl, rfl, rfl, rfl⟩)

theorem s_X11_told {d : Nat} {T N : Nat → Nat} {I : IT} {L : LT} {R : RT} {A B : Nat → Prop} {r0 : Nat} {n1 n2 : Int32} (hS : SUB B A) (hI : IX A T I) (H_r0 : (hs_LF T N R A B) r0) : Ex (d + 3) 140 [.ref r0, .int n1, .int n2] (T, N, I, L, R) 1 6 (pW [3] T N R (pI T N R (fun x9 I9 L9 => (I = I9 ∧ L = L9))) (fun I9 L9 => I = I9 ∧ L = L9)) := by
  refine ⟨_, rfl, Nat.le_of_ble_eq_true rfl, fun V C S => ?_⟩
  show V 0 [(0, .ref r0), (1, .int n1), (2, .int n2)] [] (T, N, I, L, R) 0 0
  have gn1 := rg n1
  have gn2 := rg n2
  refine k_aload_n C rfl rfl rfl ?_
  refine k_iload_n C rfl rfl rfl ?_
  obtain ⟨T_r0, A_r0, B_r0, ⟨r0_0, R_r0_0, H_r0_0⟩, ⟨r0_1, R_r0_1, H_r0_1⟩, ⟨r0_2, R_r0_2, H_r0_2⟩, ⟨r0_5, R_r0_5, H_r0_5⟩, ⟨r0_6, R_r0_6, H_r0_6⟩, ⟨r0_7, R_r0_7, H_r0_7⟩, ⟨r0_8, R_r0_8, H_r0_8⟩, ⟨r0_9, R_r0_9, H_r0_9⟩, ⟨r0_10, R_r0_10, H_r0_10⟩, ⟨r0_11, R_r0_11, H_r0_11⟩, ⟨r0_12, R_r0_12, H_r0_12⟩, ⟨r0_13, R_r0_13, H_r0_13⟩⟩ := id H_r0
  refine w_VR C (s_X11_toldTable hS hI H_r0) rfl rfl rfl rfl rfl ⟨_, rfl, rfl, T_r0, Nat.le_of_ble_eq_true rfl⟩ rfl rfl (Nat.le_of_ble_eq_true rfl) (Nat.le_of_ble_eq_true rfl) (Nat.le_of_ble_eq_true rfl) (by decide) (fun e9 he I9 L9 hq => by obtain ⟨rfl, rfl⟩ := hq; exact Or.inl ⟨rfl, Or.inr ⟨e9, _, _, (by decide : ∀ z ∈ [3], z ∈ [3]) e9 he, rfl, rfl, rfl, rfl⟩⟩) ?_
  rintro yy1 _ _ ⟨hyy1, rfl, rfl⟩
  obtain ⟨rr2, err2, H_rr2⟩ := hyy1
  subst err2
  refine k_astore_n C (lw := [(3, .ref rr2), (0, .ref r0), (1, .int n1), (2, .int n2)]) rfl rfl (Nat.le_of_ble_eq_true rfl) rfl ?_
  refine k_iload_n C rfl rfl rfl ?_
  refine k_table C rfl (by decide) (fun c3 => ?_) (fun c3 c4 => ?_)
  · skip
    show V 56 _ _ _ _ _
    refine z_iconst C (z := -1) rfl rfl rfl (fun x5 ex5 => ?_)
    exact k_iret C rfl (Or.inl rfl) (Nat.le_of_ble_eq_true rfl) (Nat.le_of_ble_eq_true rfl) (Or.inl ⟨_, _, _, rfl, rfl, rfl, rfl⟩)
  have h6 : n2.toInt = 0 ∨ n2.toInt = 1 ∨ n2.toInt = 2 ∨ n2.toInt = 3 := by omega
  rcases h6 with h6 | h6 | h6 | h6
  · skip
    refine ⟨29, by rw [h6]; rfl, by decide, ?_⟩
    show V 36 _ _ _ _ _
    refine k_aload_n C rfl rfl rfl ?_
    obtain ⟨T_rr2, A_rr2, B_rr2⟩ := id H_rr2
    refine z_gI C rfl rfl rfl T_rr2 rfl (fun x7 ex7 => ?_)
    have gx7 := rg x7
    exact k_iret C rfl (Or.inl rfl) (Nat.le_of_ble_eq_true rfl) (Nat.le_of_ble_eq_true rfl) (Or.inl ⟨_, _, _, rfl, rfl, rfl, rfl⟩)
  · skip
    refine ⟨34, by rw [h6]; rfl, by decide, ?_⟩
    show V 41 _ _ _ _ _
    refine k_aload_n C rfl rfl rfl ?_
    obtain ⟨T_rr2, A_rr2, B_rr2⟩ := id H_rr2
    refine z_gI C rfl rfl rfl T_rr2 rfl (fun x8 ex8 => ?_)
    have gx8 := rg x8
    exact k_iret C rfl (Or.inl rfl) (Nat.le_of_ble_eq_true rfl) (Nat.le_of_ble_eq_true rfl) (Or.inl ⟨_, _, _, rfl, rfl, rfl, rfl⟩)
  · skip
    refine ⟨39, by rw [h6]; rfl, by decide, ?_⟩
    show V 46 _ _ _ _ _
    refine k_aload_n C rfl rfl rfl ?_
    obtain ⟨T_rr2, A_rr2, B_rr2⟩ := id H_rr2
    refine z_gI C rfl rfl rfl T_rr2 rfl (fun x9 ex9 => ?_)
    have gx9 := rg x9
    exact k_iret C rfl (Or.inl rfl) (Nat.le_of_ble_eq_true rfl) (Nat.le_of_ble_eq_true rfl) (Or.inl ⟨_, _, _, rfl, rfl, rfl, rfl⟩)
  · skip
    refine ⟨44, by rw [h6]; rfl, by decide, ?_⟩
    show V 51 _ _ _ _ _
    refine k_aload_n C rfl rfl rfl ?_
    obtain ⟨T_rr2, A_rr2, B_rr2⟩ := id H_rr2
    refine z_gI C rfl rfl rfl T_rr2 rfl (fun x10 ex10 => ?_)
    have gx10 := rg x10
    exact k_iret C rfl (Or.inl rfl) (Nat.le_of_ble_eq_true rfl) (Nat.le_of_ble_eq_true rfl) (Or.inl ⟨_, _, _, rfl, rfl, rfl, rfl⟩)

