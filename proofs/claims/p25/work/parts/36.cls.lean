/-! the class in any state -/
theorem a_X6_pointX {d : Nat} {T N : Nat → Nat} {I : IT} {L : LT} {R : RT} {A : Nat → Prop} {n0 : Int32} (hI : IX A T I)  : Ex (d + 1) 85 [.int n0] (T, N, I, L, R) 0 0 (pI T N R (fun x9 I9 L9 => (I = I9 ∧ L = L9))) := by
  refine ⟨_, rfl, Nat.le_of_ble_eq_true rfl, fun V C S => ?_⟩
  show V 0 [(0, .int n0)] [] (T, N, I, L, R) 0 0
  have gn0 := rg n0
  refine k_iload_n C rfl rfl rfl ?_
  refine b_if_ne C (t := 8) rfl rfl rfl (fun c1 => ?_) (fun c1 => ?_)
  · skip
    refine k_iload_n C rfl rfl rfl ?_
    refine z_iconst C (z := 1) rfl rfl rfl (fun x2 ex2 => ?_)
    refine zt_isub C rfl rfl (fun x3 => ?_)
    have gx3 := rg x3
    exact k_iret C rfl (Or.inl rfl) (Nat.le_of_ble_eq_true rfl) (Nat.le_of_ble_eq_true rfl) ⟨_, _, _, rfl, rfl, rfl, rfl⟩
  refine z_iconst C (z := 1) rfl rfl rfl (fun x4 ex4 => ?_)
  refine k_goto C (pc2 := 11) rfl rfl ?_
  exact k_iret C rfl (Or.inl rfl) (Nat.le_of_ble_eq_true rfl) (Nat.le_of_ble_eq_true rfl) ⟨_, _, _, rfl, rfl, rfl, rfl⟩

theorem a_X6_pointY {d : Nat} {T N : Nat → Nat} {I : IT} {L : LT} {R : RT} {A : Nat → Prop} {n0 : Int32} (hI : IX A T I)  : Ex (d + 1) 86 [.int n0] (T, N, I, L, R) 0 0 (pI T N R (fun x9 I9 L9 => (0 ≤ x9.toInt) ∧ (x9.toInt ≤ 1) ∧ (I = I9 ∧ L = L9))) := by
  refine ⟨_, rfl, Nat.le_of_ble_eq_true rfl, fun V C S => ?_⟩
  show V 0 [(0, .int n0)] [] (T, N, I, L, R) 0 0
  have gn0 := rg n0
  refine k_iload_n C rfl rfl rfl ?_
  refine b_if_ne C (t := 8) rfl rfl rfl (fun c1 => ?_) (fun c1 => ?_)
  · skip
    refine z_iconst C (z := 1) rfl rfl rfl (fun x2 ex2 => ?_)
    exact k_iret C rfl (Or.inl rfl) (Nat.le_of_ble_eq_true rfl) (Nat.le_of_ble_eq_true rfl) ⟨_, _, _, rfl, rfl, by omega, by omega, rfl, rfl⟩
  refine z_iconst C (z := 0) rfl rfl rfl (fun x3 ex3 => ?_)
  refine k_goto C (pc2 := 9) rfl rfl ?_
  exact k_iret C rfl (Or.inl rfl) (Nat.le_of_ble_eq_true rfl) (Nat.le_of_ble_eq_true rfl) ⟨_, _, _, rfl, rfl, by omega, by omega, rfl, rfl⟩

theorem a_X6_aim {d : Nat} {T N : Nat → Nat} {I : IT} {L : LT} {R : RT} {A : Nat → Prop} {r0 r1 r2 : Nat} (hI : IX A T I) (H_r0 : (h_Se T N R A) r0) (H_r1 : (h_F T N R A) r1) (H_r2 : (h_F T N R A) r2) : Ex (d + 3) 87 [.ref r0, .ref r1, .ref r2] (T, N, I, L, R) 0 0 (pV T N R (fun I9 L9 => (IX A T I9 ∧ Chg A T [] I L I9 L9))) := by
  refine ⟨_, rfl, Nat.le_of_ble_eq_true rfl, fun V C S => ?_⟩
  show V 0 [(0, .ref r0), (1, .ref r1), (2, .ref r2)] [] (T, N, I, L, R) 0 0
  refine z_iconst C (z := 0) rfl rfl rfl (fun x1 ex1 => ?_)
  have J2 : ∀ (nn3 : Nat) (I4 : IT) (L5 : LT) (x6 : Int32), ((9 - x6.toInt).toNat = nn3) → (IX A T I4) → (Chg A T [] I L I4 L5) → (0 ≤ x6.toInt) → (x6.toInt ≤ 9) → V 2 [(0, .ref r0), (1, .ref r1), (2, .ref r2), (3, .int x6)] [] (T, N, I4, L5, R) 0 0 := by
    intro nn3
    induction nn3 using Nat.strongRecOn with
    | _ nn3 ihJ2 =>
      intro I4 L5 x6 hmnn3 hI10 S9 b7 b8
      have gx6 := rg x6
      refine k_iload_n C rfl rfl rfl ?_
      refine k_aload_n C rfl rfl rfl ?_
      obtain ⟨T_r2, A_r2, ⟨r2_1, R_r2_1, H_r2_1⟩⟩ := id H_r2
      refine z_gI C rfl rfl rfl T_r2 rfl (fun x11 ex11 => ?_)
      have gx11 := rg x11
      have ox11 := IX.deg hI10 A_r2 T_r2 ex11
      refine b_icmp_gt C (t := 47) rfl rfl rfl (fun c12 => ?_) (fun c12 => ?_)
      · skip
        refine z_iconst C (z := 0) rfl rfl rfl (fun x13 ex13 => ?_)
        have J14 : ∀ (nn15 : Nat) (I16 : IT) (L17 : LT) (x18 : Int32), ((19 - x18.toInt).toNat = nn15) → (IX A T I16) → (Chg A T [] I4 L5 I16 L17) → (0 ≤ x18.toInt) → (x18.toInt ≤ 19) → V 49 [(0, .ref r0), (1, .ref r1), (3, .int x18)] [] (T, N, I16, L17, R) 0 0 := by
          intro nn15
          induction nn15 using Nat.strongRecOn with
          | _ nn15 ihJ14 =>
            intro I16 L17 x18 hmnn15 hI22 S21 b19 b20
            have gx18 := rg x18
            have e23 := Chg.k S21 T_r2 (by decide) (by decide) ex11
            refine k_iload_n C rfl rfl rfl ?_
            refine k_aload_n C rfl rfl rfl ?_
            obtain ⟨T_r0, A_r0, ⟨r0_2, R_r0_2, H_r0_2⟩, ⟨r0_3, R_r0_3, H_r0_3⟩, ⟨r0_4, R_r0_4, H_r0_4⟩, ⟨r0_5, R_r0_5, H_r0_5⟩, ⟨r0_6, R_r0_6, H_r0_6⟩⟩ := id H_r0
            refine g_R C rfl rfl rfl T_r0 rfl R_r0_2 ?_
            obtain ⟨T_r0_2, A_r0_2, ⟨r0_2_0, R_r0_2_0, H_r0_2_0⟩, ⟨r0_2_1, R_r0_2_1, H_r0_2_1⟩, ⟨r0_2_2, R_r0_2_2, H_r0_2_2⟩⟩ := id H_r0_2
            refine c_VI C (a_X0_p hI22 H_r0_2) rfl rfl rfl rfl rfl ⟨_, rfl, rfl, T_r0_2, Nat.le_of_ble_eq_true rfl⟩ rfl rfl (Nat.le_of_ble_eq_true rfl) (Nat.le_of_ble_eq_true rfl) (Nat.le_of_ble_eq_true rfl) ?_
            rintro x24 _ _ ⟨o0x24, o1x24, rfl, rfl⟩
            have gx24 := rg x24
            refine b_icmp_ge C (t := 124) rfl rfl rfl (fun c25 => ?_) (fun c25 => ?_)
            · skip
              exact k_vret C rfl rfl (Nat.le_of_ble_eq_true rfl) (Nat.le_of_ble_eq_true rfl) ⟨_, _, rfl, rfl, hI22, (Chg.cons S9 (Chg.mono S21 (by decide)) (by decide))⟩
            refine z_iconst C (z := 0) rfl rfl rfl (fun x26 ex26 => ?_)
            have J27 : ∀ (nn28 : Nat) (I29 : IT) (L30 : LT) (x31 : Int32), ((19 - x31.toInt).toNat = nn28) → (IX A T I29) → (Chg A T [] I16 L17 I29 L30) → (0 ≤ x31.toInt) → (x31.toInt ≤ 19) → V 63 [(0, .ref r0), (1, .ref r1), (3, .int x18), (4, .int x31)] [] (T, N, I29, L30, R) 0 0 := by
              intro nn28
              induction nn28 using Nat.strongRecOn with
              | _ nn28 ihJ27 =>
                intro I29 L30 x31 hmnn28 hI35 S34 b32 b33
                have gx31 := rg x31
                have e36 := Chg.k S34 T_r2 (by decide) (by decide) e23
                refine k_iload C rfl rfl rfl ?_
                refine k_aload_n C rfl rfl rfl ?_
                refine g_R C rfl rfl rfl T_r0 rfl R_r0_2 ?_
                refine c_VI C (a_X0_p hI35 H_r0_2) rfl rfl rfl rfl rfl ⟨_, rfl, rfl, T_r0_2, Nat.le_of_ble_eq_true rfl⟩ rfl rfl (Nat.le_of_ble_eq_true rfl) (Nat.le_of_ble_eq_true rfl) (Nat.le_of_ble_eq_true rfl) ?_
                rintro x37 _ _ ⟨o0x37, o1x37, rfl, rfl⟩
                have gx37 := rg x37
                refine b_icmp_ge C (t := 118) rfl rfl rfl (fun c38 => ?_) (fun c38 => ?_)
                · skip
                  refine z_iinc C (z := 1) (lw := fun x39 => [(3, .int x39), (0, .ref r0), (1, .ref r1), (4, .int x31)]) rfl rfl rfl (Nat.le_of_ble_eq_true rfl) rfl ⟨by omega, by omega⟩ (fun _ => rfl) (fun x39 ex39 => ?_)
                  show V 121 [(3, .int x39), (0, .ref r0), (1, .ref r1), (4, .int x31)] _ _ _ _
                  refine k_goto C (pc2 := 49) rfl rfl ?_
                  refine k_sub S [(0, .ref r0), (1, .ref r1), (3, .int x39)] (List.forall_mem_cons.mpr ⟨List.mem_of_getElem? (i := 1) rfl, List.forall_mem_cons.mpr ⟨List.mem_of_getElem? (i := 2) rfl, List.forall_mem_cons.mpr ⟨List.mem_of_getElem? (i := 0) rfl, fun _ h => nomatch h⟩⟩⟩) ?_
                  exact ihJ14 _ (by omega) I29 L30 x39 rfl hI35 (Chg.cons S21 (Chg.mono S34 (by decide)) (by decide)) (by omega) (by omega)
                refine k_iload_n C rfl rfl rfl ?_
                refine z_bipush C (z := 20) rfl rfl rfl (fun x40 ex40 => ?_)
                refine z_imulR C (c := 20) rfl rfl (by omega) ⟨by omega, by omega⟩ (fun x41 ex41 => ?_)
                refine k_iload C rfl rfl rfl ?_
                refine z_iadd C rfl rfl ⟨by omega, by omega⟩ (fun x42 ex42 => ?_)
                refine k_istore C (lw := [(5, .int x42), (0, .ref r0), (1, .ref r1), (3, .int x18), (4, .int x31)]) rfl rfl (Nat.le_of_ble_eq_true rfl) rfl ?_
                refine k_iload C rfl rfl rfl ?_
                refine k_aload_n C rfl rfl rfl ?_
                refine g_R C rfl rfl rfl T_r0 rfl R_r0_3 ?_
                obtain ⟨T_r0_3, N_r0_3, A_r0_3⟩ := id H_r0_3
                refine z_len C (n := 400) rfl rfl (by rw [T_r0_3]; exact Nat.le_of_ble_eq_true rfl) N_r0_3 (Nat.le_of_ble_eq_true rfl) (fun x43 ex43 => ?_)
                refine b_icmp_ge C (t := 112) rfl rfl rfl (fun c44 => by exfalso; omega) (fun c44 => ?_)
                refine k_aload_n C rfl rfl rfl ?_
                refine g_R C rfl rfl rfl T_r0 rfl R_r0_3 ?_
                refine k_iload C rfl rfl rfl ?_
                refine k_aload_n C rfl rfl rfl ?_
                refine g_R C rfl rfl rfl T_r0 rfl R_r0_2 ?_
                refine k_aload_n C rfl rfl rfl ?_
                refine k_iload_n C rfl rfl rfl ?_
                refine k_iload C rfl rfl rfl ?_
                refine c_VI C (a_X0_worth hI35 H_r0_2 H_r1) rfl rfl rfl rfl rfl ⟨_, rfl, rfl, T_r0_2, Nat.le_of_ble_eq_true rfl⟩ rfl rfl (Nat.le_of_ble_eq_true rfl) (Nat.le_of_ble_eq_true rfl) (Nat.le_of_ble_eq_true rfl) ?_
                rintro x45 _ _ ⟨rfl, rfl⟩
                have gx45 := rg x45
                refine z_sI C rfl rfl T_r0_3 N_r0_3 (by omega) (by omega) (fun I46 uI46 => ?_)
                have hI46 : IX A T I46 := IX.a hI35 T_r0_3 (Nat.le_of_ble_eq_true rfl) uI46
                have S47 : Chg A T [] I29 L30 I46 L30 := Chg.a A_r0_3 T_r0_3 (Nat.le_of_ble_eq_true rfl) uI46
                have e48 := u2_n uI46 (t_nq T_r2 T_r0_3 (by decide)) e36
                refine z_iinc C (z := 1) (lw := fun x49 => [(4, .int x49), (5, .int x42), (0, .ref r0), (1, .ref r1), (3, .int x18)]) rfl rfl rfl (Nat.le_of_ble_eq_true rfl) rfl ⟨by omega, by omega⟩ (fun _ => rfl) (fun x49 ex49 => ?_)
                show V 115 [(4, .int x49), (5, .int x42), (0, .ref r0), (1, .ref r1), (3, .int x18)] _ _ _ _
                refine k_goto C (pc2 := 63) rfl rfl ?_
                refine k_sub S [(0, .ref r0), (1, .ref r1), (3, .int x18), (4, .int x49)] (List.forall_mem_cons.mpr ⟨List.mem_of_getElem? (i := 2) rfl, List.forall_mem_cons.mpr ⟨List.mem_of_getElem? (i := 3) rfl, List.forall_mem_cons.mpr ⟨List.mem_of_getElem? (i := 4) rfl, List.forall_mem_cons.mpr ⟨List.mem_of_getElem? (i := 0) rfl, fun _ h => nomatch h⟩⟩⟩⟩) ?_
                exact ihJ27 _ (by omega) I46 L30 x49 rfl hI46 (Chg.cons S34 (Chg.mono S47 (by decide)) (by decide)) (by omega) (by omega)
            refine k_istore C (lw := [(4, .int x26), (0, .ref r0), (1, .ref r1), (3, .int x18)]) rfl rfl (Nat.le_of_ble_eq_true rfl) rfl ?_
            refine k_sub S [(0, .ref r0), (1, .ref r1), (3, .int x18), (4, .int x26)] (List.forall_mem_cons.mpr ⟨List.mem_of_getElem? (i := 1) rfl, List.forall_mem_cons.mpr ⟨List.mem_of_getElem? (i := 2) rfl, List.forall_mem_cons.mpr ⟨List.mem_of_getElem? (i := 3) rfl, List.forall_mem_cons.mpr ⟨List.mem_of_getElem? (i := 0) rfl, fun _ h => nomatch h⟩⟩⟩⟩) ?_
            exact J27 _ I16 L17 x26 rfl hI22 Chg.rf (by omega) (by omega)
        refine k_istore_n C (lw := [(3, .int x13), (0, .ref r0), (1, .ref r1), (2, .ref r2)]) rfl rfl (Nat.le_of_ble_eq_true rfl) rfl ?_
        refine k_sub S [(0, .ref r0), (1, .ref r1), (3, .int x13)] (List.forall_mem_cons.mpr ⟨List.mem_of_getElem? (i := 1) rfl, List.forall_mem_cons.mpr ⟨List.mem_of_getElem? (i := 2) rfl, List.forall_mem_cons.mpr ⟨List.mem_of_getElem? (i := 0) rfl, fun _ h => nomatch h⟩⟩⟩) ?_
        exact J14 _ I4 L5 x13 rfl hI10 Chg.rf (by omega) (by omega)
      refine k_iload_n C rfl rfl rfl ?_
      refine k_aload_n C rfl rfl rfl ?_
      obtain ⟨T_r0, A_r0, ⟨r0_2, R_r0_2, H_r0_2⟩, ⟨r0_3, R_r0_3, H_r0_3⟩, ⟨r0_4, R_r0_4, H_r0_4⟩, ⟨r0_5, R_r0_5, H_r0_5⟩, ⟨r0_6, R_r0_6, H_r0_6⟩⟩ := id H_r0
      refine g_R C rfl rfl rfl T_r0 rfl R_r0_4 ?_
      obtain ⟨T_r0_4, N_r0_4, A_r0_4⟩ := id H_r0_4
      refine z_len C (n := 9) rfl rfl (by rw [T_r0_4]; exact Nat.le_of_ble_eq_true rfl) N_r0_4 (Nat.le_of_ble_eq_true rfl) (fun x50 ex50 => ?_)
      refine b_icmp_ge C (t := 47) rfl rfl rfl (fun c51 => ?_) (fun c51 => ?_)
      · skip
        refine z_iconst C (z := 0) rfl rfl rfl (fun x52 ex52 => ?_)
        have J53 : ∀ (nn54 : Nat) (I55 : IT) (L56 : LT) (x57 : Int32), ((19 - x57.toInt).toNat = nn54) → (IX A T I55) → (Chg A T [] I4 L5 I55 L56) → (0 ≤ x57.toInt) → (x57.toInt ≤ 19) → V 49 [(0, .ref r0), (1, .ref r1), (3, .int x57)] [] (T, N, I55, L56, R) 0 0 := by
          intro nn54
          induction nn54 using Nat.strongRecOn with
          | _ nn54 ihJ53 =>
            intro I55 L56 x57 hmnn54 hI61 S60 b58 b59
            have gx57 := rg x57
            have e62 := Chg.k S60 T_r2 (by decide) (by decide) ex11
            refine k_iload_n C rfl rfl rfl ?_
            refine k_aload_n C rfl rfl rfl ?_
            refine g_R C rfl rfl rfl T_r0 rfl R_r0_2 ?_
            obtain ⟨T_r0_2, A_r0_2, ⟨r0_2_0, R_r0_2_0, H_r0_2_0⟩, ⟨r0_2_1, R_r0_2_1, H_r0_2_1⟩, ⟨r0_2_2, R_r0_2_2, H_r0_2_2⟩⟩ := id H_r0_2
            refine c_VI C (a_X0_p hI61 H_r0_2) rfl rfl rfl rfl rfl ⟨_, rfl, rfl, T_r0_2, Nat.le_of_ble_eq_true rfl⟩ rfl rfl (Nat.le_of_ble_eq_true rfl) (Nat.le_of_ble_eq_true rfl) (Nat.le_of_ble_eq_true rfl) ?_
            rintro x63 _ _ ⟨o0x63, o1x63, rfl, rfl⟩
            have gx63 := rg x63
            refine b_icmp_ge C (t := 124) rfl rfl rfl (fun c64 => ?_) (fun c64 => ?_)
            · skip
              exact k_vret C rfl rfl (Nat.le_of_ble_eq_true rfl) (Nat.le_of_ble_eq_true rfl) ⟨_, _, rfl, rfl, hI61, (Chg.cons S9 (Chg.mono S60 (by decide)) (by decide))⟩
            refine z_iconst C (z := 0) rfl rfl rfl (fun x65 ex65 => ?_)
            have J66 : ∀ (nn67 : Nat) (I68 : IT) (L69 : LT) (x70 : Int32), ((19 - x70.toInt).toNat = nn67) → (IX A T I68) → (Chg A T [] I55 L56 I68 L69) → (0 ≤ x70.toInt) → (x70.toInt ≤ 19) → V 63 [(0, .ref r0), (1, .ref r1), (3, .int x57), (4, .int x70)] [] (T, N, I68, L69, R) 0 0 := by
              intro nn67
              induction nn67 using Nat.strongRecOn with
              | _ nn67 ihJ66 =>
                intro I68 L69 x70 hmnn67 hI74 S73 b71 b72
                have gx70 := rg x70
                have e75 := Chg.k S73 T_r2 (by decide) (by decide) e62
                refine k_iload C rfl rfl rfl ?_
                refine k_aload_n C rfl rfl rfl ?_
                refine g_R C rfl rfl rfl T_r0 rfl R_r0_2 ?_
                refine c_VI C (a_X0_p hI74 H_r0_2) rfl rfl rfl rfl rfl ⟨_, rfl, rfl, T_r0_2, Nat.le_of_ble_eq_true rfl⟩ rfl rfl (Nat.le_of_ble_eq_true rfl) (Nat.le_of_ble_eq_true rfl) (Nat.le_of_ble_eq_true rfl) ?_
                rintro x76 _ _ ⟨o0x76, o1x76, rfl, rfl⟩
                have gx76 := rg x76
                refine b_icmp_ge C (t := 118) rfl rfl rfl (fun c77 => ?_) (fun c77 => ?_)
                · skip
                  refine z_iinc C (z := 1) (lw := fun x78 => [(3, .int x78), (0, .ref r0), (1, .ref r1), (4, .int x70)]) rfl rfl rfl (Nat.le_of_ble_eq_true rfl) rfl ⟨by omega, by omega⟩ (fun _ => rfl) (fun x78 ex78 => ?_)
                  show V 121 [(3, .int x78), (0, .ref r0), (1, .ref r1), (4, .int x70)] _ _ _ _
                  refine k_goto C (pc2 := 49) rfl rfl ?_
                  refine k_sub S [(0, .ref r0), (1, .ref r1), (3, .int x78)] (List.forall_mem_cons.mpr ⟨List.mem_of_getElem? (i := 1) rfl, List.forall_mem_cons.mpr ⟨List.mem_of_getElem? (i := 2) rfl, List.forall_mem_cons.mpr ⟨List.mem_of_getElem? (i := 0) rfl, fun _ h => nomatch h⟩⟩⟩) ?_
                  exact ihJ53 _ (by omega) I68 L69 x78 rfl hI74 (Chg.cons S60 (Chg.mono S73 (by decide)) (by decide)) (by omega) (by omega)
                refine k_iload_n C rfl rfl rfl ?_
                refine z_bipush C (z := 20) rfl rfl rfl (fun x79 ex79 => ?_)
                refine z_imulR C (c := 20) rfl rfl (by omega) ⟨by omega, by omega⟩ (fun x80 ex80 => ?_)
                refine k_iload C rfl rfl rfl ?_
                refine z_iadd C rfl rfl ⟨by omega, by omega⟩ (fun x81 ex81 => ?_)
                refine k_istore C (lw := [(5, .int x81), (0, .ref r0), (1, .ref r1), (3, .int x57), (4, .int x70)]) rfl rfl (Nat.le_of_ble_eq_true rfl) rfl ?_
                refine k_iload C rfl rfl rfl ?_
                refine k_aload_n C rfl rfl rfl ?_
                refine g_R C rfl rfl rfl T_r0 rfl R_r0_3 ?_
                obtain ⟨T_r0_3, N_r0_3, A_r0_3⟩ := id H_r0_3
                refine z_len C (n := 400) rfl rfl (by rw [T_r0_3]; exact Nat.le_of_ble_eq_true rfl) N_r0_3 (Nat.le_of_ble_eq_true rfl) (fun x82 ex82 => ?_)
                refine b_icmp_ge C (t := 112) rfl rfl rfl (fun c83 => by exfalso; omega) (fun c83 => ?_)
                refine k_aload_n C rfl rfl rfl ?_
                refine g_R C rfl rfl rfl T_r0 rfl R_r0_3 ?_
                refine k_iload C rfl rfl rfl ?_
                refine k_aload_n C rfl rfl rfl ?_
                refine g_R C rfl rfl rfl T_r0 rfl R_r0_2 ?_
                refine k_aload_n C rfl rfl rfl ?_
                refine k_iload_n C rfl rfl rfl ?_
                refine k_iload C rfl rfl rfl ?_
                refine c_VI C (a_X0_worth hI74 H_r0_2 H_r1) rfl rfl rfl rfl rfl ⟨_, rfl, rfl, T_r0_2, Nat.le_of_ble_eq_true rfl⟩ rfl rfl (Nat.le_of_ble_eq_true rfl) (Nat.le_of_ble_eq_true rfl) (Nat.le_of_ble_eq_true rfl) ?_
                rintro x84 _ _ ⟨rfl, rfl⟩
                have gx84 := rg x84
                refine z_sI C rfl rfl T_r0_3 N_r0_3 (by omega) (by omega) (fun I85 uI85 => ?_)
                have hI85 : IX A T I85 := IX.a hI74 T_r0_3 (Nat.le_of_ble_eq_true rfl) uI85
                have S86 : Chg A T [] I68 L69 I85 L69 := Chg.a A_r0_3 T_r0_3 (Nat.le_of_ble_eq_true rfl) uI85
                have e87 := u2_n uI85 (t_nq T_r2 T_r0_3 (by decide)) e75
                refine z_iinc C (z := 1) (lw := fun x88 => [(4, .int x88), (5, .int x81), (0, .ref r0), (1, .ref r1), (3, .int x57)]) rfl rfl rfl (Nat.le_of_ble_eq_true rfl) rfl ⟨by omega, by omega⟩ (fun _ => rfl) (fun x88 ex88 => ?_)
                show V 115 [(4, .int x88), (5, .int x81), (0, .ref r0), (1, .ref r1), (3, .int x57)] _ _ _ _
                refine k_goto C (pc2 := 63) rfl rfl ?_
                refine k_sub S [(0, .ref r0), (1, .ref r1), (3, .int x57), (4, .int x88)] (List.forall_mem_cons.mpr ⟨List.mem_of_getElem? (i := 2) rfl, List.forall_mem_cons.mpr ⟨List.mem_of_getElem? (i := 3) rfl, List.forall_mem_cons.mpr ⟨List.mem_of_getElem? (i := 4) rfl, List.forall_mem_cons.mpr ⟨List.mem_of_getElem? (i := 0) rfl, fun _ h => nomatch h⟩⟩⟩⟩) ?_
                exact ihJ66 _ (by omega) I85 L69 x88 rfl hI85 (Chg.cons S73 (Chg.mono S86 (by decide)) (by decide)) (by omega) (by omega)
            refine k_istore C (lw := [(4, .int x65), (0, .ref r0), (1, .ref r1), (3, .int x57)]) rfl rfl (Nat.le_of_ble_eq_true rfl) rfl ?_
            refine k_sub S [(0, .ref r0), (1, .ref r1), (3, .int x57), (4, .int x65)] (List.forall_mem_cons.mpr ⟨List.mem_of_getElem? (i := 1) rfl, List.forall_mem_cons.mpr ⟨List.mem_of_getElem? (i := 2) rfl, List.forall_mem_cons.mpr ⟨List.mem_of_getElem? (i := 3) rfl, List.forall_mem_cons.mpr ⟨List.mem_of_getElem? (i := 0) rfl, fun _ h => nomatch h⟩⟩⟩⟩) ?_
            exact J66 _ I55 L56 x65 rfl hI61 Chg.rf (by omega) (by omega)
        refine k_istore_n C (lw := [(3, .int x52), (0, .ref r0), (1, .ref r1), (2, .ref r2)]) rfl rfl (Nat.le_of_ble_eq_true rfl) rfl ?_
        refine k_sub S [(0, .ref r0), (1, .ref r1), (3, .int x52)] (List.forall_mem_cons.mpr ⟨List.mem_of_getElem? (i := 1) rfl, List.forall_mem_cons.mpr ⟨List.mem_of_getElem? (i := 2) rfl, List.forall_mem_cons.mpr ⟨List.mem_of_getElem? (i := 0) rfl, fun _ h => nomatch h⟩⟩⟩) ?_
        exact J53 _ I4 L5 x52 rfl hI10 Chg.rf (by omega) (by omega)
      refine k_aload_n C rfl rfl rfl ?_
      refine g_R C rfl rfl rfl T_r0 rfl R_r0_4 ?_
      refine k_iload_n C rfl rfl rfl ?_
      refine k_aload_n C rfl rfl rfl ?_
      refine g_R C rfl rfl rfl T_r0 rfl R_r0_2 ?_
      refine k_aload_n C rfl rfl rfl ?_
      refine k_iload_n C rfl rfl rfl ?_
      refine c_SI C (a_X6_pointX hI10 ) rfl rfl rfl rfl rfl rfl rfl (Nat.le_of_ble_eq_true rfl) (Nat.le_of_ble_eq_true rfl) (Nat.le_of_ble_eq_true rfl) ?_
      rintro x89 _ _ ⟨rfl, rfl⟩
      have gx89 := rg x89
      refine k_iload_n C rfl rfl rfl ?_
      refine c_SI C (a_X6_pointY hI10 ) rfl rfl rfl rfl rfl rfl rfl (Nat.le_of_ble_eq_true rfl) (Nat.le_of_ble_eq_true rfl) (Nat.le_of_ble_eq_true rfl) ?_
      rintro x90 _ _ ⟨o0x90, o1x90, rfl, rfl⟩
      have gx90 := rg x90
      obtain ⟨T_r0_2, A_r0_2, ⟨r0_2_0, R_r0_2_0, H_r0_2_0⟩, ⟨r0_2_1, R_r0_2_1, H_r0_2_1⟩, ⟨r0_2_2, R_r0_2_2, H_r0_2_2⟩⟩ := id H_r0_2
      refine c_VI C (a_X0_worth hI10 H_r0_2 H_r2) rfl rfl rfl rfl rfl ⟨_, rfl, rfl, T_r0_2, Nat.le_of_ble_eq_true rfl⟩ rfl rfl (Nat.le_of_ble_eq_true rfl) (Nat.le_of_ble_eq_true rfl) (Nat.le_of_ble_eq_true rfl) ?_
      rintro x91 _ _ ⟨rfl, rfl⟩
      have gx91 := rg x91
      refine z_sI C rfl rfl T_r0_4 N_r0_4 (by omega) (by omega) (fun I92 uI92 => ?_)
      have hI92 : IX A T I92 := IX.a hI10 T_r0_4 (Nat.le_of_ble_eq_true rfl) uI92
      have S93 : Chg A T [] I4 L5 I92 L5 := Chg.a A_r0_4 T_r0_4 (Nat.le_of_ble_eq_true rfl) uI92
      have e94 := u2_n uI92 (t_nq T_r2 T_r0_4 (by decide)) ex11
      refine z_iinc C (z := 1) (lw := fun x95 => [(3, .int x95), (0, .ref r0), (1, .ref r1), (2, .ref r2)]) rfl rfl rfl (Nat.le_of_ble_eq_true rfl) rfl ⟨by omega, by omega⟩ (fun _ => rfl) (fun x95 ex95 => ?_)
      show V 44 [(3, .int x95), (0, .ref r0), (1, .ref r1), (2, .ref r2)] _ _ _ _
      refine k_goto C (pc2 := 2) rfl rfl ?_
      refine k_sub S [(0, .ref r0), (1, .ref r1), (2, .ref r2), (3, .int x95)] (List.forall_mem_cons.mpr ⟨List.mem_of_getElem? (i := 1) rfl, List.forall_mem_cons.mpr ⟨List.mem_of_getElem? (i := 2) rfl, List.forall_mem_cons.mpr ⟨List.mem_of_getElem? (i := 3) rfl, List.forall_mem_cons.mpr ⟨List.mem_of_getElem? (i := 0) rfl, fun _ h => nomatch h⟩⟩⟩⟩) ?_
      exact ihJ2 _ (by omega) I92 L5 x95 rfl hI92 (Chg.cons S9 (Chg.mono S93 (by decide)) (by decide)) (by omega) (by omega)
  refine k_istore_n C (lw := [(3, .int x1), (0, .ref r0), (1, .ref r1), (2, .ref r2)]) rfl rfl (Nat.le_of_ble_eq_true rfl) rfl ?_
  refine k_sub S [(0, .ref r0), (1, .ref r1), (2, .ref r2), (3, .int x1)] (List.forall_mem_cons.mpr ⟨List.mem_of_getElem? (i := 1) rfl, List.forall_mem_cons.mpr ⟨List.mem_of_getElem? (i := 2) rfl, List.forall_mem_cons.mpr ⟨List.mem_of_getElem? (i := 3) rfl, List.forall_mem_cons.mpr ⟨List.mem_of_getElem? (i := 0) rfl, fun _ h => nomatch h⟩⟩⟩⟩) ?_
  exact J2 _ I L x1 rfl hI Chg.rf (by omega) (by omega)

theorem a_X6_aimAt {d : Nat} {T N : Nat → Nat} {I : IT} {L : LT} {R : RT} {A : Nat → Prop} {r0 : Nat} {n1 : Int32} (hI : IX A T I) (H_r0 : (h_Se T N R A) r0) : Ex (d + 1) 88 [.ref r0, .int n1] (T, N, I, L, R) 0 0 (pI T N R (fun x9 I9 L9 => (I = I9 ∧ L = L9))) := by
  refine ⟨_, rfl, Nat.le_of_ble_eq_true rfl, fun V C S => ?_⟩
  show V 0 [(0, .ref r0), (1, .int n1)] [] (T, N, I, L, R) 0 0
  have gn1 := rg n1
  refine k_iload_n C rfl rfl rfl ?_
  refine b_if_lt C (t := 13) rfl rfl rfl (fun c1 => ?_) (fun c1 => ?_)
  · skip
    refine z_iconst C (z := 0) rfl rfl rfl (fun x2 ex2 => ?_)
    refine k_goto C (pc2 := 23) rfl rfl ?_
    exact k_iret C rfl (Or.inl rfl) (Nat.le_of_ble_eq_true rfl) (Nat.le_of_ble_eq_true rfl) ⟨_, _, _, rfl, rfl, rfl, rfl⟩
  refine k_iload_n C rfl rfl rfl ?_
  refine k_aload_n C rfl rfl rfl ?_
  obtain ⟨T_r0, A_r0, ⟨r0_2, R_r0_2, H_r0_2⟩, ⟨r0_3, R_r0_3, H_r0_3⟩, ⟨r0_4, R_r0_4, H_r0_4⟩, ⟨r0_5, R_r0_5, H_r0_5⟩, ⟨r0_6, R_r0_6, H_r0_6⟩⟩ := id H_r0
  refine g_R C rfl rfl rfl T_r0 rfl R_r0_4 ?_
  obtain ⟨T_r0_4, N_r0_4, A_r0_4⟩ := id H_r0_4
  refine z_len C (n := 9) rfl rfl (by rw [T_r0_4]; exact Nat.le_of_ble_eq_true rfl) N_r0_4 (Nat.le_of_ble_eq_true rfl) (fun x3 ex3 => ?_)
  refine b_icmp_lt C (t := 17) rfl rfl rfl (fun c4 => ?_) (fun c4 => ?_)
  · skip
    refine k_aload_n C rfl rfl rfl ?_
    refine g_R C rfl rfl rfl T_r0 rfl R_r0_4 ?_
    refine k_iload_n C rfl rfl rfl ?_
    refine z_aI C rfl rfl T_r0_4 N_r0_4 (by omega) (by omega) (fun x5 ex5 => ?_)
    have gx5 := rg x5
    exact k_iret C rfl (Or.inl rfl) (Nat.le_of_ble_eq_true rfl) (Nat.le_of_ble_eq_true rfl) ⟨_, _, _, rfl, rfl, rfl, rfl⟩
  refine z_iconst C (z := 0) rfl rfl rfl (fun x6 ex6 => ?_)
  refine k_goto C (pc2 := 23) rfl rfl ?_
  exact k_iret C rfl (Or.inl rfl) (Nat.le_of_ble_eq_true rfl) (Nat.le_of_ble_eq_true rfl) ⟨_, _, _, rfl, rfl, rfl, rfl⟩

theorem a_X6_valueAt {d : Nat} {T N : Nat → Nat} {I : IT} {L : LT} {R : RT} {A : Nat → Prop} {r0 : Nat} {n1 n2 : Int32} (hI : IX A T I) (H_r0 : (h_Se T N R A) r0) : Ex (d + 1) 89 [.ref r0, .int n1, .int n2] (T, N, I, L, R) 0 0 (pI T N R (fun x9 I9 L9 => (I = I9 ∧ L = L9))) := by
  refine ⟨_, rfl, Nat.le_of_ble_eq_true rfl, fun V C S => ?_⟩
  show V 0 [(0, .ref r0), (1, .int n1), (2, .int n2)] [] (T, N, I, L, R) 0 0
  have gn1 := rg n1
  have gn2 := rg n2
  refine k_iload_n C rfl rfl rfl ?_
  refine z_bipush C (z := 20) rfl rfl rfl (fun x1 ex1 => ?_)
  refine zt_imul C rfl rfl (fun x2 => ?_)
  have gx2 := rg x2
  refine k_iload_n C rfl rfl rfl ?_
  refine zt_iadd C rfl rfl (fun x3 => ?_)
  have gx3 := rg x3
  refine k_istore_n C (lw := [(3, .int x3), (0, .ref r0), (1, .int n1), (2, .int n2)]) rfl rfl (Nat.le_of_ble_eq_true rfl) rfl ?_
  refine k_iload_n C rfl rfl rfl ?_
  refine b_if_lt C (t := 20) rfl rfl rfl (fun c4 => ?_) (fun c4 => ?_)
  · skip
    refine z_iconst C (z := 0) rfl rfl rfl (fun x5 ex5 => ?_)
    refine k_goto C (pc2 := 30) rfl rfl ?_
    exact k_iret C rfl (Or.inl rfl) (Nat.le_of_ble_eq_true rfl) (Nat.le_of_ble_eq_true rfl) ⟨_, _, _, rfl, rfl, rfl, rfl⟩
  refine k_iload_n C rfl rfl rfl ?_
  refine k_aload_n C rfl rfl rfl ?_
  obtain ⟨T_r0, A_r0, ⟨r0_2, R_r0_2, H_r0_2⟩, ⟨r0_3, R_r0_3, H_r0_3⟩, ⟨r0_4, R_r0_4, H_r0_4⟩, ⟨r0_5, R_r0_5, H_r0_5⟩, ⟨r0_6, R_r0_6, H_r0_6⟩⟩ := id H_r0
  refine g_R C rfl rfl rfl T_r0 rfl R_r0_3 ?_
  obtain ⟨T_r0_3, N_r0_3, A_r0_3⟩ := id H_r0_3
  refine z_len C (n := 400) rfl rfl (by rw [T_r0_3]; exact Nat.le_of_ble_eq_true rfl) N_r0_3 (Nat.le_of_ble_eq_true rfl) (fun x6 ex6 => ?_)
  refine b_icmp_lt C (t := 24) rfl rfl rfl (fun c7 => ?_) (fun c7 => ?_)
  · skip
    refine k_aload_n C rfl rfl rfl ?_
    refine g_R C rfl rfl rfl T_r0 rfl R_r0_3 ?_
    refine k_iload_n C rfl rfl rfl ?_
    refine z_aI C rfl rfl T_r0_3 N_r0_3 (by omega) (by omega) (fun x8 ex8 => ?_)
    have gx8 := rg x8
    exact k_iret C rfl (Or.inl rfl) (Nat.le_of_ble_eq_true rfl) (Nat.le_of_ble_eq_true rfl) ⟨_, _, _, rfl, rfl, rfl, rfl⟩
  refine z_iconst C (z := 0) rfl rfl rfl (fun x9 ex9 => ?_)
  refine k_goto C (pc2 := 30) rfl rfl ?_
  exact k_iret C rfl (Or.inl rfl) (Nat.le_of_ble_eq_true rfl) (Nat.le_of_ble_eq_true rfl) ⟨_, _, _, rfl, rfl, rfl, rfl⟩

theorem a_X6_meet {d : Nat} {T N : Nat → Nat} {I : IT} {L : LT} {R : RT} {A : Nat → Prop} {r0 : Nat} {n1 n2 n3 : Int32} (hI : IX A T I) (H_r0 : (h_Se T N R A) r0) (b0_n3 : 0 ≤ n3.toInt) (b1_n3 : n3.toInt ≤ 40) : Ex (d + 3) 91 [.ref r0, .int n1, .int n2, .int n3] (T, N, I, L, R) 0 0 (pV T N R (fun I9 L9 => (IX A T I9 ∧ Chg A T [(7, 0), (7, 1)] I L I9 L9))) := by
  refine ⟨_, rfl, Nat.le_of_ble_eq_true rfl, fun V C S => ?_⟩
  show V 0 [(0, .ref r0), (1, .int n1), (2, .int n2), (3, .int n3)] [] (T, N, I, L, R) 0 0
  have gn1 := rg n1
  have gn2 := rg n2
  have gn3 := rg n3
  refine k_iload_n C rfl rfl rfl ?_
  refine z_bipush C (z := 20) rfl rfl rfl (fun x1 ex1 => ?_)
  refine zt_idiv C rfl rfl (by omega) (fun x2 => ?_)
  have gx2 := rg x2
  refine k_istore C (lw := [(4, .int x2), (0, .ref r0), (1, .int n1), (2, .int n2), (3, .int n3)]) rfl rfl (Nat.le_of_ble_eq_true rfl) rfl ?_
  refine k_iload_n C rfl rfl rfl ?_
  refine z_bipush C (z := 20) rfl rfl rfl (fun x3 ex3 => ?_)
  refine zt_irem C rfl rfl (by omega) (fun x4 => ?_)
  have gx4 := rg x4
  refine k_istore C (lw := [(5, .int x4), (4, .int x2), (0, .ref r0), (1, .int n1), (2, .int n2), (3, .int n3)]) rfl rfl (Nat.le_of_ble_eq_true rfl) rfl ?_
  refine k_iload_n C rfl rfl rfl ?_
  refine z_bipush C (z := 20) rfl rfl rfl (fun x5 ex5 => ?_)
  refine zt_idiv C rfl rfl (by omega) (fun x6 => ?_)
  have gx6 := rg x6
  refine k_istore C (lw := [(6, .int x6), (5, .int x4), (4, .int x2), (0, .ref r0), (1, .int n1), (2, .int n2), (3, .int n3)]) rfl rfl (Nat.le_of_ble_eq_true rfl) rfl ?_
  refine k_iload_n C rfl rfl rfl ?_
  refine z_bipush C (z := 20) rfl rfl rfl (fun x7 ex7 => ?_)
  refine zt_irem C rfl rfl (by omega) (fun x8 => ?_)
  have gx8 := rg x8
  refine k_istore C (lw := [(7, .int x8), (6, .int x6), (5, .int x4), (4, .int x2), (0, .ref r0), (1, .int n1), (2, .int n2), (3, .int n3)]) rfl rfl (Nat.le_of_ble_eq_true rfl) rfl ?_
  refine k_aload_n C rfl rfl rfl ?_
  obtain ⟨T_r0, A_r0, ⟨r0_2, R_r0_2, H_r0_2⟩, ⟨r0_3, R_r0_3, H_r0_3⟩, ⟨r0_4, R_r0_4, H_r0_4⟩, ⟨r0_5, R_r0_5, H_r0_5⟩, ⟨r0_6, R_r0_6, H_r0_6⟩⟩ := id H_r0
  refine g_R C rfl rfl rfl T_r0 rfl R_r0_2 ?_
  refine k_iload C rfl rfl rfl ?_
  refine k_iload C rfl rfl rfl ?_
  refine k_iload C rfl rfl rfl ?_
  refine k_iload C rfl rfl rfl ?_
  obtain ⟨T_r0_2, A_r0_2, ⟨r0_2_0, R_r0_2_0, H_r0_2_0⟩, ⟨r0_2_1, R_r0_2_1, H_r0_2_1⟩, ⟨r0_2_2, R_r0_2_2, H_r0_2_2⟩⟩ := id H_r0_2
  refine c_VI C (a_X0_detOf hI H_r0_2) rfl rfl rfl rfl rfl ⟨_, rfl, rfl, T_r0_2, Nat.le_of_ble_eq_true rfl⟩ rfl rfl (Nat.le_of_ble_eq_true rfl) (Nat.le_of_ble_eq_true rfl) (Nat.le_of_ble_eq_true rfl) ?_
  rintro x9 _ _ ⟨rfl, rfl⟩
  have gx9 := rg x9
  refine b_if_ne C (t := 43) rfl rfl rfl (fun c10 => ?_) (fun c10 => ?_)
  · skip
    refine z_iconst C (z := 2) rfl rfl rfl (fun x11 ex11 => ?_)
    have J12 : ∀ (nn13 : Nat) (x14 : Int32), ((41 - x14.toInt).toNat = nn13) → (2 ≤ x14.toInt) → (x14.toInt ≤ 41) → V 46 [(0, .ref r0), (3, .int n3), (4, .int x2), (5, .int x4), (6, .int x6), (7, .int x8), (8, .int x14)] [] (T, N, I, L, R) 0 0 := by
      intro nn13
      induction nn13 using Nat.strongRecOn with
      | _ nn13 ihJ12 =>
        intro x14 hmnn13 b15 b16
        have gx14 := rg x14
        refine k_iload C rfl rfl rfl ?_
        refine k_iload_n C rfl rfl rfl ?_
        refine b_icmp_gt C (t := 111) rfl rfl rfl (fun c17 => ?_) (fun c17 => ?_)
        · skip
          refine k_iload C rfl rfl rfl ?_
          refine z_bipush C (z := 20) rfl rfl rfl (fun x18 ex18 => ?_)
          refine zt_imul C rfl rfl (fun x19 => ?_)
          have gx19 := rg x19
          refine k_iload C rfl rfl rfl ?_
          refine zt_iadd C rfl rfl (fun x20 => ?_)
          have gx20 := rg x20
          refine z_bipush C (z := 20) rfl rfl rfl (fun x21 ex21 => ?_)
          refine zt_imul C rfl rfl (fun x22 => ?_)
          have gx22 := rg x22
          refine k_iload C rfl rfl rfl ?_
          refine zt_iadd C rfl rfl (fun x23 => ?_)
          have gx23 := rg x23
          refine z_bipush C (z := 20) rfl rfl rfl (fun x24 ex24 => ?_)
          refine zt_imul C rfl rfl (fun x25 => ?_)
          have gx25 := rg x25
          refine k_iload C rfl rfl rfl ?_
          refine zt_iadd C rfl rfl (fun x26 => ?_)
          have gx26 := rg x26
          refine k_istore C (lw := [(8, .int x26), (0, .ref r0), (3, .int n3), (4, .int x2), (5, .int x4), (6, .int x6), (7, .int x8)]) rfl rfl (Nat.le_of_ble_eq_true rfl) rfl ?_
          refine k_aload_n C rfl rfl rfl ?_
          refine k_aload_n C rfl rfl rfl ?_
          refine z_gI C rfl rfl rfl T_r0 rfl (fun x27 ex27 => ?_)
          have gx27 := rg x27
          refine b_if_ne C (t := 146) rfl rfl rfl (fun c28 => ?_) (fun c28 => ?_)
          · skip
            refine k_aload_n C rfl rfl rfl ?_
            refine z_gI C rfl rfl rfl T_r0 rfl (fun x29 ex29 => ?_)
            have gx29 := rg x29
            refine k_iload C rfl rfl rfl ?_
            refine c_SI C (a_J9_min_7cf53 hI ) rfl rfl rfl rfl rfl rfl rfl (Nat.le_of_ble_eq_true rfl) (Nat.le_of_ble_eq_true rfl) (Nat.le_of_ble_eq_true rfl) ?_
            rintro x30 _ _ ⟨p0x30, p1x30, p2x30, rfl, rfl⟩
            have gx30 := rg x30
            try simp only [ex27, ex29] at p0x30
            try have q0x30 := congrArg Int32.toInt p0x30
            try simp only [ex27, ex29] at p1x30
            try have q1x30 := congrArg Int32.toInt p1x30
            try simp only [ex27, ex29] at p2x30
            try have q2x30 := congrArg Int32.toInt p2x30
            refine z_pI C rfl rfl rfl T_r0 (Or.inr rfl) rfl (fun I31 uI31 => ?_)
            have hI31 : IX A T I31 := IX.f hI T_r0 (boX.tr (by decide) (by decide)) uI31
            have S32 : Chg A T [(7, 0)] I L I31 L := Chg.f A_r0 T_r0 uI31
            have e33 := u2_j uI31 (by decide) ex27
            have e34 := u2_e uI31
            refine k_aload_n C rfl rfl rfl ?_
            refine k_dup C rfl rfl rfl ?_
            refine g_I C rfl rfl rfl T_r0 rfl e33 ?_
            refine z_iconst C (z := 1) rfl rfl rfl (fun x35 ex35 => ?_)
            refine zt_iadd C rfl rfl (fun x36 => ?_)
            have gx36 := rg x36
            refine z_pI C rfl rfl rfl T_r0 (Or.inr rfl) rfl (fun I37 uI37 => ?_)
            have hI37 : IX A T I37 := IX.f hI31 T_r0 (boX.tr (by decide) (by decide)) uI37
            have S38 : Chg A T [(7, 1)] I31 L I37 L := Chg.f A_r0 T_r0 uI37
            have e39 := u2_j uI37 (by decide) e34
            have e40 := u2_e uI37
            exact k_vret C rfl rfl (Nat.le_of_ble_eq_true rfl) (Nat.le_of_ble_eq_true rfl) ⟨_, _, rfl, rfl, hI37, (Chg.cons S32 (Chg.mono S38 (by decide)) (by decide))⟩
          refine k_iload C rfl rfl rfl ?_
          refine k_goto C (pc2 := 155) rfl rfl ?_
          refine z_pI C rfl rfl rfl T_r0 (Or.inr rfl) rfl (fun I41 uI41 => ?_)
          have hI41 : IX A T I41 := IX.f hI T_r0 (boX.tr (by decide) (by decide)) uI41
          have S42 : Chg A T [(7, 0)] I L I41 L := Chg.f A_r0 T_r0 uI41
          have e43 := u2_j uI41 (by decide) ex27
          have e44 := u2_e uI41
          refine k_aload_n C rfl rfl rfl ?_
          refine k_dup C rfl rfl rfl ?_
          refine g_I C rfl rfl rfl T_r0 rfl e43 ?_
          refine z_iconst C (z := 1) rfl rfl rfl (fun x45 ex45 => ?_)
          refine z_iadd C rfl rfl ⟨by omega, by omega⟩ (fun x46 ex46 => ?_)
          refine z_pI C rfl rfl rfl T_r0 (Or.inr rfl) rfl (fun I47 uI47 => ?_)
          have hI47 : IX A T I47 := IX.f hI41 T_r0 (boX.tr (by decide) (by decide)) uI47
          have S48 : Chg A T [(7, 1)] I41 L I47 L := Chg.f A_r0 T_r0 uI47
          have e49 := u2_j uI47 (by decide) e44
          have e50 := u2_e uI47
          exact k_vret C rfl rfl (Nat.le_of_ble_eq_true rfl) (Nat.le_of_ble_eq_true rfl) ⟨_, _, rfl, rfl, hI47, (Chg.cons S42 (Chg.mono S48 (by decide)) (by decide))⟩
        refine k_iload C rfl rfl rfl ?_
        refine c_SI C (a_X6_pointX hI ) rfl rfl rfl rfl rfl rfl rfl (Nat.le_of_ble_eq_true rfl) (Nat.le_of_ble_eq_true rfl) (Nat.le_of_ble_eq_true rfl) ?_
        rintro x51 _ _ ⟨rfl, rfl⟩
        have gx51 := rg x51
        refine k_istore C (lw := [(9, .int x51), (0, .ref r0), (3, .int n3), (4, .int x2), (5, .int x4), (6, .int x6), (7, .int x8), (8, .int x14)]) rfl rfl (Nat.le_of_ble_eq_true rfl) rfl ?_
        refine k_aload_n C rfl rfl rfl ?_
        refine k_aload_n C rfl rfl rfl ?_
        refine g_R C rfl rfl rfl T_r0 rfl R_r0_2 ?_
        refine k_iload C rfl rfl rfl ?_
        refine k_iload C rfl rfl rfl ?_
        refine zt_imul C rfl rfl (fun x52 => ?_)
        have gx52 := rg x52
        refine k_iload C rfl rfl rfl ?_
        refine zt_iadd C rfl rfl (fun x53 => ?_)
        have gx53 := rg x53
        refine z_i2l C rfl rfl (fun lg54 elg54 => ?_)
        refine c_VI C (a_X0_of hI H_r0_2) rfl rfl rfl rfl rfl ⟨_, rfl, rfl, T_r0_2, Nat.le_of_ble_eq_true rfl⟩ rfl rfl (Nat.le_of_ble_eq_true rfl) (Nat.le_of_ble_eq_true rfl) (Nat.le_of_ble_eq_true rfl) ?_
        rintro x55 _ _ ⟨rfl, rfl⟩
        have gx55 := rg x55
        refine k_aload_n C rfl rfl rfl ?_
        refine g_R C rfl rfl rfl T_r0 rfl R_r0_2 ?_
        refine k_iload C rfl rfl rfl ?_
        refine k_iload C rfl rfl rfl ?_
        refine zt_imul C rfl rfl (fun x56 => ?_)
        have gx56 := rg x56
        refine k_iload C rfl rfl rfl ?_
        refine zt_iadd C rfl rfl (fun x57 => ?_)
        have gx57 := rg x57
        refine z_i2l C rfl rfl (fun lg58 elg58 => ?_)
        refine c_VI C (a_X0_of hI H_r0_2) rfl rfl rfl rfl rfl ⟨_, rfl, rfl, T_r0_2, Nat.le_of_ble_eq_true rfl⟩ rfl rfl (Nat.le_of_ble_eq_true rfl) (Nat.le_of_ble_eq_true rfl) (Nat.le_of_ble_eq_true rfl) ?_
        rintro x59 _ _ ⟨rfl, rfl⟩
        have gx59 := rg x59
        refine c_VI C (a_X6_valueAt hI H_r0) rfl rfl rfl rfl rfl ⟨_, rfl, rfl, T_r0, Nat.le_of_ble_eq_true rfl⟩ rfl rfl (Nat.le_of_ble_eq_true rfl) (Nat.le_of_ble_eq_true rfl) (Nat.le_of_ble_eq_true rfl) ?_
        rintro x60 _ _ ⟨rfl, rfl⟩
        have gx60 := rg x60
        refine k_aload_n C rfl rfl rfl ?_
        refine k_iload C rfl rfl rfl ?_
        refine c_VI C (a_X6_aimAt hI H_r0) rfl rfl rfl rfl rfl ⟨_, rfl, rfl, T_r0, Nat.le_of_ble_eq_true rfl⟩ rfl rfl (Nat.le_of_ble_eq_true rfl) (Nat.le_of_ble_eq_true rfl) (Nat.le_of_ble_eq_true rfl) ?_
        rintro x61 _ _ ⟨rfl, rfl⟩
        have gx61 := rg x61
        refine b_icmp_eq C (t := 105) rfl rfl rfl (fun c62 => ?_) (fun c62 => ?_)
        · skip
          refine z_iinc C (z := 1) (lw := fun x63 => [(8, .int x63), (9, .int x51), (0, .ref r0), (3, .int n3), (4, .int x2), (5, .int x4), (6, .int x6), (7, .int x8)]) rfl rfl rfl (Nat.le_of_ble_eq_true rfl) rfl ⟨by omega, by omega⟩ (fun _ => rfl) (fun x63 ex63 => ?_)
          show V 108 [(8, .int x63), (9, .int x51), (0, .ref r0), (3, .int n3), (4, .int x2), (5, .int x4), (6, .int x6), (7, .int x8)] _ _ _ _
          refine k_goto C (pc2 := 46) rfl rfl ?_
          refine k_sub S [(0, .ref r0), (3, .int n3), (4, .int x2), (5, .int x4), (6, .int x6), (7, .int x8), (8, .int x63)] (List.forall_mem_cons.mpr ⟨List.mem_of_getElem? (i := 2) rfl, List.forall_mem_cons.mpr ⟨List.mem_of_getElem? (i := 3) rfl, List.forall_mem_cons.mpr ⟨List.mem_of_getElem? (i := 4) rfl, List.forall_mem_cons.mpr ⟨List.mem_of_getElem? (i := 5) rfl, List.forall_mem_cons.mpr ⟨List.mem_of_getElem? (i := 6) rfl, List.forall_mem_cons.mpr ⟨List.mem_of_getElem? (i := 7) rfl, List.forall_mem_cons.mpr ⟨List.mem_of_getElem? (i := 0) rfl, fun _ h => nomatch h⟩⟩⟩⟩⟩⟩⟩) ?_
          exact ihJ12 _ (by omega) x63 rfl (by omega) (by omega)
        exact k_vret C rfl rfl (Nat.le_of_ble_eq_true rfl) (Nat.le_of_ble_eq_true rfl) ⟨_, _, rfl, rfl, hI, Chg.rf⟩
    refine k_istore C (lw := [(8, .int x11), (7, .int x8), (6, .int x6), (5, .int x4), (4, .int x2), (0, .ref r0), (1, .int n1), (2, .int n2), (3, .int n3)]) rfl rfl (Nat.le_of_ble_eq_true rfl) rfl ?_
    refine k_sub S [(0, .ref r0), (3, .int n3), (4, .int x2), (5, .int x4), (6, .int x6), (7, .int x8), (8, .int x11)] (List.forall_mem_cons.mpr ⟨List.mem_of_getElem? (i := 5) rfl, List.forall_mem_cons.mpr ⟨List.mem_of_getElem? (i := 8) rfl, List.forall_mem_cons.mpr ⟨List.mem_of_getElem? (i := 4) rfl, List.forall_mem_cons.mpr ⟨List.mem_of_getElem? (i := 3) rfl, List.forall_mem_cons.mpr ⟨List.mem_of_getElem? (i := 2) rfl, List.forall_mem_cons.mpr ⟨List.mem_of_getElem? (i := 1) rfl, List.forall_mem_cons.mpr ⟨List.mem_of_getElem? (i := 0) rfl, fun _ h => nomatch h⟩⟩⟩⟩⟩⟩⟩) ?_
    exact J12 _ x11 rfl (by omega) (by omega)
  exact k_vret C rfl rfl (Nat.le_of_ble_eq_true rfl) (Nat.le_of_ble_eq_true rfl) ⟨_, _, rfl, rfl, hI, Chg.rf⟩

theorem a_X6_choose_i400 {d : Nat} {T N : Nat → Nat} {I : IT} {L : LT} {R : RT} {A : Nat → Prop} {r0 r1 : Nat} {n2 : Int32} (hI : IX A T I) (H_r0 : (h_Se T N R A) r0) (H_r1 : (h_A T N A 20 400) r1) : Ex (d + 2) 90 [.ref r0, .ref r1, .int n2] (T, N, I, L, R) 0 0 (pI T N R (fun x9 I9 L9 => (0 ≤ x9.toInt) ∧ (x9.toInt ≤ 400) ∧ (IX A T I9 ∧ Chg A T [] I L I9 L9))) := by
  refine ⟨_, rfl, Nat.le_of_ble_eq_true rfl, fun V C S => ?_⟩
  show V 0 [(0, .ref r0), (1, .ref r1), (2, .int n2)] [] (T, N, I, L, R) 0 0
  have gn2 := rg n2
  refine z_iconst C (z := 0) rfl rfl rfl (fun x1 ex1 => ?_)
  refine k_istore_n C (lw := [(3, .int x1), (0, .ref r0), (1, .ref r1), (2, .int n2)]) rfl rfl (Nat.le_of_ble_eq_true rfl) rfl ?_
  refine z_iconst C (z := 0) rfl rfl rfl (fun x2 ex2 => ?_)
  have J3 : ∀ (nn4 : Nat) (I5 : IT) (L6 : LT) (x7 : Int32) (x10 : Int32), ((19 - x10.toInt).toNat = nn4) → (IX A T I5) → (Chg A T [] I L I5 L6) → (0 ≤ x7.toInt) → (x7.toInt ≤ 400) → (0 ≤ x10.toInt) → (x10.toInt ≤ 19) → V 5 [(0, .ref r0), (1, .ref r1), (2, .int n2), (3, .int x7), (4, .int x10)] [] (T, N, I5, L6, R) 0 0 := by
    intro nn4
    induction nn4 using Nat.strongRecOn with
    | _ nn4 ihJ3 =>
      intro I5 L6 x7 x10 hmnn4 hI14 S13 b8 b9 b11 b12
      have gx7 := rg x7
      have gx10 := rg x10
      refine k_iload C rfl rfl rfl ?_
      refine k_aload_n C rfl rfl rfl ?_
      obtain ⟨T_r0, A_r0, ⟨r0_2, R_r0_2, H_r0_2⟩, ⟨r0_3, R_r0_3, H_r0_3⟩, ⟨r0_4, R_r0_4, H_r0_4⟩, ⟨r0_5, R_r0_5, H_r0_5⟩, ⟨r0_6, R_r0_6, H_r0_6⟩⟩ := id H_r0
      refine g_R C rfl rfl rfl T_r0 rfl R_r0_2 ?_
      obtain ⟨T_r0_2, A_r0_2, ⟨r0_2_0, R_r0_2_0, H_r0_2_0⟩, ⟨r0_2_1, R_r0_2_1, H_r0_2_1⟩, ⟨r0_2_2, R_r0_2_2, H_r0_2_2⟩⟩ := id H_r0_2
      refine c_VI C (a_X0_p hI14 H_r0_2) rfl rfl rfl rfl rfl ⟨_, rfl, rfl, T_r0_2, Nat.le_of_ble_eq_true rfl⟩ rfl rfl (Nat.le_of_ble_eq_true rfl) (Nat.le_of_ble_eq_true rfl) (Nat.le_of_ble_eq_true rfl) ?_
      rintro x15 _ _ ⟨o0x15, o1x15, rfl, rfl⟩
      have gx15 := rg x15
      refine b_icmp_ge C (t := 76) rfl rfl rfl (fun c16 => ?_) (fun c16 => ?_)
      · skip
        refine k_iload_n C rfl rfl rfl ?_
        exact k_iret C rfl (Or.inl rfl) (Nat.le_of_ble_eq_true rfl) (Nat.le_of_ble_eq_true rfl) ⟨_, _, _, rfl, rfl, by omega, by omega, hI14, (Chg.mono S13 (by decide))⟩
      refine z_iconst C (z := 0) rfl rfl rfl (fun x17 ex17 => ?_)
      have J18 : ∀ (nn19 : Nat) (I20 : IT) (L21 : LT) (x22 : Int32) (x25 : Int32), ((19 - x25.toInt).toNat = nn19) → (IX A T I20) → (Chg A T [] I5 L6 I20 L21) → (0 ≤ x22.toInt) → (x22.toInt ≤ 400) → (0 ≤ x25.toInt) → (x25.toInt ≤ 19) → V 20 [(0, .ref r0), (1, .ref r1), (2, .int n2), (3, .int x22), (4, .int x10), (5, .int x25)] [] (T, N, I20, L21, R) 0 0 := by
        intro nn19
        induction nn19 using Nat.strongRecOn with
        | _ nn19 ihJ18 =>
          intro I20 L21 x22 x25 hmnn19 hI29 S28 b23 b24 b26 b27
          have gx22 := rg x22
          have gx25 := rg x25
          refine k_iload C rfl rfl rfl ?_
          refine k_aload_n C rfl rfl rfl ?_
          refine g_R C rfl rfl rfl T_r0 rfl R_r0_2 ?_
          refine c_VI C (a_X0_p hI29 H_r0_2) rfl rfl rfl rfl rfl ⟨_, rfl, rfl, T_r0_2, Nat.le_of_ble_eq_true rfl⟩ rfl rfl (Nat.le_of_ble_eq_true rfl) (Nat.le_of_ble_eq_true rfl) (Nat.le_of_ble_eq_true rfl) ?_
          rintro x30 _ _ ⟨o0x30, o1x30, rfl, rfl⟩
          have gx30 := rg x30
          refine b_icmp_ge C (t := 70) rfl rfl rfl (fun c31 => ?_) (fun c31 => ?_)
          · skip
            refine z_iinc C (z := 1) (lw := fun x32 => [(4, .int x32), (0, .ref r0), (1, .ref r1), (2, .int n2), (3, .int x22), (5, .int x25)]) rfl rfl rfl (Nat.le_of_ble_eq_true rfl) rfl ⟨by omega, by omega⟩ (fun _ => rfl) (fun x32 ex32 => ?_)
            show V 73 [(4, .int x32), (0, .ref r0), (1, .ref r1), (2, .int n2), (3, .int x22), (5, .int x25)] _ _ _ _
            refine k_goto C (pc2 := 5) rfl rfl ?_
            refine k_sub S [(0, .ref r0), (1, .ref r1), (2, .int n2), (3, .int x22), (4, .int x32)] (List.forall_mem_cons.mpr ⟨List.mem_of_getElem? (i := 1) rfl, List.forall_mem_cons.mpr ⟨List.mem_of_getElem? (i := 2) rfl, List.forall_mem_cons.mpr ⟨List.mem_of_getElem? (i := 3) rfl, List.forall_mem_cons.mpr ⟨List.mem_of_getElem? (i := 4) rfl, List.forall_mem_cons.mpr ⟨List.mem_of_getElem? (i := 0) rfl, fun _ h => nomatch h⟩⟩⟩⟩⟩) ?_
            exact ihJ3 _ (by omega) I20 L21 x22 x32 rfl hI29 (Chg.cons S13 (Chg.mono S28 (by decide)) (by decide)) (by omega) (by omega) (by omega) (by omega)
          refine k_aload_n C rfl rfl rfl ?_
          refine k_iload C rfl rfl rfl ?_
          refine k_iload C rfl rfl rfl ?_
          refine c_VI C (a_X6_valueAt hI29 H_r0) rfl rfl rfl rfl rfl ⟨_, rfl, rfl, T_r0, Nat.le_of_ble_eq_true rfl⟩ rfl rfl (Nat.le_of_ble_eq_true rfl) (Nat.le_of_ble_eq_true rfl) (Nat.le_of_ble_eq_true rfl) ?_
          rintro x33 _ _ ⟨rfl, rfl⟩
          have gx33 := rg x33
          refine k_iload_n C rfl rfl rfl ?_
          refine b_icmp_ne C (t := 64) rfl rfl rfl (fun c34 => ?_) (fun c34 => ?_)
          · skip
            refine z_iinc C (z := 1) (lw := fun x35 => [(5, .int x35), (0, .ref r0), (1, .ref r1), (2, .int n2), (3, .int x22), (4, .int x10)]) rfl rfl rfl (Nat.le_of_ble_eq_true rfl) rfl ⟨by omega, by omega⟩ (fun _ => rfl) (fun x35 ex35 => ?_)
            show V 67 [(5, .int x35), (0, .ref r0), (1, .ref r1), (2, .int n2), (3, .int x22), (4, .int x10)] _ _ _ _
            refine k_goto C (pc2 := 20) rfl rfl ?_
            refine k_sub S [(0, .ref r0), (1, .ref r1), (2, .int n2), (3, .int x22), (4, .int x10), (5, .int x35)] (List.forall_mem_cons.mpr ⟨List.mem_of_getElem? (i := 1) rfl, List.forall_mem_cons.mpr ⟨List.mem_of_getElem? (i := 2) rfl, List.forall_mem_cons.mpr ⟨List.mem_of_getElem? (i := 3) rfl, List.forall_mem_cons.mpr ⟨List.mem_of_getElem? (i := 4) rfl, List.forall_mem_cons.mpr ⟨List.mem_of_getElem? (i := 5) rfl, List.forall_mem_cons.mpr ⟨List.mem_of_getElem? (i := 0) rfl, fun _ h => nomatch h⟩⟩⟩⟩⟩⟩) ?_
            exact ihJ18 _ (by omega) I20 L21 x22 x35 rfl hI29 (Chg.mono S28 (by decide)) (by omega) (by omega) (by omega) (by omega)
          refine k_iload_n C rfl rfl rfl ?_
          refine k_aload_n C rfl rfl rfl ?_
          obtain ⟨T_r1, N_r1, A_r1⟩ := id H_r1
          refine z_len C (n := 400) rfl rfl (by rw [T_r1]; exact Nat.le_of_ble_eq_true rfl) N_r1 (Nat.le_of_ble_eq_true rfl) (fun x36 ex36 => ?_)
          refine b_icmp_ge C (t := 64) rfl rfl rfl (fun c37 => ?_) (fun c37 => ?_)
          · skip
            refine z_iinc C (z := 1) (lw := fun x38 => [(5, .int x38), (0, .ref r0), (1, .ref r1), (2, .int n2), (3, .int x22), (4, .int x10)]) rfl rfl rfl (Nat.le_of_ble_eq_true rfl) rfl ⟨by omega, by omega⟩ (fun _ => rfl) (fun x38 ex38 => ?_)
            show V 67 [(5, .int x38), (0, .ref r0), (1, .ref r1), (2, .int n2), (3, .int x22), (4, .int x10)] _ _ _ _
            refine k_goto C (pc2 := 20) rfl rfl ?_
            refine k_sub S [(0, .ref r0), (1, .ref r1), (2, .int n2), (3, .int x22), (4, .int x10), (5, .int x38)] (List.forall_mem_cons.mpr ⟨List.mem_of_getElem? (i := 1) rfl, List.forall_mem_cons.mpr ⟨List.mem_of_getElem? (i := 2) rfl, List.forall_mem_cons.mpr ⟨List.mem_of_getElem? (i := 3) rfl, List.forall_mem_cons.mpr ⟨List.mem_of_getElem? (i := 4) rfl, List.forall_mem_cons.mpr ⟨List.mem_of_getElem? (i := 5) rfl, List.forall_mem_cons.mpr ⟨List.mem_of_getElem? (i := 0) rfl, fun _ h => nomatch h⟩⟩⟩⟩⟩⟩) ?_
            exact ihJ18 _ (by omega) I20 L21 x22 x38 rfl hI29 (Chg.mono S28 (by decide)) (by omega) (by omega) (by omega) (by omega)
          refine k_aload_n C rfl rfl rfl ?_
          refine k_iload_n C rfl rfl rfl ?_
          refine k_iload C rfl rfl rfl ?_
          refine z_bipush C (z := 20) rfl rfl rfl (fun x39 ex39 => ?_)
          refine z_imulR C (c := 20) rfl rfl (by omega) ⟨by omega, by omega⟩ (fun x40 ex40 => ?_)
          refine k_iload C rfl rfl rfl ?_
          refine z_iadd C rfl rfl ⟨by omega, by omega⟩ (fun x41 ex41 => ?_)
          refine z_sI C rfl rfl T_r1 N_r1 (by omega) (by omega) (fun I42 uI42 => ?_)
          have hI42 : IX A T I42 := IX.a hI29 T_r1 (Nat.le_of_ble_eq_true rfl) uI42
          have S43 : Chg A T [] I20 L21 I42 L21 := Chg.a A_r1 T_r1 (Nat.le_of_ble_eq_true rfl) uI42
          refine z_iinc C (z := 1) (lw := fun x44 => [(3, .int x44), (0, .ref r0), (1, .ref r1), (2, .int n2), (4, .int x10), (5, .int x25)]) rfl rfl rfl (Nat.le_of_ble_eq_true rfl) rfl ⟨by omega, by omega⟩ (fun _ => rfl) (fun x44 ex44 => ?_)
          show V 64 [(3, .int x44), (0, .ref r0), (1, .ref r1), (2, .int n2), (4, .int x10), (5, .int x25)] _ _ _ _
          refine z_iinc C (z := 1) (lw := fun x45 => [(5, .int x45), (3, .int x44), (0, .ref r0), (1, .ref r1), (2, .int n2), (4, .int x10)]) rfl rfl rfl (Nat.le_of_ble_eq_true rfl) rfl ⟨by omega, by omega⟩ (fun _ => rfl) (fun x45 ex45 => ?_)
          show V 67 [(5, .int x45), (3, .int x44), (0, .ref r0), (1, .ref r1), (2, .int n2), (4, .int x10)] _ _ _ _
          refine k_goto C (pc2 := 20) rfl rfl ?_
          refine k_sub S [(0, .ref r0), (1, .ref r1), (2, .int n2), (3, .int x44), (4, .int x10), (5, .int x45)] (List.forall_mem_cons.mpr ⟨List.mem_of_getElem? (i := 2) rfl, List.forall_mem_cons.mpr ⟨List.mem_of_getElem? (i := 3) rfl, List.forall_mem_cons.mpr ⟨List.mem_of_getElem? (i := 4) rfl, List.forall_mem_cons.mpr ⟨List.mem_of_getElem? (i := 1) rfl, List.forall_mem_cons.mpr ⟨List.mem_of_getElem? (i := 5) rfl, List.forall_mem_cons.mpr ⟨List.mem_of_getElem? (i := 0) rfl, fun _ h => nomatch h⟩⟩⟩⟩⟩⟩) ?_
          exact ihJ18 _ (by omega) I42 L21 x44 x45 rfl hI42 (Chg.cons S28 (Chg.mono S43 (by decide)) (by decide)) (by omega) (by omega) (by omega) (by omega)
      refine k_istore C (lw := [(5, .int x17), (0, .ref r0), (1, .ref r1), (2, .int n2), (3, .int x7), (4, .int x10)]) rfl rfl (Nat.le_of_ble_eq_true rfl) rfl ?_
      refine k_sub S [(0, .ref r0), (1, .ref r1), (2, .int n2), (3, .int x7), (4, .int x10), (5, .int x17)] (List.forall_mem_cons.mpr ⟨List.mem_of_getElem? (i := 1) rfl, List.forall_mem_cons.mpr ⟨List.mem_of_getElem? (i := 2) rfl, List.forall_mem_cons.mpr ⟨List.mem_of_getElem? (i := 3) rfl, List.forall_mem_cons.mpr ⟨List.mem_of_getElem? (i := 4) rfl, List.forall_mem_cons.mpr ⟨List.mem_of_getElem? (i := 5) rfl, List.forall_mem_cons.mpr ⟨List.mem_of_getElem? (i := 0) rfl, fun _ h => nomatch h⟩⟩⟩⟩⟩⟩) ?_
      exact J18 _ I5 L6 x7 x17 rfl hI14 Chg.rf (by omega) (by omega) (by omega) (by omega)
  refine k_istore C (lw := [(4, .int x2), (3, .int x1), (0, .ref r0), (1, .ref r1), (2, .int n2)]) rfl rfl (Nat.le_of_ble_eq_true rfl) rfl ?_
  refine k_sub S [(0, .ref r0), (1, .ref r1), (2, .int n2), (3, .int x1), (4, .int x2)] (List.forall_mem_cons.mpr ⟨List.mem_of_getElem? (i := 2) rfl, List.forall_mem_cons.mpr ⟨List.mem_of_getElem? (i := 3) rfl, List.forall_mem_cons.mpr ⟨List.mem_of_getElem? (i := 4) rfl, List.forall_mem_cons.mpr ⟨List.mem_of_getElem? (i := 1) rfl, List.forall_mem_cons.mpr ⟨List.mem_of_getElem? (i := 0) rfl, fun _ h => nomatch h⟩⟩⟩⟩⟩) ?_
  exact J3 _ I L x1 x2 rfl hI Chg.rf (by omega) (by omega) (by omega) (by omega)

theorem a_X6_run {d : Nat} {T N : Nat → Nat} {I : IT} {L : LT} {R : RT} {A : Nat → Prop} {r0 r1 r2 : Nat} (hI : IX A T I) (H_r0 : (h_Se T N R A) r0) (H_r1 : (h_F T N R A) r1) (H_r2 : (h_F T N R A) r2) : Ex (d + 4) 92 [.ref r0, .ref r1, .ref r2] (T, N, I, L, R) 0 0 (pV T N R (fun I9 L9 => (IX A T I9 ∧ Chg A T [(7, 0), (7, 1)] I L I9 L9))) := by
  refine ⟨_, rfl, Nat.le_of_ble_eq_true rfl, fun V C S => ?_⟩
  show V 0 [(0, .ref r0), (1, .ref r1), (2, .ref r2)] [] (T, N, I, L, R) 0 0
  refine k_aload_n C rfl rfl rfl ?_
  refine z_iconst C (z := -1) rfl rfl rfl (fun x1 ex1 => ?_)
  obtain ⟨T_r0, A_r0, ⟨r0_2, R_r0_2, H_r0_2⟩, ⟨r0_3, R_r0_3, H_r0_3⟩, ⟨r0_4, R_r0_4, H_r0_4⟩, ⟨r0_5, R_r0_5, H_r0_5⟩, ⟨r0_6, R_r0_6, H_r0_6⟩⟩ := id H_r0
  refine z_pI C rfl rfl rfl T_r0 (Or.inr rfl) rfl (fun I2 uI2 => ?_)
  have hI2 : IX A T I2 := IX.f hI T_r0 (boX.tr (by decide) (by decide)) uI2
  have S3 : Chg A T [(7, 0)] I L I2 L := Chg.f A_r0 T_r0 uI2
  have e4 := u2_e uI2
  refine k_aload_n C rfl rfl rfl ?_
  refine z_iconst C (z := 0) rfl rfl rfl (fun x5 ex5 => ?_)
  refine z_pI C rfl rfl rfl T_r0 (Or.inr rfl) rfl (fun I6 uI6 => ?_)
  have hI6 : IX A T I6 := IX.f hI2 T_r0 (boX.tr (by decide) (by decide)) uI6
  have S7 : Chg A T [(7, 1)] I2 L I6 L := Chg.f A_r0 T_r0 uI6
  have e8 := u2_j uI6 (by decide) e4
  have e9 := u2_e uI6
  refine k_aload_n C rfl rfl rfl ?_
  obtain ⟨T_r1, A_r1, ⟨r1_1, R_r1_1, H_r1_1⟩⟩ := id H_r1
  refine z_gI C rfl rfl rfl T_r1 rfl (fun x10 ex10 => ?_)
  have gx10 := rg x10
  have ox10 := IX.deg hI6 A_r1 T_r1 ex10
  refine k_aload_n C rfl rfl rfl ?_
  obtain ⟨T_r2, A_r2, ⟨r2_1, R_r2_1, H_r2_1⟩⟩ := id H_r2
  refine z_gI C rfl rfl rfl T_r2 rfl (fun x11 ex11 => ?_)
  have gx11 := rg x11
  have ox11 := IX.deg hI6 A_r2 T_r2 ex11
  refine b_icmp_eq C (t := 22) rfl rfl rfl (fun c12 => ?_) (fun c12 => ?_)
  · skip
    refine k_aload_n C rfl rfl rfl ?_
    refine g_I C rfl rfl rfl T_r1 rfl ex10 ?_
    refine b_if_eq C (t := 36) rfl rfl rfl (fun c13 => ?_) (fun c13 => ?_)
    · skip
      refine k_aload_n C rfl rfl rfl ?_
      refine k_aload_n C rfl rfl rfl ?_
      refine c_VI C (a_X2_matches hI6 H_r1 H_r2) rfl rfl rfl rfl rfl ⟨_, rfl, rfl, T_r1, Nat.le_of_ble_eq_true rfl⟩ rfl rfl (Nat.le_of_ble_eq_true rfl) (Nat.le_of_ble_eq_true rfl) (Nat.le_of_ble_eq_true rfl) ?_
      rintro x14 _ _ ⟨o0x14, o1x14, rfl, rfl⟩
      have gx14 := rg x14
      refine b_if_eq C (t := 62) rfl rfl rfl (fun c15 => ?_) (fun c15 => ?_)
      · skip
        exact k_vret C rfl rfl (Nat.le_of_ble_eq_true rfl) (Nat.le_of_ble_eq_true rfl) ⟨_, _, rfl, rfl, hI6, (Chg.cons S3 (Chg.mono S7 (by decide)) (by decide))⟩
      refine k_aload_n C rfl rfl rfl ?_
      refine z_sipush C (z := 420) rfl rfl rfl (fun x16 ex16 => ?_)
      refine z_pI C rfl rfl rfl T_r0 (Or.inr rfl) rfl (fun I17 uI17 => ?_)
      have hI17 : IX A T I17 := IX.f hI6 T_r0 (boX.tr (by decide) (by decide)) uI17
      have S18 : Chg A T [(7, 0)] I6 L I17 L := Chg.f A_r0 T_r0 uI17
      have e19 := u2_j uI17 (by decide) e9
      have e20 := u2_n uI17 (t_nq T_r1 T_r0 (by decide)) ex10
      have e21 := u2_n uI17 (t_nq T_r2 T_r0 (by decide)) ex11
      have e22 := u2_e uI17
      refine k_aload_n C rfl rfl rfl ?_
      refine k_aload_n C rfl rfl rfl ?_
      refine g_R C rfl rfl rfl T_r0 rfl R_r0_2 ?_
      obtain ⟨T_r0_2, A_r0_2, ⟨r0_2_0, R_r0_2_0, H_r0_2_0⟩, ⟨r0_2_1, R_r0_2_1, H_r0_2_1⟩, ⟨r0_2_2, R_r0_2_2, H_r0_2_2⟩⟩ := id H_r0_2
      refine c_VI C (a_X0_tables hI17 H_r0_2) rfl rfl rfl rfl rfl ⟨_, rfl, rfl, T_r0_2, Nat.le_of_ble_eq_true rfl⟩ rfl rfl (Nat.le_of_ble_eq_true rfl) (Nat.le_of_ble_eq_true rfl) (Nat.le_of_ble_eq_true rfl) ?_
      rintro x23 _ _ ⟨rfl, rfl⟩
      have gx23 := rg x23
      refine z_pI C rfl rfl rfl T_r0 (Or.inr rfl) rfl (fun I24 uI24 => ?_)
      have hI24 : IX A T I24 := IX.f hI17 T_r0 (boX.tr (by decide) (by decide)) uI24
      have S25 : Chg A T [(7, 1)] I17 L I24 L := Chg.f A_r0 T_r0 uI24
      have e26 := u2_j uI24 (by decide) e20
      have e27 := u2_j uI24 (by decide) e21
      have e28 := u2_j uI24 (by decide) e22
      have e29 := u2_e uI24
      exact k_vret C rfl rfl (Nat.le_of_ble_eq_true rfl) (Nat.le_of_ble_eq_true rfl) ⟨_, _, rfl, rfl, hI24, (Chg.cons S3 (Chg.cons S7 (Chg.cons S18 (Chg.mono S25 (by decide)) (by decide)) (by decide)) (by decide))⟩
    refine k_aload_n C rfl rfl rfl ?_
    refine c_VI C (a_X2_isNought hI6 H_r1) rfl rfl rfl rfl rfl ⟨_, rfl, rfl, T_r1, Nat.le_of_ble_eq_true rfl⟩ rfl rfl (Nat.le_of_ble_eq_true rfl) (Nat.le_of_ble_eq_true rfl) (Nat.le_of_ble_eq_true rfl) ?_
    rintro x30 _ _ ⟨o0x30, o1x30, rfl, rfl⟩
    have gx30 := rg x30
    refine b_if_eq C (t := 63) rfl rfl rfl (fun c31 => ?_) (fun c31 => ?_)
    · skip
      refine k_aload_n C rfl rfl rfl ?_
      refine k_aload_n C rfl rfl rfl ?_
      refine k_aload_n C rfl rfl rfl ?_
      refine c_VV C (a_X6_aim hI6 H_r0 H_r1 H_r2) rfl rfl rfl rfl rfl ⟨_, rfl, rfl, T_r0, Nat.le_of_ble_eq_true rfl⟩ rfl rfl (Nat.le_of_ble_eq_true rfl) (Nat.le_of_ble_eq_true rfl) (Nat.le_of_ble_eq_true rfl) ?_
      rintro I33 L34 ⟨hI33, S35⟩
      have e36 := Chg.k S35 T_r0 (by decide) (by decide) e8
      have e37 := Chg.k S35 T_r0 (by decide) (by decide) e9
      have e38 := Chg.k S35 T_r1 (by decide) (by decide) ex10
      have e39 := Chg.k S35 T_r2 (by decide) (by decide) ex11
      refine k_aload_n C rfl rfl rfl ?_
      refine k_aload_n C rfl rfl rfl ?_
      refine g_R C rfl rfl rfl T_r0 rfl R_r0_5 ?_
      refine k_aload_n C rfl rfl rfl ?_
      refine z_iconst C (z := 0) rfl rfl rfl (fun x40 ex40 => ?_)
      refine c_VI C (a_X6_aimAt hI33 H_r0) rfl rfl rfl rfl rfl ⟨_, rfl, rfl, T_r0, Nat.le_of_ble_eq_true rfl⟩ rfl rfl (Nat.le_of_ble_eq_true rfl) (Nat.le_of_ble_eq_true rfl) (Nat.le_of_ble_eq_true rfl) ?_
      rintro x41 _ _ ⟨rfl, rfl⟩
      have gx41 := rg x41
      refine c_VI C (a_X6_choose_i400 hI33 H_r0 H_r0_5) rfl rfl rfl rfl rfl ⟨_, rfl, rfl, T_r0, Nat.le_of_ble_eq_true rfl⟩ rfl rfl (Nat.le_of_ble_eq_true rfl) (Nat.le_of_ble_eq_true rfl) (Nat.le_of_ble_eq_true rfl) ?_
      rintro x42 I43 L44 ⟨o0x42, o1x42, hI43, S45⟩
      have e46 := Chg.k S45 T_r0 (by decide) (by decide) e36
      have e47 := Chg.k S45 T_r0 (by decide) (by decide) e37
      have e48 := Chg.k S45 T_r1 (by decide) (by decide) e38
      have e49 := Chg.k S45 T_r2 (by decide) (by decide) e39
      have gx42 := rg x42
      refine k_istore_n C (lw := [(3, .int x42), (0, .ref r0), (1, .ref r1), (2, .ref r2)]) rfl rfl (Nat.le_of_ble_eq_true rfl) rfl ?_
      refine k_aload_n C rfl rfl rfl ?_
      refine k_aload_n C rfl rfl rfl ?_
      refine g_R C rfl rfl rfl T_r0 rfl R_r0_6 ?_
      refine k_aload_n C rfl rfl rfl ?_
      refine z_iconst C (z := 1) rfl rfl rfl (fun x50 ex50 => ?_)
      refine c_VI C (a_X6_aimAt hI43 H_r0) rfl rfl rfl rfl rfl ⟨_, rfl, rfl, T_r0, Nat.le_of_ble_eq_true rfl⟩ rfl rfl (Nat.le_of_ble_eq_true rfl) (Nat.le_of_ble_eq_true rfl) (Nat.le_of_ble_eq_true rfl) ?_
      rintro x51 _ _ ⟨rfl, rfl⟩
      have gx51 := rg x51
      refine c_VI C (a_X6_choose_i400 hI43 H_r0 H_r0_6) rfl rfl rfl rfl rfl ⟨_, rfl, rfl, T_r0, Nat.le_of_ble_eq_true rfl⟩ rfl rfl (Nat.le_of_ble_eq_true rfl) (Nat.le_of_ble_eq_true rfl) (Nat.le_of_ble_eq_true rfl) ?_
      rintro x52 I53 L54 ⟨o0x52, o1x52, hI53, S55⟩
      have e56 := Chg.k S55 T_r0 (by decide) (by decide) e46
      have e57 := Chg.k S55 T_r0 (by decide) (by decide) e47
      have e58 := Chg.k S55 T_r1 (by decide) (by decide) e48
      have e59 := Chg.k S55 T_r2 (by decide) (by decide) e49
      have gx52 := rg x52
      refine k_istore C (lw := [(4, .int x52), (3, .int x42), (0, .ref r0), (1, .ref r1), (2, .ref r2)]) rfl rfl (Nat.le_of_ble_eq_true rfl) rfl ?_
      refine z_iconst C (z := 0) rfl rfl rfl (fun x60 ex60 => ?_)
      have J61 : ∀ (nn62 : Nat) (I63 : IT) (L64 : LT) (x65 : Int32), ((401 - x65.toInt).toNat = nn62) → (IX A T I63) → (Chg A T [(7, 0), (7, 1)] I53 L54 I63 L64) → (0 ≤ x65.toInt) → (x65.toInt ≤ 401) → V 101 [(0, .ref r0), (1, .ref r1), (3, .int x42), (4, .int x52), (5, .int x65)] [] (T, N, I63, L64, R) 0 0 := by
        intro nn62
        induction nn62 using Nat.strongRecOn with
        | _ nn62 ihJ61 =>
          intro I63 L64 x65 hmnn62 hI69 S68 b66 b67
          have gx65 := rg x65
          have e70 := Chg.k S68 T_r1 (by decide) (by decide) e58
          have e71 := Chg.k S68 T_r2 (by decide) (by decide) e59
          refine k_iload C rfl rfl rfl ?_
          refine k_iload_n C rfl rfl rfl ?_
          refine b_icmp_ge C (t := 171) rfl rfl rfl (fun c72 => ?_) (fun c72 => ?_)
          · skip
            exact k_vret C rfl rfl (Nat.le_of_ble_eq_true rfl) (Nat.le_of_ble_eq_true rfl) ⟨_, _, rfl, rfl, hI69, (Chg.cons S3 (Chg.cons S7 (Chg.cons S35 (Chg.cons S45 (Chg.cons S55 (Chg.mono S68 (by decide)) (by decide)) (by decide)) (by decide)) (by decide)) (by decide))⟩
          refine k_iload C rfl rfl rfl ?_
          refine k_aload_n C rfl rfl rfl ?_
          refine g_R C rfl rfl rfl T_r0 rfl R_r0_5 ?_
          obtain ⟨T_r0_5, N_r0_5, A_r0_5⟩ := id H_r0_5
          refine z_len C (n := 400) rfl rfl (by rw [T_r0_5]; exact Nat.le_of_ble_eq_true rfl) N_r0_5 (Nat.le_of_ble_eq_true rfl) (fun x73 ex73 => ?_)
          refine b_icmp_ge C (t := 171) rfl rfl rfl (fun c74 => by exfalso; omega) (fun c74 => ?_)
          refine z_iconst C (z := 0) rfl rfl rfl (fun x75 ex75 => ?_)
          have J76 : ∀ (nn77 : Nat) (I78 : IT) (L79 : LT) (x80 : Int32), ((400 - x80.toInt).toNat = nn77) → (IX A T I78) → (Chg A T [(7, 0), (7, 1)] I63 L64 I78 L79) → (0 ≤ x80.toInt) → (x80.toInt ≤ 400) → V 120 [(0, .ref r0), (1, .ref r1), (3, .int x42), (4, .int x52), (5, .int x65), (6, .int x80)] [] (T, N, I78, L79, R) 0 0 := by
            intro nn77
            induction nn77 using Nat.strongRecOn with
            | _ nn77 ihJ76 =>
              intro I78 L79 x80 hmnn77 hI84 S83 b81 b82
              have gx80 := rg x80
              have e85 := Chg.k S83 T_r1 (by decide) (by decide) e70
              have e86 := Chg.k S83 T_r2 (by decide) (by decide) e71
              refine k_iload C rfl rfl rfl ?_
              refine k_iload C rfl rfl rfl ?_
              refine b_icmp_ge C (t := 165) rfl rfl rfl (fun c87 => ?_) (fun c87 => ?_)
              · skip
                refine z_iinc C (z := 1) (lw := fun x88 => [(5, .int x88), (0, .ref r0), (1, .ref r1), (3, .int x42), (4, .int x52), (6, .int x80)]) rfl rfl rfl (Nat.le_of_ble_eq_true rfl) rfl ⟨by omega, by omega⟩ (fun _ => rfl) (fun x88 ex88 => ?_)
                show V 168 [(5, .int x88), (0, .ref r0), (1, .ref r1), (3, .int x42), (4, .int x52), (6, .int x80)] _ _ _ _
                refine k_goto C (pc2 := 101) rfl rfl ?_
                refine k_sub S [(0, .ref r0), (1, .ref r1), (3, .int x42), (4, .int x52), (5, .int x88)] (List.forall_mem_cons.mpr ⟨List.mem_of_getElem? (i := 1) rfl, List.forall_mem_cons.mpr ⟨List.mem_of_getElem? (i := 2) rfl, List.forall_mem_cons.mpr ⟨List.mem_of_getElem? (i := 3) rfl, List.forall_mem_cons.mpr ⟨List.mem_of_getElem? (i := 4) rfl, List.forall_mem_cons.mpr ⟨List.mem_of_getElem? (i := 0) rfl, fun _ h => nomatch h⟩⟩⟩⟩⟩) ?_
                exact ihJ61 _ (by omega) I78 L79 x88 rfl hI84 (Chg.cons S68 (Chg.mono S83 (by decide)) (by decide)) (by omega) (by omega)
              refine k_iload C rfl rfl rfl ?_
              refine k_aload_n C rfl rfl rfl ?_
              refine g_R C rfl rfl rfl T_r0 rfl R_r0_6 ?_
              obtain ⟨T_r0_6, N_r0_6, A_r0_6⟩ := id H_r0_6
              refine z_len C (n := 400) rfl rfl (by rw [T_r0_6]; exact Nat.le_of_ble_eq_true rfl) N_r0_6 (Nat.le_of_ble_eq_true rfl) (fun x89 ex89 => ?_)
              refine b_icmp_ge C (t := 165) rfl rfl rfl (fun c90 => by exfalso; omega) (fun c90 => ?_)
              refine k_aload_n C rfl rfl rfl ?_
              refine k_aload_n C rfl rfl rfl ?_
              refine g_R C rfl rfl rfl T_r0 rfl R_r0_5 ?_
              refine k_iload C rfl rfl rfl ?_
              refine z_aI C rfl rfl T_r0_5 N_r0_5 (by omega) (by omega) (fun x91 ex91 => ?_)
              have gx91 := rg x91
              refine k_aload_n C rfl rfl rfl ?_
              refine g_R C rfl rfl rfl T_r0 rfl R_r0_6 ?_
              refine k_iload C rfl rfl rfl ?_
              refine z_aI C rfl rfl T_r0_6 N_r0_6 (by omega) (by omega) (fun x92 ex92 => ?_)
              have gx92 := rg x92
              refine k_aload_n C rfl rfl rfl ?_
              refine g_I C rfl rfl rfl T_r1 rfl e85 ?_
              refine c_VV C (a_X6_meet hI84 H_r0 (by omega) (by omega)) rfl rfl rfl rfl rfl ⟨_, rfl, rfl, T_r0, Nat.le_of_ble_eq_true rfl⟩ rfl rfl (Nat.le_of_ble_eq_true rfl) (Nat.le_of_ble_eq_true rfl) (Nat.le_of_ble_eq_true rfl) ?_
              rintro I94 L95 ⟨hI94, S96⟩
              have e97 := Chg.k S96 T_r1 (by decide) (by decide) e85
              have e98 := Chg.k S96 T_r2 (by decide) (by decide) e86
              refine z_iinc C (z := 1) (lw := fun x99 => [(6, .int x99), (0, .ref r0), (1, .ref r1), (3, .int x42), (4, .int x52), (5, .int x65)]) rfl rfl rfl (Nat.le_of_ble_eq_true rfl) rfl ⟨by omega, by omega⟩ (fun _ => rfl) (fun x99 ex99 => ?_)
              show V 162 [(6, .int x99), (0, .ref r0), (1, .ref r1), (3, .int x42), (4, .int x52), (5, .int x65)] _ _ _ _
              refine k_goto C (pc2 := 120) rfl rfl ?_
              refine k_sub S [(0, .ref r0), (1, .ref r1), (3, .int x42), (4, .int x52), (5, .int x65), (6, .int x99)] (List.forall_mem_cons.mpr ⟨List.mem_of_getElem? (i := 1) rfl, List.forall_mem_cons.mpr ⟨List.mem_of_getElem? (i := 2) rfl, List.forall_mem_cons.mpr ⟨List.mem_of_getElem? (i := 3) rfl, List.forall_mem_cons.mpr ⟨List.mem_of_getElem? (i := 4) rfl, List.forall_mem_cons.mpr ⟨List.mem_of_getElem? (i := 5) rfl, List.forall_mem_cons.mpr ⟨List.mem_of_getElem? (i := 0) rfl, fun _ h => nomatch h⟩⟩⟩⟩⟩⟩) ?_
              exact ihJ76 _ (by omega) I94 L95 x99 rfl hI94 (Chg.cons S83 (Chg.mono S96 (by decide)) (by decide)) (by omega) (by omega)
          refine k_istore C (lw := [(6, .int x75), (0, .ref r0), (1, .ref r1), (3, .int x42), (4, .int x52), (5, .int x65)]) rfl rfl (Nat.le_of_ble_eq_true rfl) rfl ?_
          refine k_sub S [(0, .ref r0), (1, .ref r1), (3, .int x42), (4, .int x52), (5, .int x65), (6, .int x75)] (List.forall_mem_cons.mpr ⟨List.mem_of_getElem? (i := 1) rfl, List.forall_mem_cons.mpr ⟨List.mem_of_getElem? (i := 2) rfl, List.forall_mem_cons.mpr ⟨List.mem_of_getElem? (i := 3) rfl, List.forall_mem_cons.mpr ⟨List.mem_of_getElem? (i := 4) rfl, List.forall_mem_cons.mpr ⟨List.mem_of_getElem? (i := 5) rfl, List.forall_mem_cons.mpr ⟨List.mem_of_getElem? (i := 0) rfl, fun _ h => nomatch h⟩⟩⟩⟩⟩⟩) ?_
          exact J76 _ I63 L64 x75 rfl hI69 Chg.rf (by omega) (by omega)
      refine k_istore C (lw := [(5, .int x60), (4, .int x52), (3, .int x42), (0, .ref r0), (1, .ref r1), (2, .ref r2)]) rfl rfl (Nat.le_of_ble_eq_true rfl) rfl ?_
      refine k_sub S [(0, .ref r0), (1, .ref r1), (3, .int x42), (4, .int x52), (5, .int x60)] (List.forall_mem_cons.mpr ⟨List.mem_of_getElem? (i := 3) rfl, List.forall_mem_cons.mpr ⟨List.mem_of_getElem? (i := 4) rfl, List.forall_mem_cons.mpr ⟨List.mem_of_getElem? (i := 2) rfl, List.forall_mem_cons.mpr ⟨List.mem_of_getElem? (i := 1) rfl, List.forall_mem_cons.mpr ⟨List.mem_of_getElem? (i := 0) rfl, fun _ h => nomatch h⟩⟩⟩⟩⟩) ?_
      exact J61 _ I53 L54 x60 rfl hI53 Chg.rf (by omega) (by omega)
    refine k_aload_n C rfl rfl rfl ?_
    refine k_aload_n C rfl rfl rfl ?_
    refine c_VI C (a_X2_matches hI6 H_r1 H_r2) rfl rfl rfl rfl rfl ⟨_, rfl, rfl, T_r1, Nat.le_of_ble_eq_true rfl⟩ rfl rfl (Nat.le_of_ble_eq_true rfl) (Nat.le_of_ble_eq_true rfl) (Nat.le_of_ble_eq_true rfl) ?_
    rintro x100 _ _ ⟨o0x100, o1x100, rfl, rfl⟩
    have gx100 := rg x100
    refine b_if_eq C (t := 62) rfl rfl rfl (fun c101 => ?_) (fun c101 => ?_)
    · skip
      exact k_vret C rfl rfl (Nat.le_of_ble_eq_true rfl) (Nat.le_of_ble_eq_true rfl) ⟨_, _, rfl, rfl, hI6, (Chg.cons S3 (Chg.mono S7 (by decide)) (by decide))⟩
    refine k_aload_n C rfl rfl rfl ?_
    refine z_sipush C (z := 420) rfl rfl rfl (fun x102 ex102 => ?_)
    refine z_pI C rfl rfl rfl T_r0 (Or.inr rfl) rfl (fun I103 uI103 => ?_)
    have hI103 : IX A T I103 := IX.f hI6 T_r0 (boX.tr (by decide) (by decide)) uI103
    have S104 : Chg A T [(7, 0)] I6 L I103 L := Chg.f A_r0 T_r0 uI103
    have e105 := u2_j uI103 (by decide) e9
    have e106 := u2_n uI103 (t_nq T_r1 T_r0 (by decide)) ex10
    have e107 := u2_n uI103 (t_nq T_r2 T_r0 (by decide)) ex11
    have e108 := u2_e uI103
    refine k_aload_n C rfl rfl rfl ?_
    refine k_aload_n C rfl rfl rfl ?_
    refine g_R C rfl rfl rfl T_r0 rfl R_r0_2 ?_
    obtain ⟨T_r0_2, A_r0_2, ⟨r0_2_0, R_r0_2_0, H_r0_2_0⟩, ⟨r0_2_1, R_r0_2_1, H_r0_2_1⟩, ⟨r0_2_2, R_r0_2_2, H_r0_2_2⟩⟩ := id H_r0_2
    refine c_VI C (a_X0_tables hI103 H_r0_2) rfl rfl rfl rfl rfl ⟨_, rfl, rfl, T_r0_2, Nat.le_of_ble_eq_true rfl⟩ rfl rfl (Nat.le_of_ble_eq_true rfl) (Nat.le_of_ble_eq_true rfl) (Nat.le_of_ble_eq_true rfl) ?_
    rintro x109 _ _ ⟨rfl, rfl⟩
    have gx109 := rg x109
    refine z_pI C rfl rfl rfl T_r0 (Or.inr rfl) rfl (fun I110 uI110 => ?_)
    have hI110 : IX A T I110 := IX.f hI103 T_r0 (boX.tr (by decide) (by decide)) uI110
    have S111 : Chg A T [(7, 1)] I103 L I110 L := Chg.f A_r0 T_r0 uI110
    have e112 := u2_j uI110 (by decide) e106
    have e113 := u2_j uI110 (by decide) e107
    have e114 := u2_j uI110 (by decide) e108
    have e115 := u2_e uI110
    exact k_vret C rfl rfl (Nat.le_of_ble_eq_true rfl) (Nat.le_of_ble_eq_true rfl) ⟨_, _, rfl, rfl, hI110, (Chg.cons S3 (Chg.cons S7 (Chg.cons S104 (Chg.mono S111 (by decide)) (by decide)) (by decide)) (by decide))⟩
  exact k_vret C rfl rfl (Nat.le_of_ble_eq_true rfl) (Nat.le_of_ble_eq_true rfl) ⟨_, _, rfl, rfl, hI6, (Chg.cons S3 (Chg.mono S7 (by decide)) (by decide))⟩

theorem a_X7_copyFrom {d : Nat} {T N : Nat → Nat} {I : IT} {L : LT} {R : RT} {A : Nat → Prop} {r0 r1 : Nat} (hI : IX A T I) (H_r0 : (h_Sg T N R A) r0) (H_r1 : (h_Sg T N R A) r1) : Ex (d + 2) 93 [.ref r0, .ref r1] (T, N, I, L, R) 0 0 (pV T N R (fun I9 L9 => (IX A T I9 ∧ Chg A T [(8, 2)] I L I9 L9))) := by
  refine ⟨_, rfl, Nat.le_of_ble_eq_true rfl, fun V C S => ?_⟩
  show V 0 [(0, .ref r0), (1, .ref r1)] [] (T, N, I, L, R) 0 0
  refine k_aload_n C rfl rfl rfl ?_
  refine z_iconst C (z := 0) rfl rfl rfl (fun x1 ex1 => ?_)
  obtain ⟨T_r0, A_r0, ⟨r0_0, R_r0_0, H_r0_0⟩, ⟨r0_1, R_r0_1, H_r0_1⟩⟩ := id H_r0
  refine z_pI C rfl rfl rfl T_r0 (Or.inr rfl) rfl (fun I2 uI2 => ?_)
  have hI2 : IX A T I2 := IX.f hI T_r0 (boX.tr (by decide) (by decide)) uI2
  have S3 : Chg A T [(8, 2)] I L I2 L := Chg.f A_r0 T_r0 uI2
  have e4 := u2_e uI2
  refine z_iconst C (z := 0) rfl rfl rfl (fun x5 ex5 => ?_)
  have J6 : ∀ (nn7 : Nat) (I8 : IT) (L9 : LT) (x10 : Int32), ((2147483647 - x10.toInt).toNat = nn7) → (IX A T I8) → (Chg A T [(8, 2)] I2 L I8 L9) → (0 ≤ x10.toInt) → V 7 [(0, .ref r0), (1, .ref r1), (2, .int x10)] [] (T, N, I8, L9, R) 0 0 := by
    intro nn7
    induction nn7 using Nat.strongRecOn with
    | _ nn7 ihJ6 =>
      intro I8 L9 x10 hmnn7 hI13 S12 b11
      have gx10 := rg x10
      refine k_iload_n C rfl rfl rfl ?_
      refine k_aload_n C rfl rfl rfl ?_
      obtain ⟨T_r1, A_r1, ⟨r1_0, R_r1_0, H_r1_0⟩, ⟨r1_1, R_r1_1, H_r1_1⟩⟩ := id H_r1
      refine z_gI C rfl rfl rfl T_r1 rfl (fun x14 ex14 => ?_)
      have gx14 := rg x14
      refine b_icmp_ge C (t := 35) rfl rfl rfl (fun c15 => ?_) (fun c15 => ?_)
      · skip
        exact k_vret C rfl rfl (Nat.le_of_ble_eq_true rfl) (Nat.le_of_ble_eq_true rfl) ⟨_, _, rfl, rfl, hI13, (Chg.cons S3 (Chg.mono S12 (by decide)) (by decide))⟩
      refine k_aload_n C rfl rfl rfl ?_
      refine k_aload_n C rfl rfl rfl ?_
      refine k_iload_n C rfl rfl rfl ?_
      refine c_VI C (a_X7_kindAt hI13 H_r1) rfl rfl rfl rfl rfl ⟨_, rfl, rfl, T_r1, Nat.le_of_ble_eq_true rfl⟩ rfl rfl (Nat.le_of_ble_eq_true rfl) (Nat.le_of_ble_eq_true rfl) (Nat.le_of_ble_eq_true rfl) ?_
      rintro x16 _ _ ⟨rfl, rfl⟩
      have gx16 := rg x16
      refine k_aload_n C rfl rfl rfl ?_
      refine k_iload_n C rfl rfl rfl ?_
      refine c_VI C (a_X7_sizeAt hI13 H_r1) rfl rfl rfl rfl rfl ⟨_, rfl, rfl, T_r1, Nat.le_of_ble_eq_true rfl⟩ rfl rfl (Nat.le_of_ble_eq_true rfl) (Nat.le_of_ble_eq_true rfl) (Nat.le_of_ble_eq_true rfl) ?_
      rintro x17 _ _ ⟨rfl, rfl⟩
      have gx17 := rg x17
      refine c_VV C (a_X7_put hI13 H_r0) rfl rfl rfl rfl rfl ⟨_, rfl, rfl, T_r0, Nat.le_of_ble_eq_true rfl⟩ rfl rfl (Nat.le_of_ble_eq_true rfl) (Nat.le_of_ble_eq_true rfl) (Nat.le_of_ble_eq_true rfl) ?_
      rintro I19 L20 ⟨hI19, S21⟩
      refine z_iinc C (z := 1) (lw := fun x22 => [(2, .int x22), (0, .ref r0), (1, .ref r1)]) rfl rfl rfl (Nat.le_of_ble_eq_true rfl) rfl ⟨by omega, by omega⟩ (fun _ => rfl) (fun x22 ex22 => ?_)
      show V 32 [(2, .int x22), (0, .ref r0), (1, .ref r1)] _ _ _ _
      refine k_goto C (pc2 := 7) rfl rfl ?_
      refine k_sub S [(0, .ref r0), (1, .ref r1), (2, .int x22)] (List.forall_mem_cons.mpr ⟨List.mem_of_getElem? (i := 1) rfl, List.forall_mem_cons.mpr ⟨List.mem_of_getElem? (i := 2) rfl, List.forall_mem_cons.mpr ⟨List.mem_of_getElem? (i := 0) rfl, fun _ h => nomatch h⟩⟩⟩) ?_
      exact ihJ6 _ (by omega) I19 L20 x22 rfl hI19 (Chg.cons S12 (Chg.mono S21 (by decide)) (by decide)) (by omega)
  refine k_istore_n C (lw := [(2, .int x5), (0, .ref r0), (1, .ref r1)]) rfl rfl (Nat.le_of_ble_eq_true rfl) rfl ?_
  refine k_sub S [(0, .ref r0), (1, .ref r1), (2, .int x5)] (List.forall_mem_cons.mpr ⟨List.mem_of_getElem? (i := 1) rfl, List.forall_mem_cons.mpr ⟨List.mem_of_getElem? (i := 2) rfl, List.forall_mem_cons.mpr ⟨List.mem_of_getElem? (i := 0) rfl, fun _ h => nomatch h⟩⟩⟩) ?_
  exact J6 _ I2 L x5 rfl hI2 Chg.rf (by omega)

theorem a_X2_pick_Row16 {d : Nat} {T N : Nat → Nat} {I : IT} {L : LT} {R : RT} {A : Nat → Prop} {r0 : Nat} {n1 : Int32} (hI : IX A T I) (H_r0 : (h_Row16 T N R A) r0) : Ex (d + 1) 36 [.ref r0, .int n1] (T, N, I, L, R) 0 0 (pR T N R (fun x9 I9 L9 => (∀ b, x9 = some b → (h_F T N R A) b) ∧ (I = I9 ∧ L = L9))) := by
  refine ⟨_, rfl, Nat.le_of_ble_eq_true rfl, fun V C S => ?_⟩
  show V 0 [(0, .ref r0), (1, .int n1)] [] (T, N, I, L, R) 0 0
  have gn1 := rg n1
  refine k_iload_n C rfl rfl rfl ?_
  refine b_if_lt C (t := 10) rfl rfl rfl (fun c1 => ?_) (fun c1 => ?_)
  · skip
    refine k_null C rfl rfl ?_
    refine k_goto C (pc2 := 17) rfl rfl ?_
    exact k_aret C (x := none) rfl (Or.inl ⟨_, rfl⟩) (Nat.le_of_ble_eq_true rfl) (Nat.le_of_ble_eq_true rfl) ⟨_, _, _, rfl, rfl, fz, rfl, rfl⟩
  refine k_iload_n C rfl rfl rfl ?_
  refine k_aload_n C rfl rfl rfl ?_
  obtain ⟨T_r0, N_r0, A_r0, E_r0⟩ := id H_r0
  refine z_len C (n := 16) rfl rfl (by rw [T_r0]; exact Nat.le_of_ble_eq_true rfl) N_r0 (Nat.le_of_ble_eq_true rfl) (fun x2 ex2 => ?_)
  refine b_icmp_lt C (t := 14) rfl rfl rfl (fun c3 => ?_) (fun c3 => ?_)
  · skip
    refine k_aload_n C rfl rfl rfl ?_
    refine k_iload_n C rfl rfl rfl ?_
    refine z_aR C (t := 0) rfl rfl (Nat.le_of_ble_eq_true rfl) T_r0 N_r0 E_r0 (by omega) (by omega) (fun rr4 H_rr4 => ?_)
    exact k_aret C (x := some _) rfl (Or.inl ⟨_, rfl⟩) (Nat.le_of_ble_eq_true rfl) (Nat.le_of_ble_eq_true rfl) ⟨_, _, _, rfl, rfl, fb H_rr4, rfl, rfl⟩
  refine k_null C rfl rfl ?_
  refine k_goto C (pc2 := 17) rfl rfl ?_
  exact k_aret C (x := none) rfl (Or.inl ⟨_, rfl⟩) (Nat.le_of_ble_eq_true rfl) (Nat.le_of_ble_eq_true rfl) ⟨_, _, _, rfl, rfl, fz, rfl, rfl⟩

theorem a_X8_formAt {d : Nat} {T N : Nat → Nat} {I : IT} {L : LT} {R : RT} {A : Nat → Prop} {r0 : Nat} {n1 : Int32} (hI : IX A T I) (H_r0 : (h_St T N R A) r0) : Ex (d + 2) 96 [.ref r0, .int n1] (T, N, I, L, R) 0 0 (pR T N R (fun x9 I9 L9 => (∀ b, x9 = some b → (h_F T N R A) b) ∧ (I = I9 ∧ L = L9))) := by
  refine ⟨_, rfl, Nat.le_of_ble_eq_true rfl, fun V C S => ?_⟩
  show V 0 [(0, .ref r0), (1, .int n1)] [] (T, N, I, L, R) 0 0
  have gn1 := rg n1
  refine k_iload_n C rfl rfl rfl ?_
  refine k_aload_n C rfl rfl rfl ?_
  obtain ⟨T_r0, A_r0, ⟨r0_6, R_r0_6, H_r0_6⟩, ⟨r0_7, R_r0_7, H_r0_7⟩, ⟨r0_8, R_r0_8, H_r0_8⟩, ⟨r0_9, R_r0_9, H_r0_9⟩, ⟨r0_10, R_r0_10, H_r0_10⟩⟩ := id H_r0
  refine z_gI C rfl rfl rfl T_r0 rfl (fun x1 ex1 => ?_)
  have gx1 := rg x1
  refine b_icmp_ge C (t := 19) rfl rfl rfl (fun c2 => ?_) (fun c2 => ?_)
  · skip
    refine k_null C rfl rfl ?_
    exact k_aret C (x := none) rfl (Or.inl ⟨_, rfl⟩) (Nat.le_of_ble_eq_true rfl) (Nat.le_of_ble_eq_true rfl) ⟨_, _, _, rfl, rfl, fz, rfl, rfl⟩
  refine k_aload_n C rfl rfl rfl ?_
  refine g_R C rfl rfl rfl T_r0 rfl R_r0_8 ?_
  refine k_iload_n C rfl rfl rfl ?_
  refine c_SR C (a_X2_pick_Row16 hI H_r0_8) rfl rfl rfl rfl rfl rfl rfl (Nat.le_of_ble_eq_true rfl) (Nat.le_of_ble_eq_true rfl) (Nat.le_of_ble_eq_true rfl) ?_
  rintro yy3 _ _ ⟨hyy3, rfl, rfl⟩
  refine k_goto C (pc2 := 20) rfl rfl ?_
  exact k_aret C (x := yy3) rfl (Or.inl ⟨_, rfl⟩) (Nat.le_of_ble_eq_true rfl) (Nat.le_of_ble_eq_true rfl) ⟨_, _, _, rfl, rfl, hyy3, rfl, rfl⟩

theorem a_X8_tableAt {d : Nat} {T N : Nat → Nat} {I : IT} {L : LT} {R : RT} {A : Nat → Prop} {r0 : Nat} {n1 : Int32} (hI : IX A T I) (H_r0 : (h_St T N R A) r0) : Ex (d + 1) 97 [.ref r0, .int n1] (T, N, I, L, R) 0 0 (pR T N R (fun x9 I9 L9 => (∀ b, x9 = some b → (h_Tb T N R A) b) ∧ (I = I9 ∧ L = L9))) := by
  refine ⟨_, rfl, Nat.le_of_ble_eq_true rfl, fun V C S => ?_⟩
  show V 0 [(0, .ref r0), (1, .int n1)] [] (T, N, I, L, R) 0 0
  have gn1 := rg n1
  refine k_iload_n C rfl rfl rfl ?_
  refine b_if_lt C (t := 21) rfl rfl rfl (fun c1 => ?_) (fun c1 => ?_)
  · skip
    refine k_null C rfl rfl ?_
    refine k_goto C (pc2 := 31) rfl rfl ?_
    exact k_aret C (x := none) rfl (Or.inl ⟨_, rfl⟩) (Nat.le_of_ble_eq_true rfl) (Nat.le_of_ble_eq_true rfl) ⟨_, _, _, rfl, rfl, fz, rfl, rfl⟩
  refine k_iload_n C rfl rfl rfl ?_
  refine k_aload_n C rfl rfl rfl ?_
  obtain ⟨T_r0, A_r0, ⟨r0_6, R_r0_6, H_r0_6⟩, ⟨r0_7, R_r0_7, H_r0_7⟩, ⟨r0_8, R_r0_8, H_r0_8⟩, ⟨r0_9, R_r0_9, H_r0_9⟩, ⟨r0_10, R_r0_10, H_r0_10⟩⟩ := id H_r0
  refine z_gI C rfl rfl rfl T_r0 rfl (fun x2 ex2 => ?_)
  have gx2 := rg x2
  refine b_icmp_ge C (t := 21) rfl rfl rfl (fun c3 => ?_) (fun c3 => ?_)
  · skip
    refine k_null C rfl rfl ?_
    refine k_goto C (pc2 := 31) rfl rfl ?_
    exact k_aret C (x := none) rfl (Or.inl ⟨_, rfl⟩) (Nat.le_of_ble_eq_true rfl) (Nat.le_of_ble_eq_true rfl) ⟨_, _, _, rfl, rfl, fz, rfl, rfl⟩
  refine k_iload_n C rfl rfl rfl ?_
  refine k_aload_n C rfl rfl rfl ?_
  refine g_R C rfl rfl rfl T_r0 rfl R_r0_9 ?_
  obtain ⟨T_r0_9, N_r0_9, A_r0_9, E_r0_9⟩ := id H_r0_9
  refine z_len C (n := 8) rfl rfl (by rw [T_r0_9]; exact Nat.le_of_ble_eq_true rfl) N_r0_9 (Nat.le_of_ble_eq_true rfl) (fun x4 ex4 => ?_)
  refine b_icmp_lt C (t := 25) rfl rfl rfl (fun c5 => ?_) (fun c5 => ?_)
  · skip
    refine k_aload_n C rfl rfl rfl ?_
    refine g_R C rfl rfl rfl T_r0 rfl R_r0_9 ?_
    refine k_iload_n C rfl rfl rfl ?_
    refine z_aR C (t := 1) rfl rfl (Nat.le_of_ble_eq_true rfl) T_r0_9 N_r0_9 E_r0_9 (by omega) (by omega) (fun rr6 H_rr6 => ?_)
    exact k_aret C (x := some _) rfl (Or.inl ⟨_, rfl⟩) (Nat.le_of_ble_eq_true rfl) (Nat.le_of_ble_eq_true rfl) ⟨_, _, _, rfl, rfl, fb H_rr6, rfl, rfl⟩
  refine k_null C rfl rfl ?_
  refine k_goto C (pc2 := 31) rfl rfl ?_
  exact k_aret C (x := none) rfl (Or.inl ⟨_, rfl⟩) (Nat.le_of_ble_eq_true rfl) (Nat.le_of_ble_eq_true rfl) ⟨_, _, _, rfl, rfl, fz, rfl, rfl⟩

theorem a_X8_nextForm {d : Nat} {T N : Nat → Nat} {I : IT} {L : LT} {R : RT} {A : Nat → Prop} {r0 : Nat} (hI : IX A T I) (H_r0 : (h_St T N R A) r0) : Ex (d + 3) 98 [.ref r0] (T, N, I, L, R) 0 0 (pR T N R (fun x9 I9 L9 => (∀ b, x9 = some b → (h_F T N R A) b) ∧ (IX A T I9 ∧ Chg A T [(9, 1)] I L I9 L9))) := by
  refine ⟨_, rfl, Nat.le_of_ble_eq_true rfl, fun V C S => ?_⟩
  show V 0 [(0, .ref r0)] [] (T, N, I, L, R) 0 0
  refine k_aload_n C rfl rfl rfl ?_
  obtain ⟨T_r0, A_r0, ⟨r0_6, R_r0_6, H_r0_6⟩, ⟨r0_7, R_r0_7, H_r0_7⟩, ⟨r0_8, R_r0_8, H_r0_8⟩, ⟨r0_9, R_r0_9, H_r0_9⟩, ⟨r0_10, R_r0_10, H_r0_10⟩⟩ := id H_r0
  refine z_gI C rfl rfl rfl T_r0 rfl (fun x1 ex1 => ?_)
  have gx1 := rg x1
  refine z_bipush C (z := 16) rfl rfl rfl (fun x2 ex2 => ?_)
  refine b_icmp_lt C (t := 11) rfl rfl rfl (fun c3 => ?_) (fun c3 => ?_)
  · skip
    refine k_aload_n C rfl rfl rfl ?_
    refine k_dup C rfl rfl rfl ?_
    refine g_I C rfl rfl rfl T_r0 rfl ex1 ?_
    refine z_iconst C (z := 1) rfl rfl rfl (fun x4 ex4 => ?_)
    refine z_iadd C rfl rfl ⟨by omega, by omega⟩ (fun x5 ex5 => ?_)
    refine z_pI C rfl rfl rfl T_r0 (Or.inr rfl) rfl (fun I6 uI6 => ?_)
    have hI6 : IX A T I6 := IX.f hI T_r0 (boX.tr (by decide) (by decide)) uI6
    have S7 : Chg A T [(9, 1)] I L I6 L := Chg.f A_r0 T_r0 uI6
    have e8 := u2_e uI6
    refine k_aload_n C rfl rfl rfl ?_
    refine k_aload_n C rfl rfl rfl ?_
    refine g_I C rfl rfl rfl T_r0 rfl e8 ?_
    refine z_iconst C (z := 1) rfl rfl rfl (fun x9 ex9 => ?_)
    refine z_isub C rfl rfl ⟨by omega, by omega⟩ (fun x10 ex10 => ?_)
    refine c_VR C (a_X8_formAt hI6 H_r0) rfl rfl rfl rfl rfl ⟨_, rfl, rfl, T_r0, Nat.le_of_ble_eq_true rfl⟩ rfl rfl (Nat.le_of_ble_eq_true rfl) (Nat.le_of_ble_eq_true rfl) (Nat.le_of_ble_eq_true rfl) ?_
    rintro yy11 _ _ ⟨hyy11, rfl, rfl⟩
    exact k_aret C (x := yy11) rfl (Or.inl ⟨_, rfl⟩) (Nat.le_of_ble_eq_true rfl) (Nat.le_of_ble_eq_true rfl) ⟨_, _, _, rfl, rfl, hyy11, hI6, (Chg.mono S7 (by decide))⟩
  refine k_null C rfl rfl ?_
  exact k_aret C (x := none) rfl (Or.inl ⟨_, rfl⟩) (Nat.le_of_ble_eq_true rfl) (Nat.le_of_ble_eq_true rfl) ⟨_, _, _, rfl, rfl, fz, hI, Chg.rf⟩

theorem a_X8_nextTable {d : Nat} {T N : Nat → Nat} {I : IT} {L : LT} {R : RT} {A : Nat → Prop} {r0 : Nat} (hI : IX A T I) (H_r0 : (h_St T N R A) r0) : Ex (d + 2) 99 [.ref r0] (T, N, I, L, R) 0 0 (pR T N R (fun x9 I9 L9 => (∀ b, x9 = some b → (h_Tb T N R A) b) ∧ (IX A T I9 ∧ Chg A T [(9, 2)] I L I9 L9))) := by
  refine ⟨_, rfl, Nat.le_of_ble_eq_true rfl, fun V C S => ?_⟩
  show V 0 [(0, .ref r0)] [] (T, N, I, L, R) 0 0
  refine k_aload_n C rfl rfl rfl ?_
  obtain ⟨T_r0, A_r0, ⟨r0_6, R_r0_6, H_r0_6⟩, ⟨r0_7, R_r0_7, H_r0_7⟩, ⟨r0_8, R_r0_8, H_r0_8⟩, ⟨r0_9, R_r0_9, H_r0_9⟩, ⟨r0_10, R_r0_10, H_r0_10⟩⟩ := id H_r0
  refine z_gI C rfl rfl rfl T_r0 rfl (fun x1 ex1 => ?_)
  have gx1 := rg x1
  refine z_bipush C (z := 8) rfl rfl rfl (fun x2 ex2 => ?_)
  refine b_icmp_lt C (t := 11) rfl rfl rfl (fun c3 => ?_) (fun c3 => ?_)
  · skip
    refine k_aload_n C rfl rfl rfl ?_
    refine k_dup C rfl rfl rfl ?_
    refine g_I C rfl rfl rfl T_r0 rfl ex1 ?_
    refine z_iconst C (z := 1) rfl rfl rfl (fun x4 ex4 => ?_)
    refine z_iadd C rfl rfl ⟨by omega, by omega⟩ (fun x5 ex5 => ?_)
    refine z_pI C rfl rfl rfl T_r0 (Or.inr rfl) rfl (fun I6 uI6 => ?_)
    have hI6 : IX A T I6 := IX.f hI T_r0 (boX.tr (by decide) (by decide)) uI6
    have S7 : Chg A T [(9, 2)] I L I6 L := Chg.f A_r0 T_r0 uI6
    have e8 := u2_e uI6
    refine k_aload_n C rfl rfl rfl ?_
    refine k_aload_n C rfl rfl rfl ?_
    refine g_I C rfl rfl rfl T_r0 rfl e8 ?_
    refine z_iconst C (z := 1) rfl rfl rfl (fun x9 ex9 => ?_)
    refine z_isub C rfl rfl ⟨by omega, by omega⟩ (fun x10 ex10 => ?_)
    refine c_VR C (a_X8_tableAt hI6 H_r0) rfl rfl rfl rfl rfl ⟨_, rfl, rfl, T_r0, Nat.le_of_ble_eq_true rfl⟩ rfl rfl (Nat.le_of_ble_eq_true rfl) (Nat.le_of_ble_eq_true rfl) (Nat.le_of_ble_eq_true rfl) ?_
    rintro yy11 _ _ ⟨hyy11, rfl, rfl⟩
    exact k_aret C (x := yy11) rfl (Or.inl ⟨_, rfl⟩) (Nat.le_of_ble_eq_true rfl) (Nat.le_of_ble_eq_true rfl) ⟨_, _, _, rfl, rfl, hyy11, hI6, (Chg.mono S7 (by decide))⟩
  refine k_null C rfl rfl ?_
  exact k_aret C (x := none) rfl (Or.inl ⟨_, rfl⟩) (Nat.le_of_ble_eq_true rfl) (Nat.le_of_ble_eq_true rfl) ⟨_, _, _, rfl, rfl, fz, hI, Chg.rf⟩

theorem a_X8_nextSigns {d : Nat} {T N : Nat → Nat} {I : IT} {L : LT} {R : RT} {A : Nat → Prop} {r0 : Nat} (hI : IX A T I) (H_r0 : (h_St T N R A) r0) : Ex (d + 2) 100 [.ref r0] (T, N, I, L, R) 0 0 (pR T N R (fun x9 I9 L9 => (∀ b, x9 = some b → (h_Sg T N R A) b) ∧ (IX A T I9 ∧ Chg A T [(9, 3)] I L I9 L9))) := by
  refine ⟨_, rfl, Nat.le_of_ble_eq_true rfl, fun V C S => ?_⟩
  show V 0 [(0, .ref r0)] [] (T, N, I, L, R) 0 0
  refine k_aload_n C rfl rfl rfl ?_
  obtain ⟨T_r0, A_r0, ⟨r0_6, R_r0_6, H_r0_6⟩, ⟨r0_7, R_r0_7, H_r0_7⟩, ⟨r0_8, R_r0_8, H_r0_8⟩, ⟨r0_9, R_r0_9, H_r0_9⟩, ⟨r0_10, R_r0_10, H_r0_10⟩⟩ := id H_r0
  refine z_gI C rfl rfl rfl T_r0 rfl (fun x1 ex1 => ?_)
  have gx1 := rg x1
  refine z_bipush C (z := 8) rfl rfl rfl (fun x2 ex2 => ?_)
  refine b_icmp_lt C (t := 11) rfl rfl rfl (fun c3 => ?_) (fun c3 => ?_)
  · skip
    refine k_aload_n C rfl rfl rfl ?_
    refine k_dup C rfl rfl rfl ?_
    refine g_I C rfl rfl rfl T_r0 rfl ex1 ?_
    refine z_iconst C (z := 1) rfl rfl rfl (fun x4 ex4 => ?_)
    refine z_iadd C rfl rfl ⟨by omega, by omega⟩ (fun x5 ex5 => ?_)
    refine z_pI C rfl rfl rfl T_r0 (Or.inr rfl) rfl (fun I6 uI6 => ?_)
    have hI6 : IX A T I6 := IX.f hI T_r0 (boX.tr (by decide) (by decide)) uI6
    have S7 : Chg A T [(9, 3)] I L I6 L := Chg.f A_r0 T_r0 uI6
    have e8 := u2_e uI6
    refine k_aload_n C rfl rfl rfl ?_
    refine k_aload_n C rfl rfl rfl ?_
    refine g_I C rfl rfl rfl T_r0 rfl e8 ?_
    refine z_iconst C (z := 1) rfl rfl rfl (fun x9 ex9 => ?_)
    refine z_isub C rfl rfl ⟨by omega, by omega⟩ (fun x10 ex10 => ?_)
    refine c_VR C (a_X8_signsAt hI6 H_r0) rfl rfl rfl rfl rfl ⟨_, rfl, rfl, T_r0, Nat.le_of_ble_eq_true rfl⟩ rfl rfl (Nat.le_of_ble_eq_true rfl) (Nat.le_of_ble_eq_true rfl) (Nat.le_of_ble_eq_true rfl) ?_
    rintro yy11 _ _ ⟨hyy11, rfl, rfl⟩
    exact k_aret C (x := yy11) rfl (Or.inl ⟨_, rfl⟩) (Nat.le_of_ble_eq_true rfl) (Nat.le_of_ble_eq_true rfl) ⟨_, _, _, rfl, rfl, hyy11, hI6, (Chg.mono S7 (by decide))⟩
  refine k_null C rfl rfl ?_
  exact k_aret C (x := none) rfl (Or.inl ⟨_, rfl⟩) (Nat.le_of_ble_eq_true rfl) (Nat.le_of_ble_eq_true rfl) ⟨_, _, _, rfl, rfl, fz, hI, Chg.rf⟩

theorem a_X8_noughts {d : Nat} {T N : Nat → Nat} {I : IT} {L : LT} {R : RT} {A : Nat → Prop} {r0 : Nat} (hI : IX A T I) (H_r0 : (h_St T N R A) r0) : Ex (d + 4) 101 [.ref r0] (T, N, I, L, R) 0 0 (pI T N R (fun x9 I9 L9 => (I = I9 ∧ L = L9))) := by
  refine ⟨_, rfl, Nat.le_of_ble_eq_true rfl, fun V C S => ?_⟩
  show V 0 [(0, .ref r0)] [] (T, N, I, L, R) 0 0
  refine z_iconst C (z := 0) rfl rfl rfl (fun x1 ex1 => ?_)
  refine k_istore_n C (lw := [(1, .int x1), (0, .ref r0)]) rfl rfl (Nat.le_of_ble_eq_true rfl) rfl ?_
  refine z_iconst C (z := 0) rfl rfl rfl (fun x2 ex2 => ?_)
  have J3 : ∀ (nn4 : Nat) (x5 : Int32) (x6 : Int32), ((2147483647 - x6.toInt).toNat = nn4) → (0 ≤ x6.toInt) → V 4 [(0, .ref r0), (1, .int x5), (2, .int x6)] [] (T, N, I, L, R) 0 0 := by
    intro nn4
    induction nn4 using Nat.strongRecOn with
    | _ nn4 ihJ3 =>
      intro x5 x6 hmnn4 b7
      have gx5 := rg x5
      have gx6 := rg x6
      refine k_iload_n C rfl rfl rfl ?_
      refine k_aload_n C rfl rfl rfl ?_
      obtain ⟨T_r0, A_r0, ⟨r0_6, R_r0_6, H_r0_6⟩, ⟨r0_7, R_r0_7, H_r0_7⟩, ⟨r0_8, R_r0_8, H_r0_8⟩, ⟨r0_9, R_r0_9, H_r0_9⟩, ⟨r0_10, R_r0_10, H_r0_10⟩⟩ := id H_r0
      refine z_gI C rfl rfl rfl T_r0 rfl (fun x8 ex8 => ?_)
      have gx8 := rg x8
      refine b_icmp_ge C (t := 43) rfl rfl rfl (fun c9 => ?_) (fun c9 => ?_)
      · skip
        refine k_iload_n C rfl rfl rfl ?_
        exact k_iret C rfl (Or.inl rfl) (Nat.le_of_ble_eq_true rfl) (Nat.le_of_ble_eq_true rfl) ⟨_, _, _, rfl, rfl, rfl, rfl⟩
      refine k_aload_n C rfl rfl rfl ?_
      refine k_iload_n C rfl rfl rfl ?_
      refine c_VR C (a_X8_formAt hI H_r0) rfl rfl rfl rfl rfl ⟨_, rfl, rfl, T_r0, Nat.le_of_ble_eq_true rfl⟩ rfl rfl (Nat.le_of_ble_eq_true rfl) (Nat.le_of_ble_eq_true rfl) (Nat.le_of_ble_eq_true rfl) ?_
      rintro yy10 _ _ ⟨hyy10, rfl, rfl⟩
      refine k_astore_nV C (x := yy10) (lw := [(3, va_rf yy10), (0, .ref r0), (1, .int x5), (2, .int x6)]) rfl rfl (Nat.le_of_ble_eq_true rfl) rfl ?_
      refine k_iload_n C rfl rfl rfl ?_
      refine k_aload_nV C (x := yy10) rfl rfl rfl ?_
      refine k_ifnull C (x := yy10) (t := 34) rfl rfl rfl (fun c11 => ?_) (fun rr12 c11 => ?_)
      · skip
        subst c11
        refine z_iconst C (z := 0) rfl rfl rfl (fun x13 ex13 => ?_)
        refine z_iadd C rfl rfl ⟨by omega, by omega⟩ (fun x14 ex14 => ?_)
        refine k_istore_n C (lw := [(1, .int x14), (3, va_rf none), (0, .ref r0), (2, .int x6)]) rfl rfl (Nat.le_of_ble_eq_true rfl) rfl ?_
        refine z_iinc C (z := 1) (lw := fun x15 => [(2, .int x15), (1, .int x14), (3, va_rf none), (0, .ref r0)]) rfl rfl rfl (Nat.le_of_ble_eq_true rfl) rfl ⟨by omega, by omega⟩ (fun _ => rfl) (fun x15 ex15 => ?_)
        show V 40 [(2, .int x15), (1, .int x14), (3, va_rf none), (0, .ref r0)] _ _ _ _
        refine k_goto C (pc2 := 4) rfl rfl ?_
        refine k_sub S [(0, .ref r0), (1, .int x14), (2, .int x15)] (List.forall_mem_cons.mpr ⟨List.mem_of_getElem? (i := 3) rfl, List.forall_mem_cons.mpr ⟨List.mem_of_getElem? (i := 1) rfl, List.forall_mem_cons.mpr ⟨List.mem_of_getElem? (i := 0) rfl, fun _ h => nomatch h⟩⟩⟩) ?_
        exact ihJ3 _ (by omega) x14 x15 rfl (by omega)
      subst c11
      have H_rr12 := hyy10 rr12 rfl
      refine k_aload_n C rfl rfl rfl ?_
      obtain ⟨T_rr12, A_rr12, ⟨rr12_1, R_rr12_1, H_rr12_1⟩⟩ := id H_rr12
      refine c_VI C (a_X2_isNought hI H_rr12) rfl rfl rfl rfl rfl ⟨_, rfl, rfl, T_rr12, Nat.le_of_ble_eq_true rfl⟩ rfl rfl (Nat.le_of_ble_eq_true rfl) (Nat.le_of_ble_eq_true rfl) (Nat.le_of_ble_eq_true rfl) ?_
      rintro x16 _ _ ⟨o0x16, o1x16, rfl, rfl⟩
      have gx16 := rg x16
      refine b_if_eq C (t := 34) rfl rfl rfl (fun c17 => ?_) (fun c17 => ?_)
      · skip
        refine z_iconst C (z := 0) rfl rfl rfl (fun x18 ex18 => ?_)
        refine z_iadd C rfl rfl ⟨by omega, by omega⟩ (fun x19 ex19 => ?_)
        refine k_istore_n C (lw := [(1, .int x19), (3, .ref rr12), (0, .ref r0), (2, .int x6)]) rfl rfl (Nat.le_of_ble_eq_true rfl) rfl ?_
        refine z_iinc C (z := 1) (lw := fun x20 => [(2, .int x20), (1, .int x19), (3, .ref rr12), (0, .ref r0)]) rfl rfl rfl (Nat.le_of_ble_eq_true rfl) rfl ⟨by omega, by omega⟩ (fun _ => rfl) (fun x20 ex20 => ?_)
        show V 40 [(2, .int x20), (1, .int x19), (3, .ref rr12), (0, .ref r0)] _ _ _ _
        refine k_goto C (pc2 := 4) rfl rfl ?_
        refine k_sub S [(0, .ref r0), (1, .int x19), (2, .int x20)] (List.forall_mem_cons.mpr ⟨List.mem_of_getElem? (i := 3) rfl, List.forall_mem_cons.mpr ⟨List.mem_of_getElem? (i := 1) rfl, List.forall_mem_cons.mpr ⟨List.mem_of_getElem? (i := 0) rfl, fun _ h => nomatch h⟩⟩⟩) ?_
        exact ihJ3 _ (by omega) x19 x20 rfl (by omega)
      refine z_iconst C (z := 1) rfl rfl rfl (fun x21 ex21 => ?_)
      refine k_goto C (pc2 := 35) rfl rfl ?_
      refine zt_iadd C rfl rfl (fun x22 => ?_)
      have gx22 := rg x22
      refine k_istore_n C (lw := [(1, .int x22), (3, .ref rr12), (0, .ref r0), (2, .int x6)]) rfl rfl (Nat.le_of_ble_eq_true rfl) rfl ?_
      refine z_iinc C (z := 1) (lw := fun x23 => [(2, .int x23), (1, .int x22), (3, .ref rr12), (0, .ref r0)]) rfl rfl rfl (Nat.le_of_ble_eq_true rfl) rfl ⟨by omega, by omega⟩ (fun _ => rfl) (fun x23 ex23 => ?_)
      show V 40 [(2, .int x23), (1, .int x22), (3, .ref rr12), (0, .ref r0)] _ _ _ _
      refine k_goto C (pc2 := 4) rfl rfl ?_
      refine k_sub S [(0, .ref r0), (1, .int x22), (2, .int x23)] (List.forall_mem_cons.mpr ⟨List.mem_of_getElem? (i := 3) rfl, List.forall_mem_cons.mpr ⟨List.mem_of_getElem? (i := 1) rfl, List.forall_mem_cons.mpr ⟨List.mem_of_getElem? (i := 0) rfl, fun _ h => nomatch h⟩⟩⟩) ?_
      exact ihJ3 _ (by omega) x22 x23 rfl (by omega)
  refine k_istore_n C (lw := [(2, .int x2), (1, .int x1), (0, .ref r0)]) rfl rfl (Nat.le_of_ble_eq_true rfl) rfl ?_
  refine k_sub S [(0, .ref r0), (1, .int x1), (2, .int x2)] (List.forall_mem_cons.mpr ⟨List.mem_of_getElem? (i := 2) rfl, List.forall_mem_cons.mpr ⟨List.mem_of_getElem? (i := 1) rfl, List.forall_mem_cons.mpr ⟨List.mem_of_getElem? (i := 0) rfl, fun _ h => nomatch h⟩⟩⟩) ?_
  exact J3 _ x1 x2 rfl (by omega)

theorem a_X2_pick_Row40 {d : Nat} {T N : Nat → Nat} {I : IT} {L : LT} {R : RT} {A : Nat → Prop} {r0 : Nat} {n1 : Int32} (hI : IX A T I) (H_r0 : (h_Row40 T N R A) r0) : Ex (d + 1) 36 [.ref r0, .int n1] (T, N, I, L, R) 0 0 (pR T N R (fun x9 I9 L9 => (∀ b, x9 = some b → (h_F T N R A) b) ∧ (I = I9 ∧ L = L9))) := by
  refine ⟨_, rfl, Nat.le_of_ble_eq_true rfl, fun V C S => ?_⟩
  show V 0 [(0, .ref r0), (1, .int n1)] [] (T, N, I, L, R) 0 0
  have gn1 := rg n1
  refine k_iload_n C rfl rfl rfl ?_
  refine b_if_lt C (t := 10) rfl rfl rfl (fun c1 => ?_) (fun c1 => ?_)
  · skip
    refine k_null C rfl rfl ?_
    refine k_goto C (pc2 := 17) rfl rfl ?_
    exact k_aret C (x := none) rfl (Or.inl ⟨_, rfl⟩) (Nat.le_of_ble_eq_true rfl) (Nat.le_of_ble_eq_true rfl) ⟨_, _, _, rfl, rfl, fz, rfl, rfl⟩
  refine k_iload_n C rfl rfl rfl ?_
  refine k_aload_n C rfl rfl rfl ?_
  obtain ⟨T_r0, N_r0, A_r0, E_r0⟩ := id H_r0
  refine z_len C (n := 40) rfl rfl (by rw [T_r0]; exact Nat.le_of_ble_eq_true rfl) N_r0 (Nat.le_of_ble_eq_true rfl) (fun x2 ex2 => ?_)
  refine b_icmp_lt C (t := 14) rfl rfl rfl (fun c3 => ?_) (fun c3 => ?_)
  · skip
    refine k_aload_n C rfl rfl rfl ?_
    refine k_iload_n C rfl rfl rfl ?_
    refine z_aR C (t := 0) rfl rfl (Nat.le_of_ble_eq_true rfl) T_r0 N_r0 E_r0 (by omega) (by omega) (fun rr4 H_rr4 => ?_)
    exact k_aret C (x := some _) rfl (Or.inl ⟨_, rfl⟩) (Nat.le_of_ble_eq_true rfl) (Nat.le_of_ble_eq_true rfl) ⟨_, _, _, rfl, rfl, fb H_rr4, rfl, rfl⟩
  refine k_null C rfl rfl ?_
  refine k_goto C (pc2 := 17) rfl rfl ?_
  exact k_aret C (x := none) rfl (Or.inl ⟨_, rfl⟩) (Nat.le_of_ble_eq_true rfl) (Nat.le_of_ble_eq_true rfl) ⟨_, _, _, rfl, rfl, fz, rfl, rfl⟩

theorem a_X8_forgetFirst {d : Nat} {T N : Nat → Nat} {I : IT} {L : LT} {R : RT} {A : Nat → Prop} {r0 : Nat} (hI : IX A T I) (H_r0 : (h_St T N R A) r0) : Ex (d + 3) 102 [.ref r0] (T, N, I, L, R) 0 0 (pV T N R (fun I9 L9 => (IX A T I9 ∧ Chg A T [(3, 0), (9, 4)] I L I9 L9))) := by
  refine ⟨_, rfl, Nat.le_of_ble_eq_true rfl, fun V C S => ?_⟩
  show V 0 [(0, .ref r0)] [] (T, N, I, L, R) 0 0
  refine z_iconst C (z := 0) rfl rfl rfl (fun x1 ex1 => ?_)
  have J2 : ∀ (nn3 : Nat) (I4 : IT) (L5 : LT) (x6 : Int32), ((39 - x6.toInt).toNat = nn3) → (IX A T I4) → (Chg A T [(3, 0)] I L I4 L5) → (0 ≤ x6.toInt) → (x6.toInt ≤ 39) → V 2 [(0, .ref r0), (1, .int x6)] [] (T, N, I4, L5, R) 0 0 := by
    intro nn3
    induction nn3 using Nat.strongRecOn with
    | _ nn3 ihJ2 =>
      intro I4 L5 x6 hmnn3 hI10 S9 b7 b8
      have gx6 := rg x6
      refine k_iload_n C rfl rfl rfl ?_
      refine z_iconst C (z := 1) rfl rfl rfl (fun x11 ex11 => ?_)
      refine z_iadd C rfl rfl ⟨by omega, by omega⟩ (fun x12 ex12 => ?_)
      refine k_aload_n C rfl rfl rfl ?_
      obtain ⟨T_r0, A_r0, ⟨r0_6, R_r0_6, H_r0_6⟩, ⟨r0_7, R_r0_7, H_r0_7⟩, ⟨r0_8, R_r0_8, H_r0_8⟩, ⟨r0_9, R_r0_9, H_r0_9⟩, ⟨r0_10, R_r0_10, H_r0_10⟩⟩ := id H_r0
      refine g_R C rfl rfl rfl T_r0 rfl R_r0_6 ?_
      obtain ⟨T_r0_6, N_r0_6, A_r0_6⟩ := id H_r0_6
      refine z_len C (n := 40) rfl rfl (by rw [T_r0_6]; exact Nat.le_of_ble_eq_true rfl) N_r0_6 (Nat.le_of_ble_eq_true rfl) (fun x13 ex13 => ?_)
      refine b_icmp_ge C (t := 66) rfl rfl rfl (fun c14 => ?_) (fun c14 => ?_)
      · skip
        refine k_aload_n C rfl rfl rfl ?_
        refine k_dup C rfl rfl rfl ?_
        refine z_gI C rfl rfl rfl T_r0 rfl (fun x15 ex15 => ?_)
        have gx15 := rg x15
        refine z_iconst C (z := 1) rfl rfl rfl (fun x16 ex16 => ?_)
        refine zt_isub C rfl rfl (fun x17 => ?_)
        have gx17 := rg x17
        refine z_pI C rfl rfl rfl T_r0 (Or.inr rfl) rfl (fun I18 uI18 => ?_)
        have hI18 : IX A T I18 := IX.f hI10 T_r0 (boX.tr (by decide) (by decide)) uI18
        have S19 : Chg A T [(9, 4)] I4 L5 I18 L5 := Chg.f A_r0 T_r0 uI18
        have e20 := u2_e uI18
        exact k_vret C rfl rfl (Nat.le_of_ble_eq_true rfl) (Nat.le_of_ble_eq_true rfl) ⟨_, _, rfl, rfl, hI18, (Chg.cons S9 (Chg.mono S19 (by decide)) (by decide))⟩
      refine k_aload_n C rfl rfl rfl ?_
      refine g_R C rfl rfl rfl T_r0 rfl R_r0_6 ?_
      refine k_iload_n C rfl rfl rfl ?_
      refine k_aload_n C rfl rfl rfl ?_
      refine g_R C rfl rfl rfl T_r0 rfl R_r0_6 ?_
      refine k_iload_n C rfl rfl rfl ?_
      refine z_iconst C (z := 1) rfl rfl rfl (fun x21 ex21 => ?_)
      refine z_iadd C rfl rfl ⟨by omega, by omega⟩ (fun x22 ex22 => ?_)
      refine z_aI C rfl rfl T_r0_6 N_r0_6 (by omega) (by omega) (fun x23 ex23 => ?_)
      have gx23 := rg x23
      refine z_sI C rfl rfl T_r0_6 N_r0_6 (by omega) (by omega) (fun I24 uI24 => ?_)
      have hI24 : IX A T I24 := IX.a hI10 T_r0_6 (Nat.le_of_ble_eq_true rfl) uI24
      have S25 : Chg A T [] I4 L5 I24 L5 := Chg.a A_r0_6 T_r0_6 (Nat.le_of_ble_eq_true rfl) uI24
      refine k_aload_n C rfl rfl rfl ?_
      refine g_R C rfl rfl rfl T_r0 rfl R_r0_7 ?_
      refine k_iload_n C rfl rfl rfl ?_
      refine c_SR C (a_X2_pick_Row40 hI24 H_r0_7) rfl rfl rfl rfl rfl rfl rfl (Nat.le_of_ble_eq_true rfl) (Nat.le_of_ble_eq_true rfl) (Nat.le_of_ble_eq_true rfl) ?_
      rintro yy26 _ _ ⟨hyy26, rfl, rfl⟩
      refine k_astore_nV C (x := yy26) (lw := [(2, va_rf yy26), (0, .ref r0), (1, .int x6)]) rfl rfl (Nat.le_of_ble_eq_true rfl) rfl ?_
      refine k_aload_n C rfl rfl rfl ?_
      refine g_R C rfl rfl rfl T_r0 rfl R_r0_7 ?_
      refine k_iload_n C rfl rfl rfl ?_
      refine z_iconst C (z := 1) rfl rfl rfl (fun x27 ex27 => ?_)
      refine z_iadd C rfl rfl ⟨by omega, by omega⟩ (fun x28 ex28 => ?_)
      refine c_SR C (a_X2_pick_Row40 hI24 H_r0_7) rfl rfl rfl rfl rfl rfl rfl (Nat.le_of_ble_eq_true rfl) (Nat.le_of_ble_eq_true rfl) (Nat.le_of_ble_eq_true rfl) ?_
      rintro yy29 _ _ ⟨hyy29, rfl, rfl⟩
      refine k_astore_nV C (x := yy29) (lw := [(3, va_rf yy29), (2, va_rf yy26), (0, .ref r0), (1, .int x6)]) rfl rfl (Nat.le_of_ble_eq_true rfl) (by cases yy26 <;> rfl) ?_
      refine k_aload_nV C (x := yy26) rfl rfl rfl ?_
      refine k_ifnull C (x := yy26) (t := 60) rfl rfl rfl (fun c30 => ?_) (fun rr31 c30 => ?_)
      · skip
        subst c30
        refine z_iinc C (z := 1) (lw := fun x32 => [(1, .int x32), (3, va_rf yy29), (2, va_rf none), (0, .ref r0)]) rfl rfl rfl (Nat.le_of_ble_eq_true rfl) rfl ⟨by omega, by omega⟩ (fun _ => rfl) (fun x32 ex32 => ?_)
        show V 63 [(1, .int x32), (3, va_rf yy29), (2, va_rf none), (0, .ref r0)] _ _ _ _
        refine k_goto C (pc2 := 2) rfl rfl ?_
        refine k_sub S [(0, .ref r0), (1, .int x32)] (List.forall_mem_cons.mpr ⟨List.mem_of_getElem? (i := 3) rfl, List.forall_mem_cons.mpr ⟨List.mem_of_getElem? (i := 0) rfl, fun _ h => nomatch h⟩⟩) ?_
        exact ihJ2 _ (by omega) I24 L5 x32 rfl hI24 (Chg.cons S9 (Chg.mono S25 (by decide)) (by decide)) (by omega) (by omega)
      subst c30
      have H_rr31 := hyy26 rr31 rfl
      refine k_aload_nV C (x := yy29) rfl rfl rfl ?_
      refine k_ifnull C (x := yy29) (t := 60) rfl rfl rfl (fun c33 => ?_) (fun rr34 c33 => ?_)
      · skip
        subst c33
        refine z_iinc C (z := 1) (lw := fun x35 => [(1, .int x35), (3, va_rf none), (2, .ref rr31), (0, .ref r0)]) rfl rfl rfl (Nat.le_of_ble_eq_true rfl) rfl ⟨by omega, by omega⟩ (fun _ => rfl) (fun x35 ex35 => ?_)
        show V 63 [(1, .int x35), (3, va_rf none), (2, .ref rr31), (0, .ref r0)] _ _ _ _
        refine k_goto C (pc2 := 2) rfl rfl ?_
        refine k_sub S [(0, .ref r0), (1, .int x35)] (List.forall_mem_cons.mpr ⟨List.mem_of_getElem? (i := 3) rfl, List.forall_mem_cons.mpr ⟨List.mem_of_getElem? (i := 0) rfl, fun _ h => nomatch h⟩⟩) ?_
        exact ihJ2 _ (by omega) I24 L5 x35 rfl hI24 (Chg.cons S9 (Chg.mono S25 (by decide)) (by decide)) (by omega) (by omega)
      subst c33
      have H_rr34 := hyy29 rr34 rfl
      refine k_aload_n C rfl rfl rfl ?_
      refine k_aload_n C rfl rfl rfl ?_
      obtain ⟨T_rr31, A_rr31, ⟨rr31_1, R_rr31_1, H_rr31_1⟩⟩ := id H_rr31
      refine c_VV C (a_X2_copyFrom hI24 H_rr31 H_rr34) rfl rfl rfl rfl rfl ⟨_, rfl, rfl, T_rr31, Nat.le_of_ble_eq_true rfl⟩ rfl rfl (Nat.le_of_ble_eq_true rfl) (Nat.le_of_ble_eq_true rfl) (Nat.le_of_ble_eq_true rfl) ?_
      rintro I37 L38 ⟨p0v36, p1v36, hI37, S39⟩
      obtain ⟨x40, e41⟩ : ∃ x, I37 rr31 0 = x := ⟨_, rfl⟩
      have gx40 := rg x40
      have ox40 := IX.deg hI37 A_rr31 T_rr31 e41
      obtain ⟨T_rr34, A_rr34, ⟨rr34_1, R_rr34_1, H_rr34_1⟩⟩ := id H_rr34
      obtain ⟨x42, e43⟩ : ∃ x, I37 rr34 0 = x := ⟨_, rfl⟩
      have gx42 := rg x42
      have ox42 := IX.deg hI37 A_rr34 T_rr34 e43
      try simp only [e41, e43] at p0v36
      try have q0v36 := congrArg Int32.toInt p0v36
      try simp only [e41, e43] at p1v36
      try have q1v36 := congrArg Int32.toInt p1v36
      refine z_iinc C (z := 1) (lw := fun x44 => [(1, .int x44), (3, .ref rr34), (2, .ref rr31), (0, .ref r0)]) rfl rfl rfl (Nat.le_of_ble_eq_true rfl) rfl ⟨by omega, by omega⟩ (fun _ => rfl) (fun x44 ex44 => ?_)
      show V 63 [(1, .int x44), (3, .ref rr34), (2, .ref rr31), (0, .ref r0)] _ _ _ _
      refine k_goto C (pc2 := 2) rfl rfl ?_
      refine k_sub S [(0, .ref r0), (1, .int x44)] (List.forall_mem_cons.mpr ⟨List.mem_of_getElem? (i := 3) rfl, List.forall_mem_cons.mpr ⟨List.mem_of_getElem? (i := 0) rfl, fun _ h => nomatch h⟩⟩) ?_
      exact ihJ2 _ (by omega) I37 L38 x44 rfl hI37 (Chg.cons S9 (Chg.cons S25 (Chg.mono S39 (by decide)) (by decide)) (by decide)) (by omega) (by omega)
  refine k_istore_n C (lw := [(1, .int x1), (0, .ref r0)]) rfl rfl (Nat.le_of_ble_eq_true rfl) rfl ?_
  refine k_sub S [(0, .ref r0), (1, .int x1)] (List.forall_mem_cons.mpr ⟨List.mem_of_getElem? (i := 1) rfl, List.forall_mem_cons.mpr ⟨List.mem_of_getElem? (i := 0) rfl, fun _ h => nomatch h⟩⟩) ?_
  exact J2 _ I L x1 rfl hI Chg.rf (by omega) (by omega)

theorem a_X8_write {d : Nat} {T N : Nat → Nat} {I : IT} {L : LT} {R : RT} {A : Nat → Prop} {r0 r2 : Nat} {n1 : Int32} (hI : IX A T I) (H_r0 : (h_St T N R A) r0) (H_r2 : (h_F T N R A) r2) : Ex (d + 4) 103 [.ref r0, .int n1, .ref r2] (T, N, I, L, R) 0 0 (pV T N R (fun I9 L9 => (IX A T I9 ∧ Chg A T [(3, 0), (9, 4), (9, 5)] I L I9 L9))) := by
  refine ⟨_, rfl, Nat.le_of_ble_eq_true rfl, fun V C S => ?_⟩
  show V 0 [(0, .ref r0), (1, .int n1), (2, .ref r2)] [] (T, N, I, L, R) 0 0
  have gn1 := rg n1
  refine k_aload_n C rfl rfl rfl ?_
  refine z_iconst C (z := 0) rfl rfl rfl (fun x1 ex1 => ?_)
  obtain ⟨T_r0, A_r0, ⟨r0_6, R_r0_6, H_r0_6⟩, ⟨r0_7, R_r0_7, H_r0_7⟩, ⟨r0_8, R_r0_8, H_r0_8⟩, ⟨r0_9, R_r0_9, H_r0_9⟩, ⟨r0_10, R_r0_10, H_r0_10⟩⟩ := id H_r0
  refine z_pI C rfl rfl rfl T_r0 (Or.inr rfl) rfl (fun I2 uI2 => ?_)
  have hI2 : IX A T I2 := IX.f hI T_r0 (boX.tr (by decide) (by decide)) uI2
  have S3 : Chg A T [(9, 5)] I L I2 L := Chg.f A_r0 T_r0 uI2
  have e4 := u2_e uI2
  refine k_aload_n C rfl rfl rfl ?_
  refine z_gI C rfl rfl rfl T_r0 rfl (fun x5 ex5 => ?_)
  have gx5 := rg x5
  refine z_bipush C (z := 40) rfl rfl rfl (fun x6 ex6 => ?_)
  have J7 : ∀ (I9 : IT) (L10 : LT), (IX A T I9) → (Chg A T [(3, 0), (9, 4)] I2 L I9 L10) → V 18 [(0, .ref r0), (1, .int n1), (2, .ref r2)] [] (T, N, I9, L10, R) 0 0 := by
    intro I9 L10 hI12 S11
    have e13 := Chg.k S11 T_r0 (by decide) (by decide) e4
    refine k_aload_n C rfl rfl rfl ?_
    refine g_R C rfl rfl rfl T_r0 rfl R_r0_7 ?_
    refine k_aload_n C rfl rfl rfl ?_
    refine z_gI C rfl rfl rfl T_r0 rfl (fun x14 ex14 => ?_)
    have gx14 := rg x14
    refine c_SR C (a_X2_pick_Row40 hI12 H_r0_7) rfl rfl rfl rfl rfl rfl rfl (Nat.le_of_ble_eq_true rfl) (Nat.le_of_ble_eq_true rfl) (Nat.le_of_ble_eq_true rfl) ?_
    rintro yy15 _ _ ⟨hyy15, rfl, rfl⟩
    refine k_astore_nV C (x := yy15) (lw := [(3, va_rf yy15), (0, .ref r0), (1, .int n1), (2, .ref r2)]) rfl rfl (Nat.le_of_ble_eq_true rfl) rfl ?_
    refine k_aload_nV C (x := yy15) rfl rfl rfl ?_
    refine k_ifnull C (x := yy15) (t := 78) rfl rfl rfl (fun c16 => ?_) (fun rr17 c16 => ?_)
    · skip
      subst c16
      exact k_vret C rfl rfl (Nat.le_of_ble_eq_true rfl) (Nat.le_of_ble_eq_true rfl) ⟨_, _, rfl, rfl, hI12, (Chg.cons S3 (Chg.mono S11 (by decide)) (by decide))⟩
    subst c16
    have H_rr17 := hyy15 rr17 rfl
    refine k_aload_n C rfl rfl rfl ?_
    refine g_I C rfl rfl rfl T_r0 rfl ex14 ?_
    refine b_if_lt C (t := 78) rfl rfl rfl (fun c18 => ?_) (fun c18 => ?_)
    · skip
      exact k_vret C rfl rfl (Nat.le_of_ble_eq_true rfl) (Nat.le_of_ble_eq_true rfl) ⟨_, _, rfl, rfl, hI12, (Chg.cons S3 (Chg.mono S11 (by decide)) (by decide))⟩
    refine k_aload_n C rfl rfl rfl ?_
    refine g_I C rfl rfl rfl T_r0 rfl ex14 ?_
    refine k_aload_n C rfl rfl rfl ?_
    refine g_R C rfl rfl rfl T_r0 rfl R_r0_6 ?_
    obtain ⟨T_r0_6, N_r0_6, A_r0_6⟩ := id H_r0_6
    refine z_len C (n := 40) rfl rfl (by rw [T_r0_6]; exact Nat.le_of_ble_eq_true rfl) N_r0_6 (Nat.le_of_ble_eq_true rfl) (fun x19 ex19 => ?_)
    refine b_icmp_ge C (t := 78) rfl rfl rfl (fun c20 => ?_) (fun c20 => ?_)
    · skip
      exact k_vret C rfl rfl (Nat.le_of_ble_eq_true rfl) (Nat.le_of_ble_eq_true rfl) ⟨_, _, rfl, rfl, hI12, (Chg.cons S3 (Chg.mono S11 (by decide)) (by decide))⟩
    refine k_aload_n C rfl rfl rfl ?_
    refine g_R C rfl rfl rfl T_r0 rfl R_r0_6 ?_
    refine k_aload_n C rfl rfl rfl ?_
    refine g_I C rfl rfl rfl T_r0 rfl ex14 ?_
    refine k_iload_n C rfl rfl rfl ?_
    refine z_sI C rfl rfl T_r0_6 N_r0_6 (by omega) (by omega) (fun I21 uI21 => ?_)
    have hI21 : IX A T I21 := IX.a hI12 T_r0_6 (Nat.le_of_ble_eq_true rfl) uI21
    have S22 : Chg A T [] I9 L10 I21 L10 := Chg.a A_r0_6 T_r0_6 (Nat.le_of_ble_eq_true rfl) uI21
    have e23 := u2_n uI21 (t_nq T_r0 T_r0_6 (by decide)) e13
    have e24 := u2_n uI21 (t_nq T_r0 T_r0_6 (by decide)) ex14
    refine k_aload_n C rfl rfl rfl ?_
    refine k_aload_n C rfl rfl rfl ?_
    obtain ⟨T_rr17, A_rr17, ⟨rr17_1, R_rr17_1, H_rr17_1⟩⟩ := id H_rr17
    refine c_VV C (a_X2_copyFrom hI21 H_rr17 H_r2) rfl rfl rfl rfl rfl ⟨_, rfl, rfl, T_rr17, Nat.le_of_ble_eq_true rfl⟩ rfl rfl (Nat.le_of_ble_eq_true rfl) (Nat.le_of_ble_eq_true rfl) (Nat.le_of_ble_eq_true rfl) ?_
    rintro I26 L27 ⟨p0v25, p1v25, hI26, S28⟩
    have e29 := Chg.k S28 T_r0 (by decide) (by decide) e23
    have e30 := Chg.k S28 T_r0 (by decide) (by decide) e24
    obtain ⟨x31, e32⟩ : ∃ x, I26 rr17 0 = x := ⟨_, rfl⟩
    have gx31 := rg x31
    have ox31 := IX.deg hI26 A_rr17 T_rr17 e32
    obtain ⟨T_r2, A_r2, ⟨r2_1, R_r2_1, H_r2_1⟩⟩ := id H_r2
    obtain ⟨x33, e34⟩ : ∃ x, I26 r2 0 = x := ⟨_, rfl⟩
    have gx33 := rg x33
    have ox33 := IX.deg hI26 A_r2 T_r2 e34
    try simp only [e23, e24, e32, e34] at p0v25
    try have q0v25 := congrArg Int32.toInt p0v25
    try simp only [e23, e24, e32, e34] at p1v25
    try have q1v25 := congrArg Int32.toInt p1v25
    refine k_aload_n C rfl rfl rfl ?_
    refine k_dup C rfl rfl rfl ?_
    refine g_I C rfl rfl rfl T_r0 rfl e30 ?_
    refine z_iconst C (z := 1) rfl rfl rfl (fun x35 ex35 => ?_)
    refine z_iadd C rfl rfl ⟨by omega, by omega⟩ (fun x36 ex36 => ?_)
    refine z_pI C rfl rfl rfl T_r0 (Or.inr rfl) rfl (fun I37 uI37 => ?_)
    have hI37 : IX A T I37 := IX.f hI26 T_r0 (boX.tr (by decide) (by decide)) uI37
    have S38 : Chg A T [(9, 4)] I26 L27 I37 L27 := Chg.f A_r0 T_r0 uI37
    have e39 := u2_j uI37 (by decide) e29
    have e40 := u2_j uI37 (by decide) e32
    have e41 := u2_j uI37 (by decide) e34
    have e42 := u2_e uI37
    exact k_vret C rfl rfl (Nat.le_of_ble_eq_true rfl) (Nat.le_of_ble_eq_true rfl) ⟨_, _, rfl, rfl, hI37, (Chg.cons S3 (Chg.cons S11 (Chg.cons S22 (Chg.cons S28 (Chg.mono S38 (by decide)) (by decide)) (by decide)) (by decide)) (by decide))⟩
  refine b_icmp_lt C (t := 18) rfl rfl rfl (fun c43 => ?_) (fun c43 => ?_)
  · skip
    refine k_sub S [(0, .ref r0), (1, .int n1), (2, .ref r2)] (List.forall_mem_cons.mpr ⟨List.mem_of_getElem? (i := 0) rfl, List.forall_mem_cons.mpr ⟨List.mem_of_getElem? (i := 1) rfl, List.forall_mem_cons.mpr ⟨List.mem_of_getElem? (i := 2) rfl, fun _ h => nomatch h⟩⟩⟩) ?_
    exact J7 I2 L hI2 Chg.rf
  refine k_aload_n C rfl rfl rfl ?_
  refine c_VV C (a_X8_forgetFirst hI2 H_r0) rfl rfl rfl rfl rfl ⟨_, rfl, rfl, T_r0, Nat.le_of_ble_eq_true rfl⟩ rfl rfl (Nat.le_of_ble_eq_true rfl) (Nat.le_of_ble_eq_true rfl) (Nat.le_of_ble_eq_true rfl) ?_
  rintro I45 L46 ⟨hI45, S47⟩
  have e48 := Chg.k S47 T_r0 (by decide) (by decide) e4
  refine k_sub S [(0, .ref r0), (1, .int n1), (2, .ref r2)] (List.forall_mem_cons.mpr ⟨List.mem_of_getElem? (i := 0) rfl, List.forall_mem_cons.mpr ⟨List.mem_of_getElem? (i := 1) rfl, List.forall_mem_cons.mpr ⟨List.mem_of_getElem? (i := 2) rfl, fun _ h => nomatch h⟩⟩⟩) ?_
  exact J7 I45 L46 hI45 (Chg.mono S47 (by decide))

theorem a_X8_forgetUndone {d : Nat} {T N : Nat → Nat} {I : IT} {L : LT} {R : RT} {A : Nat → Prop} {r0 : Nat} (hI : IX A T I) (H_r0 : (h_St T N R A) r0) : Ex (d + 1) 104 [.ref r0] (T, N, I, L, R) 0 0 (pV T N R (fun I9 L9 => (IX A T I9 ∧ Chg A T [(9, 5)] I L I9 L9))) := by
  refine ⟨_, rfl, Nat.le_of_ble_eq_true rfl, fun V C S => ?_⟩
  show V 0 [(0, .ref r0)] [] (T, N, I, L, R) 0 0
  refine k_aload_n C rfl rfl rfl ?_
  refine z_iconst C (z := 0) rfl rfl rfl (fun x1 ex1 => ?_)
  obtain ⟨T_r0, A_r0, ⟨r0_6, R_r0_6, H_r0_6⟩, ⟨r0_7, R_r0_7, H_r0_7⟩, ⟨r0_8, R_r0_8, H_r0_8⟩, ⟨r0_9, R_r0_9, H_r0_9⟩, ⟨r0_10, R_r0_10, H_r0_10⟩⟩ := id H_r0
  refine z_pI C rfl rfl rfl T_r0 (Or.inr rfl) rfl (fun I2 uI2 => ?_)
  have hI2 : IX A T I2 := IX.f hI T_r0 (boX.tr (by decide) (by decide)) uI2
  have S3 : Chg A T [(9, 5)] I L I2 L := Chg.f A_r0 T_r0 uI2
  have e4 := u2_e uI2
  exact k_vret C rfl rfl (Nat.le_of_ble_eq_true rfl) (Nat.le_of_ble_eq_true rfl) ⟨_, _, rfl, rfl, hI2, (Chg.mono S3 (by decide))⟩

theorem a_X8_nextBack {d : Nat} {T N : Nat → Nat} {I : IT} {L : LT} {R : RT} {A : Nat → Prop} {r0 : Nat} (hI : IX A T I) (H_r0 : (h_St T N R A) r0) : Ex (d + 1) 105 [.ref r0] (T, N, I, L, R) 0 0 (pI T N R (fun x9 I9 L9 => (I = I9 ∧ L = L9))) := by
  refine ⟨_, rfl, Nat.le_of_ble_eq_true rfl, fun V C S => ?_⟩
  show V 0 [(0, .ref r0)] [] (T, N, I, L, R) 0 0
  refine k_aload_n C rfl rfl rfl ?_
  obtain ⟨T_r0, A_r0, ⟨r0_6, R_r0_6, H_r0_6⟩, ⟨r0_7, R_r0_7, H_r0_7⟩, ⟨r0_8, R_r0_8, H_r0_8⟩, ⟨r0_9, R_r0_9, H_r0_9⟩, ⟨r0_10, R_r0_10, H_r0_10⟩⟩ := id H_r0
  refine z_gI C rfl rfl rfl T_r0 rfl (fun x1 ex1 => ?_)
  have gx1 := rg x1
  refine b_if_le C (t := 33) rfl rfl rfl (fun c2 => ?_) (fun c2 => ?_)
  · skip
    refine z_iconst C (z := -1) rfl rfl rfl (fun x3 ex3 => ?_)
    exact k_iret C rfl (Or.inl rfl) (Nat.le_of_ble_eq_true rfl) (Nat.le_of_ble_eq_true rfl) ⟨_, _, _, rfl, rfl, rfl, rfl⟩
  refine k_aload_n C rfl rfl rfl ?_
  refine g_I C rfl rfl rfl T_r0 rfl ex1 ?_
  refine k_aload_n C rfl rfl rfl ?_
  refine g_R C rfl rfl rfl T_r0 rfl R_r0_6 ?_
  obtain ⟨T_r0_6, N_r0_6, A_r0_6⟩ := id H_r0_6
  refine z_len C (n := 40) rfl rfl (by rw [T_r0_6]; exact Nat.le_of_ble_eq_true rfl) N_r0_6 (Nat.le_of_ble_eq_true rfl) (fun x4 ex4 => ?_)
  refine b_icmp_gt C (t := 33) rfl rfl rfl (fun c5 => ?_) (fun c5 => ?_)
  · skip
    refine z_iconst C (z := -1) rfl rfl rfl (fun x6 ex6 => ?_)
    exact k_iret C rfl (Or.inl rfl) (Nat.le_of_ble_eq_true rfl) (Nat.le_of_ble_eq_true rfl) ⟨_, _, _, rfl, rfl, rfl, rfl⟩
  refine k_aload_n C rfl rfl rfl ?_
  refine g_R C rfl rfl rfl T_r0 rfl R_r0_6 ?_
  refine k_aload_n C rfl rfl rfl ?_
  refine g_I C rfl rfl rfl T_r0 rfl ex1 ?_
  refine z_iconst C (z := 1) rfl rfl rfl (fun x7 ex7 => ?_)
  refine z_isub C rfl rfl ⟨by omega, by omega⟩ (fun x8 ex8 => ?_)
  refine z_aI C rfl rfl T_r0_6 N_r0_6 (by omega) (by omega) (fun x9 ex9 => ?_)
  have gx9 := rg x9
  refine k_goto C (pc2 := 34) rfl rfl ?_
  exact k_iret C rfl (Or.inl rfl) (Nat.le_of_ble_eq_true rfl) (Nat.le_of_ble_eq_true rfl) ⟨_, _, _, rfl, rfl, rfl, rfl⟩

theorem a_X8_nextOn {d : Nat} {T N : Nat → Nat} {I : IT} {L : LT} {R : RT} {A : Nat → Prop} {r0 : Nat} (hI : IX A T I) (H_r0 : (h_St T N R A) r0) : Ex (d + 1) 106 [.ref r0] (T, N, I, L, R) 0 0 (pI T N R (fun x9 I9 L9 => (I = I9 ∧ L = L9))) := by
  refine ⟨_, rfl, Nat.le_of_ble_eq_true rfl, fun V C S => ?_⟩
  show V 0 [(0, .ref r0)] [] (T, N, I, L, R) 0 0
  refine k_aload_n C rfl rfl rfl ?_
  obtain ⟨T_r0, A_r0, ⟨r0_6, R_r0_6, H_r0_6⟩, ⟨r0_7, R_r0_7, H_r0_7⟩, ⟨r0_8, R_r0_8, H_r0_8⟩, ⟨r0_9, R_r0_9, H_r0_9⟩, ⟨r0_10, R_r0_10, H_r0_10⟩⟩ := id H_r0
  refine z_gI C rfl rfl rfl T_r0 rfl (fun x1 ex1 => ?_)
  have gx1 := rg x1
  refine b_if_le C (t := 38) rfl rfl rfl (fun c2 => ?_) (fun c2 => ?_)
  · skip
    refine z_iconst C (z := -1) rfl rfl rfl (fun x3 ex3 => ?_)
    exact k_iret C rfl (Or.inl rfl) (Nat.le_of_ble_eq_true rfl) (Nat.le_of_ble_eq_true rfl) ⟨_, _, _, rfl, rfl, rfl, rfl⟩
  refine k_aload_n C rfl rfl rfl ?_
  refine z_gI C rfl rfl rfl T_r0 rfl (fun x4 ex4 => ?_)
  have gx4 := rg x4
  refine b_if_lt C (t := 38) rfl rfl rfl (fun c5 => ?_) (fun c5 => ?_)
  · skip
    refine z_iconst C (z := -1) rfl rfl rfl (fun x6 ex6 => ?_)
    exact k_iret C rfl (Or.inl rfl) (Nat.le_of_ble_eq_true rfl) (Nat.le_of_ble_eq_true rfl) ⟨_, _, _, rfl, rfl, rfl, rfl⟩
  refine k_aload_n C rfl rfl rfl ?_
  refine g_I C rfl rfl rfl T_r0 rfl ex4 ?_
  refine k_aload_n C rfl rfl rfl ?_
  refine g_R C rfl rfl rfl T_r0 rfl R_r0_6 ?_
  obtain ⟨T_r0_6, N_r0_6, A_r0_6⟩ := id H_r0_6
  refine z_len C (n := 40) rfl rfl (by rw [T_r0_6]; exact Nat.le_of_ble_eq_true rfl) N_r0_6 (Nat.le_of_ble_eq_true rfl) (fun x7 ex7 => ?_)
  refine b_icmp_ge C (t := 38) rfl rfl rfl (fun c8 => ?_) (fun c8 => ?_)
  · skip
    refine z_iconst C (z := -1) rfl rfl rfl (fun x9 ex9 => ?_)
    exact k_iret C rfl (Or.inl rfl) (Nat.le_of_ble_eq_true rfl) (Nat.le_of_ble_eq_true rfl) ⟨_, _, _, rfl, rfl, rfl, rfl⟩
  refine k_aload_n C rfl rfl rfl ?_
  refine g_R C rfl rfl rfl T_r0 rfl R_r0_6 ?_
  refine k_aload_n C rfl rfl rfl ?_
  refine g_I C rfl rfl rfl T_r0 rfl ex4 ?_
  refine z_aI C rfl rfl T_r0_6 N_r0_6 (by omega) (by omega) (fun x10 ex10 => ?_)
  have gx10 := rg x10
  refine k_goto C (pc2 := 39) rfl rfl ?_
  exact k_iret C rfl (Or.inl rfl) (Nat.le_of_ble_eq_true rfl) (Nat.le_of_ble_eq_true rfl) ⟨_, _, _, rfl, rfl, rfl, rfl⟩

theorem a_X8_stepBack {d : Nat} {T N : Nat → Nat} {I : IT} {L : LT} {R : RT} {A : Nat → Prop} {r0 r1 : Nat} (hI : IX A T I) (H_r0 : (h_St T N R A) r0) (H_r1 : (h_F T N R A) r1) : Ex (d + 3) 107 [.ref r0, .ref r1] (T, N, I, L, R) 0 0 (pV T N R (fun I9 L9 => (IX A T I9 ∧ Chg A T [(9, 4), (9, 5)] I L I9 L9))) := by
  refine ⟨_, rfl, Nat.le_of_ble_eq_true rfl, fun V C S => ?_⟩
  show V 0 [(0, .ref r0), (1, .ref r1)] [] (T, N, I, L, R) 0 0
  refine k_aload_n C rfl rfl rfl ?_
  obtain ⟨T_r0, A_r0, ⟨r0_6, R_r0_6, H_r0_6⟩, ⟨r0_7, R_r0_7, H_r0_7⟩, ⟨r0_8, R_r0_8, H_r0_8⟩, ⟨r0_9, R_r0_9, H_r0_9⟩, ⟨r0_10, R_r0_10, H_r0_10⟩⟩ := id H_r0
  refine g_R C rfl rfl rfl T_r0 rfl R_r0_7 ?_
  refine k_aload_n C rfl rfl rfl ?_
  refine z_gI C rfl rfl rfl T_r0 rfl (fun x1 ex1 => ?_)
  have gx1 := rg x1
  refine z_iconst C (z := 1) rfl rfl rfl (fun x2 ex2 => ?_)
  refine zt_isub C rfl rfl (fun x3 => ?_)
  have gx3 := rg x3
  refine c_SR C (a_X2_pick_Row40 hI H_r0_7) rfl rfl rfl rfl rfl rfl rfl (Nat.le_of_ble_eq_true rfl) (Nat.le_of_ble_eq_true rfl) (Nat.le_of_ble_eq_true rfl) ?_
  rintro yy4 _ _ ⟨hyy4, rfl, rfl⟩
  refine k_astore_nV C (x := yy4) (lw := [(2, va_rf yy4), (0, .ref r0), (1, .ref r1)]) rfl rfl (Nat.le_of_ble_eq_true rfl) rfl ?_
  refine k_aload_nV C (x := yy4) rfl rfl rfl ?_
  refine k_ifnull C (x := yy4) (t := 43) rfl rfl rfl (fun c5 => ?_) (fun rr6 c5 => ?_)
  · skip
    subst c5
    exact k_vret C rfl rfl (Nat.le_of_ble_eq_true rfl) (Nat.le_of_ble_eq_true rfl) ⟨_, _, rfl, rfl, hI, Chg.rf⟩
  subst c5
  have H_rr6 := hyy4 rr6 rfl
  refine k_aload_n C rfl rfl rfl ?_
  refine k_dup C rfl rfl rfl ?_
  refine g_I C rfl rfl rfl T_r0 rfl ex1 ?_
  refine z_iconst C (z := 1) rfl rfl rfl (fun x7 ex7 => ?_)
  refine zt_isub C rfl rfl (fun x8 => ?_)
  have gx8 := rg x8
  refine z_pI C rfl rfl rfl T_r0 (Or.inr rfl) rfl (fun I9 uI9 => ?_)
  have hI9 : IX A T I9 := IX.f hI T_r0 (boX.tr (by decide) (by decide)) uI9
  have S10 : Chg A T [(9, 4)] I L I9 L := Chg.f A_r0 T_r0 uI9
  have e11 := u2_e uI9
  refine k_aload_n C rfl rfl rfl ?_
  refine k_dup C rfl rfl rfl ?_
  refine z_gI C rfl rfl rfl T_r0 rfl (fun x12 ex12 => ?_)
  have gx12 := rg x12
  refine z_iconst C (z := 1) rfl rfl rfl (fun x13 ex13 => ?_)
  refine zt_iadd C rfl rfl (fun x14 => ?_)
  have gx14 := rg x14
  refine z_pI C rfl rfl rfl T_r0 (Or.inr rfl) rfl (fun I15 uI15 => ?_)
  have hI15 : IX A T I15 := IX.f hI9 T_r0 (boX.tr (by decide) (by decide)) uI15
  have S16 : Chg A T [(9, 5)] I9 L I15 L := Chg.f A_r0 T_r0 uI15
  have e17 := u2_j uI15 (by decide) e11
  have e18 := u2_e uI15
  refine k_aload_n C rfl rfl rfl ?_
  refine k_aload_n C rfl rfl rfl ?_
  obtain ⟨T_rr6, A_rr6, ⟨rr6_1, R_rr6_1, H_rr6_1⟩⟩ := id H_rr6
  refine c_VV C (a_X2_swapWith hI15 H_rr6 H_r1) rfl rfl rfl rfl rfl ⟨_, rfl, rfl, T_rr6, Nat.le_of_ble_eq_true rfl⟩ rfl rfl (Nat.le_of_ble_eq_true rfl) (Nat.le_of_ble_eq_true rfl) (Nat.le_of_ble_eq_true rfl) ?_
  rintro I20 L21 ⟨hI20, S22⟩
  have e23 := Chg.k S22 T_r0 (by decide) (by decide) e17
  have e24 := Chg.k S22 T_r0 (by decide) (by decide) e18
  exact k_vret C rfl rfl (Nat.le_of_ble_eq_true rfl) (Nat.le_of_ble_eq_true rfl) ⟨_, _, rfl, rfl, hI20, (Chg.cons S10 (Chg.cons S16 (Chg.mono S22 (by decide)) (by decide)) (by decide))⟩

theorem a_X8_stepOn {d : Nat} {T N : Nat → Nat} {I : IT} {L : LT} {R : RT} {A : Nat → Prop} {r0 r1 : Nat} (hI : IX A T I) (H_r0 : (h_St T N R A) r0) (H_r1 : (h_F T N R A) r1) : Ex (d + 3) 108 [.ref r0, .ref r1] (T, N, I, L, R) 0 0 (pV T N R (fun I9 L9 => (IX A T I9 ∧ Chg A T [(9, 4), (9, 5)] I L I9 L9))) := by
  refine ⟨_, rfl, Nat.le_of_ble_eq_true rfl, fun V C S => ?_⟩
  show V 0 [(0, .ref r0), (1, .ref r1)] [] (T, N, I, L, R) 0 0
  refine k_aload_n C rfl rfl rfl ?_
  obtain ⟨T_r0, A_r0, ⟨r0_6, R_r0_6, H_r0_6⟩, ⟨r0_7, R_r0_7, H_r0_7⟩, ⟨r0_8, R_r0_8, H_r0_8⟩, ⟨r0_9, R_r0_9, H_r0_9⟩, ⟨r0_10, R_r0_10, H_r0_10⟩⟩ := id H_r0
  refine g_R C rfl rfl rfl T_r0 rfl R_r0_7 ?_
  refine k_aload_n C rfl rfl rfl ?_
  refine z_gI C rfl rfl rfl T_r0 rfl (fun x1 ex1 => ?_)
  have gx1 := rg x1
  refine c_SR C (a_X2_pick_Row40 hI H_r0_7) rfl rfl rfl rfl rfl rfl rfl (Nat.le_of_ble_eq_true rfl) (Nat.le_of_ble_eq_true rfl) (Nat.le_of_ble_eq_true rfl) ?_
  rintro yy2 _ _ ⟨hyy2, rfl, rfl⟩
  refine k_astore_nV C (x := yy2) (lw := [(2, va_rf yy2), (0, .ref r0), (1, .ref r1)]) rfl rfl (Nat.le_of_ble_eq_true rfl) rfl ?_
  refine k_aload_nV C (x := yy2) rfl rfl rfl ?_
  refine k_ifnull C (x := yy2) (t := 48) rfl rfl rfl (fun c3 => ?_) (fun rr4 c3 => ?_)
  · skip
    subst c3
    exact k_vret C rfl rfl (Nat.le_of_ble_eq_true rfl) (Nat.le_of_ble_eq_true rfl) ⟨_, _, rfl, rfl, hI, Chg.rf⟩
  subst c3
  have H_rr4 := hyy2 rr4 rfl
  refine k_aload_n C rfl rfl rfl ?_
  refine z_gI C rfl rfl rfl T_r0 rfl (fun x5 ex5 => ?_)
  have gx5 := rg x5
  refine b_if_le C (t := 48) rfl rfl rfl (fun c6 => ?_) (fun c6 => ?_)
  · skip
    exact k_vret C rfl rfl (Nat.le_of_ble_eq_true rfl) (Nat.le_of_ble_eq_true rfl) ⟨_, _, rfl, rfl, hI, Chg.rf⟩
  refine k_aload_n C rfl rfl rfl ?_
  refine k_dup C rfl rfl rfl ?_
  refine g_I C rfl rfl rfl T_r0 rfl ex1 ?_
  refine z_iconst C (z := 1) rfl rfl rfl (fun x7 ex7 => ?_)
  refine zt_iadd C rfl rfl (fun x8 => ?_)
  have gx8 := rg x8
  refine z_pI C rfl rfl rfl T_r0 (Or.inr rfl) rfl (fun I9 uI9 => ?_)
  have hI9 : IX A T I9 := IX.f hI T_r0 (boX.tr (by decide) (by decide)) uI9
  have S10 : Chg A T [(9, 4)] I L I9 L := Chg.f A_r0 T_r0 uI9
  have e11 := u2_j uI9 (by decide) ex5
  have e12 := u2_e uI9
  refine k_aload_n C rfl rfl rfl ?_
  refine k_dup C rfl rfl rfl ?_
  refine g_I C rfl rfl rfl T_r0 rfl e11 ?_
  refine z_iconst C (z := 1) rfl rfl rfl (fun x13 ex13 => ?_)
  refine z_isub C rfl rfl ⟨by omega, by omega⟩ (fun x14 ex14 => ?_)
  refine z_pI C rfl rfl rfl T_r0 (Or.inr rfl) rfl (fun I15 uI15 => ?_)
  have hI15 : IX A T I15 := IX.f hI9 T_r0 (boX.tr (by decide) (by decide)) uI15
  have S16 : Chg A T [(9, 5)] I9 L I15 L := Chg.f A_r0 T_r0 uI15
  have e17 := u2_j uI15 (by decide) e12
  have e18 := u2_e uI15
  refine k_aload_n C rfl rfl rfl ?_
  refine k_aload_n C rfl rfl rfl ?_
  obtain ⟨T_rr4, A_rr4, ⟨rr4_1, R_rr4_1, H_rr4_1⟩⟩ := id H_rr4
  refine c_VV C (a_X2_swapWith hI15 H_rr4 H_r1) rfl rfl rfl rfl rfl ⟨_, rfl, rfl, T_rr4, Nat.le_of_ble_eq_true rfl⟩ rfl rfl (Nat.le_of_ble_eq_true rfl) (Nat.le_of_ble_eq_true rfl) (Nat.le_of_ble_eq_true rfl) ?_
  rintro I20 L21 ⟨hI20, S22⟩
  have e23 := Chg.k S22 T_r0 (by decide) (by decide) e17
  have e24 := Chg.k S22 T_r0 (by decide) (by decide) e18
  exact k_vret C rfl rfl (Nat.le_of_ble_eq_true rfl) (Nat.le_of_ble_eq_true rfl) ⟨_, _, rfl, rfl, hI20, (Chg.cons S10 (Chg.cons S16 (Chg.mono S22 (by decide)) (by decide)) (by decide))⟩

theorem a_X8_copyActs {d : Nat} {T N : Nat → Nat} {I : IT} {L : LT} {R : RT} {A : Nat → Prop} {r0 r1 : Nat} (hI : IX A T I) (H_r0 : (h_St T N R A) r0) (H_r1 : (h_St T N R A) r1) : Ex (d + 3) 109 [.ref r0, .ref r1] (T, N, I, L, R) 0 0 (pV T N R (fun I9 L9 => (IX A T I9 ∧ Chg A T [(3, 0), (9, 4), (9, 5)] I L I9 L9))) := by
  refine ⟨_, rfl, Nat.le_of_ble_eq_true rfl, fun V C S => ?_⟩
  show V 0 [(0, .ref r0), (1, .ref r1)] [] (T, N, I, L, R) 0 0
  refine k_aload_n C rfl rfl rfl ?_
  refine k_aload_n C rfl rfl rfl ?_
  obtain ⟨T_r1, A_r1, ⟨r1_6, R_r1_6, H_r1_6⟩, ⟨r1_7, R_r1_7, H_r1_7⟩, ⟨r1_8, R_r1_8, H_r1_8⟩, ⟨r1_9, R_r1_9, H_r1_9⟩, ⟨r1_10, R_r1_10, H_r1_10⟩⟩ := id H_r1
  refine z_gI C rfl rfl rfl T_r1 rfl (fun x1 ex1 => ?_)
  have gx1 := rg x1
  obtain ⟨T_r0, A_r0, ⟨r0_6, R_r0_6, H_r0_6⟩, ⟨r0_7, R_r0_7, H_r0_7⟩, ⟨r0_8, R_r0_8, H_r0_8⟩, ⟨r0_9, R_r0_9, H_r0_9⟩, ⟨r0_10, R_r0_10, H_r0_10⟩⟩ := id H_r0
  refine z_pI C rfl rfl rfl T_r0 (Or.inr rfl) rfl (fun I2 uI2 => ?_)
  have hI2 : IX A T I2 := IX.f hI T_r0 (boX.tr (by decide) (by decide)) uI2
  have S3 : Chg A T [(9, 4)] I L I2 L := Chg.f A_r0 T_r0 uI2
  have e4 := u2_v uI2 ex1
  have e5 := u2_e uI2
  refine k_aload_n C rfl rfl rfl ?_
  refine k_aload_n C rfl rfl rfl ?_
  refine z_gI C rfl rfl rfl T_r1 rfl (fun x6 ex6 => ?_)
  have gx6 := rg x6
  refine z_pI C rfl rfl rfl T_r0 (Or.inr rfl) rfl (fun I7 uI7 => ?_)
  have hI7 : IX A T I7 := IX.f hI2 T_r0 (boX.tr (by decide) (by decide)) uI7
  have S8 : Chg A T [(9, 5)] I2 L I7 L := Chg.f A_r0 T_r0 uI7
  have e9 := u2_j uI7 (by decide) e4
  have e10 := u2_j uI7 (by decide) e5
  have e11 := u2_v uI7 ex6
  have e12 := u2_e uI7
  refine z_iconst C (z := 0) rfl rfl rfl (fun x13 ex13 => ?_)
  have J14 : ∀ (nn15 : Nat) (I16 : IT) (L17 : LT) (x18 : Int32), ((40 - x18.toInt).toNat = nn15) → (IX A T I16) → (Chg A T [(3, 0)] I7 L I16 L17) → (0 ≤ x18.toInt) → (x18.toInt ≤ 40) → V 18 [(0, .ref r0), (1, .ref r1), (2, .int x18)] [] (T, N, I16, L17, R) 0 0 := by
    intro nn15
    induction nn15 using Nat.strongRecOn with
    | _ nn15 ihJ14 =>
      intro I16 L17 x18 hmnn15 hI22 S21 b19 b20
      have gx18 := rg x18
      have e23 := Chg.k S21 T_r1 (by decide) (by decide) e9
      have e24 := Chg.k S21 T_r0 (by decide) (by decide) e10
      have e25 := Chg.k S21 T_r1 (by decide) (by decide) e11
      have e26 := Chg.k S21 T_r0 (by decide) (by decide) e12
      refine k_iload_n C rfl rfl rfl ?_
      refine k_aload_n C rfl rfl rfl ?_
      refine g_R C rfl rfl rfl T_r0 rfl R_r0_6 ?_
      obtain ⟨T_r0_6, N_r0_6, A_r0_6⟩ := id H_r0_6
      refine z_len C (n := 40) rfl rfl (by rw [T_r0_6]; exact Nat.le_of_ble_eq_true rfl) N_r0_6 (Nat.le_of_ble_eq_true rfl) (fun x27 ex27 => ?_)
      refine b_icmp_ge C (t := 88) rfl rfl rfl (fun c28 => ?_) (fun c28 => ?_)
      · skip
        exact k_vret C rfl rfl (Nat.le_of_ble_eq_true rfl) (Nat.le_of_ble_eq_true rfl) ⟨_, _, rfl, rfl, hI22, (Chg.cons S3 (Chg.cons S8 (Chg.mono S21 (by decide)) (by decide)) (by decide))⟩
      refine k_iload_n C rfl rfl rfl ?_
      refine k_aload_n C rfl rfl rfl ?_
      refine g_R C rfl rfl rfl T_r1 rfl R_r1_6 ?_
      obtain ⟨T_r1_6, N_r1_6, A_r1_6⟩ := id H_r1_6
      refine z_len C (n := 40) rfl rfl (by rw [T_r1_6]; exact Nat.le_of_ble_eq_true rfl) N_r1_6 (Nat.le_of_ble_eq_true rfl) (fun x29 ex29 => ?_)
      refine b_icmp_ge C (t := 88) rfl rfl rfl (fun c30 => by exfalso; omega) (fun c30 => ?_)
      refine k_aload_n C rfl rfl rfl ?_
      refine g_R C rfl rfl rfl T_r0 rfl R_r0_6 ?_
      refine k_iload_n C rfl rfl rfl ?_
      refine k_aload_n C rfl rfl rfl ?_
      refine g_R C rfl rfl rfl T_r1 rfl R_r1_6 ?_
      refine k_iload_n C rfl rfl rfl ?_
      refine z_aI C rfl rfl T_r1_6 N_r1_6 (by omega) (by omega) (fun x31 ex31 => ?_)
      have gx31 := rg x31
      refine z_sI C rfl rfl T_r0_6 N_r0_6 (by omega) (by omega) (fun I32 uI32 => ?_)
      have hI32 : IX A T I32 := IX.a hI22 T_r0_6 (Nat.le_of_ble_eq_true rfl) uI32
      have S33 : Chg A T [] I16 L17 I32 L17 := Chg.a A_r0_6 T_r0_6 (Nat.le_of_ble_eq_true rfl) uI32
      have e34 := u2_n uI32 (t_nq T_r1 T_r0_6 (by decide)) e23
      have e35 := u2_n uI32 (t_nq T_r0 T_r0_6 (by decide)) e24
      have e36 := u2_n uI32 (t_nq T_r1 T_r0_6 (by decide)) e25
      have e37 := u2_n uI32 (t_nq T_r0 T_r0_6 (by decide)) e26
      refine k_aload_n C rfl rfl rfl ?_
      refine g_R C rfl rfl rfl T_r0 rfl R_r0_7 ?_
      refine k_iload_n C rfl rfl rfl ?_
      refine c_SR C (a_X2_pick_Row40 hI32 H_r0_7) rfl rfl rfl rfl rfl rfl rfl (Nat.le_of_ble_eq_true rfl) (Nat.le_of_ble_eq_true rfl) (Nat.le_of_ble_eq_true rfl) ?_
      rintro yy38 _ _ ⟨hyy38, rfl, rfl⟩
      refine k_astore_nV C (x := yy38) (lw := [(3, va_rf yy38), (0, .ref r0), (1, .ref r1), (2, .int x18)]) rfl rfl (Nat.le_of_ble_eq_true rfl) rfl ?_
      refine k_aload_n C rfl rfl rfl ?_
      refine g_R C rfl rfl rfl T_r1 rfl R_r1_7 ?_
      refine k_iload_n C rfl rfl rfl ?_
      refine c_SR C (a_X2_pick_Row40 hI32 H_r1_7) rfl rfl rfl rfl rfl rfl rfl (Nat.le_of_ble_eq_true rfl) (Nat.le_of_ble_eq_true rfl) (Nat.le_of_ble_eq_true rfl) ?_
      rintro yy39 _ _ ⟨hyy39, rfl, rfl⟩
      refine k_astoreV C (x := yy39) (lw := [(4, va_rf yy39), (3, va_rf yy38), (0, .ref r0), (1, .ref r1), (2, .int x18)]) rfl rfl (Nat.le_of_ble_eq_true rfl) (by cases yy38 <;> rfl) ?_
      refine k_aload_nV C (x := yy38) rfl rfl rfl ?_
      refine k_ifnull C (x := yy38) (t := 82) rfl rfl rfl (fun c40 => ?_) (fun rr41 c40 => ?_)
      · skip
        subst c40
        refine z_iinc C (z := 1) (lw := fun x42 => [(2, .int x42), (4, va_rf yy39), (3, va_rf none), (0, .ref r0), (1, .ref r1)]) rfl rfl rfl (Nat.le_of_ble_eq_true rfl) rfl ⟨by omega, by omega⟩ (fun _ => rfl) (fun x42 ex42 => ?_)
        show V 85 [(2, .int x42), (4, va_rf yy39), (3, va_rf none), (0, .ref r0), (1, .ref r1)] _ _ _ _
        refine k_goto C (pc2 := 18) rfl rfl ?_
        refine k_sub S [(0, .ref r0), (1, .ref r1), (2, .int x42)] (List.forall_mem_cons.mpr ⟨List.mem_of_getElem? (i := 3) rfl, List.forall_mem_cons.mpr ⟨List.mem_of_getElem? (i := 4) rfl, List.forall_mem_cons.mpr ⟨List.mem_of_getElem? (i := 0) rfl, fun _ h => nomatch h⟩⟩⟩) ?_
        exact ihJ14 _ (by omega) I32 L17 x42 rfl hI32 (Chg.cons S21 (Chg.mono S33 (by decide)) (by decide)) (by omega) (by omega)
      subst c40
      have H_rr41 := hyy38 rr41 rfl
      refine k_aloadV C (x := yy39) rfl rfl rfl ?_
      refine k_ifnull C (x := yy39) (t := 82) rfl rfl rfl (fun c43 => ?_) (fun rr44 c43 => ?_)
      · skip
        subst c43
        refine z_iinc C (z := 1) (lw := fun x45 => [(2, .int x45), (4, va_rf none), (3, .ref rr41), (0, .ref r0), (1, .ref r1)]) rfl rfl rfl (Nat.le_of_ble_eq_true rfl) rfl ⟨by omega, by omega⟩ (fun _ => rfl) (fun x45 ex45 => ?_)
        show V 85 [(2, .int x45), (4, va_rf none), (3, .ref rr41), (0, .ref r0), (1, .ref r1)] _ _ _ _
        refine k_goto C (pc2 := 18) rfl rfl ?_
        refine k_sub S [(0, .ref r0), (1, .ref r1), (2, .int x45)] (List.forall_mem_cons.mpr ⟨List.mem_of_getElem? (i := 3) rfl, List.forall_mem_cons.mpr ⟨List.mem_of_getElem? (i := 4) rfl, List.forall_mem_cons.mpr ⟨List.mem_of_getElem? (i := 0) rfl, fun _ h => nomatch h⟩⟩⟩) ?_
        exact ihJ14 _ (by omega) I32 L17 x45 rfl hI32 (Chg.cons S21 (Chg.mono S33 (by decide)) (by decide)) (by omega) (by omega)
      subst c43
      have H_rr44 := hyy39 rr44 rfl
      refine k_aload_n C rfl rfl rfl ?_
      refine k_aload C rfl rfl rfl ?_
      obtain ⟨T_rr41, A_rr41, ⟨rr41_1, R_rr41_1, H_rr41_1⟩⟩ := id H_rr41
      refine c_VV C (a_X2_copyFrom hI32 H_rr41 H_rr44) rfl rfl rfl rfl rfl ⟨_, rfl, rfl, T_rr41, Nat.le_of_ble_eq_true rfl⟩ rfl rfl (Nat.le_of_ble_eq_true rfl) (Nat.le_of_ble_eq_true rfl) (Nat.le_of_ble_eq_true rfl) ?_
      rintro I47 L48 ⟨p0v46, p1v46, hI47, S49⟩
      have e50 := Chg.k S49 T_r1 (by decide) (by decide) e34
      have e51 := Chg.k S49 T_r0 (by decide) (by decide) e35
      have e52 := Chg.k S49 T_r1 (by decide) (by decide) e36
      have e53 := Chg.k S49 T_r0 (by decide) (by decide) e37
      obtain ⟨x54, e55⟩ : ∃ x, I47 rr41 0 = x := ⟨_, rfl⟩
      have gx54 := rg x54
      have ox54 := IX.deg hI47 A_rr41 T_rr41 e55
      obtain ⟨T_rr44, A_rr44, ⟨rr44_1, R_rr44_1, H_rr44_1⟩⟩ := id H_rr44
      obtain ⟨x56, e57⟩ : ∃ x, I47 rr44 0 = x := ⟨_, rfl⟩
      have gx56 := rg x56
      have ox56 := IX.deg hI47 A_rr44 T_rr44 e57
      try simp only [e34, e35, e36, e37, e55, e57] at p0v46
      try have q0v46 := congrArg Int32.toInt p0v46
      try simp only [e34, e35, e36, e37, e55, e57] at p1v46
      try have q1v46 := congrArg Int32.toInt p1v46
      refine z_iinc C (z := 1) (lw := fun x58 => [(2, .int x58), (4, .ref rr44), (3, .ref rr41), (0, .ref r0), (1, .ref r1)]) rfl rfl rfl (Nat.le_of_ble_eq_true rfl) rfl ⟨by omega, by omega⟩ (fun _ => rfl) (fun x58 ex58 => ?_)
      show V 85 [(2, .int x58), (4, .ref rr44), (3, .ref rr41), (0, .ref r0), (1, .ref r1)] _ _ _ _
      refine k_goto C (pc2 := 18) rfl rfl ?_
      refine k_sub S [(0, .ref r0), (1, .ref r1), (2, .int x58)] (List.forall_mem_cons.mpr ⟨List.mem_of_getElem? (i := 3) rfl, List.forall_mem_cons.mpr ⟨List.mem_of_getElem? (i := 4) rfl, List.forall_mem_cons.mpr ⟨List.mem_of_getElem? (i := 0) rfl, fun _ h => nomatch h⟩⟩⟩) ?_
      exact ihJ14 _ (by omega) I47 L48 x58 rfl hI47 (Chg.cons S21 (Chg.cons S33 (Chg.mono S49 (by decide)) (by decide)) (by decide)) (by omega) (by omega)
  refine k_istore_n C (lw := [(2, .int x13), (0, .ref r0), (1, .ref r1)]) rfl rfl (Nat.le_of_ble_eq_true rfl) rfl ?_
  refine k_sub S [(0, .ref r0), (1, .ref r1), (2, .int x13)] (List.forall_mem_cons.mpr ⟨List.mem_of_getElem? (i := 1) rfl, List.forall_mem_cons.mpr ⟨List.mem_of_getElem? (i := 2) rfl, List.forall_mem_cons.mpr ⟨List.mem_of_getElem? (i := 0) rfl, fun _ h => nomatch h⟩⟩⟩) ?_
  exact J14 _ I7 L x13 rfl hI7 Chg.rf (by omega) (by omega)

theorem a_X8_copyFrom {d : Nat} {T N : Nat → Nat} {I : IT} {L : LT} {R : RT} {A : Nat → Prop} {r0 r1 : Nat} (hI : IX A T I) (H_r0 : (h_St T N R A) r0) (H_r1 : (h_St T N R A) r1) : Ex (d + 4) 110 [.ref r0, .ref r1] (T, N, I, L, R) 0 0 (pV T N R (fun I9 L9 => (IX A T I9 ∧ Chg A T [(3, 0), (8, 2), (9, 0), (9, 1), (9, 2), (9, 3), (9, 4), (9, 5), (10, 0), (10, 1), (10, 2), (10, 3)] I L I9 L9))) := by
  refine ⟨_, rfl, Nat.le_of_ble_eq_true rfl, fun V C S => ?_⟩
  show V 0 [(0, .ref r0), (1, .ref r1)] [] (T, N, I, L, R) 0 0
  refine k_aload_n C rfl rfl rfl ?_
  refine k_aload_n C rfl rfl rfl ?_
  obtain ⟨T_r1, A_r1, ⟨r1_6, R_r1_6, H_r1_6⟩, ⟨r1_7, R_r1_7, H_r1_7⟩, ⟨r1_8, R_r1_8, H_r1_8⟩, ⟨r1_9, R_r1_9, H_r1_9⟩, ⟨r1_10, R_r1_10, H_r1_10⟩⟩ := id H_r1
  refine z_gI C rfl rfl rfl T_r1 rfl (fun x1 ex1 => ?_)
  have gx1 := rg x1
  have ox1 := IX.p hI A_r1 T_r1 ex1
  obtain ⟨T_r0, A_r0, ⟨r0_6, R_r0_6, H_r0_6⟩, ⟨r0_7, R_r0_7, H_r0_7⟩, ⟨r0_8, R_r0_8, H_r0_8⟩, ⟨r0_9, R_r0_9, H_r0_9⟩, ⟨r0_10, R_r0_10, H_r0_10⟩⟩ := id H_r0
  refine z_pI C rfl rfl rfl T_r0 (Or.inr rfl) rfl (fun I2 uI2 => ?_)
  have hI2 : IX A T I2 := IX.f hI T_r0 ⟨fun h => absurd h (by decide), fun _ _ => ⟨by omega, by omega⟩⟩ uI2
  have S3 : Chg A T [(9, 0)] I L I2 L := Chg.f A_r0 T_r0 uI2
  have e4 := u2_v uI2 ex1
  have e5 := u2_e uI2
  refine k_aload_n C rfl rfl rfl ?_
  refine k_aload_n C rfl rfl rfl ?_
  refine z_gI C rfl rfl rfl T_r1 rfl (fun x6 ex6 => ?_)
  have gx6 := rg x6
  refine z_pI C rfl rfl rfl T_r0 (Or.inr rfl) rfl (fun I7 uI7 => ?_)
  have hI7 : IX A T I7 := IX.f hI2 T_r0 (boX.tr (by decide) (by decide)) uI7
  have S8 : Chg A T [(9, 1)] I2 L I7 L := Chg.f A_r0 T_r0 uI7
  have e9 := u2_j uI7 (by decide) e4
  have e10 := u2_j uI7 (by decide) e5
  have e11 := u2_v uI7 ex6
  have e12 := u2_e uI7
  refine k_aload_n C rfl rfl rfl ?_
  refine k_aload_n C rfl rfl rfl ?_
  refine z_gI C rfl rfl rfl T_r1 rfl (fun x13 ex13 => ?_)
  have gx13 := rg x13
  refine z_pI C rfl rfl rfl T_r0 (Or.inr rfl) rfl (fun I14 uI14 => ?_)
  have hI14 : IX A T I14 := IX.f hI7 T_r0 (boX.tr (by decide) (by decide)) uI14
  have S15 : Chg A T [(9, 2)] I7 L I14 L := Chg.f A_r0 T_r0 uI14
  have e16 := u2_j uI14 (by decide) e9
  have e17 := u2_j uI14 (by decide) e10
  have e18 := u2_j uI14 (by decide) e11
  have e19 := u2_j uI14 (by decide) e12
  have e20 := u2_v uI14 ex13
  have e21 := u2_e uI14
  refine k_aload_n C rfl rfl rfl ?_
  refine k_aload_n C rfl rfl rfl ?_
  refine z_gI C rfl rfl rfl T_r1 rfl (fun x22 ex22 => ?_)
  have gx22 := rg x22
  refine z_pI C rfl rfl rfl T_r0 (Or.inr rfl) rfl (fun I23 uI23 => ?_)
  have hI23 : IX A T I23 := IX.f hI14 T_r0 (boX.tr (by decide) (by decide)) uI23
  have S24 : Chg A T [(9, 3)] I14 L I23 L := Chg.f A_r0 T_r0 uI23
  have e25 := u2_j uI23 (by decide) e16
  have e26 := u2_j uI23 (by decide) e17
  have e27 := u2_j uI23 (by decide) e18
  have e28 := u2_j uI23 (by decide) e19
  have e29 := u2_j uI23 (by decide) e20
  have e30 := u2_j uI23 (by decide) e21
  have e31 := u2_v uI23 ex22
  have e32 := u2_e uI23
  refine k_aload_n C rfl rfl rfl ?_
  refine k_aload_n C rfl rfl rfl ?_
  refine c_VV C (a_X8_copyActs hI23 H_r0 H_r1) rfl rfl rfl rfl rfl ⟨_, rfl, rfl, T_r0, Nat.le_of_ble_eq_true rfl⟩ rfl rfl (Nat.le_of_ble_eq_true rfl) (Nat.le_of_ble_eq_true rfl) (Nat.le_of_ble_eq_true rfl) ?_
  rintro I34 L35 ⟨hI34, S36⟩
  have e37 := Chg.k S36 T_r1 (by decide) (by decide) e25
  have e38 := Chg.k S36 T_r0 (by decide) (by decide) e26
  have e39 := Chg.k S36 T_r1 (by decide) (by decide) e27
  have e40 := Chg.k S36 T_r0 (by decide) (by decide) e28
  have e41 := Chg.k S36 T_r1 (by decide) (by decide) e29
  have e42 := Chg.k S36 T_r0 (by decide) (by decide) e30
  have e43 := Chg.k S36 T_r1 (by decide) (by decide) e31
  have e44 := Chg.k S36 T_r0 (by decide) (by decide) e32
  refine z_iconst C (z := 0) rfl rfl rfl (fun x45 ex45 => ?_)
  have J46 : ∀ (nn47 : Nat) (I48 : IT) (L49 : LT) (x50 : Int32), ((2147483647 - x50.toInt).toNat = nn47) → (IX A T I48) → (Chg A T [(3, 0)] I34 L35 I48 L49) → (0 ≤ x50.toInt) → V 39 [(0, .ref r0), (1, .ref r1), (2, .int x50)] [] (T, N, I48, L49, R) 0 0 := by
    intro nn47
    induction nn47 using Nat.strongRecOn with
    | _ nn47 ihJ46 =>
      intro I48 L49 x50 hmnn47 hI53 S52 b51
      have gx50 := rg x50
      have e54 := Chg.k S52 T_r1 (by decide) (by decide) e37
      have e55 := Chg.k S52 T_r0 (by decide) (by decide) e38
      have e56 := Chg.k S52 T_r1 (by decide) (by decide) e39
      have e57 := Chg.k S52 T_r0 (by decide) (by decide) e40
      have e58 := Chg.k S52 T_r1 (by decide) (by decide) e41
      have e59 := Chg.k S52 T_r0 (by decide) (by decide) e42
      have e60 := Chg.k S52 T_r1 (by decide) (by decide) e43
      have e61 := Chg.k S52 T_r0 (by decide) (by decide) e44
      refine k_iload_n C rfl rfl rfl ?_
      refine k_aload_n C rfl rfl rfl ?_
      refine g_I C rfl rfl rfl T_r0 rfl e57 ?_
      refine b_icmp_ge C (t := 81) rfl rfl rfl (fun c62 => ?_) (fun c62 => ?_)
      · skip
        refine z_iconst C (z := 0) rfl rfl rfl (fun x63 ex63 => ?_)
        have J64 : ∀ (nn65 : Nat) (I66 : IT) (L67 : LT) (x68 : Int32), ((2147483647 - x68.toInt).toNat = nn65) → (IX A T I66) → (Chg A T [(10, 0), (10, 1), (10, 2), (10, 3)] I48 L49 I66 L67) → (0 ≤ x68.toInt) → V 83 [(0, .ref r0), (1, .ref r1), (2, .int x68)] [] (T, N, I66, L67, R) 0 0 := by
          intro nn65
          induction nn65 using Nat.strongRecOn with
          | _ nn65 ihJ64 =>
            intro I66 L67 x68 hmnn65 hI71 S70 b69
            have gx68 := rg x68
            have e72 := Chg.k S70 T_r1 (by decide) (by decide) e54
            have e73 := Chg.k S70 T_r0 (by decide) (by decide) e55
            have e74 := Chg.k S70 T_r1 (by decide) (by decide) e56
            have e75 := Chg.k S70 T_r0 (by decide) (by decide) e57
            have e76 := Chg.k S70 T_r1 (by decide) (by decide) e58
            have e77 := Chg.k S70 T_r0 (by decide) (by decide) e59
            have e78 := Chg.k S70 T_r1 (by decide) (by decide) e60
            have e79 := Chg.k S70 T_r0 (by decide) (by decide) e61
            refine k_iload_n C rfl rfl rfl ?_
            refine k_aload_n C rfl rfl rfl ?_
            refine g_I C rfl rfl rfl T_r0 rfl e77 ?_
            refine b_icmp_ge C (t := 143) rfl rfl rfl (fun c80 => ?_) (fun c80 => ?_)
            · skip
              refine z_iconst C (z := 0) rfl rfl rfl (fun x81 ex81 => ?_)
              have J82 : ∀ (nn83 : Nat) (I84 : IT) (L85 : LT) (x86 : Int32), ((2147483647 - x86.toInt).toNat = nn83) → (IX A T I84) → (Chg A T [(8, 2)] I66 L67 I84 L85) → (0 ≤ x86.toInt) → V 145 [(0, .ref r0), (1, .ref r1), (2, .int x86)] [] (T, N, I84, L85, R) 0 0 := by
                intro nn83
                induction nn83 using Nat.strongRecOn with
                | _ nn83 ihJ82 =>
                  intro I84 L85 x86 hmnn83 hI89 S88 b87
                  have gx86 := rg x86
                  have e90 := Chg.k S88 T_r1 (by decide) (by decide) e72
                  have e91 := Chg.k S88 T_r0 (by decide) (by decide) e73
                  have e92 := Chg.k S88 T_r1 (by decide) (by decide) e74
                  have e93 := Chg.k S88 T_r0 (by decide) (by decide) e75
                  have e94 := Chg.k S88 T_r1 (by decide) (by decide) e76
                  have e95 := Chg.k S88 T_r0 (by decide) (by decide) e77
                  have e96 := Chg.k S88 T_r1 (by decide) (by decide) e78
                  have e97 := Chg.k S88 T_r0 (by decide) (by decide) e79
                  refine k_iload_n C rfl rfl rfl ?_
                  refine k_aload_n C rfl rfl rfl ?_
                  refine g_I C rfl rfl rfl T_r0 rfl e97 ?_
                  refine b_icmp_ge C (t := 187) rfl rfl rfl (fun c98 => ?_) (fun c98 => ?_)
                  · skip
                    exact k_vret C rfl rfl (Nat.le_of_ble_eq_true rfl) (Nat.le_of_ble_eq_true rfl) ⟨_, _, rfl, rfl, hI89, (Chg.cons S3 (Chg.cons S8 (Chg.cons S15 (Chg.cons S24 (Chg.cons S36 (Chg.cons S52 (Chg.cons S70 (Chg.mono S88 (by decide)) (by decide)) (by decide)) (by decide)) (by decide)) (by decide)) (by decide)) (by decide))⟩
                  refine k_aload_n C rfl rfl rfl ?_
                  refine k_iload_n C rfl rfl rfl ?_
                  refine c_VR C (a_X8_signsAt hI89 H_r0) rfl rfl rfl rfl rfl ⟨_, rfl, rfl, T_r0, Nat.le_of_ble_eq_true rfl⟩ rfl rfl (Nat.le_of_ble_eq_true rfl) (Nat.le_of_ble_eq_true rfl) (Nat.le_of_ble_eq_true rfl) ?_
                  rintro yy99 _ _ ⟨hyy99, rfl, rfl⟩
                  refine k_astore_nV C (x := yy99) (lw := [(3, va_rf yy99), (0, .ref r0), (1, .ref r1), (2, .int x86)]) rfl rfl (Nat.le_of_ble_eq_true rfl) rfl ?_
                  refine k_aload_n C rfl rfl rfl ?_
                  refine k_iload_n C rfl rfl rfl ?_
                  refine c_VR C (a_X8_signsAt hI89 H_r1) rfl rfl rfl rfl rfl ⟨_, rfl, rfl, T_r1, Nat.le_of_ble_eq_true rfl⟩ rfl rfl (Nat.le_of_ble_eq_true rfl) (Nat.le_of_ble_eq_true rfl) (Nat.le_of_ble_eq_true rfl) ?_
                  rintro yy100 _ _ ⟨hyy100, rfl, rfl⟩
                  refine k_astoreV C (x := yy100) (lw := [(4, va_rf yy100), (3, va_rf yy99), (0, .ref r0), (1, .ref r1), (2, .int x86)]) rfl rfl (Nat.le_of_ble_eq_true rfl) (by cases yy99 <;> rfl) ?_
                  refine k_aload_nV C (x := yy99) rfl rfl rfl ?_
                  refine k_ifnull C (x := yy99) (t := 181) rfl rfl rfl (fun c101 => ?_) (fun rr102 c101 => ?_)
                  · skip
                    subst c101
                    refine z_iinc C (z := 1) (lw := fun x103 => [(2, .int x103), (4, va_rf yy100), (3, va_rf none), (0, .ref r0), (1, .ref r1)]) rfl rfl rfl (Nat.le_of_ble_eq_true rfl) rfl ⟨by omega, by omega⟩ (fun _ => rfl) (fun x103 ex103 => ?_)
                    show V 184 [(2, .int x103), (4, va_rf yy100), (3, va_rf none), (0, .ref r0), (1, .ref r1)] _ _ _ _
                    refine k_goto C (pc2 := 145) rfl rfl ?_
                    refine k_sub S [(0, .ref r0), (1, .ref r1), (2, .int x103)] (List.forall_mem_cons.mpr ⟨List.mem_of_getElem? (i := 3) rfl, List.forall_mem_cons.mpr ⟨List.mem_of_getElem? (i := 4) rfl, List.forall_mem_cons.mpr ⟨List.mem_of_getElem? (i := 0) rfl, fun _ h => nomatch h⟩⟩⟩) ?_
                    exact ihJ82 _ (by omega) I84 L85 x103 rfl hI89 (Chg.mono S88 (by decide)) (by omega)
                  subst c101
                  have H_rr102 := hyy99 rr102 rfl
                  refine k_aloadV C (x := yy100) rfl rfl rfl ?_
                  refine k_ifnull C (x := yy100) (t := 181) rfl rfl rfl (fun c104 => ?_) (fun rr105 c104 => ?_)
                  · skip
                    subst c104
                    refine z_iinc C (z := 1) (lw := fun x106 => [(2, .int x106), (4, va_rf none), (3, .ref rr102), (0, .ref r0), (1, .ref r1)]) rfl rfl rfl (Nat.le_of_ble_eq_true rfl) rfl ⟨by omega, by omega⟩ (fun _ => rfl) (fun x106 ex106 => ?_)
                    show V 184 [(2, .int x106), (4, va_rf none), (3, .ref rr102), (0, .ref r0), (1, .ref r1)] _ _ _ _
                    refine k_goto C (pc2 := 145) rfl rfl ?_
                    refine k_sub S [(0, .ref r0), (1, .ref r1), (2, .int x106)] (List.forall_mem_cons.mpr ⟨List.mem_of_getElem? (i := 3) rfl, List.forall_mem_cons.mpr ⟨List.mem_of_getElem? (i := 4) rfl, List.forall_mem_cons.mpr ⟨List.mem_of_getElem? (i := 0) rfl, fun _ h => nomatch h⟩⟩⟩) ?_
                    exact ihJ82 _ (by omega) I84 L85 x106 rfl hI89 (Chg.mono S88 (by decide)) (by omega)
                  subst c104
                  have H_rr105 := hyy100 rr105 rfl
                  refine k_aload_n C rfl rfl rfl ?_
                  refine k_aload C rfl rfl rfl ?_
                  obtain ⟨T_rr102, A_rr102, ⟨rr102_0, R_rr102_0, H_rr102_0⟩, ⟨rr102_1, R_rr102_1, H_rr102_1⟩⟩ := id H_rr102
                  refine c_VV C (a_X7_copyFrom hI89 H_rr102 H_rr105) rfl rfl rfl rfl rfl ⟨_, rfl, rfl, T_rr102, Nat.le_of_ble_eq_true rfl⟩ rfl rfl (Nat.le_of_ble_eq_true rfl) (Nat.le_of_ble_eq_true rfl) (Nat.le_of_ble_eq_true rfl) ?_
                  rintro I108 L109 ⟨hI108, S110⟩
                  have e111 := Chg.k S110 T_r1 (by decide) (by decide) e90
                  have e112 := Chg.k S110 T_r0 (by decide) (by decide) e91
                  have e113 := Chg.k S110 T_r1 (by decide) (by decide) e92
                  have e114 := Chg.k S110 T_r0 (by decide) (by decide) e93
                  have e115 := Chg.k S110 T_r1 (by decide) (by decide) e94
                  have e116 := Chg.k S110 T_r0 (by decide) (by decide) e95
                  have e117 := Chg.k S110 T_r1 (by decide) (by decide) e96
                  have e118 := Chg.k S110 T_r0 (by decide) (by decide) e97
                  refine z_iinc C (z := 1) (lw := fun x119 => [(2, .int x119), (4, .ref rr105), (3, .ref rr102), (0, .ref r0), (1, .ref r1)]) rfl rfl rfl (Nat.le_of_ble_eq_true rfl) rfl ⟨by omega, by omega⟩ (fun _ => rfl) (fun x119 ex119 => ?_)
                  show V 184 [(2, .int x119), (4, .ref rr105), (3, .ref rr102), (0, .ref r0), (1, .ref r1)] _ _ _ _
                  refine k_goto C (pc2 := 145) rfl rfl ?_
                  refine k_sub S [(0, .ref r0), (1, .ref r1), (2, .int x119)] (List.forall_mem_cons.mpr ⟨List.mem_of_getElem? (i := 3) rfl, List.forall_mem_cons.mpr ⟨List.mem_of_getElem? (i := 4) rfl, List.forall_mem_cons.mpr ⟨List.mem_of_getElem? (i := 0) rfl, fun _ h => nomatch h⟩⟩⟩) ?_
                  exact ihJ82 _ (by omega) I108 L109 x119 rfl hI108 (Chg.cons S88 (Chg.mono S110 (by decide)) (by decide)) (by omega)
              refine k_istore_n C (lw := [(2, .int x81), (0, .ref r0), (1, .ref r1)]) rfl rfl (Nat.le_of_ble_eq_true rfl) rfl ?_
              refine k_sub S [(0, .ref r0), (1, .ref r1), (2, .int x81)] (List.forall_mem_cons.mpr ⟨List.mem_of_getElem? (i := 1) rfl, List.forall_mem_cons.mpr ⟨List.mem_of_getElem? (i := 2) rfl, List.forall_mem_cons.mpr ⟨List.mem_of_getElem? (i := 0) rfl, fun _ h => nomatch h⟩⟩⟩) ?_
              exact J82 _ I66 L67 x81 rfl hI71 Chg.rf (by omega)
            refine k_aload_n C rfl rfl rfl ?_
            refine k_iload_n C rfl rfl rfl ?_
            refine c_VR C (a_X8_tableAt hI71 H_r0) rfl rfl rfl rfl rfl ⟨_, rfl, rfl, T_r0, Nat.le_of_ble_eq_true rfl⟩ rfl rfl (Nat.le_of_ble_eq_true rfl) (Nat.le_of_ble_eq_true rfl) (Nat.le_of_ble_eq_true rfl) ?_
            rintro yy120 _ _ ⟨hyy120, rfl, rfl⟩
            refine k_astore_nV C (x := yy120) (lw := [(3, va_rf yy120), (0, .ref r0), (1, .ref r1), (2, .int x68)]) rfl rfl (Nat.le_of_ble_eq_true rfl) rfl ?_
            refine k_aload_n C rfl rfl rfl ?_
            refine k_iload_n C rfl rfl rfl ?_
            refine c_VR C (a_X8_tableAt hI71 H_r1) rfl rfl rfl rfl rfl ⟨_, rfl, rfl, T_r1, Nat.le_of_ble_eq_true rfl⟩ rfl rfl (Nat.le_of_ble_eq_true rfl) (Nat.le_of_ble_eq_true rfl) (Nat.le_of_ble_eq_true rfl) ?_
            rintro yy121 _ _ ⟨hyy121, rfl, rfl⟩
            refine k_astoreV C (x := yy121) (lw := [(4, va_rf yy121), (3, va_rf yy120), (0, .ref r0), (1, .ref r1), (2, .int x68)]) rfl rfl (Nat.le_of_ble_eq_true rfl) (by cases yy120 <;> rfl) ?_
            refine k_aload_nV C (x := yy120) rfl rfl rfl ?_
            refine k_ifnull C (x := yy120) (t := 137) rfl rfl rfl (fun c122 => ?_) (fun rr123 c122 => ?_)
            · skip
              subst c122
              refine z_iinc C (z := 1) (lw := fun x124 => [(2, .int x124), (4, va_rf yy121), (3, va_rf none), (0, .ref r0), (1, .ref r1)]) rfl rfl rfl (Nat.le_of_ble_eq_true rfl) rfl ⟨by omega, by omega⟩ (fun _ => rfl) (fun x124 ex124 => ?_)
              show V 140 [(2, .int x124), (4, va_rf yy121), (3, va_rf none), (0, .ref r0), (1, .ref r1)] _ _ _ _
              refine k_goto C (pc2 := 83) rfl rfl ?_
              refine k_sub S [(0, .ref r0), (1, .ref r1), (2, .int x124)] (List.forall_mem_cons.mpr ⟨List.mem_of_getElem? (i := 3) rfl, List.forall_mem_cons.mpr ⟨List.mem_of_getElem? (i := 4) rfl, List.forall_mem_cons.mpr ⟨List.mem_of_getElem? (i := 0) rfl, fun _ h => nomatch h⟩⟩⟩) ?_
              exact ihJ64 _ (by omega) I66 L67 x124 rfl hI71 (Chg.mono S70 (by decide)) (by omega)
            subst c122
            have H_rr123 := hyy120 rr123 rfl
            refine k_aloadV C (x := yy121) rfl rfl rfl ?_
            refine k_ifnull C (x := yy121) (t := 137) rfl rfl rfl (fun c125 => ?_) (fun rr126 c125 => ?_)
            · skip
              subst c125
              refine z_iinc C (z := 1) (lw := fun x127 => [(2, .int x127), (4, va_rf none), (3, .ref rr123), (0, .ref r0), (1, .ref r1)]) rfl rfl rfl (Nat.le_of_ble_eq_true rfl) rfl ⟨by omega, by omega⟩ (fun _ => rfl) (fun x127 ex127 => ?_)
              show V 140 [(2, .int x127), (4, va_rf none), (3, .ref rr123), (0, .ref r0), (1, .ref r1)] _ _ _ _
              refine k_goto C (pc2 := 83) rfl rfl ?_
              refine k_sub S [(0, .ref r0), (1, .ref r1), (2, .int x127)] (List.forall_mem_cons.mpr ⟨List.mem_of_getElem? (i := 3) rfl, List.forall_mem_cons.mpr ⟨List.mem_of_getElem? (i := 4) rfl, List.forall_mem_cons.mpr ⟨List.mem_of_getElem? (i := 0) rfl, fun _ h => nomatch h⟩⟩⟩) ?_
              exact ihJ64 _ (by omega) I66 L67 x127 rfl hI71 (Chg.mono S70 (by decide)) (by omega)
            subst c125
            have H_rr126 := hyy121 rr126 rfl
            refine k_aload_n C rfl rfl rfl ?_
            refine k_aload C rfl rfl rfl ?_
            obtain ⟨T_rr126, A_rr126⟩ := id H_rr126
            refine z_gI C rfl rfl rfl T_rr126 rfl (fun x128 ex128 => ?_)
            have gx128 := rg x128
            refine k_aload C rfl rfl rfl ?_
            refine z_gI C rfl rfl rfl T_rr126 rfl (fun x129 ex129 => ?_)
            have gx129 := rg x129
            refine k_aload C rfl rfl rfl ?_
            refine z_gI C rfl rfl rfl T_rr126 rfl (fun x130 ex130 => ?_)
            have gx130 := rg x130
            refine k_aload C rfl rfl rfl ?_
            refine z_gI C rfl rfl rfl T_rr126 rfl (fun x131 ex131 => ?_)
            have gx131 := rg x131
            obtain ⟨T_rr123, A_rr123⟩ := id H_rr123
            refine c_VV C (a_X9_set hI71 H_rr123) rfl rfl rfl rfl rfl ⟨_, rfl, rfl, T_rr123, Nat.le_of_ble_eq_true rfl⟩ rfl rfl (Nat.le_of_ble_eq_true rfl) (Nat.le_of_ble_eq_true rfl) (Nat.le_of_ble_eq_true rfl) ?_
            rintro I133 L134 ⟨hI133, S135⟩
            have e136 := Chg.k S135 T_r1 (by decide) (by decide) e72
            have e137 := Chg.k S135 T_r0 (by decide) (by decide) e73
            have e138 := Chg.k S135 T_r1 (by decide) (by decide) e74
            have e139 := Chg.k S135 T_r0 (by decide) (by decide) e75
            have e140 := Chg.k S135 T_r1 (by decide) (by decide) e76
            have e141 := Chg.k S135 T_r0 (by decide) (by decide) e77
            have e142 := Chg.k S135 T_r1 (by decide) (by decide) e78
            have e143 := Chg.k S135 T_r0 (by decide) (by decide) e79
            refine z_iinc C (z := 1) (lw := fun x144 => [(2, .int x144), (4, .ref rr126), (3, .ref rr123), (0, .ref r0), (1, .ref r1)]) rfl rfl rfl (Nat.le_of_ble_eq_true rfl) rfl ⟨by omega, by omega⟩ (fun _ => rfl) (fun x144 ex144 => ?_)
            show V 140 [(2, .int x144), (4, .ref rr126), (3, .ref rr123), (0, .ref r0), (1, .ref r1)] _ _ _ _
            refine k_goto C (pc2 := 83) rfl rfl ?_
            refine k_sub S [(0, .ref r0), (1, .ref r1), (2, .int x144)] (List.forall_mem_cons.mpr ⟨List.mem_of_getElem? (i := 3) rfl, List.forall_mem_cons.mpr ⟨List.mem_of_getElem? (i := 4) rfl, List.forall_mem_cons.mpr ⟨List.mem_of_getElem? (i := 0) rfl, fun _ h => nomatch h⟩⟩⟩) ?_
            exact ihJ64 _ (by omega) I133 L134 x144 rfl hI133 (Chg.cons S70 (Chg.mono S135 (by decide)) (by decide)) (by omega)
        refine k_istore_n C (lw := [(2, .int x63), (0, .ref r0), (1, .ref r1)]) rfl rfl (Nat.le_of_ble_eq_true rfl) rfl ?_
        refine k_sub S [(0, .ref r0), (1, .ref r1), (2, .int x63)] (List.forall_mem_cons.mpr ⟨List.mem_of_getElem? (i := 1) rfl, List.forall_mem_cons.mpr ⟨List.mem_of_getElem? (i := 2) rfl, List.forall_mem_cons.mpr ⟨List.mem_of_getElem? (i := 0) rfl, fun _ h => nomatch h⟩⟩⟩) ?_
        exact J64 _ I48 L49 x63 rfl hI53 Chg.rf (by omega)
      refine k_aload_n C rfl rfl rfl ?_
      refine k_iload_n C rfl rfl rfl ?_
      refine c_VR C (a_X8_formAt hI53 H_r0) rfl rfl rfl rfl rfl ⟨_, rfl, rfl, T_r0, Nat.le_of_ble_eq_true rfl⟩ rfl rfl (Nat.le_of_ble_eq_true rfl) (Nat.le_of_ble_eq_true rfl) (Nat.le_of_ble_eq_true rfl) ?_
      rintro yy145 _ _ ⟨hyy145, rfl, rfl⟩
      refine k_astore_nV C (x := yy145) (lw := [(3, va_rf yy145), (0, .ref r0), (1, .ref r1), (2, .int x50)]) rfl rfl (Nat.le_of_ble_eq_true rfl) rfl ?_
      refine k_aload_n C rfl rfl rfl ?_
      refine k_iload_n C rfl rfl rfl ?_
      refine c_VR C (a_X8_formAt hI53 H_r1) rfl rfl rfl rfl rfl ⟨_, rfl, rfl, T_r1, Nat.le_of_ble_eq_true rfl⟩ rfl rfl (Nat.le_of_ble_eq_true rfl) (Nat.le_of_ble_eq_true rfl) (Nat.le_of_ble_eq_true rfl) ?_
      rintro yy146 _ _ ⟨hyy146, rfl, rfl⟩
      refine k_astoreV C (x := yy146) (lw := [(4, va_rf yy146), (3, va_rf yy145), (0, .ref r0), (1, .ref r1), (2, .int x50)]) rfl rfl (Nat.le_of_ble_eq_true rfl) (by cases yy145 <;> rfl) ?_
      refine k_aload_nV C (x := yy145) rfl rfl rfl ?_
      refine k_ifnull C (x := yy145) (t := 75) rfl rfl rfl (fun c147 => ?_) (fun rr148 c147 => ?_)
      · skip
        subst c147
        refine z_iinc C (z := 1) (lw := fun x149 => [(2, .int x149), (4, va_rf yy146), (3, va_rf none), (0, .ref r0), (1, .ref r1)]) rfl rfl rfl (Nat.le_of_ble_eq_true rfl) rfl ⟨by omega, by omega⟩ (fun _ => rfl) (fun x149 ex149 => ?_)
        show V 78 [(2, .int x149), (4, va_rf yy146), (3, va_rf none), (0, .ref r0), (1, .ref r1)] _ _ _ _
        refine k_goto C (pc2 := 39) rfl rfl ?_
        refine k_sub S [(0, .ref r0), (1, .ref r1), (2, .int x149)] (List.forall_mem_cons.mpr ⟨List.mem_of_getElem? (i := 3) rfl, List.forall_mem_cons.mpr ⟨List.mem_of_getElem? (i := 4) rfl, List.forall_mem_cons.mpr ⟨List.mem_of_getElem? (i := 0) rfl, fun _ h => nomatch h⟩⟩⟩) ?_
        exact ihJ46 _ (by omega) I48 L49 x149 rfl hI53 (Chg.mono S52 (by decide)) (by omega)
      subst c147
      have H_rr148 := hyy145 rr148 rfl
      refine k_aloadV C (x := yy146) rfl rfl rfl ?_
      refine k_ifnull C (x := yy146) (t := 75) rfl rfl rfl (fun c150 => ?_) (fun rr151 c150 => ?_)
      · skip
        subst c150
        refine z_iinc C (z := 1) (lw := fun x152 => [(2, .int x152), (4, va_rf none), (3, .ref rr148), (0, .ref r0), (1, .ref r1)]) rfl rfl rfl (Nat.le_of_ble_eq_true rfl) rfl ⟨by omega, by omega⟩ (fun _ => rfl) (fun x152 ex152 => ?_)
        show V 78 [(2, .int x152), (4, va_rf none), (3, .ref rr148), (0, .ref r0), (1, .ref r1)] _ _ _ _
        refine k_goto C (pc2 := 39) rfl rfl ?_
        refine k_sub S [(0, .ref r0), (1, .ref r1), (2, .int x152)] (List.forall_mem_cons.mpr ⟨List.mem_of_getElem? (i := 3) rfl, List.forall_mem_cons.mpr ⟨List.mem_of_getElem? (i := 4) rfl, List.forall_mem_cons.mpr ⟨List.mem_of_getElem? (i := 0) rfl, fun _ h => nomatch h⟩⟩⟩) ?_
        exact ihJ46 _ (by omega) I48 L49 x152 rfl hI53 (Chg.mono S52 (by decide)) (by omega)
      subst c150
      have H_rr151 := hyy146 rr151 rfl
      refine k_aload_n C rfl rfl rfl ?_
      refine k_aload C rfl rfl rfl ?_
      obtain ⟨T_rr148, A_rr148, ⟨rr148_1, R_rr148_1, H_rr148_1⟩⟩ := id H_rr148
      refine c_VV C (a_X2_copyFrom hI53 H_rr148 H_rr151) rfl rfl rfl rfl rfl ⟨_, rfl, rfl, T_rr148, Nat.le_of_ble_eq_true rfl⟩ rfl rfl (Nat.le_of_ble_eq_true rfl) (Nat.le_of_ble_eq_true rfl) (Nat.le_of_ble_eq_true rfl) ?_
      rintro I154 L155 ⟨p0v153, p1v153, hI154, S156⟩
      have e157 := Chg.k S156 T_r1 (by decide) (by decide) e54
      have e158 := Chg.k S156 T_r0 (by decide) (by decide) e55
      have e159 := Chg.k S156 T_r1 (by decide) (by decide) e56
      have e160 := Chg.k S156 T_r0 (by decide) (by decide) e57
      have e161 := Chg.k S156 T_r1 (by decide) (by decide) e58
      have e162 := Chg.k S156 T_r0 (by decide) (by decide) e59
      have e163 := Chg.k S156 T_r1 (by decide) (by decide) e60
      have e164 := Chg.k S156 T_r0 (by decide) (by decide) e61
      obtain ⟨x165, e166⟩ : ∃ x, I154 rr148 0 = x := ⟨_, rfl⟩
      have gx165 := rg x165
      have ox165 := IX.deg hI154 A_rr148 T_rr148 e166
      obtain ⟨T_rr151, A_rr151, ⟨rr151_1, R_rr151_1, H_rr151_1⟩⟩ := id H_rr151
      obtain ⟨x167, e168⟩ : ∃ x, I154 rr151 0 = x := ⟨_, rfl⟩
      have gx167 := rg x167
      have ox167 := IX.deg hI154 A_rr151 T_rr151 e168
      try simp only [e54, e55, e56, e57, e58, e59, e60, e61, e166, e168] at p0v153
      try have q0v153 := congrArg Int32.toInt p0v153
      try simp only [e54, e55, e56, e57, e58, e59, e60, e61, e166, e168] at p1v153
      try have q1v153 := congrArg Int32.toInt p1v153
      refine z_iinc C (z := 1) (lw := fun x169 => [(2, .int x169), (4, .ref rr151), (3, .ref rr148), (0, .ref r0), (1, .ref r1)]) rfl rfl rfl (Nat.le_of_ble_eq_true rfl) rfl ⟨by omega, by omega⟩ (fun _ => rfl) (fun x169 ex169 => ?_)
      show V 78 [(2, .int x169), (4, .ref rr151), (3, .ref rr148), (0, .ref r0), (1, .ref r1)] _ _ _ _
      refine k_goto C (pc2 := 39) rfl rfl ?_
      refine k_sub S [(0, .ref r0), (1, .ref r1), (2, .int x169)] (List.forall_mem_cons.mpr ⟨List.mem_of_getElem? (i := 3) rfl, List.forall_mem_cons.mpr ⟨List.mem_of_getElem? (i := 4) rfl, List.forall_mem_cons.mpr ⟨List.mem_of_getElem? (i := 0) rfl, fun _ h => nomatch h⟩⟩⟩) ?_
      exact ihJ46 _ (by omega) I154 L155 x169 rfl hI154 (Chg.cons S52 (Chg.mono S156 (by decide)) (by decide)) (by omega)
  refine k_istore_n C (lw := [(2, .int x45), (0, .ref r0), (1, .ref r1)]) rfl rfl (Nat.le_of_ble_eq_true rfl) rfl ?_
  refine k_sub S [(0, .ref r0), (1, .ref r1), (2, .int x45)] (List.forall_mem_cons.mpr ⟨List.mem_of_getElem? (i := 1) rfl, List.forall_mem_cons.mpr ⟨List.mem_of_getElem? (i := 2) rfl, List.forall_mem_cons.mpr ⟨List.mem_of_getElem? (i := 0) rfl, fun _ h => nomatch h⟩⟩⟩) ?_
  exact J46 _ I34 L35 x45 rfl hI34 Chg.rf (by omega)

