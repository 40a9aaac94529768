/-! the class in any state, the states' forms kept -/
theorem s_X0_divideInto {d : Nat} {T N : Nat → Nat} {I : IT} {L : LT} {R : RT} {A B : Nat → Prop} {r0 r1 r2 r3 : Nat} (hS : SUB B A) (hI : IX A T I) (H_r0 : (hs_Al T N R A B) r0) (H_r1 : (hs_F T N R A B) r1) (H_r2 : (hs_F T N R A B) r2) (H_r3 : (hs_G T N R A B) r3) : Ex (d + 4) 28 [.ref r0, .ref r1, .ref r2, .ref r3] (T, N, I, L, R) 0 0 (pI T N R (fun x9 I9 L9 => (0 ≤ x9.toInt) ∧ (x9.toInt ≤ 1) ∧ (IX A T I9 ∧ Chg B T [(3, 0)] I L I9 L9))) := by
  refine ⟨_, rfl, Nat.le_of_ble_eq_true rfl, fun V C S => ?_⟩
  show V 0 [(0, .ref r0), (1, .ref r1), (2, .ref r2), (3, .ref r3)] [] (T, N, I, L, R) 0 0
  refine k_aload_n C rfl rfl rfl ?_
  obtain ⟨T_r1, A_r1, ⟨r1_1, R_r1_1, H_r1_1⟩⟩ := id H_r1
  refine z_gI C rfl rfl rfl T_r1 rfl (fun x1 ex1 => ?_)
  have gx1 := rg x1
  have ox1 := IX.deg hI A_r1 T_r1 ex1
  refine k_aload_n C rfl rfl rfl ?_
  obtain ⟨T_r2, A_r2, ⟨r2_1, R_r2_1, H_r2_1⟩⟩ := id H_r2
  refine z_gI C rfl rfl rfl T_r2 rfl (fun x2 ex2 => ?_)
  have gx2 := rg x2
  have ox2 := IX.deg hI A_r2 T_r2 ex2
  refine z_isub C rfl rfl ⟨by omega, by omega⟩ (fun x3 ex3 => ?_)
  refine k_istore C (lw := [(4, .int x3), (0, .ref r0), (1, .ref r1), (2, .ref r2), (3, .ref r3)]) rfl rfl (Nat.le_of_ble_eq_true rfl) rfl ?_
  refine k_aload_n C rfl rfl rfl ?_
  refine c_VI C (s_X2_first hS hI H_r2) rfl rfl rfl rfl rfl ⟨_, rfl, rfl, T_r2, Nat.le_of_ble_eq_true rfl⟩ rfl rfl (Nat.le_of_ble_eq_true rfl) (Nat.le_of_ble_eq_true rfl) (Nat.le_of_ble_eq_true rfl) ?_
  rintro x4 _ _ ⟨o0x4, o1x4, p0x4, rfl, rfl⟩
  have gx4 := rg x4
  try simp only [ex1, ex2] at p0x4
  try have q0x4 := congrArg Int32.toInt p0x4
  refine k_istore C (lw := [(5, .int x4), (4, .int x3), (0, .ref r0), (1, .ref r1), (2, .ref r2), (3, .ref r3)]) rfl rfl (Nat.le_of_ble_eq_true rfl) rfl ?_
  refine k_iload C rfl rfl rfl ?_
  refine b_if_lt C (t := 28) rfl rfl rfl (fun c5 => ?_) (fun c5 => ?_)
  · skip
    refine z_iconst C (z := 0) rfl rfl rfl (fun x6 ex6 => ?_)
    exact k_iret C rfl (Or.inr ⟨rfl, z01 (by omega) (by omega)⟩) (Nat.le_of_ble_eq_true rfl) (Nat.le_of_ble_eq_true rfl) ⟨_, _, _, rfl, rfl, by omega, by omega, hI, Chg.rf⟩
  refine k_iload C rfl rfl rfl ?_
  refine z_iconst C (z := -1) rfl rfl rfl (fun x7 ex7 => ?_)
  refine b_icmp_ne C (t := 30) rfl rfl rfl (fun c8 => ?_) (fun c8 => ?_)
  · skip
    refine k_aload_n C rfl rfl rfl ?_
    refine k_aload_n C rfl rfl rfl ?_
    refine k_iload C rfl rfl rfl ?_
    refine c_VI C (s_X2_get hS hI H_r2) rfl rfl rfl rfl rfl ⟨_, rfl, rfl, T_r2, Nat.le_of_ble_eq_true rfl⟩ rfl rfl (Nat.le_of_ble_eq_true rfl) (Nat.le_of_ble_eq_true rfl) (Nat.le_of_ble_eq_true rfl) ?_
    rintro x9 _ _ ⟨rfl, rfl⟩
    have gx9 := rg x9
    obtain ⟨T_r0, A_r0, B_r0, ⟨r0_0, R_r0_0, H_r0_0⟩, ⟨r0_1, R_r0_1, H_r0_1⟩, ⟨r0_2, R_r0_2, H_r0_2⟩⟩ := id H_r0
    refine c_VI C (s_X0_inverse hS hI H_r0) rfl rfl rfl rfl rfl ⟨_, rfl, rfl, T_r0, Nat.le_of_ble_eq_true rfl⟩ rfl rfl (Nat.le_of_ble_eq_true rfl) (Nat.le_of_ble_eq_true rfl) (Nat.le_of_ble_eq_true rfl) ?_
    rintro x10 _ _ ⟨rfl, rfl⟩
    have gx10 := rg x10
    refine k_istore C (lw := [(6, .int x10), (5, .int x4), (4, .int x3), (0, .ref r0), (1, .ref r1), (2, .ref r2), (3, .ref r3)]) rfl rfl (Nat.le_of_ble_eq_true rfl) rfl ?_
    refine k_aload_n C rfl rfl rfl ?_
    refine k_iload C rfl rfl rfl ?_
    obtain ⟨T_r3, A_r3, B_r3, ⟨r3_1, R_r3_1, H_r3_1⟩⟩ := id H_r3
    refine c_VV C (s_X2_begin hS hI H_r3) rfl rfl rfl rfl rfl ⟨_, rfl, rfl, T_r3, Nat.le_of_ble_eq_true rfl⟩ rfl rfl (Nat.le_of_ble_eq_true rfl) (Nat.le_of_ble_eq_true rfl) (Nat.le_of_ble_eq_true rfl) ?_
    rintro I12 L13 ⟨hI12, S14⟩
    refine z_iconst C (z := 0) rfl rfl rfl (fun x15 ex15 => ?_)
    have J16 : ∀ (nn17 : Nat) (I18 : IT) (L19 : LT) (x20 : Int32), (MN (41 - x20.toInt) nn17) → (IX A T I18) → (Chg B T [] I12 L13 I18 L19) → (0 ≤ x20.toInt) → (x20.toInt ≤ 41) → V 51 [(0, .ref r0), (1, .ref r1), (2, .ref r2), (3, .ref r3), (4, .int x3), (5, .int x4), (6, .int x10), (7, .int x20)] [] (T, N, I18, L19, R) 0 0 := by
      intro nn17
      induction nn17 using Nat.strongRecOn with
      | _ nn17 ihJ16 =>
        intro I18 L19 x20 hmnn17 hI24 S23 b21 b22
        have gx20 := rg x20
        refine k_iload C rfl rfl rfl ?_
        refine k_iload C rfl rfl rfl ?_
        refine b_icmp_gt C (t := 132) rfl rfl rfl (fun c25 => ?_) (fun c25 => ?_)
        · skip
          refine k_aload_n C rfl rfl rfl ?_
          refine k_aload_n C rfl rfl rfl ?_
          refine k_aload_n C rfl rfl rfl ?_
          refine k_aload_n C rfl rfl rfl ?_
          refine g_R C rfl rfl rfl T_r0 rfl R_r0_1 ?_
          refine c_VI C (s_X0_multiplyInto hS hI24 H_r0 (hs_GF hS H_r3) H_r2 H_r0_1) rfl rfl rfl rfl rfl ⟨_, rfl, rfl, T_r0, Nat.le_of_ble_eq_true rfl⟩ rfl rfl (Nat.le_of_ble_eq_true rfl) (Nat.le_of_ble_eq_true rfl) (Nat.le_of_ble_eq_true rfl) ?_
          rintro x26 I27 L28 ⟨o0x26, o1x26, hI27, S29⟩
          have gx26 := rg x26
          refine b_if_eq C (t := 160) rfl rfl rfl (fun c30 => ?_) (fun c30 => ?_)
          · skip
            refine z_iconst C (z := 0) rfl rfl rfl (fun x31 ex31 => ?_)
            exact k_iret C rfl (Or.inr ⟨rfl, z01 (by omega) (by omega)⟩) (Nat.le_of_ble_eq_true rfl) (Nat.le_of_ble_eq_true rfl) ⟨_, _, _, rfl, rfl, by omega, by omega, hI27, (Chg.cons S14 (Chg.cons S23 (Chg.mono S29 (by decide)) (by decide)) (by decide))⟩
          refine k_aload_n C rfl rfl rfl ?_
          refine g_R C rfl rfl rfl T_r0 rfl R_r0_1 ?_
          refine k_aload_n C rfl rfl rfl ?_
          obtain ⟨T_r0_1, A_r0_1, B_r0_1, ⟨r0_1_1, R_r0_1_1, H_r0_1_1⟩⟩ := id H_r0_1
          refine c_VI C (s_X2_matches hS hI27 (hs_GF hS H_r0_1) H_r1) rfl rfl rfl rfl rfl ⟨_, rfl, rfl, T_r0_1, Nat.le_of_ble_eq_true rfl⟩ rfl rfl (Nat.le_of_ble_eq_true rfl) (Nat.le_of_ble_eq_true rfl) (Nat.le_of_ble_eq_true rfl) ?_
          rintro x32 _ _ ⟨o0x32, o1x32, rfl, rfl⟩
          have gx32 := rg x32
          refine b_if_eq C (t := 160) rfl rfl rfl (fun c33 => ?_) (fun c33 => ?_)
          · skip
            refine z_iconst C (z := 0) rfl rfl rfl (fun x34 ex34 => ?_)
            exact k_iret C rfl (Or.inr ⟨rfl, z01 (by omega) (by omega)⟩) (Nat.le_of_ble_eq_true rfl) (Nat.le_of_ble_eq_true rfl) ⟨_, _, _, rfl, rfl, by omega, by omega, hI27, (Chg.cons S14 (Chg.cons S23 (Chg.mono S29 (by decide)) (by decide)) (by decide))⟩
          refine z_iconst C (z := 1) rfl rfl rfl (fun x35 ex35 => ?_)
          refine k_goto C (pc2 := 161) rfl rfl ?_
          exact k_iret C rfl (Or.inr ⟨rfl, z01 (by omega) (by omega)⟩) (Nat.le_of_ble_eq_true rfl) (Nat.le_of_ble_eq_true rfl) ⟨_, _, _, rfl, rfl, by omega, by omega, hI27, (Chg.cons S14 (Chg.cons S23 (Chg.mono S29 (by decide)) (by decide)) (by decide))⟩
        refine k_aload_n C rfl rfl rfl ?_
        refine k_iload C rfl rfl rfl ?_
        refine k_iload C rfl rfl rfl ?_
        refine z_iadd C rfl rfl ⟨by omega, by omega⟩ (fun x36 ex36 => ?_)
        refine c_VI C (s_X2_get hS hI24 H_r1) rfl rfl rfl rfl rfl ⟨_, rfl, rfl, T_r1, Nat.le_of_ble_eq_true rfl⟩ rfl rfl (Nat.le_of_ble_eq_true rfl) (Nat.le_of_ble_eq_true rfl) (Nat.le_of_ble_eq_true rfl) ?_
        rintro x37 _ _ ⟨rfl, rfl⟩
        have gx37 := rg x37
        refine k_istore C (lw := [(8, .int x37), (0, .ref r0), (1, .ref r1), (2, .ref r2), (3, .ref r3), (4, .int x3), (5, .int x4), (6, .int x10), (7, .int x20)]) rfl rfl (Nat.le_of_ble_eq_true rfl) rfl ?_
        refine z_iconst C (z := 0) rfl rfl rfl (fun x38 ex38 => ?_)
        have J39 : ∀ (nn40 : Nat) (x41 : Int32) (x42 : Int32), (MN (40 - x42.toInt) nn40) → (0 ≤ x42.toInt) → (x42.toInt ≤ 40) → V 72 [(0, .ref r0), (1, .ref r1), (2, .ref r2), (3, .ref r3), (4, .int x3), (5, .int x4), (6, .int x10), (7, .int x20), (8, .int x41), (9, .int x42)] [] (T, N, I18, L19, R) 0 0 := by
          intro nn40
          induction nn40 using Nat.strongRecOn with
          | _ nn40 ihJ39 =>
            intro x41 x42 hmnn40 b43 b44
            have gx41 := rg x41
            have gx42 := rg x42
            refine k_iload C rfl rfl rfl ?_
            refine k_iload C rfl rfl rfl ?_
            refine b_icmp_ge C (t := 109) rfl rfl rfl (fun c45 => ?_) (fun c45 => ?_)
            · skip
              refine k_aload_n C rfl rfl rfl ?_
              refine k_iload C rfl rfl rfl ?_
              refine k_aload_n C rfl rfl rfl ?_
              refine k_iload C rfl rfl rfl ?_
              refine z_i2l C rfl rfl (fun lg46 elg46 => ?_)
              refine k_iload C rfl rfl rfl ?_
              refine z_i2l C rfl rfl (fun lg47 elg47 => ?_)
              refine zt_lmul C rfl rfl (fun lg48 => ?_)
              refine c_VI C (s_X0_of hS hI24 H_r0) rfl rfl rfl rfl rfl ⟨_, rfl, rfl, T_r0, Nat.le_of_ble_eq_true rfl⟩ rfl rfl (Nat.le_of_ble_eq_true rfl) (Nat.le_of_ble_eq_true rfl) (Nat.le_of_ble_eq_true rfl) ?_
              rintro x49 _ _ ⟨rfl, rfl⟩
              have gx49 := rg x49
              refine c_VV C (s_X2_set hS hI24 H_r3) rfl rfl rfl rfl rfl ⟨_, rfl, rfl, T_r3, Nat.le_of_ble_eq_true rfl⟩ rfl rfl (Nat.le_of_ble_eq_true rfl) (Nat.le_of_ble_eq_true rfl) (Nat.le_of_ble_eq_true rfl) ?_
              rintro I51 L52 ⟨hI51, S53⟩
              refine z_iinc C (z := 1) (lw := fun x54 => [(7, .int x54), (0, .ref r0), (1, .ref r1), (2, .ref r2), (3, .ref r3), (4, .int x3), (5, .int x4), (6, .int x10), (8, .int x41), (9, .int x42)]) rfl rfl rfl (Nat.le_of_ble_eq_true rfl) rfl ⟨by omega, by omega⟩ (fun _ => rfl) (fun x54 ex54 => ?_)
              show V 129 [(7, .int x54), (0, .ref r0), (1, .ref r1), (2, .ref r2), (3, .ref r3), (4, .int x3), (5, .int x4), (6, .int x10), (8, .int x41), (9, .int x42)] _ _ _ _
              refine k_goto C (pc2 := 51) rfl rfl ?_
              refine k_sub S [(0, .ref r0), (1, .ref r1), (2, .ref r2), (3, .ref r3), (4, .int x3), (5, .int x4), (6, .int x10), (7, .int x54)] (List.forall_mem_cons.mpr ⟨List.mem_of_getElem? (i := 1) rfl, List.forall_mem_cons.mpr ⟨List.mem_of_getElem? (i := 2) rfl, List.forall_mem_cons.mpr ⟨List.mem_of_getElem? (i := 3) rfl, List.forall_mem_cons.mpr ⟨List.mem_of_getElem? (i := 4) rfl, List.forall_mem_cons.mpr ⟨List.mem_of_getElem? (i := 5) rfl, List.forall_mem_cons.mpr ⟨List.mem_of_getElem? (i := 6) rfl, List.forall_mem_cons.mpr ⟨List.mem_of_getElem? (i := 7) rfl, List.forall_mem_cons.mpr ⟨List.mem_of_getElem? (i := 0) rfl, fun _ h => nomatch h⟩⟩⟩⟩⟩⟩⟩⟩) ?_
              exact ihJ16 _ (MN.lt hmnn17 (by omega) (by omega)) I51 L52 x54 rfl hI51 (Chg.cons S23 (Chg.mono S53 (by decide)) (by decide)) (by omega) (by omega)
            refine k_iload C rfl rfl rfl ?_
            refine k_aload_n C rfl rfl rfl ?_
            refine k_iload C rfl rfl rfl ?_
            refine c_VI C (s_X2_get hS hI24 (hs_GF hS H_r3)) rfl rfl rfl rfl rfl ⟨_, rfl, rfl, T_r3, Nat.le_of_ble_eq_true rfl⟩ rfl rfl (Nat.le_of_ble_eq_true rfl) (Nat.le_of_ble_eq_true rfl) (Nat.le_of_ble_eq_true rfl) ?_
            rintro x55 _ _ ⟨rfl, rfl⟩
            have gx55 := rg x55
            refine k_aload_n C rfl rfl rfl ?_
            refine k_iload C rfl rfl rfl ?_
            refine k_iload C rfl rfl rfl ?_
            refine z_isub C rfl rfl ⟨by omega, by omega⟩ (fun x56 ex56 => ?_)
            refine k_iload C rfl rfl rfl ?_
            refine z_iadd C rfl rfl ⟨by omega, by omega⟩ (fun x57 ex57 => ?_)
            refine c_VI C (s_X2_get hS hI24 H_r2) rfl rfl rfl rfl rfl ⟨_, rfl, rfl, T_r2, Nat.le_of_ble_eq_true rfl⟩ rfl rfl (Nat.le_of_ble_eq_true rfl) (Nat.le_of_ble_eq_true rfl) (Nat.le_of_ble_eq_true rfl) ?_
            rintro x58 _ _ ⟨rfl, rfl⟩
            have gx58 := rg x58
            refine zt_imul C rfl rfl (fun x59 => ?_)
            have gx59 := rg x59
            refine zt_isub C rfl rfl (fun x60 => ?_)
            have gx60 := rg x60
            refine k_istore C (lw := [(8, .int x60), (0, .ref r0), (1, .ref r1), (2, .ref r2), (3, .ref r3), (4, .int x3), (5, .int x4), (6, .int x10), (7, .int x20), (9, .int x42)]) rfl rfl (Nat.le_of_ble_eq_true rfl) rfl ?_
            refine z_iinc C (z := 1) (lw := fun x61 => [(9, .int x61), (8, .int x60), (0, .ref r0), (1, .ref r1), (2, .ref r2), (3, .ref r3), (4, .int x3), (5, .int x4), (6, .int x10), (7, .int x20)]) rfl rfl rfl (Nat.le_of_ble_eq_true rfl) rfl ⟨by omega, by omega⟩ (fun _ => rfl) (fun x61 ex61 => ?_)
            show V 106 [(9, .int x61), (8, .int x60), (0, .ref r0), (1, .ref r1), (2, .ref r2), (3, .ref r3), (4, .int x3), (5, .int x4), (6, .int x10), (7, .int x20)] _ _ _ _
            refine k_goto C (pc2 := 72) rfl rfl ?_
            refine k_sub S [(0, .ref r0), (1, .ref r1), (2, .ref r2), (3, .ref r3), (4, .int x3), (5, .int x4), (6, .int x10), (7, .int x20), (8, .int x60), (9, .int x61)] (List.forall_mem_cons.mpr ⟨List.mem_of_getElem? (i := 2) rfl, List.forall_mem_cons.mpr ⟨List.mem_of_getElem? (i := 3) rfl, List.forall_mem_cons.mpr ⟨List.mem_of_getElem? (i := 4) rfl, List.forall_mem_cons.mpr ⟨List.mem_of_getElem? (i := 5) rfl, List.forall_mem_cons.mpr ⟨List.mem_of_getElem? (i := 6) rfl, List.forall_mem_cons.mpr ⟨List.mem_of_getElem? (i := 7) rfl, List.forall_mem_cons.mpr ⟨List.mem_of_getElem? (i := 8) rfl, List.forall_mem_cons.mpr ⟨List.mem_of_getElem? (i := 9) rfl, List.forall_mem_cons.mpr ⟨List.mem_of_getElem? (i := 1) rfl, List.forall_mem_cons.mpr ⟨List.mem_of_getElem? (i := 0) rfl, fun _ h => nomatch h⟩⟩⟩⟩⟩⟩⟩⟩⟩⟩) ?_
            exact ihJ39 _ (MN.lt hmnn40 (by omega) (by omega)) x60 x61 rfl (by omega) (by omega)
        refine k_istore C (lw := [(9, .int x38), (8, .int x37), (0, .ref r0), (1, .ref r1), (2, .ref r2), (3, .ref r3), (4, .int x3), (5, .int x4), (6, .int x10), (7, .int x20)]) rfl rfl (Nat.le_of_ble_eq_true rfl) rfl ?_
        refine k_sub S [(0, .ref r0), (1, .ref r1), (2, .ref r2), (3, .ref r3), (4, .int x3), (5, .int x4), (6, .int x10), (7, .int x20), (8, .int x37), (9, .int x38)] (List.forall_mem_cons.mpr ⟨List.mem_of_getElem? (i := 2) rfl, List.forall_mem_cons.mpr ⟨List.mem_of_getElem? (i := 3) rfl, List.forall_mem_cons.mpr ⟨List.mem_of_getElem? (i := 4) rfl, List.forall_mem_cons.mpr ⟨List.mem_of_getElem? (i := 5) rfl, List.forall_mem_cons.mpr ⟨List.mem_of_getElem? (i := 6) rfl, List.forall_mem_cons.mpr ⟨List.mem_of_getElem? (i := 7) rfl, List.forall_mem_cons.mpr ⟨List.mem_of_getElem? (i := 8) rfl, List.forall_mem_cons.mpr ⟨List.mem_of_getElem? (i := 9) rfl, List.forall_mem_cons.mpr ⟨List.mem_of_getElem? (i := 1) rfl, List.forall_mem_cons.mpr ⟨List.mem_of_getElem? (i := 0) rfl, fun _ h => nomatch h⟩⟩⟩⟩⟩⟩⟩⟩⟩⟩) ?_
        exact J39 _ x37 x38 rfl (by omega) (by omega)
    refine k_istore C (lw := [(7, .int x15), (6, .int x10), (5, .int x4), (4, .int x3), (0, .ref r0), (1, .ref r1), (2, .ref r2), (3, .ref r3)]) rfl rfl (Nat.le_of_ble_eq_true rfl) rfl ?_
    refine k_sub S [(0, .ref r0), (1, .ref r1), (2, .ref r2), (3, .ref r3), (4, .int x3), (5, .int x4), (6, .int x10), (7, .int x15)] (List.forall_mem_cons.mpr ⟨List.mem_of_getElem? (i := 4) rfl, List.forall_mem_cons.mpr ⟨List.mem_of_getElem? (i := 5) rfl, List.forall_mem_cons.mpr ⟨List.mem_of_getElem? (i := 6) rfl, List.forall_mem_cons.mpr ⟨List.mem_of_getElem? (i := 7) rfl, List.forall_mem_cons.mpr ⟨List.mem_of_getElem? (i := 3) rfl, List.forall_mem_cons.mpr ⟨List.mem_of_getElem? (i := 2) rfl, List.forall_mem_cons.mpr ⟨List.mem_of_getElem? (i := 1) rfl, List.forall_mem_cons.mpr ⟨List.mem_of_getElem? (i := 0) rfl, fun _ h => nomatch h⟩⟩⟩⟩⟩⟩⟩⟩) ?_
    exact J16 _ I12 L13 x15 rfl hI12 Chg.rf (by omega) (by omega)
  refine z_iconst C (z := 0) rfl rfl rfl (fun x62 ex62 => ?_)
  exact k_iret C rfl (Or.inr ⟨rfl, z01 (by omega) (by omega)⟩) (Nat.le_of_ble_eq_true rfl) (Nat.le_of_ble_eq_true rfl) ⟨_, _, _, rfl, rfl, by omega, by omega, hI, Chg.rf⟩

theorem s_X2_dropY {d : Nat} {T N : Nat → Nat} {I : IT} {L : LT} {R : RT} {A B : Nat → Prop} {r0 : Nat} (hS : SUB B A) (hI : IX A T I) (H_r0 : (hs_G T N R A B) r0) : Ex (d + 3) 29 [.ref r0] (T, N, I, L, R) 0 0 (pV T N R (fun I9 L9 => (IX A T I9 ∧ Chg B T [(3, 0)] I L I9 L9))) := by
  refine ⟨_, rfl, Nat.le_of_ble_eq_true rfl, fun V C S => ?_⟩
  show V 0 [(0, .ref r0)] [] (T, N, I, L, R) 0 0
  obtain ⟨T_r0, A_r0, B_r0, ⟨r0_1, R_r0_1, H_r0_1⟩⟩ := id H_r0
  obtain ⟨w_r0_0, k0_r0_0⟩ : ∃ x, I r0 0 = x := ⟨_, rfl⟩
  have gw_r0_0 := rg w_r0_0
  have ow_r0_0 := IX.deg hI A_r0 T_r0 k0_r0_0
  refine k_aload_n C rfl rfl rfl ?_
  refine c_VI C (s_X2_first hS hI (hs_GF hS H_r0)) rfl rfl rfl rfl rfl ⟨_, rfl, rfl, T_r0, Nat.le_of_ble_eq_true rfl⟩ rfl rfl (Nat.le_of_ble_eq_true rfl) (Nat.le_of_ble_eq_true rfl) (Nat.le_of_ble_eq_true rfl) ?_
  rintro x1 _ _ ⟨o0x1, o1x1, p0x1, rfl, rfl⟩
  have gx1 := rg x1
  try simp only [k0_r0_0] at p0x1
  try have q0x1 := congrArg Int32.toInt p0x1
  refine k_istore_n C (lw := [(1, .int x1), (0, .ref r0)]) rfl rfl (Nat.le_of_ble_eq_true rfl) rfl ?_
  refine k_iload_n C rfl rfl rfl ?_
  have J2 : ∀ (nn3 : Nat) (I4 : IT) (L5 : LT) (x6 : Int32), (MN (41 - x6.toInt) nn3) → (IX A T I4) → (Chg B T [] I L I4 L5) → (-1 ≤ x6.toInt) → (x6.toInt ≤ 41) → V 7 [(0, .ref r0), (1, .int x1), (2, .int x6)] [] (T, N, I4, L5, R) 0 0 := by
    intro nn3
    induction nn3 using Nat.strongRecOn with
    | _ nn3 ihJ2 =>
      intro I4 L5 x6 hmnn3 hI10 S9 b7 b8
      have gx6 := rg x6
      have e11 := Chg.k S9 T_r0 (by decide) (by decide) k0_r0_0
      refine k_iload_n C rfl rfl rfl ?_
      refine b_if_le C (t := 37) rfl rfl rfl (fun c12 => ?_) (fun c12 => ?_)
      · skip
        refine k_aload_n C rfl rfl rfl ?_
        refine k_dup C rfl rfl rfl ?_
        refine g_I C rfl rfl rfl T_r0 rfl e11 ?_
        refine k_iload_n C rfl rfl rfl ?_
        refine b_if_le C (t := 50) rfl rfl rfl (fun c13 => ?_) (fun c13 => ?_)
        · skip
          refine z_iconst C (z := 0) rfl rfl rfl (fun x14 ex14 => ?_)
          refine z_isub C rfl rfl ⟨by omega, by omega⟩ (fun x15 ex15 => ?_)
          refine z_pI C rfl rfl rfl T_r0 (Or.inr rfl) rfl (fun I16 uI16 => ?_)
          have hI16 : IX A T I16 := IX.f hI10 T_r0 ⟨fun _ _ => ⟨by omega, by omega⟩, fun h => absurd h (by decide)⟩ uI16
          have S17 : Chg B T [(3, 0)] I4 L5 I16 L5 := Chg.f B_r0 T_r0 uI16
          have e18 := u2_e uI16
          exact k_vret C rfl rfl (Nat.le_of_ble_eq_true rfl) (Nat.le_of_ble_eq_true rfl) ⟨_, _, rfl, rfl, hI16, (Chg.cons S9 (Chg.mono S17 (by decide)) (by decide))⟩
        refine k_iload_n C rfl rfl rfl ?_
        refine k_goto C (pc2 := 51) rfl rfl ?_
        refine z_isub C rfl rfl ⟨by omega, by omega⟩ (fun x19 ex19 => ?_)
        refine z_pI C rfl rfl rfl T_r0 (Or.inr rfl) rfl (fun I20 uI20 => ?_)
        have hI20 : IX A T I20 := IX.f hI10 T_r0 ⟨fun _ _ => ⟨by omega, by omega⟩, fun h => absurd h (by decide)⟩ uI20
        have S21 : Chg B T [(3, 0)] I4 L5 I20 L5 := Chg.f B_r0 T_r0 uI20
        have e22 := u2_e uI20
        exact k_vret C rfl rfl (Nat.le_of_ble_eq_true rfl) (Nat.le_of_ble_eq_true rfl) ⟨_, _, rfl, rfl, hI20, (Chg.cons S9 (Chg.mono S21 (by decide)) (by decide))⟩
      refine k_iload_n C rfl rfl rfl ?_
      refine k_aload_n C rfl rfl rfl ?_
      refine g_I C rfl rfl rfl T_r0 rfl e11 ?_
      refine b_icmp_gt C (t := 37) rfl rfl rfl (fun c23 => ?_) (fun c23 => ?_)
      · skip
        refine k_aload_n C rfl rfl rfl ?_
        refine k_dup C rfl rfl rfl ?_
        refine g_I C rfl rfl rfl T_r0 rfl e11 ?_
        refine k_iload_n C rfl rfl rfl ?_
        refine b_if_le C (t := 50) rfl rfl rfl (fun c24 => ?_) (fun c24 => ?_)
        · skip
          refine z_iconst C (z := 0) rfl rfl rfl (fun x25 ex25 => ?_)
          refine z_isub C rfl rfl ⟨by omega, by omega⟩ (fun x26 ex26 => ?_)
          refine z_pI C rfl rfl rfl T_r0 (Or.inr rfl) rfl (fun I27 uI27 => ?_)
          have hI27 : IX A T I27 := IX.f hI10 T_r0 ⟨fun _ _ => ⟨by omega, by omega⟩, fun h => absurd h (by decide)⟩ uI27
          have S28 : Chg B T [(3, 0)] I4 L5 I27 L5 := Chg.f B_r0 T_r0 uI27
          have e29 := u2_e uI27
          exact k_vret C rfl rfl (Nat.le_of_ble_eq_true rfl) (Nat.le_of_ble_eq_true rfl) ⟨_, _, rfl, rfl, hI27, (Chg.cons S9 (Chg.mono S28 (by decide)) (by decide))⟩
        refine k_iload_n C rfl rfl rfl ?_
        refine k_goto C (pc2 := 51) rfl rfl ?_
        refine z_isub C rfl rfl ⟨by omega, by omega⟩ (fun x30 ex30 => ?_)
        refine z_pI C rfl rfl rfl T_r0 (Or.inr rfl) rfl (fun I31 uI31 => ?_)
        have hI31 : IX A T I31 := IX.f hI10 T_r0 ⟨fun _ _ => ⟨by omega, by omega⟩, fun h => absurd h (by decide)⟩ uI31
        have S32 : Chg B T [(3, 0)] I4 L5 I31 L5 := Chg.f B_r0 T_r0 uI31
        have e33 := u2_e uI31
        exact k_vret C rfl rfl (Nat.le_of_ble_eq_true rfl) (Nat.le_of_ble_eq_true rfl) ⟨_, _, rfl, rfl, hI31, (Chg.cons S9 (Chg.mono S32 (by decide)) (by decide))⟩
      refine k_aload_n C rfl rfl rfl ?_
      refine k_iload_n C rfl rfl rfl ?_
      refine k_iload_n C rfl rfl rfl ?_
      refine z_isub C rfl rfl ⟨by omega, by omega⟩ (fun x34 ex34 => ?_)
      refine k_aload_n C rfl rfl rfl ?_
      refine k_iload_n C rfl rfl rfl ?_
      refine c_VI C (s_X2_get hS hI10 (hs_GF hS H_r0)) rfl rfl rfl rfl rfl ⟨_, rfl, rfl, T_r0, Nat.le_of_ble_eq_true rfl⟩ rfl rfl (Nat.le_of_ble_eq_true rfl) (Nat.le_of_ble_eq_true rfl) (Nat.le_of_ble_eq_true rfl) ?_
      rintro x35 _ _ ⟨rfl, rfl⟩
      have gx35 := rg x35
      refine c_VV C (s_X2_set hS hI10 H_r0) rfl rfl rfl rfl rfl ⟨_, rfl, rfl, T_r0, Nat.le_of_ble_eq_true rfl⟩ rfl rfl (Nat.le_of_ble_eq_true rfl) (Nat.le_of_ble_eq_true rfl) (Nat.le_of_ble_eq_true rfl) ?_
      rintro I37 L38 ⟨hI37, S39⟩
      have e40 := Chg.k S39 T_r0 (by decide) (by decide) e11
      refine z_iinc C (z := 1) (lw := fun x41 => [(2, .int x41), (0, .ref r0), (1, .int x1)]) rfl rfl rfl (Nat.le_of_ble_eq_true rfl) rfl ⟨by omega, by omega⟩ (fun _ => rfl) (fun x41 ex41 => ?_)
      show V 34 [(2, .int x41), (0, .ref r0), (1, .int x1)] _ _ _ _
      refine k_goto C (pc2 := 7) rfl rfl ?_
      refine k_sub S [(0, .ref r0), (1, .int x1), (2, .int x41)] (List.forall_mem_cons.mpr ⟨List.mem_of_getElem? (i := 1) rfl, List.forall_mem_cons.mpr ⟨List.mem_of_getElem? (i := 2) rfl, List.forall_mem_cons.mpr ⟨List.mem_of_getElem? (i := 0) rfl, fun _ h => nomatch h⟩⟩⟩) ?_
      exact ihJ2 _ (MN.lt hmnn3 (by omega) (by omega)) I37 L38 x41 rfl hI37 (Chg.cons S9 (Chg.mono S39 (by decide)) (by decide)) (by omega) (by omega)
  refine k_istore_n C (lw := [(2, .int x1), (1, .int x1), (0, .ref r0)]) rfl rfl (Nat.le_of_ble_eq_true rfl) rfl ?_
  refine k_sub S [(0, .ref r0), (1, .int x1), (2, .int x1)] (List.forall_mem_cons.mpr ⟨List.mem_of_getElem? (i := 2) rfl, List.forall_mem_cons.mpr ⟨List.mem_of_getElem? (i := 1) rfl, List.forall_mem_cons.mpr ⟨List.mem_of_getElem? (i := 0) rfl, fun _ h => nomatch h⟩⟩⟩) ?_
  exact J2 _ I L x1 rfl hI Chg.rf (by omega) (by omega)

theorem s_X2_isNought {d : Nat} {T N : Nat → Nat} {I : IT} {L : LT} {R : RT} {A B : Nat → Prop} {r0 : Nat} (hS : SUB B A) (hI : IX A T I) (H_r0 : (hs_F T N R A B) r0) : Ex (d + 3) 30 [.ref r0] (T, N, I, L, R) 0 0 (pI T N R (fun x9 I9 L9 => (0 ≤ x9.toInt) ∧ (x9.toInt ≤ 1) ∧ (I = I9 ∧ L = L9))) := by
  refine ⟨_, rfl, Nat.le_of_ble_eq_true rfl, fun V C S => ?_⟩
  show V 0 [(0, .ref r0)] [] (T, N, I, L, R) 0 0
  refine k_aload_n C rfl rfl rfl ?_
  obtain ⟨T_r0, A_r0, ⟨r0_1, R_r0_1, H_r0_1⟩⟩ := id H_r0
  refine c_VI C (s_X2_first hS hI H_r0) rfl rfl rfl rfl rfl ⟨_, rfl, rfl, T_r0, Nat.le_of_ble_eq_true rfl⟩ rfl rfl (Nat.le_of_ble_eq_true rfl) (Nat.le_of_ble_eq_true rfl) (Nat.le_of_ble_eq_true rfl) ?_
  rintro x1 _ _ ⟨o0x1, o1x1, p0x1, rfl, rfl⟩
  have gx1 := rg x1
  refine z_iconst C (z := -1) rfl rfl rfl (fun x2 ex2 => ?_)
  refine b_icmp_ne C (t := 12) rfl rfl rfl (fun c3 => ?_) (fun c3 => ?_)
  · skip
    refine z_iconst C (z := 0) rfl rfl rfl (fun x4 ex4 => ?_)
    exact k_iret C rfl (Or.inr ⟨rfl, z01 (by omega) (by omega)⟩) (Nat.le_of_ble_eq_true rfl) (Nat.le_of_ble_eq_true rfl) ⟨_, _, _, rfl, rfl, by omega, by omega, rfl, rfl⟩
  refine z_iconst C (z := 1) rfl rfl rfl (fun x5 ex5 => ?_)
  refine k_goto C (pc2 := 13) rfl rfl ?_
  exact k_iret C rfl (Or.inr ⟨rfl, z01 (by omega) (by omega)⟩) (Nat.le_of_ble_eq_true rfl) (Nat.le_of_ble_eq_true rfl) ⟨_, _, _, rfl, rfl, by omega, by omega, rfl, rfl⟩

theorem s_X0_takeRest {d : Nat} {T N : Nat → Nat} {I : IT} {L : LT} {R : RT} {A B : Nat → Prop} {r0 r1 r2 : Nat} (hS : SUB B A) (hI : IX A T I) (H_r0 : (hs_Al T N R A B) r0) (H_r1 : (hs_G T N R A B) r1) (H_r2 : (hs_F T N R A B) r2) : Ex (d + 4) 31 [.ref r0, .ref r1, .ref r2] (T, N, I, L, R) 0 0 (pV T N R (fun I9 L9 => (IX A T I9 ∧ Chg B T [(3, 0)] I L I9 L9))) := by
  refine ⟨_, rfl, Nat.le_of_ble_eq_true rfl, fun V C S => ?_⟩
  show V 0 [(0, .ref r0), (1, .ref r1), (2, .ref r2)] [] (T, N, I, L, R) 0 0
  refine k_aload_n C rfl rfl rfl ?_
  refine k_aload_n C rfl rfl rfl ?_
  refine z_iconst C (z := 0) rfl rfl rfl (fun x1 ex1 => ?_)
  obtain ⟨T_r2, A_r2, ⟨r2_1, R_r2_1, H_r2_1⟩⟩ := id H_r2
  refine c_VI C (s_X2_get hS hI H_r2) rfl rfl rfl rfl rfl ⟨_, rfl, rfl, T_r2, Nat.le_of_ble_eq_true rfl⟩ rfl rfl (Nat.le_of_ble_eq_true rfl) (Nat.le_of_ble_eq_true rfl) (Nat.le_of_ble_eq_true rfl) ?_
  rintro x2 _ _ ⟨rfl, rfl⟩
  have gx2 := rg x2
  obtain ⟨T_r0, A_r0, B_r0, ⟨r0_0, R_r0_0, H_r0_0⟩, ⟨r0_1, R_r0_1, H_r0_1⟩, ⟨r0_2, R_r0_2, H_r0_2⟩⟩ := id H_r0
  refine c_VI C (s_X0_inverse hS hI H_r0) rfl rfl rfl rfl rfl ⟨_, rfl, rfl, T_r0, Nat.le_of_ble_eq_true rfl⟩ rfl rfl (Nat.le_of_ble_eq_true rfl) (Nat.le_of_ble_eq_true rfl) (Nat.le_of_ble_eq_true rfl) ?_
  rintro x3 _ _ ⟨rfl, rfl⟩
  have gx3 := rg x3
  refine k_istore_n C (lw := [(3, .int x3), (0, .ref r0), (1, .ref r1), (2, .ref r2)]) rfl rfl (Nat.le_of_ble_eq_true rfl) rfl ?_
  refine z_iconst C (z := 0) rfl rfl rfl (fun x4 ex4 => ?_)
  have J5 : ∀ (nn6 : Nat) (I7 : IT) (L8 : LT) (x9 : Int32), (MN (41 - x9.toInt) nn6) → (IX A T I7) → (Chg B T [(3, 0)] I L I7 L8) → (0 ≤ x9.toInt) → (x9.toInt ≤ 41) → V 13 [(0, .ref r0), (1, .ref r1), (2, .ref r2), (3, .int x3), (4, .int x9)] [] (T, N, I7, L8, R) 0 0 := by
    intro nn6
    induction nn6 using Nat.strongRecOn with
    | _ nn6 ihJ5 =>
      intro I7 L8 x9 hmnn6 hI13 S12 b10 b11
      have gx9 := rg x9
      refine k_iload C rfl rfl rfl ?_
      refine z_bipush C (z := 40) rfl rfl rfl (fun x14 ex14 => ?_)
      refine b_icmp_gt C (t := 107) rfl rfl rfl (fun c15 => ?_) (fun c15 => ?_)
      · skip
        exact k_vret C rfl rfl (Nat.le_of_ble_eq_true rfl) (Nat.le_of_ble_eq_true rfl) ⟨_, _, rfl, rfl, hI13, (Chg.mono S12 (by decide))⟩
      refine k_aload_n C rfl rfl rfl ?_
      obtain ⟨T_r1, A_r1, B_r1, ⟨r1_1, R_r1_1, H_r1_1⟩⟩ := id H_r1
      refine z_gI C rfl rfl rfl T_r1 rfl (fun x16 ex16 => ?_)
      have gx16 := rg x16
      have ox16 := IX.deg hI13 A_r1 T_r1 ex16
      refine k_aload_n C rfl rfl rfl ?_
      refine z_gI C rfl rfl rfl T_r2 rfl (fun x17 ex17 => ?_)
      have gx17 := rg x17
      have ox17 := IX.deg hI13 A_r2 T_r2 ex17
      refine b_icmp_lt C (t := 107) rfl rfl rfl (fun c18 => ?_) (fun c18 => ?_)
      · skip
        exact k_vret C rfl rfl (Nat.le_of_ble_eq_true rfl) (Nat.le_of_ble_eq_true rfl) ⟨_, _, rfl, rfl, hI13, (Chg.mono S12 (by decide))⟩
      refine k_aload_n C rfl rfl rfl ?_
      refine c_VI C (s_X2_isNought hS hI13 (hs_GF hS H_r1)) rfl rfl rfl rfl rfl ⟨_, rfl, rfl, T_r1, Nat.le_of_ble_eq_true rfl⟩ rfl rfl (Nat.le_of_ble_eq_true rfl) (Nat.le_of_ble_eq_true rfl) (Nat.le_of_ble_eq_true rfl) ?_
      rintro x19 _ _ ⟨o0x19, o1x19, rfl, rfl⟩
      have gx19 := rg x19
      refine b_if_ne C (t := 107) rfl rfl rfl (fun c20 => ?_) (fun c20 => ?_)
      · skip
        exact k_vret C rfl rfl (Nat.le_of_ble_eq_true rfl) (Nat.le_of_ble_eq_true rfl) ⟨_, _, rfl, rfl, hI13, (Chg.mono S12 (by decide))⟩
      refine k_aload_n C rfl rfl rfl ?_
      refine k_aload_n C rfl rfl rfl ?_
      refine z_iconst C (z := 0) rfl rfl rfl (fun x21 ex21 => ?_)
      refine c_VI C (s_X2_get hS hI13 (hs_GF hS H_r1)) rfl rfl rfl rfl rfl ⟨_, rfl, rfl, T_r1, Nat.le_of_ble_eq_true rfl⟩ rfl rfl (Nat.le_of_ble_eq_true rfl) (Nat.le_of_ble_eq_true rfl) (Nat.le_of_ble_eq_true rfl) ?_
      rintro x22 _ _ ⟨rfl, rfl⟩
      have gx22 := rg x22
      refine k_iload_n C rfl rfl rfl ?_
      refine zt_imul C rfl rfl (fun x23 => ?_)
      have gx23 := rg x23
      refine z_i2l C rfl rfl (fun lg24 elg24 => ?_)
      refine c_VI C (s_X0_of hS hI13 H_r0) rfl rfl rfl rfl rfl ⟨_, rfl, rfl, T_r0, Nat.le_of_ble_eq_true rfl⟩ rfl rfl (Nat.le_of_ble_eq_true rfl) (Nat.le_of_ble_eq_true rfl) (Nat.le_of_ble_eq_true rfl) ?_
      rintro x25 _ _ ⟨rfl, rfl⟩
      have gx25 := rg x25
      refine k_istore C (lw := [(5, .int x25), (0, .ref r0), (1, .ref r1), (2, .ref r2), (3, .int x3), (4, .int x9)]) rfl rfl (Nat.le_of_ble_eq_true rfl) rfl ?_
      refine z_iconst C (z := 0) rfl rfl rfl (fun x26 ex26 => ?_)
      have J27 : ∀ (nn28 : Nat) (I29 : IT) (L30 : LT) (x31 : Int32), (MN (41 - x31.toInt) nn28) → (IX A T I29) → (Chg B T [] I7 L8 I29 L30) → (0 ≤ x31.toInt) → (x31.toInt ≤ 41) → V 55 [(0, .ref r0), (1, .ref r1), (2, .ref r2), (3, .int x3), (4, .int x9), (5, .int x25), (6, .int x31)] [] (T, N, I29, L30, R) 0 0 := by
        intro nn28
        induction nn28 using Nat.strongRecOn with
        | _ nn28 ihJ27 =>
          intro I29 L30 x31 hmnn28 hI35 S34 b32 b33
          have gx31 := rg x31
          have e36 := Chg.k S34 T_r1 (by decide) (by decide) ex16
          have e37 := Chg.k S34 T_r2 (by decide) (by decide) ex17
          refine k_iload C rfl rfl rfl ?_
          refine k_aload_n C rfl rfl rfl ?_
          refine g_I C rfl rfl rfl T_r2 rfl e37 ?_
          refine b_icmp_gt C (t := 97) rfl rfl rfl (fun c38 => ?_) (fun c38 => ?_)
          · skip
            refine k_aload_n C rfl rfl rfl ?_
            refine c_VV C (s_X2_dropY hS hI35 H_r1) rfl rfl rfl rfl rfl ⟨_, rfl, rfl, T_r1, Nat.le_of_ble_eq_true rfl⟩ rfl rfl (Nat.le_of_ble_eq_true rfl) (Nat.le_of_ble_eq_true rfl) (Nat.le_of_ble_eq_true rfl) ?_
            rintro I40 L41 ⟨hI40, S42⟩
            refine z_iinc C (z := 1) (lw := fun x43 => [(4, .int x43), (0, .ref r0), (1, .ref r1), (2, .ref r2), (3, .int x3), (5, .int x25), (6, .int x31)]) rfl rfl rfl (Nat.le_of_ble_eq_true rfl) rfl ⟨by omega, by omega⟩ (fun _ => rfl) (fun x43 ex43 => ?_)
            show V 104 [(4, .int x43), (0, .ref r0), (1, .ref r1), (2, .ref r2), (3, .int x3), (5, .int x25), (6, .int x31)] _ _ _ _
            refine k_goto C (pc2 := 13) rfl rfl ?_
            refine k_sub S [(0, .ref r0), (1, .ref r1), (2, .ref r2), (3, .int x3), (4, .int x43)] (List.forall_mem_cons.mpr ⟨List.mem_of_getElem? (i := 1) rfl, List.forall_mem_cons.mpr ⟨List.mem_of_getElem? (i := 2) rfl, List.forall_mem_cons.mpr ⟨List.mem_of_getElem? (i := 3) rfl, List.forall_mem_cons.mpr ⟨List.mem_of_getElem? (i := 4) rfl, List.forall_mem_cons.mpr ⟨List.mem_of_getElem? (i := 0) rfl, fun _ h => nomatch h⟩⟩⟩⟩⟩) ?_
            exact ihJ5 _ (MN.lt hmnn6 (by omega) (by omega)) I40 L41 x43 rfl hI40 (Chg.cons S12 (Chg.cons S34 (Chg.mono S42 (by decide)) (by decide)) (by decide)) (by omega) (by omega)
          refine k_aload_n C rfl rfl rfl ?_
          refine k_iload C rfl rfl rfl ?_
          refine k_aload_n C rfl rfl rfl ?_
          refine k_aload_n C rfl rfl rfl ?_
          refine k_iload C rfl rfl rfl ?_
          refine c_VI C (s_X2_get hS hI35 (hs_GF hS H_r1)) rfl rfl rfl rfl rfl ⟨_, rfl, rfl, T_r1, Nat.le_of_ble_eq_true rfl⟩ rfl rfl (Nat.le_of_ble_eq_true rfl) (Nat.le_of_ble_eq_true rfl) (Nat.le_of_ble_eq_true rfl) ?_
          rintro x44 _ _ ⟨rfl, rfl⟩
          have gx44 := rg x44
          refine k_iload C rfl rfl rfl ?_
          refine k_aload_n C rfl rfl rfl ?_
          refine k_iload C rfl rfl rfl ?_
          refine c_VI C (s_X2_get hS hI35 H_r2) rfl rfl rfl rfl rfl ⟨_, rfl, rfl, T_r2, Nat.le_of_ble_eq_true rfl⟩ rfl rfl (Nat.le_of_ble_eq_true rfl) (Nat.le_of_ble_eq_true rfl) (Nat.le_of_ble_eq_true rfl) ?_
          rintro x45 _ _ ⟨rfl, rfl⟩
          have gx45 := rg x45
          refine zt_imul C rfl rfl (fun x46 => ?_)
          have gx46 := rg x46
          refine zt_isub C rfl rfl (fun x47 => ?_)
          have gx47 := rg x47
          refine z_i2l C rfl rfl (fun lg48 elg48 => ?_)
          refine c_VI C (s_X0_of hS hI35 H_r0) rfl rfl rfl rfl rfl ⟨_, rfl, rfl, T_r0, Nat.le_of_ble_eq_true rfl⟩ rfl rfl (Nat.le_of_ble_eq_true rfl) (Nat.le_of_ble_eq_true rfl) (Nat.le_of_ble_eq_true rfl) ?_
          rintro x49 _ _ ⟨rfl, rfl⟩
          have gx49 := rg x49
          refine c_VV C (s_X2_set hS hI35 H_r1) rfl rfl rfl rfl rfl ⟨_, rfl, rfl, T_r1, Nat.le_of_ble_eq_true rfl⟩ rfl rfl (Nat.le_of_ble_eq_true rfl) (Nat.le_of_ble_eq_true rfl) (Nat.le_of_ble_eq_true rfl) ?_
          rintro I51 L52 ⟨hI51, S53⟩
          have e54 := Chg.k S53 T_r1 (by decide) (by decide) e36
          have e55 := Chg.k S53 T_r2 (by decide) (by decide) e37
          refine z_iinc C (z := 1) (lw := fun x56 => [(6, .int x56), (0, .ref r0), (1, .ref r1), (2, .ref r2), (3, .int x3), (4, .int x9), (5, .int x25)]) rfl rfl rfl (Nat.le_of_ble_eq_true rfl) rfl ⟨by omega, by omega⟩ (fun _ => rfl) (fun x56 ex56 => ?_)
          show V 94 [(6, .int x56), (0, .ref r0), (1, .ref r1), (2, .ref r2), (3, .int x3), (4, .int x9), (5, .int x25)] _ _ _ _
          refine k_goto C (pc2 := 55) rfl rfl ?_
          refine k_sub S [(0, .ref r0), (1, .ref r1), (2, .ref r2), (3, .int x3), (4, .int x9), (5, .int x25), (6, .int x56)] (List.forall_mem_cons.mpr ⟨List.mem_of_getElem? (i := 1) rfl, List.forall_mem_cons.mpr ⟨List.mem_of_getElem? (i := 2) rfl, List.forall_mem_cons.mpr ⟨List.mem_of_getElem? (i := 3) rfl, List.forall_mem_cons.mpr ⟨List.mem_of_getElem? (i := 4) rfl, List.forall_mem_cons.mpr ⟨List.mem_of_getElem? (i := 5) rfl, List.forall_mem_cons.mpr ⟨List.mem_of_getElem? (i := 6) rfl, List.forall_mem_cons.mpr ⟨List.mem_of_getElem? (i := 0) rfl, fun _ h => nomatch h⟩⟩⟩⟩⟩⟩⟩) ?_
          exact ihJ27 _ (MN.lt hmnn28 (by omega) (by omega)) I51 L52 x56 rfl hI51 (Chg.cons S34 (Chg.mono S53 (by decide)) (by decide)) (by omega) (by omega)
      refine k_istore C (lw := [(6, .int x26), (5, .int x25), (0, .ref r0), (1, .ref r1), (2, .ref r2), (3, .int x3), (4, .int x9)]) rfl rfl (Nat.le_of_ble_eq_true rfl) rfl ?_
      refine k_sub S [(0, .ref r0), (1, .ref r1), (2, .ref r2), (3, .int x3), (4, .int x9), (5, .int x25), (6, .int x26)] (List.forall_mem_cons.mpr ⟨List.mem_of_getElem? (i := 2) rfl, List.forall_mem_cons.mpr ⟨List.mem_of_getElem? (i := 3) rfl, List.forall_mem_cons.mpr ⟨List.mem_of_getElem? (i := 4) rfl, List.forall_mem_cons.mpr ⟨List.mem_of_getElem? (i := 5) rfl, List.forall_mem_cons.mpr ⟨List.mem_of_getElem? (i := 6) rfl, List.forall_mem_cons.mpr ⟨List.mem_of_getElem? (i := 1) rfl, List.forall_mem_cons.mpr ⟨List.mem_of_getElem? (i := 0) rfl, fun _ h => nomatch h⟩⟩⟩⟩⟩⟩⟩) ?_
      exact J27 _ I7 L8 x26 rfl hI13 Chg.rf (by omega) (by omega)
  refine k_istore C (lw := [(4, .int x4), (3, .int x3), (0, .ref r0), (1, .ref r1), (2, .ref r2)]) rfl rfl (Nat.le_of_ble_eq_true rfl) rfl ?_
  refine k_sub S [(0, .ref r0), (1, .ref r1), (2, .ref r2), (3, .int x3), (4, .int x4)] (List.forall_mem_cons.mpr ⟨List.mem_of_getElem? (i := 2) rfl, List.forall_mem_cons.mpr ⟨List.mem_of_getElem? (i := 3) rfl, List.forall_mem_cons.mpr ⟨List.mem_of_getElem? (i := 4) rfl, List.forall_mem_cons.mpr ⟨List.mem_of_getElem? (i := 1) rfl, List.forall_mem_cons.mpr ⟨List.mem_of_getElem? (i := 0) rfl, fun _ h => nomatch h⟩⟩⟩⟩⟩) ?_
  exact J5 _ I L x4 rfl hI Chg.rf (by omega) (by omega)

theorem s_J9_min_7cf53 {d : Nat} {T N : Nat → Nat} {I : IT} {L : LT} {R : RT} {A B : Nat → Prop} {n0 n1 : Int32} (hS : SUB B A) (hI : IX A T I)  : Ex (d + 1) 315 [.int n0, .int n1] (T, N, I, L, R) 0 0 (pI T N R (fun x9 I9 L9 => (x9.toInt ≤ n0.toInt) ∧ (x9.toInt ≤ n1.toInt) ∧ (x9.toInt = n0.toInt ∨ x9.toInt = n1.toInt) ∧ (I = I9 ∧ L = L9))) := by
  refine ⟨_, rfl, Nat.le_of_ble_eq_true rfl, fun V C S => ?_⟩
  show V 0 [(0, .int n0), (1, .int n1)] [] (T, N, I, L, R) 0 0
  have gn0 := rg n0
  have gn1 := rg n1
  refine k_iload_n C rfl rfl rfl ?_
  refine k_iload_n C rfl rfl rfl ?_
  refine b_icmp_gt C (t := 9) rfl rfl rfl (fun c1 => ?_) (fun c1 => ?_)
  · skip
    refine k_iload_n C rfl rfl rfl ?_
    exact k_iret C rfl (Or.inl rfl) (Nat.le_of_ble_eq_true rfl) (Nat.le_of_ble_eq_true rfl) ⟨_, _, _, rfl, rfl, by omega, by omega, by omega, rfl, rfl⟩
  refine k_iload_n C rfl rfl rfl ?_
  refine k_goto C (pc2 := 10) rfl rfl ?_
  exact k_iret C rfl (Or.inl rfl) (Nat.le_of_ble_eq_true rfl) (Nat.le_of_ble_eq_true rfl) ⟨_, _, _, rfl, rfl, by omega, by omega, by omega, rfl, rfl⟩

theorem s_X0_shareInto {d : Nat} {T N : Nat → Nat} {I : IT} {L : LT} {R : RT} {A B : Nat → Prop} {r0 r1 r2 r3 : Nat} (hS : SUB B A) (hI : IX A T I) (H_r0 : (hs_Al T N R A B) r0) (H_r1 : (hs_F T N R A B) r1) (H_r2 : (hs_F T N R A B) r2) (H_r3 : (hs_G T N R A B) r3) : Ex (d + 5) 32 [.ref r0, .ref r1, .ref r2, .ref r3] (T, N, I, L, R) 0 0 (pV T N R (fun I9 L9 => (IX A T I9 ∧ Chg B T [(3, 0)] I L I9 L9))) := by
  refine ⟨_, rfl, Nat.le_of_ble_eq_true rfl, fun V C S => ?_⟩
  show V 0 [(0, .ref r0), (1, .ref r1), (2, .ref r2), (3, .ref r3)] [] (T, N, I, L, R) 0 0
  refine k_aload_n C rfl rfl rfl ?_
  obtain ⟨T_r1, A_r1, ⟨r1_1, R_r1_1, H_r1_1⟩⟩ := id H_r1
  refine c_VI C (s_X2_first hS hI H_r1) rfl rfl rfl rfl rfl ⟨_, rfl, rfl, T_r1, Nat.le_of_ble_eq_true rfl⟩ rfl rfl (Nat.le_of_ble_eq_true rfl) (Nat.le_of_ble_eq_true rfl) (Nat.le_of_ble_eq_true rfl) ?_
  rintro x1 _ _ ⟨o0x1, o1x1, p0x1, rfl, rfl⟩
  have gx1 := rg x1
  refine k_aload_n C rfl rfl rfl ?_
  obtain ⟨T_r2, A_r2, ⟨r2_1, R_r2_1, H_r2_1⟩⟩ := id H_r2
  refine c_VI C (s_X2_first hS hI H_r2) rfl rfl rfl rfl rfl ⟨_, rfl, rfl, T_r2, Nat.le_of_ble_eq_true rfl⟩ rfl rfl (Nat.le_of_ble_eq_true rfl) (Nat.le_of_ble_eq_true rfl) (Nat.le_of_ble_eq_true rfl) ?_
  rintro x2 _ _ ⟨o0x2, o1x2, p0x2, rfl, rfl⟩
  have gx2 := rg x2
  refine c_SI C (s_J9_min_7cf53 hS hI ) rfl rfl rfl rfl rfl rfl rfl (Nat.le_of_ble_eq_true rfl) (Nat.le_of_ble_eq_true rfl) (Nat.le_of_ble_eq_true rfl) ?_
  rintro x3 _ _ ⟨p0x3, p1x3, p2x3, rfl, rfl⟩
  have gx3 := rg x3
  refine k_istore C (lw := [(4, .int x3), (0, .ref r0), (1, .ref r1), (2, .ref r2), (3, .ref r3)]) rfl rfl (Nat.le_of_ble_eq_true rfl) rfl ?_
  refine k_aload_n C rfl rfl rfl ?_
  obtain ⟨T_r0, A_r0, B_r0, ⟨r0_0, R_r0_0, H_r0_0⟩, ⟨r0_1, R_r0_1, H_r0_1⟩, ⟨r0_2, R_r0_2, H_r0_2⟩⟩ := id H_r0
  refine g_R C rfl rfl rfl T_r0 rfl R_r0_1 ?_
  refine k_aload_n C rfl rfl rfl ?_
  obtain ⟨T_r0_1, A_r0_1, B_r0_1, ⟨r0_1_1, R_r0_1_1, H_r0_1_1⟩⟩ := id H_r0_1
  refine c_VV C (s_X2_copyFrom hS hI H_r0_1 H_r1) rfl rfl rfl rfl rfl ⟨_, rfl, rfl, T_r0_1, Nat.le_of_ble_eq_true rfl⟩ rfl rfl (Nat.le_of_ble_eq_true rfl) (Nat.le_of_ble_eq_true rfl) (Nat.le_of_ble_eq_true rfl) ?_
  rintro I5 L6 ⟨p0v4, p1v4, hI5, S7⟩
  obtain ⟨x8, e9⟩ : ∃ x, I5 r0_1 0 = x := ⟨_, rfl⟩
  have gx8 := rg x8
  have ox8 := IX.deg hI5 A_r0_1 T_r0_1 e9
  obtain ⟨x10, e11⟩ : ∃ x, I5 r1 0 = x := ⟨_, rfl⟩
  have gx10 := rg x10
  have ox10 := IX.deg hI5 A_r1 T_r1 e11
  try simp only [e9, e11] at p0v4
  try have q0v4 := congrArg Int32.toInt p0v4
  try simp only [e9, e11] at p1v4
  try have q1v4 := congrArg Int32.toInt p1v4
  refine k_aload_n C rfl rfl rfl ?_
  refine g_R C rfl rfl rfl T_r0 rfl R_r0_1 ?_
  refine c_VV C (s_X2_dropY hS hI5 H_r0_1) rfl rfl rfl rfl rfl ⟨_, rfl, rfl, T_r0_1, Nat.le_of_ble_eq_true rfl⟩ rfl rfl (Nat.le_of_ble_eq_true rfl) (Nat.le_of_ble_eq_true rfl) (Nat.le_of_ble_eq_true rfl) ?_
  rintro I13 L14 ⟨hI13, S15⟩
  refine k_aload_n C rfl rfl rfl ?_
  refine g_R C rfl rfl rfl T_r0 rfl R_r0_2 ?_
  refine k_aload_n C rfl rfl rfl ?_
  obtain ⟨T_r0_2, A_r0_2, B_r0_2, ⟨r0_2_1, R_r0_2_1, H_r0_2_1⟩⟩ := id H_r0_2
  refine c_VV C (s_X2_copyFrom hS hI13 H_r0_2 H_r2) rfl rfl rfl rfl rfl ⟨_, rfl, rfl, T_r0_2, Nat.le_of_ble_eq_true rfl⟩ rfl rfl (Nat.le_of_ble_eq_true rfl) (Nat.le_of_ble_eq_true rfl) (Nat.le_of_ble_eq_true rfl) ?_
  rintro I17 L18 ⟨p0v16, p1v16, hI17, S19⟩
  obtain ⟨x20, e21⟩ : ∃ x, I17 r0_2 0 = x := ⟨_, rfl⟩
  have gx20 := rg x20
  have ox20 := IX.deg hI17 A_r0_2 T_r0_2 e21
  obtain ⟨x22, e23⟩ : ∃ x, I17 r2 0 = x := ⟨_, rfl⟩
  have gx22 := rg x22
  have ox22 := IX.deg hI17 A_r2 T_r2 e23
  try simp only [e21, e23] at p0v16
  try have q0v16 := congrArg Int32.toInt p0v16
  try simp only [e21, e23] at p1v16
  try have q1v16 := congrArg Int32.toInt p1v16
  refine k_aload_n C rfl rfl rfl ?_
  refine g_R C rfl rfl rfl T_r0 rfl R_r0_2 ?_
  refine c_VV C (s_X2_dropY hS hI17 H_r0_2) rfl rfl rfl rfl rfl ⟨_, rfl, rfl, T_r0_2, Nat.le_of_ble_eq_true rfl⟩ rfl rfl (Nat.le_of_ble_eq_true rfl) (Nat.le_of_ble_eq_true rfl) (Nat.le_of_ble_eq_true rfl) ?_
  rintro I25 L26 ⟨hI25, S27⟩
  refine k_aload_n C rfl rfl rfl ?_
  refine g_R C rfl rfl rfl T_r0 rfl R_r0_1 ?_
  refine k_astore C (lw := [(5, .ref r0_1), (4, .int x3), (0, .ref r0), (1, .ref r1), (2, .ref r2), (3, .ref r3)]) rfl rfl (Nat.le_of_ble_eq_true rfl) rfl ?_
  refine k_aload_n C rfl rfl rfl ?_
  refine g_R C rfl rfl rfl T_r0 rfl R_r0_2 ?_
  refine k_astore C (lw := [(6, .ref r0_2), (5, .ref r0_1), (4, .int x3), (0, .ref r0), (1, .ref r1), (2, .ref r2), (3, .ref r3)]) rfl rfl (Nat.le_of_ble_eq_true rfl) rfl ?_
  refine z_iconst C (z := 0) rfl rfl rfl (fun x28 ex28 => ?_)
  have J29 : ∀ (nn30 : Nat) (I31 : IT) (L32 : LT) (rr33 : Nat) (rr34 : Nat) (x35 : Int32), (MN (81 - x35.toInt) nn30) → (IX A T I31) → (Chg B T [(3, 0)] I25 L26 I31 L32) → ((hs_G T N R A B) rr33) → ((hs_G T N R A B) rr34) → (0 ≤ x35.toInt) → (x35.toInt ≤ 81) → V 58 [(0, .ref r0), (3, .ref r3), (4, .int x3), (5, .ref rr33), (6, .ref rr34), (7, .int x35)] [] (T, N, I31, L32, R) 0 0 := by
    intro nn30
    induction nn30 using Nat.strongRecOn with
    | _ nn30 ihJ29 =>
      intro I31 L32 rr33 rr34 x35 hmnn30 hI39 S38 H_rr33 H_rr34 b36 b37
      have gx35 := rg x35
      refine k_iload C rfl rfl rfl ?_
      refine z_bipush C (z := 80) rfl rfl rfl (fun x40 ex40 => ?_)
      have J41 : V 99 [(0, .ref r0), (3, .ref r3), (4, .int x3), (5, .ref rr33)] [] (T, N, I31, L32, R) 0 0 := by
        refine k_aload_n C rfl rfl rfl ?_
        refine k_aload C rfl rfl rfl ?_
        refine z_iconst C (z := 0) rfl rfl rfl (fun x43 ex43 => ?_)
        obtain ⟨T_rr33, A_rr33, B_rr33, ⟨rr33_1, R_rr33_1, H_rr33_1⟩⟩ := id H_rr33
        refine c_VI C (s_X2_get hS hI39 (hs_GF hS H_rr33)) rfl rfl rfl rfl rfl ⟨_, rfl, rfl, T_rr33, Nat.le_of_ble_eq_true rfl⟩ rfl rfl (Nat.le_of_ble_eq_true rfl) (Nat.le_of_ble_eq_true rfl) (Nat.le_of_ble_eq_true rfl) ?_
        rintro x44 _ _ ⟨rfl, rfl⟩
        have gx44 := rg x44
        refine c_VI C (s_X0_inverse hS hI39 H_r0) rfl rfl rfl rfl rfl ⟨_, rfl, rfl, T_r0, Nat.le_of_ble_eq_true rfl⟩ rfl rfl (Nat.le_of_ble_eq_true rfl) (Nat.le_of_ble_eq_true rfl) (Nat.le_of_ble_eq_true rfl) ?_
        rintro x45 _ _ ⟨rfl, rfl⟩
        have gx45 := rg x45
        refine k_istore C (lw := [(7, .int x45), (0, .ref r0), (3, .ref r3), (4, .int x3), (5, .ref rr33)]) rfl rfl (Nat.le_of_ble_eq_true rfl) rfl ?_
        refine k_aload_n C rfl rfl rfl ?_
        refine k_iload C rfl rfl rfl ?_
        refine k_aload C rfl rfl rfl ?_
        refine z_gI C rfl rfl rfl T_rr33 rfl (fun x46 ex46 => ?_)
        have gx46 := rg x46
        have ox46 := IX.deg hI39 A_rr33 T_rr33 ex46
        refine z_iadd C rfl rfl ⟨by omega, by omega⟩ (fun x47 ex47 => ?_)
        obtain ⟨T_r3, A_r3, B_r3, ⟨r3_1, R_r3_1, H_r3_1⟩⟩ := id H_r3
        refine c_VV C (s_X2_begin hS hI39 H_r3) rfl rfl rfl rfl rfl ⟨_, rfl, rfl, T_r3, Nat.le_of_ble_eq_true rfl⟩ rfl rfl (Nat.le_of_ble_eq_true rfl) (Nat.le_of_ble_eq_true rfl) (Nat.le_of_ble_eq_true rfl) ?_
        rintro I49 L50 ⟨hI49, S51⟩
        refine z_iconst C (z := 0) rfl rfl rfl (fun x52 ex52 => ?_)
        have J53 : ∀ (nn54 : Nat) (I55 : IT) (L56 : LT) (x57 : Int32), (MN (41 - x57.toInt) nn54) → (IX A T I55) → (Chg B T [] I49 L50 I55 L56) → (0 ≤ x57.toInt) → (x57.toInt ≤ 41) → V 126 [(0, .ref r0), (3, .ref r3), (4, .int x3), (5, .ref rr33), (7, .int x45), (8, .int x57)] [] (T, N, I55, L56, R) 0 0 := by
          intro nn54
          induction nn54 using Nat.strongRecOn with
          | _ nn54 ihJ53 =>
            intro I55 L56 x57 hmnn54 hI61 S60 b58 b59
            have gx57 := rg x57
            refine k_iload C rfl rfl rfl ?_
            refine k_aload C rfl rfl rfl ?_
            refine z_gI C rfl rfl rfl T_rr33 rfl (fun x62 ex62 => ?_)
            have gx62 := rg x62
            have ox62 := IX.deg hI61 A_rr33 T_rr33 ex62
            refine b_icmp_gt C (t := 166) rfl rfl rfl (fun c63 => ?_) (fun c63 => ?_)
            · skip
              exact k_vret C rfl rfl (Nat.le_of_ble_eq_true rfl) (Nat.le_of_ble_eq_true rfl) ⟨_, _, rfl, rfl, hI61, (Chg.cons S7 (Chg.cons S15 (Chg.cons S19 (Chg.cons S27 (Chg.cons S38 (Chg.cons S51 (Chg.mono S60 (by decide)) (by decide)) (by decide)) (by decide)) (by decide)) (by decide)) (by decide))⟩
            refine k_aload_n C rfl rfl rfl ?_
            refine k_iload C rfl rfl rfl ?_
            refine k_iload C rfl rfl rfl ?_
            refine z_iadd C rfl rfl ⟨by omega, by omega⟩ (fun x64 ex64 => ?_)
            refine k_aload_n C rfl rfl rfl ?_
            refine k_aload C rfl rfl rfl ?_
            refine k_iload C rfl rfl rfl ?_
            refine c_VI C (s_X2_get hS hI61 (hs_GF hS H_rr33)) rfl rfl rfl rfl rfl ⟨_, rfl, rfl, T_rr33, Nat.le_of_ble_eq_true rfl⟩ rfl rfl (Nat.le_of_ble_eq_true rfl) (Nat.le_of_ble_eq_true rfl) (Nat.le_of_ble_eq_true rfl) ?_
            rintro x65 _ _ ⟨rfl, rfl⟩
            have gx65 := rg x65
            refine k_iload C rfl rfl rfl ?_
            refine zt_imul C rfl rfl (fun x66 => ?_)
            have gx66 := rg x66
            refine z_i2l C rfl rfl (fun lg67 elg67 => ?_)
            refine c_VI C (s_X0_of hS hI61 H_r0) rfl rfl rfl rfl rfl ⟨_, rfl, rfl, T_r0, Nat.le_of_ble_eq_true rfl⟩ rfl rfl (Nat.le_of_ble_eq_true rfl) (Nat.le_of_ble_eq_true rfl) (Nat.le_of_ble_eq_true rfl) ?_
            rintro x68 _ _ ⟨rfl, rfl⟩
            have gx68 := rg x68
            refine c_VV C (s_X2_set hS hI61 H_r3) rfl rfl rfl rfl rfl ⟨_, rfl, rfl, T_r3, Nat.le_of_ble_eq_true rfl⟩ rfl rfl (Nat.le_of_ble_eq_true rfl) (Nat.le_of_ble_eq_true rfl) (Nat.le_of_ble_eq_true rfl) ?_
            rintro I70 L71 ⟨hI70, S72⟩
            have e73 := Chg.k S72 T_rr33 (by decide) (by decide) ex62
            refine z_iinc C (z := 1) (lw := fun x74 => [(8, .int x74), (0, .ref r0), (3, .ref r3), (4, .int x3), (5, .ref rr33), (7, .int x45)]) rfl rfl rfl (Nat.le_of_ble_eq_true rfl) rfl ⟨by omega, by omega⟩ (fun _ => rfl) (fun x74 ex74 => ?_)
            show V 163 [(8, .int x74), (0, .ref r0), (3, .ref r3), (4, .int x3), (5, .ref rr33), (7, .int x45)] _ _ _ _
            refine k_goto C (pc2 := 126) rfl rfl ?_
            refine k_sub S [(0, .ref r0), (3, .ref r3), (4, .int x3), (5, .ref rr33), (7, .int x45), (8, .int x74)] (List.forall_mem_cons.mpr ⟨List.mem_of_getElem? (i := 1) rfl, List.forall_mem_cons.mpr ⟨List.mem_of_getElem? (i := 2) rfl, List.forall_mem_cons.mpr ⟨List.mem_of_getElem? (i := 3) rfl, List.forall_mem_cons.mpr ⟨List.mem_of_getElem? (i := 4) rfl, List.forall_mem_cons.mpr ⟨List.mem_of_getElem? (i := 5) rfl, List.forall_mem_cons.mpr ⟨List.mem_of_getElem? (i := 0) rfl, fun _ h => nomatch h⟩⟩⟩⟩⟩⟩) ?_
            exact ihJ53 _ (MN.lt hmnn54 (by omega) (by omega)) I70 L71 x74 rfl hI70 (Chg.cons S60 (Chg.mono S72 (by decide)) (by decide)) (by omega) (by omega)
        refine k_istore C (lw := [(8, .int x52), (7, .int x45), (0, .ref r0), (3, .ref r3), (4, .int x3), (5, .ref rr33)]) rfl rfl (Nat.le_of_ble_eq_true rfl) rfl ?_
        refine k_sub S [(0, .ref r0), (3, .ref r3), (4, .int x3), (5, .ref rr33), (7, .int x45), (8, .int x52)] (List.forall_mem_cons.mpr ⟨List.mem_of_getElem? (i := 2) rfl, List.forall_mem_cons.mpr ⟨List.mem_of_getElem? (i := 3) rfl, List.forall_mem_cons.mpr ⟨List.mem_of_getElem? (i := 4) rfl, List.forall_mem_cons.mpr ⟨List.mem_of_getElem? (i := 5) rfl, List.forall_mem_cons.mpr ⟨List.mem_of_getElem? (i := 1) rfl, List.forall_mem_cons.mpr ⟨List.mem_of_getElem? (i := 0) rfl, fun _ h => nomatch h⟩⟩⟩⟩⟩⟩) ?_
        exact J53 _ I49 L50 x52 rfl hI49 Chg.rf (by omega) (by omega)
      refine b_icmp_gt C (t := 99) rfl rfl rfl (fun c75 => ?_) (fun c75 => ?_)
      · skip
        refine k_sub S [(0, .ref r0), (3, .ref r3), (4, .int x3), (5, .ref rr33)] (List.forall_mem_cons.mpr ⟨List.mem_of_getElem? (i := 0) rfl, List.forall_mem_cons.mpr ⟨List.mem_of_getElem? (i := 1) rfl, List.forall_mem_cons.mpr ⟨List.mem_of_getElem? (i := 2) rfl, List.forall_mem_cons.mpr ⟨List.mem_of_getElem? (i := 3) rfl, fun _ h => nomatch h⟩⟩⟩⟩) ?_
        exact J41 
      refine k_aload C rfl rfl rfl ?_
      obtain ⟨T_rr34, A_rr34, B_rr34, ⟨rr34_1, R_rr34_1, H_rr34_1⟩⟩ := id H_rr34
      refine c_VI C (s_X2_isNought hS hI39 (hs_GF hS H_rr34)) rfl rfl rfl rfl rfl ⟨_, rfl, rfl, T_rr34, Nat.le_of_ble_eq_true rfl⟩ rfl rfl (Nat.le_of_ble_eq_true rfl) (Nat.le_of_ble_eq_true rfl) (Nat.le_of_ble_eq_true rfl) ?_
      rintro x76 _ _ ⟨o0x76, o1x76, rfl, rfl⟩
      have gx76 := rg x76
      refine b_if_ne C (t := 99) rfl rfl rfl (fun c77 => ?_) (fun c77 => ?_)
      · skip
        refine k_sub S [(0, .ref r0), (3, .ref r3), (4, .int x3), (5, .ref rr33)] (List.forall_mem_cons.mpr ⟨List.mem_of_getElem? (i := 0) rfl, List.forall_mem_cons.mpr ⟨List.mem_of_getElem? (i := 1) rfl, List.forall_mem_cons.mpr ⟨List.mem_of_getElem? (i := 2) rfl, List.forall_mem_cons.mpr ⟨List.mem_of_getElem? (i := 3) rfl, fun _ h => nomatch h⟩⟩⟩⟩) ?_
        exact J41 
      refine k_aload_n C rfl rfl rfl ?_
      refine k_aload C rfl rfl rfl ?_
      refine k_aload C rfl rfl rfl ?_
      refine c_VV C (s_X0_takeRest hS hI39 H_r0 H_rr33 (hs_GF hS H_rr34)) rfl rfl rfl rfl rfl ⟨_, rfl, rfl, T_r0, Nat.le_of_ble_eq_true rfl⟩ rfl rfl (Nat.le_of_ble_eq_true rfl) (Nat.le_of_ble_eq_true rfl) (Nat.le_of_ble_eq_true rfl) ?_
      rintro I79 L80 ⟨hI79, S81⟩
      refine k_aload C rfl rfl rfl ?_
      refine k_astore C (lw := [(8, .ref rr33), (0, .ref r0), (3, .ref r3), (4, .int x3), (5, .ref rr33), (6, .ref rr34), (7, .int x35)]) rfl rfl (Nat.le_of_ble_eq_true rfl) rfl ?_
      refine k_aload C rfl rfl rfl ?_
      refine k_astore C (lw := [(5, .ref rr34), (8, .ref rr33), (0, .ref r0), (3, .ref r3), (4, .int x3), (6, .ref rr34), (7, .int x35)]) rfl rfl (Nat.le_of_ble_eq_true rfl) rfl ?_
      refine k_aload C rfl rfl rfl ?_
      refine k_astore C (lw := [(6, .ref rr33), (5, .ref rr34), (8, .ref rr33), (0, .ref r0), (3, .ref r3), (4, .int x3), (7, .int x35)]) rfl rfl (Nat.le_of_ble_eq_true rfl) rfl ?_
      refine z_iinc C (z := 1) (lw := fun x82 => [(7, .int x82), (6, .ref rr33), (5, .ref rr34), (8, .ref rr33), (0, .ref r0), (3, .ref r3), (4, .int x3)]) rfl rfl rfl (Nat.le_of_ble_eq_true rfl) rfl ⟨by omega, by omega⟩ (fun _ => rfl) (fun x82 ex82 => ?_)
      show V 96 [(7, .int x82), (6, .ref rr33), (5, .ref rr34), (8, .ref rr33), (0, .ref r0), (3, .ref r3), (4, .int x3)] _ _ _ _
      refine k_goto C (pc2 := 58) rfl rfl ?_
      refine k_sub S [(0, .ref r0), (3, .ref r3), (4, .int x3), (5, .ref rr34), (6, .ref rr33), (7, .int x82)] (List.forall_mem_cons.mpr ⟨List.mem_of_getElem? (i := 4) rfl, List.forall_mem_cons.mpr ⟨List.mem_of_getElem? (i := 5) rfl, List.forall_mem_cons.mpr ⟨List.mem_of_getElem? (i := 6) rfl, List.forall_mem_cons.mpr ⟨List.mem_of_getElem? (i := 2) rfl, List.forall_mem_cons.mpr ⟨List.mem_of_getElem? (i := 1) rfl, List.forall_mem_cons.mpr ⟨List.mem_of_getElem? (i := 0) rfl, fun _ h => nomatch h⟩⟩⟩⟩⟩⟩) ?_
      exact ihJ29 _ (MN.lt hmnn30 (by omega) (by omega)) I79 L80 rr34 rr33 x82 rfl hI79 (Chg.cons S38 (Chg.mono S81 (by decide)) (by decide)) H_rr34 H_rr33 (by omega) (by omega)
  refine k_istore C (lw := [(7, .int x28), (6, .ref r0_2), (5, .ref r0_1), (4, .int x3), (0, .ref r0), (1, .ref r1), (2, .ref r2), (3, .ref r3)]) rfl rfl (Nat.le_of_ble_eq_true rfl) rfl ?_
  refine k_sub S [(0, .ref r0), (3, .ref r3), (4, .int x3), (5, .ref r0_1), (6, .ref r0_2), (7, .int x28)] (List.forall_mem_cons.mpr ⟨List.mem_of_getElem? (i := 4) rfl, List.forall_mem_cons.mpr ⟨List.mem_of_getElem? (i := 7) rfl, List.forall_mem_cons.mpr ⟨List.mem_of_getElem? (i := 3) rfl, List.forall_mem_cons.mpr ⟨List.mem_of_getElem? (i := 2) rfl, List.forall_mem_cons.mpr ⟨List.mem_of_getElem? (i := 1) rfl, List.forall_mem_cons.mpr ⟨List.mem_of_getElem? (i := 0) rfl, fun _ h => nomatch h⟩⟩⟩⟩⟩⟩) ?_
  exact J29 _ I25 L26 r0_1 r0_2 x28 rfl hI25 Chg.rf H_r0_1 H_r0_2 (by omega) (by omega)

theorem s_X7_kindAt {d : Nat} {T N : Nat → Nat} {I : IT} {L : LT} {R : RT} {A B : Nat → Prop} {r0 : Nat} {n1 : Int32} (hS : SUB B A) (hI : IX A T I) (H_r0 : (hs_Sg T N R A B) r0) : Ex (d + 1) 35 [.ref r0, .int n1] (T, N, I, L, R) 0 0 (pI T N R (fun x9 I9 L9 => (I = I9 ∧ L = L9))) := by
  refine ⟨_, rfl, Nat.le_of_ble_eq_true rfl, fun V C S => ?_⟩
  show V 0 [(0, .ref r0), (1, .int n1)] [] (T, N, I, L, R) 0 0
  have gn1 := rg n1
  refine k_iload_n C rfl rfl rfl ?_
  refine b_if_lt C (t := 13) rfl rfl rfl (fun c1 => ?_) (fun c1 => ?_)
  · skip
    refine z_iconst C (z := 0) rfl rfl rfl (fun x2 ex2 => ?_)
    refine k_goto C (pc2 := 23) rfl rfl ?_
    exact k_iret C rfl (Or.inl rfl) (Nat.le_of_ble_eq_true rfl) (Nat.le_of_ble_eq_true rfl) ⟨_, _, _, rfl, rfl, rfl, rfl⟩
  refine k_iload_n C rfl rfl rfl ?_
  refine k_aload_n C rfl rfl rfl ?_
  obtain ⟨T_r0, A_r0, ⟨r0_0, R_r0_0, H_r0_0⟩, ⟨r0_1, R_r0_1, H_r0_1⟩⟩ := id H_r0
  refine g_R C rfl rfl rfl T_r0 rfl R_r0_0 ?_
  obtain ⟨T_r0_0, N_r0_0, A_r0_0⟩ := id H_r0_0
  refine z_len C (n := 160) rfl rfl (by rw [T_r0_0]; exact Nat.le_of_ble_eq_true rfl) N_r0_0 (Nat.le_of_ble_eq_true rfl) (fun x3 ex3 => ?_)
  refine b_icmp_lt C (t := 17) rfl rfl rfl (fun c4 => ?_) (fun c4 => ?_)
  · skip
    refine k_aload_n C rfl rfl rfl ?_
    refine g_R C rfl rfl rfl T_r0 rfl R_r0_0 ?_
    refine k_iload_n C rfl rfl rfl ?_
    refine z_aI C rfl rfl T_r0_0 N_r0_0 (by omega) (by omega) (fun x5 ex5 => ?_)
    have gx5 := rg x5
    exact k_iret C rfl (Or.inl rfl) (Nat.le_of_ble_eq_true rfl) (Nat.le_of_ble_eq_true rfl) ⟨_, _, _, rfl, rfl, rfl, rfl⟩
  refine z_iconst C (z := 0) rfl rfl rfl (fun x6 ex6 => ?_)
  refine k_goto C (pc2 := 23) rfl rfl ?_
  exact k_iret C rfl (Or.inl rfl) (Nat.le_of_ble_eq_true rfl) (Nat.le_of_ble_eq_true rfl) ⟨_, _, _, rfl, rfl, rfl, rfl⟩

theorem s_X2_pick_Row20 {d : Nat} {T N : Nat → Nat} {I : IT} {L : LT} {R : RT} {A B : Nat → Prop} {r0 : Nat} {n1 : Int32} (hS : SUB B A) (hI : IX A T I) (H_r0 : (hs_Row20 T N R A B) r0) : Ex (d + 1) 36 [.ref r0, .int n1] (T, N, I, L, R) 0 0 (pR T N R (fun x9 I9 L9 => (∀ b, x9 = some b → (hs_G T N R A B) b) ∧ (I = I9 ∧ L = L9))) := by
  refine ⟨_, rfl, Nat.le_of_ble_eq_true rfl, fun V C S => ?_⟩
  show V 0 [(0, .ref r0), (1, .int n1)] [] (T, N, I, L, R) 0 0
  have gn1 := rg n1
  refine k_iload_n C rfl rfl rfl ?_
  refine b_if_lt C (t := 10) rfl rfl rfl (fun c1 => ?_) (fun c1 => ?_)
  · skip
    refine k_null C rfl rfl ?_
    refine k_goto C (pc2 := 17) rfl rfl ?_
    exact k_aret C (x := none) rfl (Or.inl ⟨_, rfl⟩) (Nat.le_of_ble_eq_true rfl) (Nat.le_of_ble_eq_true rfl) ⟨_, _, _, rfl, rfl, fz, rfl, rfl⟩
  refine k_iload_n C rfl rfl rfl ?_
  refine k_aload_n C rfl rfl rfl ?_
  obtain ⟨T_r0, N_r0, A_r0, E_r0⟩ := id H_r0
  refine z_len C (n := 20) rfl rfl (by rw [T_r0]; exact Nat.le_of_ble_eq_true rfl) N_r0 (Nat.le_of_ble_eq_true rfl) (fun x2 ex2 => ?_)
  refine b_icmp_lt C (t := 14) rfl rfl rfl (fun c3 => ?_) (fun c3 => ?_)
  · skip
    refine k_aload_n C rfl rfl rfl ?_
    refine k_iload_n C rfl rfl rfl ?_
    refine z_aR C (t := 0) rfl rfl (Nat.le_of_ble_eq_true rfl) T_r0 N_r0 E_r0 (by omega) (by omega) (fun rr4 H_rr4 => ?_)
    exact k_aret C (x := some _) rfl (Or.inl ⟨_, rfl⟩) (Nat.le_of_ble_eq_true rfl) (Nat.le_of_ble_eq_true rfl) ⟨_, _, _, rfl, rfl, fb H_rr4, rfl, rfl⟩
  refine k_null C rfl rfl ?_
  refine k_goto C (pc2 := 17) rfl rfl ?_
  exact k_aret C (x := none) rfl (Or.inl ⟨_, rfl⟩) (Nat.le_of_ble_eq_true rfl) (Nat.le_of_ble_eq_true rfl) ⟨_, _, _, rfl, rfl, fz, rfl, rfl⟩

theorem s_X1_isLaid {d : Nat} {T N : Nat → Nat} {I : IT} {L : LT} {R : RT} {A B : Nat → Prop} {r0 r1 : Nat} (hS : SUB B A) (hI : IX A T I) (H_r0 : (hs_Cc T N R A B) r0) (H_r1 : (hs_F T N R A B) r1) : Ex (d + 3) 37 [.ref r0, .ref r1] (T, N, I, L, R) 0 0 (pI T N R (fun x9 I9 L9 => (0 ≤ x9.toInt) ∧ (x9.toInt ≤ 1) ∧ (IX A T I9 ∧ Chg B T [(2, 5), (3, 0)] I L I9 L9))) := by
  refine ⟨_, rfl, Nat.le_of_ble_eq_true rfl, fun V C S => ?_⟩
  show V 0 [(0, .ref r0), (1, .ref r1)] [] (T, N, I, L, R) 0 0
  refine k_aload_n C rfl rfl rfl ?_
  obtain ⟨T_r0, A_r0, B_r0, ⟨r0_0, R_r0_0, H_r0_0⟩, ⟨r0_1, R_r0_1, H_r0_1⟩, ⟨r0_2, R_r0_2, H_r0_2⟩, ⟨r0_3, R_r0_3, H_r0_3⟩, ⟨r0_4, R_r0_4, H_r0_4⟩⟩ := id H_r0
  refine g_R C rfl rfl rfl T_r0 rfl R_r0_1 ?_
  refine k_aload_n C rfl rfl rfl ?_
  refine z_gI C rfl rfl rfl T_r0 rfl (fun x1 ex1 => ?_)
  have gx1 := rg x1
  refine c_SR C (s_X2_pick_Row20 hS hI H_r0_1) rfl rfl rfl rfl rfl rfl rfl (Nat.le_of_ble_eq_true rfl) (Nat.le_of_ble_eq_true rfl) (Nat.le_of_ble_eq_true rfl) ?_
  rintro yy2 _ _ ⟨hyy2, rfl, rfl⟩
  refine k_astore_nV C (x := yy2) (lw := [(2, va_rf yy2), (0, .ref r0), (1, .ref r1)]) rfl rfl (Nat.le_of_ble_eq_true rfl) rfl ?_
  refine k_aload_nV C (x := yy2) rfl rfl rfl ?_
  refine k_ifnonnull C (x := yy2) (t := 18) rfl rfl rfl (fun c3 => ?_) (fun rr4 c3 => ?_)
  · skip
    subst c3
    refine z_iconst C (z := 0) rfl rfl rfl (fun x5 ex5 => ?_)
    exact k_iret C rfl (Or.inr ⟨rfl, z01 (by omega) (by omega)⟩) (Nat.le_of_ble_eq_true rfl) (Nat.le_of_ble_eq_true rfl) ⟨_, _, _, rfl, rfl, by omega, by omega, hI, Chg.rf⟩
  subst c3
  have H_rr4 := hyy2 rr4 rfl
  refine k_aload_n C rfl rfl rfl ?_
  refine k_aload_n C rfl rfl rfl ?_
  obtain ⟨T_rr4, A_rr4, B_rr4, ⟨rr4_1, R_rr4_1, H_rr4_1⟩⟩ := id H_rr4
  refine c_VV C (s_X2_copyFrom hS hI H_rr4 H_r1) rfl rfl rfl rfl rfl ⟨_, rfl, rfl, T_rr4, Nat.le_of_ble_eq_true rfl⟩ rfl rfl (Nat.le_of_ble_eq_true rfl) (Nat.le_of_ble_eq_true rfl) (Nat.le_of_ble_eq_true rfl) ?_
  rintro I7 L8 ⟨p0v6, p1v6, hI7, S9⟩
  have e10 := Chg.k S9 T_r0 (by decide) (by decide) ex1
  obtain ⟨x11, e12⟩ : ∃ x, I7 rr4 0 = x := ⟨_, rfl⟩
  have gx11 := rg x11
  have ox11 := IX.deg hI7 A_rr4 T_rr4 e12
  obtain ⟨T_r1, A_r1, ⟨r1_1, R_r1_1, H_r1_1⟩⟩ := id H_r1
  obtain ⟨x13, e14⟩ : ∃ x, I7 r1 0 = x := ⟨_, rfl⟩
  have gx13 := rg x13
  have ox13 := IX.deg hI7 A_r1 T_r1 e14
  try simp only [ex1, e12, e14] at p0v6
  try have q0v6 := congrArg Int32.toInt p0v6
  try simp only [ex1, e12, e14] at p1v6
  try have q1v6 := congrArg Int32.toInt p1v6
  refine k_aload_n C rfl rfl rfl ?_
  refine k_dup C rfl rfl rfl ?_
  refine g_I C rfl rfl rfl T_r0 rfl e10 ?_
  refine z_iconst C (z := 1) rfl rfl rfl (fun x15 ex15 => ?_)
  refine zt_iadd C rfl rfl (fun x16 => ?_)
  have gx16 := rg x16
  refine z_pI C rfl rfl rfl T_r0 (Or.inr rfl) rfl (fun I17 uI17 => ?_)
  have hI17 : IX A T I17 := IX.f hI7 T_r0 (boX.tr (by decide) (by decide)) uI17
  have S18 : Chg B T [(2, 5)] I7 L8 I17 L8 := Chg.f B_r0 T_r0 uI17
  have e19 := u2_j uI17 (by decide) e12
  have e20 := u2_j uI17 (by decide) e14
  have e21 := u2_e uI17
  refine z_iconst C (z := 1) rfl rfl rfl (fun x22 ex22 => ?_)
  exact k_iret C rfl (Or.inr ⟨rfl, z01 (by omega) (by omega)⟩) (Nat.le_of_ble_eq_true rfl) (Nat.le_of_ble_eq_true rfl) ⟨_, _, _, rfl, rfl, by omega, by omega, hI17, (Chg.cons S9 (Chg.mono S18 (by decide)) (by decide))⟩

theorem s_X7_sizeAt {d : Nat} {T N : Nat → Nat} {I : IT} {L : LT} {R : RT} {A B : Nat → Prop} {r0 : Nat} {n1 : Int32} (hS : SUB B A) (hI : IX A T I) (H_r0 : (hs_Sg T N R A B) r0) : Ex (d + 1) 38 [.ref r0, .int n1] (T, N, I, L, R) 0 0 (pI T N R (fun x9 I9 L9 => (I = I9 ∧ L = L9))) := by
  refine ⟨_, rfl, Nat.le_of_ble_eq_true rfl, fun V C S => ?_⟩
  show V 0 [(0, .ref r0), (1, .int n1)] [] (T, N, I, L, R) 0 0
  have gn1 := rg n1
  refine k_iload_n C rfl rfl rfl ?_
  refine b_if_lt C (t := 13) rfl rfl rfl (fun c1 => ?_) (fun c1 => ?_)
  · skip
    refine z_iconst C (z := 0) rfl rfl rfl (fun x2 ex2 => ?_)
    refine k_goto C (pc2 := 23) rfl rfl ?_
    exact k_iret C rfl (Or.inl rfl) (Nat.le_of_ble_eq_true rfl) (Nat.le_of_ble_eq_true rfl) ⟨_, _, _, rfl, rfl, rfl, rfl⟩
  refine k_iload_n C rfl rfl rfl ?_
  refine k_aload_n C rfl rfl rfl ?_
  obtain ⟨T_r0, A_r0, ⟨r0_0, R_r0_0, H_r0_0⟩, ⟨r0_1, R_r0_1, H_r0_1⟩⟩ := id H_r0
  refine g_R C rfl rfl rfl T_r0 rfl R_r0_1 ?_
  obtain ⟨T_r0_1, N_r0_1, A_r0_1⟩ := id H_r0_1
  refine z_len C (n := 160) rfl rfl (by rw [T_r0_1]; exact Nat.le_of_ble_eq_true rfl) N_r0_1 (Nat.le_of_ble_eq_true rfl) (fun x3 ex3 => ?_)
  refine b_icmp_lt C (t := 17) rfl rfl rfl (fun c4 => ?_) (fun c4 => ?_)
  · skip
    refine k_aload_n C rfl rfl rfl ?_
    refine g_R C rfl rfl rfl T_r0 rfl R_r0_1 ?_
    refine k_iload_n C rfl rfl rfl ?_
    refine z_aI C rfl rfl T_r0_1 N_r0_1 (by omega) (by omega) (fun x5 ex5 => ?_)
    have gx5 := rg x5
    exact k_iret C rfl (Or.inl rfl) (Nat.le_of_ble_eq_true rfl) (Nat.le_of_ble_eq_true rfl) ⟨_, _, _, rfl, rfl, rfl, rfl⟩
  refine z_iconst C (z := 0) rfl rfl rfl (fun x6 ex6 => ?_)
  refine k_goto C (pc2 := 23) rfl rfl ?_
  exact k_iret C rfl (Or.inl rfl) (Nat.le_of_ble_eq_true rfl) (Nat.le_of_ble_eq_true rfl) ⟨_, _, _, rfl, rfl, rfl, rfl⟩

theorem s_X1_isTurned {d : Nat} {T N : Nat → Nat} {I : IT} {L : LT} {R : RT} {A B : Nat → Prop} {r0 : Nat} (hS : SUB B A) (hI : IX A T I) (H_r0 : (hs_Cc T N R A B) r0) : Ex (d + 3) 39 [.ref r0] (T, N, I, L, R) 0 0 (pI T N R (fun x9 I9 L9 => (0 ≤ x9.toInt) ∧ (x9.toInt ≤ 1) ∧ (IX A T I9 ∧ Chg B T [] I L I9 L9))) := by
  refine ⟨_, rfl, Nat.le_of_ble_eq_true rfl, fun V C S => ?_⟩
  show V 0 [(0, .ref r0)] [] (T, N, I, L, R) 0 0
  refine k_aload_n C rfl rfl rfl ?_
  obtain ⟨T_r0, A_r0, B_r0, ⟨r0_0, R_r0_0, H_r0_0⟩, ⟨r0_1, R_r0_1, H_r0_1⟩, ⟨r0_2, R_r0_2, H_r0_2⟩, ⟨r0_3, R_r0_3, H_r0_3⟩, ⟨r0_4, R_r0_4, H_r0_4⟩⟩ := id H_r0
  refine g_R C rfl rfl rfl T_r0 rfl R_r0_1 ?_
  refine k_aload_n C rfl rfl rfl ?_
  refine z_gI C rfl rfl rfl T_r0 rfl (fun x1 ex1 => ?_)
  have gx1 := rg x1
  refine z_iconst C (z := 1) rfl rfl rfl (fun x2 ex2 => ?_)
  refine zt_isub C rfl rfl (fun x3 => ?_)
  have gx3 := rg x3
  refine c_SR C (s_X2_pick_Row20 hS hI H_r0_1) rfl rfl rfl rfl rfl rfl rfl (Nat.le_of_ble_eq_true rfl) (Nat.le_of_ble_eq_true rfl) (Nat.le_of_ble_eq_true rfl) ?_
  rintro yy4 _ _ ⟨hyy4, rfl, rfl⟩
  refine k_astore_nV C (x := yy4) (lw := [(1, va_rf yy4), (0, .ref r0)]) rfl rfl (Nat.le_of_ble_eq_true rfl) rfl ?_
  refine k_aload_nV C (x := yy4) rfl rfl rfl ?_
  refine k_ifnonnull C (x := yy4) (t := 20) rfl rfl rfl (fun c5 => ?_) (fun rr6 c5 => ?_)
  · skip
    subst c5
    refine z_iconst C (z := 0) rfl rfl rfl (fun x7 ex7 => ?_)
    exact k_iret C rfl (Or.inr ⟨rfl, z01 (by omega) (by omega)⟩) (Nat.le_of_ble_eq_true rfl) (Nat.le_of_ble_eq_true rfl) ⟨_, _, _, rfl, rfl, by omega, by omega, hI, Chg.rf⟩
  subst c5
  have H_rr6 := hyy4 rr6 rfl
  refine k_aload_n C rfl rfl rfl ?_
  refine g_R C rfl rfl rfl T_r0 rfl R_r0_0 ?_
  refine k_aload_n C rfl rfl rfl ?_
  refine z_iconst C (z := -1) rfl rfl rfl (fun x8 ex8 => ?_)
  obtain ⟨T_r0_0, A_r0_0, B_r0_0, ⟨r0_0_0, R_r0_0_0, H_r0_0_0⟩, ⟨r0_0_1, R_r0_0_1, H_r0_0_1⟩, ⟨r0_0_2, R_r0_0_2, H_r0_0_2⟩⟩ := id H_r0_0
  refine c_VV C (s_X0_scale hS hI H_r0_0 H_rr6) rfl rfl rfl rfl rfl ⟨_, rfl, rfl, T_r0_0, Nat.le_of_ble_eq_true rfl⟩ rfl rfl (Nat.le_of_ble_eq_true rfl) (Nat.le_of_ble_eq_true rfl) (Nat.le_of_ble_eq_true rfl) ?_
  rintro I10 L11 ⟨hI10, S12⟩
  have e13 := Chg.k S12 T_r0 (by decide) (by decide) ex1
  refine z_iconst C (z := 1) rfl rfl rfl (fun x14 ex14 => ?_)
  exact k_iret C rfl (Or.inr ⟨rfl, z01 (by omega) (by omega)⟩) (Nat.le_of_ble_eq_true rfl) (Nat.le_of_ble_eq_true rfl) ⟨_, _, _, rfl, rfl, by omega, by omega, hI10, (Chg.mono S12 (by decide))⟩

theorem s_X1_isJoined {d : Nat} {T N : Nat → Nat} {I : IT} {L : LT} {R : RT} {A B : Nat → Prop} {r0 : Nat} {n1 n2 : Int32} (hS : SUB B A) (hI : IX A T I) (H_r0 : (hs_Cc T N R A B) r0) : Ex (d + 5) 40 [.ref r0, .int n1, .int n2] (T, N, I, L, R) 0 0 (pI T N R (fun x9 I9 L9 => (0 ≤ x9.toInt) ∧ (x9.toInt ≤ 1) ∧ (IX A T I9 ∧ Chg B T [(2, 5), (3, 0)] I L I9 L9))) := by
  refine ⟨_, rfl, Nat.le_of_ble_eq_true rfl, fun V C S => ?_⟩
  show V 0 [(0, .ref r0), (1, .int n1), (2, .int n2)] [] (T, N, I, L, R) 0 0
  have gn1 := rg n1
  have gn2 := rg n2
  refine k_aload_n C rfl rfl rfl ?_
  obtain ⟨T_r0, A_r0, B_r0, ⟨r0_0, R_r0_0, H_r0_0⟩, ⟨r0_1, R_r0_1, H_r0_1⟩, ⟨r0_2, R_r0_2, H_r0_2⟩, ⟨r0_3, R_r0_3, H_r0_3⟩, ⟨r0_4, R_r0_4, H_r0_4⟩⟩ := id H_r0
  refine g_R C rfl rfl rfl T_r0 rfl R_r0_1 ?_
  refine k_aload_n C rfl rfl rfl ?_
  refine z_gI C rfl rfl rfl T_r0 rfl (fun x1 ex1 => ?_)
  have gx1 := rg x1
  refine z_iconst C (z := 2) rfl rfl rfl (fun x2 ex2 => ?_)
  refine zt_isub C rfl rfl (fun x3 => ?_)
  have gx3 := rg x3
  refine c_SR C (s_X2_pick_Row20 hS hI H_r0_1) rfl rfl rfl rfl rfl rfl rfl (Nat.le_of_ble_eq_true rfl) (Nat.le_of_ble_eq_true rfl) (Nat.le_of_ble_eq_true rfl) ?_
  rintro yy4 _ _ ⟨hyy4, rfl, rfl⟩
  refine k_astore_nV C (x := yy4) (lw := [(3, va_rf yy4), (0, .ref r0), (1, .int n1), (2, .int n2)]) rfl rfl (Nat.le_of_ble_eq_true rfl) rfl ?_
  refine k_aload_n C rfl rfl rfl ?_
  refine g_R C rfl rfl rfl T_r0 rfl R_r0_1 ?_
  refine k_aload_n C rfl rfl rfl ?_
  refine g_I C rfl rfl rfl T_r0 rfl ex1 ?_
  refine z_iconst C (z := 1) rfl rfl rfl (fun x5 ex5 => ?_)
  refine zt_isub C rfl rfl (fun x6 => ?_)
  have gx6 := rg x6
  refine c_SR C (s_X2_pick_Row20 hS hI H_r0_1) rfl rfl rfl rfl rfl rfl rfl (Nat.le_of_ble_eq_true rfl) (Nat.le_of_ble_eq_true rfl) (Nat.le_of_ble_eq_true rfl) ?_
  rintro yy7 _ _ ⟨hyy7, rfl, rfl⟩
  refine k_astoreV C (x := yy7) (lw := [(4, va_rf yy7), (3, va_rf yy4), (0, .ref r0), (1, .int n1), (2, .int n2)]) rfl rfl (Nat.le_of_ble_eq_true rfl) (by cases yy4 <;> rfl) ?_
  refine k_aload_nV C (x := yy4) rfl rfl rfl ?_
  refine k_ifnull C (x := yy4) (t := 38) rfl rfl rfl (fun c8 => ?_) (fun rr9 c8 => ?_)
  · skip
    subst c8
    refine z_iconst C (z := 0) rfl rfl rfl (fun x10 ex10 => ?_)
    exact k_iret C rfl (Or.inr ⟨rfl, z01 (by omega) (by omega)⟩) (Nat.le_of_ble_eq_true rfl) (Nat.le_of_ble_eq_true rfl) ⟨_, _, _, rfl, rfl, by omega, by omega, hI, Chg.rf⟩
  subst c8
  have H_rr9 := hyy4 rr9 rfl
  refine k_aloadV C (x := yy7) rfl rfl rfl ?_
  refine k_ifnonnull C (x := yy7) (t := 40) rfl rfl rfl (fun c11 => ?_) (fun rr12 c11 => ?_)
  · skip
    subst c11
    refine z_iconst C (z := 0) rfl rfl rfl (fun x13 ex13 => ?_)
    exact k_iret C rfl (Or.inr ⟨rfl, z01 (by omega) (by omega)⟩) (Nat.le_of_ble_eq_true rfl) (Nat.le_of_ble_eq_true rfl) ⟨_, _, _, rfl, rfl, by omega, by omega, hI, Chg.rf⟩
  subst c11
  have H_rr12 := hyy7 rr12 rfl
  refine k_aload_n C rfl rfl rfl ?_
  refine k_dup C rfl rfl rfl ?_
  refine g_I C rfl rfl rfl T_r0 rfl ex1 ?_
  refine z_iconst C (z := 1) rfl rfl rfl (fun x14 ex14 => ?_)
  refine zt_isub C rfl rfl (fun x15 => ?_)
  have gx15 := rg x15
  refine z_pI C rfl rfl rfl T_r0 (Or.inr rfl) rfl (fun I16 uI16 => ?_)
  have hI16 : IX A T I16 := IX.f hI T_r0 (boX.tr (by decide) (by decide)) uI16
  have S17 : Chg B T [(2, 5)] I L I16 L := Chg.f B_r0 T_r0 uI16
  have e18 := u2_e uI16
  refine k_iload_n C rfl rfl rfl ?_
  refine z_iconst C (z := 2) rfl rfl rfl (fun x19 ex19 => ?_)
  refine b_icmp_ne C (t := 66) rfl rfl rfl (fun c20 => ?_) (fun c20 => ?_)
  · skip
    refine k_iload_n C rfl rfl rfl ?_
    refine z_iconst C (z := 3) rfl rfl rfl (fun x21 ex21 => ?_)
    refine b_icmp_ne C (t := 88) rfl rfl rfl (fun c22 => ?_) (fun c22 => ?_)
    · skip
      refine k_aload_n C rfl rfl rfl ?_
      refine g_R C rfl rfl rfl T_r0 rfl R_r0_0 ?_
      refine k_aload_n C rfl rfl rfl ?_
      refine k_aload C rfl rfl rfl ?_
      refine k_iload_n C rfl rfl rfl ?_
      refine k_aload_n C rfl rfl rfl ?_
      refine g_R C rfl rfl rfl T_r0 rfl R_r0_4 ?_
      obtain ⟨T_r0_0, A_r0_0, B_r0_0, ⟨r0_0_0, R_r0_0_0, H_r0_0_0⟩, ⟨r0_0_1, R_r0_0_1, H_r0_0_1⟩, ⟨r0_0_2, R_r0_0_2, H_r0_0_2⟩⟩ := id H_r0_0
      refine c_VI C (s_X0_overlapInto hS hI16 H_r0_0 (hs_GF hS H_rr9) (hs_GF hS H_rr12) H_r0_4) rfl rfl rfl rfl rfl ⟨_, rfl, rfl, T_r0_0, Nat.le_of_ble_eq_true rfl⟩ rfl rfl (Nat.le_of_ble_eq_true rfl) (Nat.le_of_ble_eq_true rfl) (Nat.le_of_ble_eq_true rfl) ?_
      rintro x23 I24 L25 ⟨o0x23, o1x23, hI24, S26⟩
      have e27 := Chg.k S26 T_r0 (by decide) (by decide) e18
      have gx23 := rg x23
      refine k_istore C (lw := [(5, .int x23), (4, .ref rr12), (3, .ref rr9), (0, .ref r0), (1, .int n1), (2, .int n2)]) rfl rfl (Nat.le_of_ble_eq_true rfl) rfl ?_
      refine k_aload_n C rfl rfl rfl ?_
      refine k_aload_n C rfl rfl rfl ?_
      refine g_R C rfl rfl rfl T_r0 rfl R_r0_4 ?_
      obtain ⟨T_rr9, A_rr9, B_rr9, ⟨rr9_1, R_rr9_1, H_rr9_1⟩⟩ := id H_rr9
      refine c_VV C (s_X2_copyFrom hS hI24 H_rr9 (hs_GF hS H_r0_4)) rfl rfl rfl rfl rfl ⟨_, rfl, rfl, T_rr9, Nat.le_of_ble_eq_true rfl⟩ rfl rfl (Nat.le_of_ble_eq_true rfl) (Nat.le_of_ble_eq_true rfl) (Nat.le_of_ble_eq_true rfl) ?_
      rintro I29 L30 ⟨p0v28, p1v28, hI29, S31⟩
      have e32 := Chg.k S31 T_r0 (by decide) (by decide) e27
      obtain ⟨x33, e34⟩ : ∃ x, I29 rr9 0 = x := ⟨_, rfl⟩
      have gx33 := rg x33
      have ox33 := IX.deg hI29 A_rr9 T_rr9 e34
      obtain ⟨T_r0_4, A_r0_4, B_r0_4, ⟨r0_4_1, R_r0_4_1, H_r0_4_1⟩⟩ := id H_r0_4
      obtain ⟨x35, e36⟩ : ∃ x, I29 r0_4 0 = x := ⟨_, rfl⟩
      have gx35 := rg x35
      have ox35 := IX.deg hI29 A_r0_4 T_r0_4 e36
      try simp only [e27, e34, e36] at p0v28
      try have q0v28 := congrArg Int32.toInt p0v28
      try simp only [e27, e34, e36] at p1v28
      try have q1v28 := congrArg Int32.toInt p1v28
      refine k_iload C rfl rfl rfl ?_
      exact k_iret C rfl (Or.inr ⟨rfl, z01 (by omega) (by omega)⟩) (Nat.le_of_ble_eq_true rfl) (Nat.le_of_ble_eq_true rfl) ⟨_, _, _, rfl, rfl, by omega, by omega, hI29, (Chg.cons S17 (Chg.cons S26 (Chg.mono S31 (by decide)) (by decide)) (by decide))⟩
    refine k_aload_n C rfl rfl rfl ?_
    refine g_R C rfl rfl rfl T_r0 rfl R_r0_0 ?_
    refine k_aload_n C rfl rfl rfl ?_
    refine k_aload C rfl rfl rfl ?_
    refine k_aload_n C rfl rfl rfl ?_
    refine g_R C rfl rfl rfl T_r0 rfl R_r0_4 ?_
    obtain ⟨T_r0_0, A_r0_0, B_r0_0, ⟨r0_0_0, R_r0_0_0, H_r0_0_0⟩, ⟨r0_0_1, R_r0_0_1, H_r0_0_1⟩, ⟨r0_0_2, R_r0_0_2, H_r0_0_2⟩⟩ := id H_r0_0
    refine c_VI C (s_X0_multiplyInto hS hI16 H_r0_0 (hs_GF hS H_rr9) (hs_GF hS H_rr12) H_r0_4) rfl rfl rfl rfl rfl ⟨_, rfl, rfl, T_r0_0, Nat.le_of_ble_eq_true rfl⟩ rfl rfl (Nat.le_of_ble_eq_true rfl) (Nat.le_of_ble_eq_true rfl) (Nat.le_of_ble_eq_true rfl) ?_
    rintro x37 I38 L39 ⟨o0x37, o1x37, hI38, S40⟩
    have e41 := Chg.k S40 T_r0 (by decide) (by decide) e18
    have gx37 := rg x37
    refine k_goto C (pc2 := 103) rfl rfl ?_
    refine k_istore C (lw := [(5, .int x37), (4, .ref rr12), (3, .ref rr9), (0, .ref r0), (1, .int n1), (2, .int n2)]) rfl rfl (Nat.le_of_ble_eq_true rfl) rfl ?_
    refine k_aload_n C rfl rfl rfl ?_
    refine k_aload_n C rfl rfl rfl ?_
    refine g_R C rfl rfl rfl T_r0 rfl R_r0_4 ?_
    obtain ⟨T_rr9, A_rr9, B_rr9, ⟨rr9_1, R_rr9_1, H_rr9_1⟩⟩ := id H_rr9
    refine c_VV C (s_X2_copyFrom hS hI38 H_rr9 (hs_GF hS H_r0_4)) rfl rfl rfl rfl rfl ⟨_, rfl, rfl, T_rr9, Nat.le_of_ble_eq_true rfl⟩ rfl rfl (Nat.le_of_ble_eq_true rfl) (Nat.le_of_ble_eq_true rfl) (Nat.le_of_ble_eq_true rfl) ?_
    rintro I43 L44 ⟨p0v42, p1v42, hI43, S45⟩
    have e46 := Chg.k S45 T_r0 (by decide) (by decide) e41
    obtain ⟨x47, e48⟩ : ∃ x, I43 rr9 0 = x := ⟨_, rfl⟩
    have gx47 := rg x47
    have ox47 := IX.deg hI43 A_rr9 T_rr9 e48
    obtain ⟨T_r0_4, A_r0_4, B_r0_4, ⟨r0_4_1, R_r0_4_1, H_r0_4_1⟩⟩ := id H_r0_4
    obtain ⟨x49, e50⟩ : ∃ x, I43 r0_4 0 = x := ⟨_, rfl⟩
    have gx49 := rg x49
    have ox49 := IX.deg hI43 A_r0_4 T_r0_4 e50
    try simp only [e41, e48, e50] at p0v42
    try have q0v42 := congrArg Int32.toInt p0v42
    try simp only [e41, e48, e50] at p1v42
    try have q1v42 := congrArg Int32.toInt p1v42
    refine k_iload C rfl rfl rfl ?_
    exact k_iret C rfl (Or.inr ⟨rfl, z01 (by omega) (by omega)⟩) (Nat.le_of_ble_eq_true rfl) (Nat.le_of_ble_eq_true rfl) ⟨_, _, _, rfl, rfl, by omega, by omega, hI43, (Chg.cons S17 (Chg.cons S40 (Chg.mono S45 (by decide)) (by decide)) (by decide))⟩
  refine k_aload_n C rfl rfl rfl ?_
  refine g_R C rfl rfl rfl T_r0 rfl R_r0_0 ?_
  refine k_aload_n C rfl rfl rfl ?_
  refine k_aload C rfl rfl rfl ?_
  obtain ⟨T_r0_0, A_r0_0, B_r0_0, ⟨r0_0_0, R_r0_0_0, H_r0_0_0⟩, ⟨r0_0_1, R_r0_0_1, H_r0_0_1⟩, ⟨r0_0_2, R_r0_0_2, H_r0_0_2⟩⟩ := id H_r0_0
  refine c_VI C (s_X0_addTo hS hI16 H_r0_0 H_rr9 (hs_GF hS H_rr12)) rfl rfl rfl rfl rfl ⟨_, rfl, rfl, T_r0_0, Nat.le_of_ble_eq_true rfl⟩ rfl rfl (Nat.le_of_ble_eq_true rfl) (Nat.le_of_ble_eq_true rfl) (Nat.le_of_ble_eq_true rfl) ?_
  rintro x51 I52 L53 ⟨o0x51, o1x51, hI52, S54⟩
  have e55 := Chg.k S54 T_r0 (by decide) (by decide) e18
  have gx51 := rg x51
  exact k_iret C rfl (Or.inr ⟨rfl, z01 (by omega) (by omega)⟩) (Nat.le_of_ble_eq_true rfl) (Nat.le_of_ble_eq_true rfl) ⟨_, _, _, rfl, rfl, by omega, by omega, hI52, (Chg.cons S17 (Chg.mono S54 (by decide)) (by decide))⟩

theorem s_X1_valueOf {d : Nat} {T N : Nat → Nat} {I : IT} {L : LT} {R : RT} {A B : Nat → Prop} {r0 r1 r2 : Nat} (hS : SUB B A) (hI : IX A T I) (H_r0 : (hs_Cc T N R A B) r0) (H_r1 : (hs_Sg T N R A B) r1) (H_r2 : (hs_F T N R A B) r2) : Ex (d + 6) 41 [.ref r0, .ref r1, .ref r2] (T, N, I, L, R) 0 0 (pR T N R (fun x9 I9 L9 => (∀ b, x9 = some b → (hs_G T N R A B) b) ∧ (IX A T I9 ∧ Chg B T [(2, 5), (3, 0)] I L I9 L9))) := by
  refine ⟨_, rfl, Nat.le_of_ble_eq_true rfl, fun V C S => ?_⟩
  show V 0 [(0, .ref r0), (1, .ref r1), (2, .ref r2)] [] (T, N, I, L, R) 0 0
  refine k_aload_n C rfl rfl rfl ?_
  refine z_iconst C (z := 0) rfl rfl rfl (fun x1 ex1 => ?_)
  obtain ⟨T_r0, A_r0, B_r0, ⟨r0_0, R_r0_0, H_r0_0⟩, ⟨r0_1, R_r0_1, H_r0_1⟩, ⟨r0_2, R_r0_2, H_r0_2⟩, ⟨r0_3, R_r0_3, H_r0_3⟩, ⟨r0_4, R_r0_4, H_r0_4⟩⟩ := id H_r0
  refine z_pI C rfl rfl rfl T_r0 (Or.inr rfl) rfl (fun I2 uI2 => ?_)
  have hI2 : IX A T I2 := IX.f hI T_r0 (boX.tr (by decide) (by decide)) uI2
  have S3 : Chg B T [(2, 5)] I L I2 L := Chg.f B_r0 T_r0 uI2
  have e4 := u2_e uI2
  refine z_iconst C (z := 0) rfl rfl rfl (fun x5 ex5 => ?_)
  have J6 : ∀ (nn7 : Nat) (I8 : IT) (L9 : LT) (x10 : Int32), (MN (2147483647 - x10.toInt) nn7) → (IX A T I8) → (Chg B T [(2, 5), (3, 0)] I2 L I8 L9) → (0 ≤ x10.toInt) → V 7 [(0, .ref r0), (1, .ref r1), (2, .ref r2), (3, .int x10)] [] (T, N, I8, L9, R) 0 0 := by
    intro nn7
    induction nn7 using Nat.strongRecOn with
    | _ nn7 ihJ6 =>
      intro I8 L9 x10 hmnn7 hI13 S12 b11
      have gx10 := rg x10
      refine k_iload_n C rfl rfl rfl ?_
      refine k_aload_n C rfl rfl rfl ?_
      obtain ⟨T_r1, A_r1, ⟨r1_0, R_r1_0, H_r1_0⟩, ⟨r1_1, R_r1_1, H_r1_1⟩⟩ := id H_r1
      refine z_gI C rfl rfl rfl T_r1 rfl (fun x14 ex14 => ?_)
      have gx14 := rg x14
      refine b_icmp_ge C (t := 126) rfl rfl rfl (fun c15 => ?_) (fun c15 => ?_)
      · skip
        refine k_aload_n C rfl rfl rfl ?_
        refine z_gI C rfl rfl rfl T_r0 rfl (fun x16 ex16 => ?_)
        have gx16 := rg x16
        refine z_iconst C (z := 1) rfl rfl rfl (fun x17 ex17 => ?_)
        refine b_icmp_ne C (t := 145) rfl rfl rfl (fun c18 => ?_) (fun c18 => ?_)
        · skip
          refine k_null C rfl rfl ?_
          exact k_aret C (x := none) rfl (Or.inl ⟨_, rfl⟩) (Nat.le_of_ble_eq_true rfl) (Nat.le_of_ble_eq_true rfl) ⟨_, _, _, rfl, rfl, fz, hI13, (Chg.cons S3 (Chg.mono S12 (by decide)) (by decide))⟩
        refine k_aload_n C rfl rfl rfl ?_
        refine g_R C rfl rfl rfl T_r0 rfl R_r0_1 ?_
        refine z_iconst C (z := 0) rfl rfl rfl (fun x19 ex19 => ?_)
        refine c_SR C (s_X2_pick_Row20 hS hI13 H_r0_1) rfl rfl rfl rfl rfl rfl rfl (Nat.le_of_ble_eq_true rfl) (Nat.le_of_ble_eq_true rfl) (Nat.le_of_ble_eq_true rfl) ?_
        rintro yy20 _ _ ⟨hyy20, rfl, rfl⟩
        refine k_goto C (pc2 := 146) rfl rfl ?_
        exact k_aret C (x := yy20) rfl (Or.inl ⟨_, rfl⟩) (Nat.le_of_ble_eq_true rfl) (Nat.le_of_ble_eq_true rfl) ⟨_, _, _, rfl, rfl, hyy20, hI13, (Chg.cons S3 (Chg.mono S12 (by decide)) (by decide))⟩
      refine k_aload_n C rfl rfl rfl ?_
      refine k_iload_n C rfl rfl rfl ?_
      refine c_VI C (s_X7_kindAt hS hI13 H_r1) rfl rfl rfl rfl rfl ⟨_, rfl, rfl, T_r1, Nat.le_of_ble_eq_true rfl⟩ rfl rfl (Nat.le_of_ble_eq_true rfl) (Nat.le_of_ble_eq_true rfl) (Nat.le_of_ble_eq_true rfl) ?_
      rintro x21 _ _ ⟨rfl, rfl⟩
      have gx21 := rg x21
      refine k_istore C (lw := [(4, .int x21), (0, .ref r0), (1, .ref r1), (2, .ref r2), (3, .int x10)]) rfl rfl (Nat.le_of_ble_eq_true rfl) rfl ?_
      refine k_iload C rfl rfl rfl ?_
      refine b_if_ne C (t := 37) rfl rfl rfl (fun c22 => ?_) (fun c22 => ?_)
      · skip
        refine k_iload C rfl rfl rfl ?_
        refine z_iconst C (z := 1) rfl rfl rfl (fun x23 ex23 => ?_)
        refine b_icmp_ne C (t := 85) rfl rfl rfl (fun c24 => ?_) (fun c24 => ?_)
        · skip
          refine k_iload C rfl rfl rfl ?_
          refine z_iconst C (z := 5) rfl rfl rfl (fun x25 ex25 => ?_)
          refine b_icmp_ne C (t := 100) rfl rfl rfl (fun c26 => ?_) (fun c26 => ?_)
          · skip
            refine k_aload_n C rfl rfl rfl ?_
            refine k_iload C rfl rfl rfl ?_
            refine k_aload_n C rfl rfl rfl ?_
            refine k_iload_n C rfl rfl rfl ?_
            refine c_VI C (s_X7_sizeAt hS hI13 H_r1) rfl rfl rfl rfl rfl ⟨_, rfl, rfl, T_r1, Nat.le_of_ble_eq_true rfl⟩ rfl rfl (Nat.le_of_ble_eq_true rfl) (Nat.le_of_ble_eq_true rfl) (Nat.le_of_ble_eq_true rfl) ?_
            rintro x27 _ _ ⟨rfl, rfl⟩
            have gx27 := rg x27
            refine c_VI C (s_X1_isJoined hS hI13 H_r0) rfl rfl rfl rfl rfl ⟨_, rfl, rfl, T_r0, Nat.le_of_ble_eq_true rfl⟩ rfl rfl (Nat.le_of_ble_eq_true rfl) (Nat.le_of_ble_eq_true rfl) (Nat.le_of_ble_eq_true rfl) ?_
            rintro x28 I29 L30 ⟨o0x28, o1x28, hI29, S31⟩
            have e32 := Chg.k S31 T_r1 (by decide) (by decide) ex14
            have gx28 := rg x28
            refine k_istore C (lw := [(5, .int x28), (4, .int x21), (0, .ref r0), (1, .ref r1), (2, .ref r2), (3, .int x10)]) rfl rfl (Nat.le_of_ble_eq_true rfl) rfl ?_
            refine k_iload C rfl rfl rfl ?_
            refine b_if_ne C (t := 120) rfl rfl rfl (fun c33 => ?_) (fun c33 => ?_)
            · skip
              refine z_iinc C (z := 1) (lw := fun x34 => [(3, .int x34), (5, .int x28), (4, .int x21), (0, .ref r0), (1, .ref r1), (2, .ref r2)]) rfl rfl rfl (Nat.le_of_ble_eq_true rfl) rfl ⟨by omega, by omega⟩ (fun _ => rfl) (fun x34 ex34 => ?_)
              show V 123 [(3, .int x34), (5, .int x28), (4, .int x21), (0, .ref r0), (1, .ref r1), (2, .ref r2)] _ _ _ _
              refine k_goto C (pc2 := 7) rfl rfl ?_
              refine k_sub S [(0, .ref r0), (1, .ref r1), (2, .ref r2), (3, .int x34)] (List.forall_mem_cons.mpr ⟨List.mem_of_getElem? (i := 3) rfl, List.forall_mem_cons.mpr ⟨List.mem_of_getElem? (i := 4) rfl, List.forall_mem_cons.mpr ⟨List.mem_of_getElem? (i := 5) rfl, List.forall_mem_cons.mpr ⟨List.mem_of_getElem? (i := 0) rfl, fun _ h => nomatch h⟩⟩⟩⟩) ?_
              exact ihJ6 _ (MN.lt hmnn7 (by omega) (by omega)) I29 L30 x34 rfl hI29 (Chg.cons S12 (Chg.mono S31 (by decide)) (by decide)) (by omega)
            refine k_null C rfl rfl ?_
            exact k_aret C (x := none) rfl (Or.inl ⟨_, rfl⟩) (Nat.le_of_ble_eq_true rfl) (Nat.le_of_ble_eq_true rfl) ⟨_, _, _, rfl, rfl, fz, hI29, (Chg.cons S3 (Chg.cons S12 (Chg.mono S31 (by decide)) (by decide)) (by decide))⟩
          refine k_aload_n C rfl rfl rfl ?_
          refine c_VI C (s_X1_isTurned hS hI13 H_r0) rfl rfl rfl rfl rfl ⟨_, rfl, rfl, T_r0, Nat.le_of_ble_eq_true rfl⟩ rfl rfl (Nat.le_of_ble_eq_true rfl) (Nat.le_of_ble_eq_true rfl) (Nat.le_of_ble_eq_true rfl) ?_
          rintro x35 I36 L37 ⟨o0x35, o1x35, hI36, S38⟩
          have e39 := Chg.k S38 T_r1 (by decide) (by decide) ex14
          have gx35 := rg x35
          refine k_istore C (lw := [(5, .int x35), (4, .int x21), (0, .ref r0), (1, .ref r1), (2, .ref r2), (3, .int x10)]) rfl rfl (Nat.le_of_ble_eq_true rfl) rfl ?_
          refine k_goto C (pc2 := 113) rfl rfl ?_
          refine k_iload C rfl rfl rfl ?_
          refine b_if_ne C (t := 120) rfl rfl rfl (fun c40 => ?_) (fun c40 => ?_)
          · skip
            refine z_iinc C (z := 1) (lw := fun x41 => [(3, .int x41), (5, .int x35), (4, .int x21), (0, .ref r0), (1, .ref r1), (2, .ref r2)]) rfl rfl rfl (Nat.le_of_ble_eq_true rfl) rfl ⟨by omega, by omega⟩ (fun _ => rfl) (fun x41 ex41 => ?_)
            show V 123 [(3, .int x41), (5, .int x35), (4, .int x21), (0, .ref r0), (1, .ref r1), (2, .ref r2)] _ _ _ _
            refine k_goto C (pc2 := 7) rfl rfl ?_
            refine k_sub S [(0, .ref r0), (1, .ref r1), (2, .ref r2), (3, .int x41)] (List.forall_mem_cons.mpr ⟨List.mem_of_getElem? (i := 3) rfl, List.forall_mem_cons.mpr ⟨List.mem_of_getElem? (i := 4) rfl, List.forall_mem_cons.mpr ⟨List.mem_of_getElem? (i := 5) rfl, List.forall_mem_cons.mpr ⟨List.mem_of_getElem? (i := 0) rfl, fun _ h => nomatch h⟩⟩⟩⟩) ?_
            exact ihJ6 _ (MN.lt hmnn7 (by omega) (by omega)) I36 L37 x41 rfl hI36 (Chg.cons S12 (Chg.mono S38 (by decide)) (by decide)) (by omega)
          refine k_null C rfl rfl ?_
          exact k_aret C (x := none) rfl (Or.inl ⟨_, rfl⟩) (Nat.le_of_ble_eq_true rfl) (Nat.le_of_ble_eq_true rfl) ⟨_, _, _, rfl, rfl, fz, hI36, (Chg.cons S3 (Chg.cons S12 (Chg.mono S38 (by decide)) (by decide)) (by decide))⟩
        refine k_aload_n C rfl rfl rfl ?_
        refine g_R C rfl rfl rfl T_r0 rfl R_r0_3 ?_
        refine z_iconst C (z := 0) rfl rfl rfl (fun x42 ex42 => ?_)
        obtain ⟨T_r0_3, A_r0_3, B_r0_3, ⟨r0_3_1, R_r0_3_1, H_r0_3_1⟩⟩ := id H_r0_3
        refine c_VV C (s_X2_begin hS hI13 H_r0_3) rfl rfl rfl rfl rfl ⟨_, rfl, rfl, T_r0_3, Nat.le_of_ble_eq_true rfl⟩ rfl rfl (Nat.le_of_ble_eq_true rfl) (Nat.le_of_ble_eq_true rfl) (Nat.le_of_ble_eq_true rfl) ?_
        rintro I44 L45 ⟨hI44, S46⟩
        have e47 := Chg.k S46 T_r1 (by decide) (by decide) ex14
        refine k_aload_n C rfl rfl rfl ?_
        refine g_R C rfl rfl rfl T_r0 rfl R_r0_3 ?_
        refine z_iconst C (z := 0) rfl rfl rfl (fun x48 ex48 => ?_)
        refine k_aload_n C rfl rfl rfl ?_
        refine g_R C rfl rfl rfl T_r0 rfl R_r0_0 ?_
        refine k_aload_n C rfl rfl rfl ?_
        refine k_iload_n C rfl rfl rfl ?_
        refine c_VI C (s_X7_sizeAt hS hI44 H_r1) rfl rfl rfl rfl rfl ⟨_, rfl, rfl, T_r1, Nat.le_of_ble_eq_true rfl⟩ rfl rfl (Nat.le_of_ble_eq_true rfl) (Nat.le_of_ble_eq_true rfl) (Nat.le_of_ble_eq_true rfl) ?_
        rintro x49 _ _ ⟨rfl, rfl⟩
        have gx49 := rg x49
        refine z_i2l C rfl rfl (fun lg50 elg50 => ?_)
        obtain ⟨T_r0_0, A_r0_0, B_r0_0, ⟨r0_0_0, R_r0_0_0, H_r0_0_0⟩, ⟨r0_0_1, R_r0_0_1, H_r0_0_1⟩, ⟨r0_0_2, R_r0_0_2, H_r0_0_2⟩⟩ := id H_r0_0
        refine c_VI C (s_X0_of hS hI44 H_r0_0) rfl rfl rfl rfl rfl ⟨_, rfl, rfl, T_r0_0, Nat.le_of_ble_eq_true rfl⟩ rfl rfl (Nat.le_of_ble_eq_true rfl) (Nat.le_of_ble_eq_true rfl) (Nat.le_of_ble_eq_true rfl) ?_
        rintro x51 _ _ ⟨rfl, rfl⟩
        have gx51 := rg x51
        refine c_VV C (s_X2_set hS hI44 H_r0_3) rfl rfl rfl rfl rfl ⟨_, rfl, rfl, T_r0_3, Nat.le_of_ble_eq_true rfl⟩ rfl rfl (Nat.le_of_ble_eq_true rfl) (Nat.le_of_ble_eq_true rfl) (Nat.le_of_ble_eq_true rfl) ?_
        rintro I53 L54 ⟨hI53, S55⟩
        have e56 := Chg.k S55 T_r1 (by decide) (by decide) e47
        refine k_aload_n C rfl rfl rfl ?_
        refine k_aload_n C rfl rfl rfl ?_
        refine g_R C rfl rfl rfl T_r0 rfl R_r0_3 ?_
        refine c_VI C (s_X1_isLaid hS hI53 H_r0 (hs_GF hS H_r0_3)) rfl rfl rfl rfl rfl ⟨_, rfl, rfl, T_r0, Nat.le_of_ble_eq_true rfl⟩ rfl rfl (Nat.le_of_ble_eq_true rfl) (Nat.le_of_ble_eq_true rfl) (Nat.le_of_ble_eq_true rfl) ?_
        rintro x57 I58 L59 ⟨o0x57, o1x57, hI58, S60⟩
        have e61 := Chg.k S60 T_r1 (by decide) (by decide) e56
        have gx57 := rg x57
        refine k_istore C (lw := [(5, .int x57), (4, .int x21), (0, .ref r0), (1, .ref r1), (2, .ref r2), (3, .int x10)]) rfl rfl (Nat.le_of_ble_eq_true rfl) rfl ?_
        refine k_goto C (pc2 := 113) rfl rfl ?_
        refine k_iload C rfl rfl rfl ?_
        refine b_if_ne C (t := 120) rfl rfl rfl (fun c62 => ?_) (fun c62 => ?_)
        · skip
          refine z_iinc C (z := 1) (lw := fun x63 => [(3, .int x63), (5, .int x57), (4, .int x21), (0, .ref r0), (1, .ref r1), (2, .ref r2)]) rfl rfl rfl (Nat.le_of_ble_eq_true rfl) rfl ⟨by omega, by omega⟩ (fun _ => rfl) (fun x63 ex63 => ?_)
          show V 123 [(3, .int x63), (5, .int x57), (4, .int x21), (0, .ref r0), (1, .ref r1), (2, .ref r2)] _ _ _ _
          refine k_goto C (pc2 := 7) rfl rfl ?_
          refine k_sub S [(0, .ref r0), (1, .ref r1), (2, .ref r2), (3, .int x63)] (List.forall_mem_cons.mpr ⟨List.mem_of_getElem? (i := 3) rfl, List.forall_mem_cons.mpr ⟨List.mem_of_getElem? (i := 4) rfl, List.forall_mem_cons.mpr ⟨List.mem_of_getElem? (i := 5) rfl, List.forall_mem_cons.mpr ⟨List.mem_of_getElem? (i := 0) rfl, fun _ h => nomatch h⟩⟩⟩⟩) ?_
          exact ihJ6 _ (MN.lt hmnn7 (by omega) (by omega)) I58 L59 x63 rfl hI58 (Chg.cons S12 (Chg.cons S46 (Chg.cons S55 (Chg.mono S60 (by decide)) (by decide)) (by decide)) (by decide)) (by omega)
        refine k_null C rfl rfl ?_
        exact k_aret C (x := none) rfl (Or.inl ⟨_, rfl⟩) (Nat.le_of_ble_eq_true rfl) (Nat.le_of_ble_eq_true rfl) ⟨_, _, _, rfl, rfl, fz, hI58, (Chg.cons S3 (Chg.cons S12 (Chg.cons S46 (Chg.cons S55 (Chg.mono S60 (by decide)) (by decide)) (by decide)) (by decide)) (by decide))⟩
      refine k_aload_n C rfl rfl rfl ?_
      refine k_aload_n C rfl rfl rfl ?_
      refine c_VI C (s_X1_isLaid hS hI13 H_r0 H_r2) rfl rfl rfl rfl rfl ⟨_, rfl, rfl, T_r0, Nat.le_of_ble_eq_true rfl⟩ rfl rfl (Nat.le_of_ble_eq_true rfl) (Nat.le_of_ble_eq_true rfl) (Nat.le_of_ble_eq_true rfl) ?_
      rintro x64 I65 L66 ⟨o0x64, o1x64, hI65, S67⟩
      have e68 := Chg.k S67 T_r1 (by decide) (by decide) ex14
      have gx64 := rg x64
      refine k_istore C (lw := [(5, .int x64), (4, .int x21), (0, .ref r0), (1, .ref r1), (2, .ref r2), (3, .int x10)]) rfl rfl (Nat.le_of_ble_eq_true rfl) rfl ?_
      refine k_goto C (pc2 := 113) rfl rfl ?_
      refine k_iload C rfl rfl rfl ?_
      refine b_if_ne C (t := 120) rfl rfl rfl (fun c69 => ?_) (fun c69 => ?_)
      · skip
        refine z_iinc C (z := 1) (lw := fun x70 => [(3, .int x70), (5, .int x64), (4, .int x21), (0, .ref r0), (1, .ref r1), (2, .ref r2)]) rfl rfl rfl (Nat.le_of_ble_eq_true rfl) rfl ⟨by omega, by omega⟩ (fun _ => rfl) (fun x70 ex70 => ?_)
        show V 123 [(3, .int x70), (5, .int x64), (4, .int x21), (0, .ref r0), (1, .ref r1), (2, .ref r2)] _ _ _ _
        refine k_goto C (pc2 := 7) rfl rfl ?_
        refine k_sub S [(0, .ref r0), (1, .ref r1), (2, .ref r2), (3, .int x70)] (List.forall_mem_cons.mpr ⟨List.mem_of_getElem? (i := 3) rfl, List.forall_mem_cons.mpr ⟨List.mem_of_getElem? (i := 4) rfl, List.forall_mem_cons.mpr ⟨List.mem_of_getElem? (i := 5) rfl, List.forall_mem_cons.mpr ⟨List.mem_of_getElem? (i := 0) rfl, fun _ h => nomatch h⟩⟩⟩⟩) ?_
        exact ihJ6 _ (MN.lt hmnn7 (by omega) (by omega)) I65 L66 x70 rfl hI65 (Chg.cons S12 (Chg.mono S67 (by decide)) (by decide)) (by omega)
      refine k_null C rfl rfl ?_
      exact k_aret C (x := none) rfl (Or.inl ⟨_, rfl⟩) (Nat.le_of_ble_eq_true rfl) (Nat.le_of_ble_eq_true rfl) ⟨_, _, _, rfl, rfl, fz, hI65, (Chg.cons S3 (Chg.cons S12 (Chg.mono S67 (by decide)) (by decide)) (by decide))⟩
  refine k_istore_n C (lw := [(3, .int x5), (0, .ref r0), (1, .ref r1), (2, .ref r2)]) rfl rfl (Nat.le_of_ble_eq_true rfl) rfl ?_
  refine k_sub S [(0, .ref r0), (1, .ref r1), (2, .ref r2), (3, .int x5)] (List.forall_mem_cons.mpr ⟨List.mem_of_getElem? (i := 1) rfl, List.forall_mem_cons.mpr ⟨List.mem_of_getElem? (i := 2) rfl, List.forall_mem_cons.mpr ⟨List.mem_of_getElem? (i := 3) rfl, List.forall_mem_cons.mpr ⟨List.mem_of_getElem? (i := 0) rfl, fun _ h => nomatch h⟩⟩⟩⟩) ?_
  exact J6 _ I2 L x5 rfl hI2 Chg.rf (by omega)

theorem s_X1_isTotalLaid {d : Nat} {T N : Nat → Nat} {I : IT} {L : LT} {R : RT} {A B : Nat → Prop} {r0 : Nat} {n1 : Int32} (hS : SUB B A) (hI : IX A T I) (H_r0 : (hs_Cc T N R A B) r0) : Ex (d + 1) 42 [.ref r0, .int n1] (T, N, I, L, R) 0 0 (pI T N R (fun x9 I9 L9 => (0 ≤ x9.toInt) ∧ (x9.toInt ≤ 1) ∧ (IX A T I9 ∧ Chg B T [(2, 5)] I L I9 L9))) := by
  refine ⟨_, rfl, Nat.le_of_ble_eq_true rfl, fun V C S => ?_⟩
  show V 0 [(0, .ref r0), (1, .int n1)] [] (T, N, I, L, R) 0 0
  have gn1 := rg n1
  refine k_aload_n C rfl rfl rfl ?_
  obtain ⟨T_r0, A_r0, B_r0, ⟨r0_0, R_r0_0, H_r0_0⟩, ⟨r0_1, R_r0_1, H_r0_1⟩, ⟨r0_2, R_r0_2, H_r0_2⟩, ⟨r0_3, R_r0_3, H_r0_3⟩, ⟨r0_4, R_r0_4, H_r0_4⟩⟩ := id H_r0
  refine z_gI C rfl rfl rfl T_r0 rfl (fun x1 ex1 => ?_)
  have gx1 := rg x1
  refine b_if_lt C (t := 19) rfl rfl rfl (fun c2 => ?_) (fun c2 => ?_)
  · skip
    refine z_iconst C (z := 0) rfl rfl rfl (fun x3 ex3 => ?_)
    exact k_iret C rfl (Or.inr ⟨rfl, z01 (by omega) (by omega)⟩) (Nat.le_of_ble_eq_true rfl) (Nat.le_of_ble_eq_true rfl) ⟨_, _, _, rfl, rfl, by omega, by omega, hI, Chg.rf⟩
  refine k_aload_n C rfl rfl rfl ?_
  refine g_I C rfl rfl rfl T_r0 rfl ex1 ?_
  refine k_aload_n C rfl rfl rfl ?_
  refine g_R C rfl rfl rfl T_r0 rfl R_r0_2 ?_
  obtain ⟨T_r0_2, N_r0_2, A_r0_2⟩ := id H_r0_2
  refine z_len C (n := 20) rfl rfl (by rw [T_r0_2]; exact Nat.le_of_ble_eq_true rfl) N_r0_2 (Nat.le_of_ble_eq_true rfl) (fun x4 ex4 => ?_)
  refine b_icmp_lt C (t := 21) rfl rfl rfl (fun c5 => ?_) (fun c5 => ?_)
  · skip
    refine k_aload_n C rfl rfl rfl ?_
    refine g_R C rfl rfl rfl T_r0 rfl R_r0_2 ?_
    refine k_aload_n C rfl rfl rfl ?_
    refine g_I C rfl rfl rfl T_r0 rfl ex1 ?_
    refine k_iload_n C rfl rfl rfl ?_
    refine z_sI C rfl rfl T_r0_2 N_r0_2 (by omega) (by omega) (fun I6 uI6 => ?_)
    have hI6 : IX A T I6 := IX.a hI T_r0_2 (Nat.le_of_ble_eq_true rfl) uI6
    have S7 : Chg B T [] I L I6 L := Chg.a A_r0_2 T_r0_2 (Nat.le_of_ble_eq_true rfl) uI6
    have e8 := u2_n uI6 (t_nq T_r0 T_r0_2 (by decide)) ex1
    refine k_aload_n C rfl rfl rfl ?_
    refine k_dup C rfl rfl rfl ?_
    refine g_I C rfl rfl rfl T_r0 rfl e8 ?_
    refine z_iconst C (z := 1) rfl rfl rfl (fun x9 ex9 => ?_)
    refine z_iadd C rfl rfl ⟨by omega, by omega⟩ (fun x10 ex10 => ?_)
    refine z_pI C rfl rfl rfl T_r0 (Or.inr rfl) rfl (fun I11 uI11 => ?_)
    have hI11 : IX A T I11 := IX.f hI6 T_r0 (boX.tr (by decide) (by decide)) uI11
    have S12 : Chg B T [(2, 5)] I6 L I11 L := Chg.f B_r0 T_r0 uI11
    have e13 := u2_e uI11
    refine z_iconst C (z := 1) rfl rfl rfl (fun x14 ex14 => ?_)
    exact k_iret C rfl (Or.inr ⟨rfl, z01 (by omega) (by omega)⟩) (Nat.le_of_ble_eq_true rfl) (Nat.le_of_ble_eq_true rfl) ⟨_, _, _, rfl, rfl, by omega, by omega, hI11, (Chg.cons S7 (Chg.mono S12 (by decide)) (by decide))⟩
  refine z_iconst C (z := 0) rfl rfl rfl (fun x15 ex15 => ?_)
  exact k_iret C rfl (Or.inr ⟨rfl, z01 (by omega) (by omega)⟩) (Nat.le_of_ble_eq_true rfl) (Nat.le_of_ble_eq_true rfl) ⟨_, _, _, rfl, rfl, by omega, by omega, hI, Chg.rf⟩

theorem s_X1_isTotalJoined {d : Nat} {T N : Nat → Nat} {I : IT} {L : LT} {R : RT} {A B : Nat → Prop} {r0 : Nat} {n1 n2 : Int32} (hS : SUB B A) (hI : IX A T I) (H_r0 : (hs_Cc T N R A B) r0) : Ex (d + 1) 43 [.ref r0, .int n1, .int n2] (T, N, I, L, R) 0 0 (pI T N R (fun x9 I9 L9 => (0 ≤ x9.toInt) ∧ (x9.toInt ≤ 1) ∧ (IX A T I9 ∧ Chg B T [(2, 5)] I L I9 L9))) := by
  refine ⟨_, rfl, Nat.le_of_ble_eq_true rfl, fun V C S => ?_⟩
  show V 0 [(0, .ref r0), (1, .int n1), (2, .int n2)] [] (T, N, I, L, R) 0 0
  have gn1 := rg n1
  have gn2 := rg n2
  refine k_aload_n C rfl rfl rfl ?_
  obtain ⟨T_r0, A_r0, B_r0, ⟨r0_0, R_r0_0, H_r0_0⟩, ⟨r0_1, R_r0_1, H_r0_1⟩, ⟨r0_2, R_r0_2, H_r0_2⟩, ⟨r0_3, R_r0_3, H_r0_3⟩, ⟨r0_4, R_r0_4, H_r0_4⟩⟩ := id H_r0
  refine z_gI C rfl rfl rfl T_r0 rfl (fun x1 ex1 => ?_)
  have gx1 := rg x1
  refine z_iconst C (z := 2) rfl rfl rfl (fun x2 ex2 => ?_)
  refine b_icmp_lt C (t := 20) rfl rfl rfl (fun c3 => ?_) (fun c3 => ?_)
  · skip
    refine z_iconst C (z := 0) rfl rfl rfl (fun x4 ex4 => ?_)
    exact k_iret C rfl (Or.inr ⟨rfl, z01 (by omega) (by omega)⟩) (Nat.le_of_ble_eq_true rfl) (Nat.le_of_ble_eq_true rfl) ⟨_, _, _, rfl, rfl, by omega, by omega, hI, Chg.rf⟩
  refine k_aload_n C rfl rfl rfl ?_
  refine g_I C rfl rfl rfl T_r0 rfl ex1 ?_
  refine k_aload_n C rfl rfl rfl ?_
  refine g_R C rfl rfl rfl T_r0 rfl R_r0_2 ?_
  obtain ⟨T_r0_2, N_r0_2, A_r0_2⟩ := id H_r0_2
  refine z_len C (n := 20) rfl rfl (by rw [T_r0_2]; exact Nat.le_of_ble_eq_true rfl) N_r0_2 (Nat.le_of_ble_eq_true rfl) (fun x5 ex5 => ?_)
  refine b_icmp_le C (t := 22) rfl rfl rfl (fun c6 => ?_) (fun c6 => ?_)
  · skip
    refine k_aload_n C rfl rfl rfl ?_
    refine k_dup C rfl rfl rfl ?_
    refine g_I C rfl rfl rfl T_r0 rfl ex1 ?_
    refine z_iconst C (z := 1) rfl rfl rfl (fun x7 ex7 => ?_)
    refine z_isub C rfl rfl ⟨by omega, by omega⟩ (fun x8 ex8 => ?_)
    refine z_pI C rfl rfl rfl T_r0 (Or.inr rfl) rfl (fun I9 uI9 => ?_)
    have hI9 : IX A T I9 := IX.f hI T_r0 (boX.tr (by decide) (by decide)) uI9
    have S10 : Chg B T [(2, 5)] I L I9 L := Chg.f B_r0 T_r0 uI9
    have e11 := u2_e uI9
    refine k_iload_n C rfl rfl rfl ?_
    refine z_iconst C (z := 2) rfl rfl rfl (fun x12 ex12 => ?_)
    refine b_icmp_ne C (t := 66) rfl rfl rfl (fun c13 => ?_) (fun c13 => ?_)
    · skip
      refine k_aload_n C rfl rfl rfl ?_
      refine g_R C rfl rfl rfl T_r0 rfl R_r0_2 ?_
      refine k_aload_n C rfl rfl rfl ?_
      refine g_I C rfl rfl rfl T_r0 rfl e11 ?_
      refine z_iconst C (z := 1) rfl rfl rfl (fun x14 ex14 => ?_)
      refine z_isub C rfl rfl ⟨by omega, by omega⟩ (fun x15 ex15 => ?_)
      refine k_dup2 C rfl rfl rfl rfl ?_
      refine z_aI C rfl rfl T_r0_2 N_r0_2 (by omega) (by omega) (fun x16 ex16 => ?_)
      have gx16 := rg x16
      refine k_aload_n C rfl rfl rfl ?_
      refine g_R C rfl rfl rfl T_r0 rfl R_r0_2 ?_
      refine k_aload_n C rfl rfl rfl ?_
      refine g_I C rfl rfl rfl T_r0 rfl e11 ?_
      refine z_aI C rfl rfl T_r0_2 N_r0_2 (by omega) (by omega) (fun x17 ex17 => ?_)
      have gx17 := rg x17
      refine k_iload_n C rfl rfl rfl ?_
      refine zt_iadd C rfl rfl (fun x18 => ?_)
      have gx18 := rg x18
      refine zt_iadd C rfl rfl (fun x19 => ?_)
      have gx19 := rg x19
      refine z_sI C rfl rfl T_r0_2 N_r0_2 (by omega) (by omega) (fun I20 uI20 => ?_)
      have hI20 : IX A T I20 := IX.a hI9 T_r0_2 (Nat.le_of_ble_eq_true rfl) uI20
      have S21 : Chg B T [] I9 L I20 L := Chg.a A_r0_2 T_r0_2 (Nat.le_of_ble_eq_true rfl) uI20
      have e22 := u2_n uI20 (t_nq T_r0 T_r0_2 (by decide)) e11
      refine z_iconst C (z := 1) rfl rfl rfl (fun x23 ex23 => ?_)
      exact k_iret C rfl (Or.inr ⟨rfl, z01 (by omega) (by omega)⟩) (Nat.le_of_ble_eq_true rfl) (Nat.le_of_ble_eq_true rfl) ⟨_, _, _, rfl, rfl, by omega, by omega, hI20, (Chg.cons S10 (Chg.mono S21 (by decide)) (by decide))⟩
    refine k_aload_n C rfl rfl rfl ?_
    refine g_R C rfl rfl rfl T_r0 rfl R_r0_2 ?_
    refine k_aload_n C rfl rfl rfl ?_
    refine g_I C rfl rfl rfl T_r0 rfl e11 ?_
    refine z_iconst C (z := 1) rfl rfl rfl (fun x24 ex24 => ?_)
    refine z_isub C rfl rfl ⟨by omega, by omega⟩ (fun x25 ex25 => ?_)
    refine z_aI C rfl rfl T_r0_2 N_r0_2 (by omega) (by omega) (fun x26 ex26 => ?_)
    have gx26 := rg x26
    refine k_aload_n C rfl rfl rfl ?_
    refine g_R C rfl rfl rfl T_r0 rfl R_r0_2 ?_
    refine k_aload_n C rfl rfl rfl ?_
    refine g_I C rfl rfl rfl T_r0 rfl e11 ?_
    refine z_aI C rfl rfl T_r0_2 N_r0_2 (by omega) (by omega) (fun x27 ex27 => ?_)
    have gx27 := rg x27
    refine b_icmp_ne C (t := 64) rfl rfl rfl (fun c28 => ?_) (fun c28 => ?_)
    · skip
      refine z_iconst C (z := 0) rfl rfl rfl (fun x29 ex29 => ?_)
      exact k_iret C rfl (Or.inr ⟨rfl, z01 (by omega) (by omega)⟩) (Nat.le_of_ble_eq_true rfl) (Nat.le_of_ble_eq_true rfl) ⟨_, _, _, rfl, rfl, by omega, by omega, hI9, (Chg.mono S10 (by decide))⟩
    refine z_iconst C (z := 1) rfl rfl rfl (fun x30 ex30 => ?_)
    refine k_goto C (pc2 := 65) rfl rfl ?_
    exact k_iret C rfl (Or.inr ⟨rfl, z01 (by omega) (by omega)⟩) (Nat.le_of_ble_eq_true rfl) (Nat.le_of_ble_eq_true rfl) ⟨_, _, _, rfl, rfl, by omega, by omega, hI9, (Chg.mono S10 (by decide))⟩
  refine z_iconst C (z := 0) rfl rfl rfl (fun x31 ex31 => ?_)
  exact k_iret C rfl (Or.inr ⟨rfl, z01 (by omega) (by omega)⟩) (Nat.le_of_ble_eq_true rfl) (Nat.le_of_ble_eq_true rfl) ⟨_, _, _, rfl, rfl, by omega, by omega, hI, Chg.rf⟩

theorem s_X1_total {d : Nat} {T N : Nat → Nat} {I : IT} {L : LT} {R : RT} {A B : Nat → Prop} {r0 r1 : Nat} {n2 : Int32} (hS : SUB B A) (hI : IX A T I) (H_r0 : (hs_Cc T N R A B) r0) (H_r1 : (hs_Sg T N R A B) r1) (b0_n2 : 0 ≤ n2.toInt) (b1_n2 : n2.toInt ≤ 1) : Ex (d + 2) 44 [.ref r0, .ref r1, .int n2] (T, N, I, L, R) 0 0 (pI T N R (fun x9 I9 L9 => (IX A T I9 ∧ Chg B T [(2, 5)] I L I9 L9))) := by
  refine ⟨_, rfl, Nat.le_of_ble_eq_true rfl, fun V C S => ?_⟩
  show V 0 [(0, .ref r0), (1, .ref r1), (2, .int n2)] [] (T, N, I, L, R) 0 0
  have gn2 := rg n2
  refine k_aload_n C rfl rfl rfl ?_
  refine z_iconst C (z := 0) rfl rfl rfl (fun x1 ex1 => ?_)
  obtain ⟨T_r0, A_r0, B_r0, ⟨r0_0, R_r0_0, H_r0_0⟩, ⟨r0_1, R_r0_1, H_r0_1⟩, ⟨r0_2, R_r0_2, H_r0_2⟩, ⟨r0_3, R_r0_3, H_r0_3⟩, ⟨r0_4, R_r0_4, H_r0_4⟩⟩ := id H_r0
  refine z_pI C rfl rfl rfl T_r0 (Or.inr rfl) rfl (fun I2 uI2 => ?_)
  have hI2 : IX A T I2 := IX.f hI T_r0 (boX.tr (by decide) (by decide)) uI2
  have S3 : Chg B T [(2, 5)] I L I2 L := Chg.f B_r0 T_r0 uI2
  have e4 := u2_e uI2
  refine z_iconst C (z := 0) rfl rfl rfl (fun x5 ex5 => ?_)
  have J6 : ∀ (nn7 : Nat) (I8 : IT) (L9 : LT) (x10 : Int32), (MN (2147483647 - x10.toInt) nn7) → (IX A T I8) → (Chg B T [(2, 5)] I2 L I8 L9) → (0 ≤ x10.toInt) → V 7 [(0, .ref r0), (1, .ref r1), (2, .int n2), (3, .int x10)] [] (T, N, I8, L9, R) 0 0 := by
    intro nn7
    induction nn7 using Nat.strongRecOn with
    | _ nn7 ihJ6 =>
      intro I8 L9 x10 hmnn7 hI13 S12 b11
      have gx10 := rg x10
      refine k_iload_n C rfl rfl rfl ?_
      refine k_aload_n C rfl rfl rfl ?_
      obtain ⟨T_r1, A_r1, ⟨r1_0, R_r1_0, H_r1_0⟩, ⟨r1_1, R_r1_1, H_r1_1⟩⟩ := id H_r1
      refine z_gI C rfl rfl rfl T_r1 rfl (fun x14 ex14 => ?_)
      have gx14 := rg x14
      refine b_icmp_ge C (t := 105) rfl rfl rfl (fun c15 => ?_) (fun c15 => ?_)
      · skip
        refine k_aload_n C rfl rfl rfl ?_
        refine z_gI C rfl rfl rfl T_r0 rfl (fun x16 ex16 => ?_)
        have gx16 := rg x16
        refine z_iconst C (z := 1) rfl rfl rfl (fun x17 ex17 => ?_)
        refine b_icmp_ne C (t := 130) rfl rfl rfl (fun c18 => ?_) (fun c18 => ?_)
        · skip
          refine z_iconst C (z := -1) rfl rfl rfl (fun x19 ex19 => ?_)
          exact k_iret C rfl (Or.inl rfl) (Nat.le_of_ble_eq_true rfl) (Nat.le_of_ble_eq_true rfl) ⟨_, _, _, rfl, rfl, hI13, (Chg.cons S3 (Chg.mono S12 (by decide)) (by decide))⟩
        refine k_aload_n C rfl rfl rfl ?_
        refine g_R C rfl rfl rfl T_r0 rfl R_r0_2 ?_
        obtain ⟨T_r0_2, N_r0_2, A_r0_2⟩ := id H_r0_2
        refine z_len C (n := 20) rfl rfl (by rw [T_r0_2]; exact Nat.le_of_ble_eq_true rfl) N_r0_2 (Nat.le_of_ble_eq_true rfl) (fun x20 ex20 => ?_)
        refine b_if_le C (t := 130) rfl rfl rfl (fun c21 => by exfalso; omega) (fun c21 => ?_)
        refine k_aload_n C rfl rfl rfl ?_
        refine g_R C rfl rfl rfl T_r0 rfl R_r0_2 ?_
        refine z_iconst C (z := 0) rfl rfl rfl (fun x22 ex22 => ?_)
        refine z_aI C rfl rfl T_r0_2 N_r0_2 (by omega) (by omega) (fun x23 ex23 => ?_)
        have gx23 := rg x23
        refine k_goto C (pc2 := 131) rfl rfl ?_
        exact k_iret C rfl (Or.inl rfl) (Nat.le_of_ble_eq_true rfl) (Nat.le_of_ble_eq_true rfl) ⟨_, _, _, rfl, rfl, hI13, (Chg.cons S3 (Chg.mono S12 (by decide)) (by decide))⟩
      refine k_aload_n C rfl rfl rfl ?_
      refine k_iload_n C rfl rfl rfl ?_
      refine c_VI C (s_X7_kindAt hS hI13 H_r1) rfl rfl rfl rfl rfl ⟨_, rfl, rfl, T_r1, Nat.le_of_ble_eq_true rfl⟩ rfl rfl (Nat.le_of_ble_eq_true rfl) (Nat.le_of_ble_eq_true rfl) (Nat.le_of_ble_eq_true rfl) ?_
      rintro x24 _ _ ⟨rfl, rfl⟩
      have gx24 := rg x24
      refine k_istore C (lw := [(4, .int x24), (0, .ref r0), (1, .ref r1), (2, .int n2), (3, .int x10)]) rfl rfl (Nat.le_of_ble_eq_true rfl) rfl ?_
      refine z_iconst C (z := 1) rfl rfl rfl (fun x25 ex25 => ?_)
      refine k_istore C (lw := [(5, .int x25), (4, .int x24), (0, .ref r0), (1, .ref r1), (2, .int n2), (3, .int x10)]) rfl rfl (Nat.le_of_ble_eq_true rfl) rfl ?_
      refine k_iload C rfl rfl rfl ?_
      have J26 : V 36 [(0, .ref r0), (1, .ref r1), (2, .int n2), (3, .int x10), (4, .int x24)] [] (T, N, I8, L9, R) 0 0 := by
        refine k_aload_n C rfl rfl rfl ?_
        refine k_iload C rfl rfl rfl ?_
        refine b_if_ne C (t := 50) rfl rfl rfl (fun c28 => ?_) (fun c28 => ?_)
        · skip
          refine z_iconst C (z := 0) rfl rfl rfl (fun x29 ex29 => ?_)
          refine c_VI C (s_X1_isTotalLaid hS hI13 H_r0) rfl rfl rfl rfl rfl ⟨_, rfl, rfl, T_r0, Nat.le_of_ble_eq_true rfl⟩ rfl rfl (Nat.le_of_ble_eq_true rfl) (Nat.le_of_ble_eq_true rfl) (Nat.le_of_ble_eq_true rfl) ?_
          rintro x30 I31 L32 ⟨o0x30, o1x30, hI31, S33⟩
          have e34 := Chg.k S33 T_r1 (by decide) (by decide) ex14
          have gx30 := rg x30
          refine k_istore C (lw := [(5, .int x30), (0, .ref r0), (1, .ref r1), (2, .int n2), (3, .int x10), (4, .int x24)]) rfl rfl (Nat.le_of_ble_eq_true rfl) rfl ?_
          refine k_goto C (pc2 := 92) rfl rfl ?_
          refine k_iload C rfl rfl rfl ?_
          refine b_if_ne C (t := 99) rfl rfl rfl (fun c35 => ?_) (fun c35 => ?_)
          · skip
            refine z_iinc C (z := 1) (lw := fun x36 => [(3, .int x36), (5, .int x30), (0, .ref r0), (1, .ref r1), (2, .int n2), (4, .int x24)]) rfl rfl rfl (Nat.le_of_ble_eq_true rfl) rfl ⟨by omega, by omega⟩ (fun _ => rfl) (fun x36 ex36 => ?_)
            show V 102 [(3, .int x36), (5, .int x30), (0, .ref r0), (1, .ref r1), (2, .int n2), (4, .int x24)] _ _ _ _
            refine k_goto C (pc2 := 7) rfl rfl ?_
            refine k_sub S [(0, .ref r0), (1, .ref r1), (2, .int n2), (3, .int x36)] (List.forall_mem_cons.mpr ⟨List.mem_of_getElem? (i := 2) rfl, List.forall_mem_cons.mpr ⟨List.mem_of_getElem? (i := 3) rfl, List.forall_mem_cons.mpr ⟨List.mem_of_getElem? (i := 4) rfl, List.forall_mem_cons.mpr ⟨List.mem_of_getElem? (i := 0) rfl, fun _ h => nomatch h⟩⟩⟩⟩) ?_
            exact ihJ6 _ (MN.lt hmnn7 (by omega) (by omega)) I31 L32 x36 rfl hI31 (Chg.cons S12 (Chg.mono S33 (by decide)) (by decide)) (by omega)
          refine z_iconst C (z := -1) rfl rfl rfl (fun x37 ex37 => ?_)
          exact k_iret C rfl (Or.inl rfl) (Nat.le_of_ble_eq_true rfl) (Nat.le_of_ble_eq_true rfl) ⟨_, _, _, rfl, rfl, hI31, (Chg.cons S3 (Chg.cons S12 (Chg.mono S33 (by decide)) (by decide)) (by decide))⟩
        refine k_iload_n C rfl rfl rfl ?_
        refine b_if_ne C (t := 50) rfl rfl rfl (fun c38 => ?_) (fun c38 => ?_)
        · skip
          refine z_iconst C (z := 0) rfl rfl rfl (fun x39 ex39 => ?_)
          refine c_VI C (s_X1_isTotalLaid hS hI13 H_r0) rfl rfl rfl rfl rfl ⟨_, rfl, rfl, T_r0, Nat.le_of_ble_eq_true rfl⟩ rfl rfl (Nat.le_of_ble_eq_true rfl) (Nat.le_of_ble_eq_true rfl) (Nat.le_of_ble_eq_true rfl) ?_
          rintro x40 I41 L42 ⟨o0x40, o1x40, hI41, S43⟩
          have e44 := Chg.k S43 T_r1 (by decide) (by decide) ex14
          have gx40 := rg x40
          refine k_istore C (lw := [(5, .int x40), (0, .ref r0), (1, .ref r1), (2, .int n2), (3, .int x10), (4, .int x24)]) rfl rfl (Nat.le_of_ble_eq_true rfl) rfl ?_
          refine k_goto C (pc2 := 92) rfl rfl ?_
          refine k_iload C rfl rfl rfl ?_
          refine b_if_ne C (t := 99) rfl rfl rfl (fun c45 => ?_) (fun c45 => ?_)
          · skip
            refine z_iinc C (z := 1) (lw := fun x46 => [(3, .int x46), (5, .int x40), (0, .ref r0), (1, .ref r1), (2, .int n2), (4, .int x24)]) rfl rfl rfl (Nat.le_of_ble_eq_true rfl) rfl ⟨by omega, by omega⟩ (fun _ => rfl) (fun x46 ex46 => ?_)
            show V 102 [(3, .int x46), (5, .int x40), (0, .ref r0), (1, .ref r1), (2, .int n2), (4, .int x24)] _ _ _ _
            refine k_goto C (pc2 := 7) rfl rfl ?_
            refine k_sub S [(0, .ref r0), (1, .ref r1), (2, .int n2), (3, .int x46)] (List.forall_mem_cons.mpr ⟨List.mem_of_getElem? (i := 2) rfl, List.forall_mem_cons.mpr ⟨List.mem_of_getElem? (i := 3) rfl, List.forall_mem_cons.mpr ⟨List.mem_of_getElem? (i := 4) rfl, List.forall_mem_cons.mpr ⟨List.mem_of_getElem? (i := 0) rfl, fun _ h => nomatch h⟩⟩⟩⟩) ?_
            exact ihJ6 _ (MN.lt hmnn7 (by omega) (by omega)) I41 L42 x46 rfl hI41 (Chg.cons S12 (Chg.mono S43 (by decide)) (by decide)) (by omega)
          refine z_iconst C (z := -1) rfl rfl rfl (fun x47 ex47 => ?_)
          exact k_iret C rfl (Or.inl rfl) (Nat.le_of_ble_eq_true rfl) (Nat.le_of_ble_eq_true rfl) ⟨_, _, _, rfl, rfl, hI41, (Chg.cons S3 (Chg.cons S12 (Chg.mono S43 (by decide)) (by decide)) (by decide))⟩
        refine z_iconst C (z := 1) rfl rfl rfl (fun x48 ex48 => ?_)
        refine k_goto C (pc2 := 51) rfl rfl ?_
        refine c_VI C (s_X1_isTotalLaid hS hI13 H_r0) rfl rfl rfl rfl rfl ⟨_, rfl, rfl, T_r0, Nat.le_of_ble_eq_true rfl⟩ rfl rfl (Nat.le_of_ble_eq_true rfl) (Nat.le_of_ble_eq_true rfl) (Nat.le_of_ble_eq_true rfl) ?_
        rintro x49 I50 L51 ⟨o0x49, o1x49, hI50, S52⟩
        have e53 := Chg.k S52 T_r1 (by decide) (by decide) ex14
        have gx49 := rg x49
        refine k_istore C (lw := [(5, .int x49), (0, .ref r0), (1, .ref r1), (2, .int n2), (3, .int x10), (4, .int x24)]) rfl rfl (Nat.le_of_ble_eq_true rfl) rfl ?_
        refine k_goto C (pc2 := 92) rfl rfl ?_
        refine k_iload C rfl rfl rfl ?_
        refine b_if_ne C (t := 99) rfl rfl rfl (fun c54 => ?_) (fun c54 => ?_)
        · skip
          refine z_iinc C (z := 1) (lw := fun x55 => [(3, .int x55), (5, .int x49), (0, .ref r0), (1, .ref r1), (2, .int n2), (4, .int x24)]) rfl rfl rfl (Nat.le_of_ble_eq_true rfl) rfl ⟨by omega, by omega⟩ (fun _ => rfl) (fun x55 ex55 => ?_)
          show V 102 [(3, .int x55), (5, .int x49), (0, .ref r0), (1, .ref r1), (2, .int n2), (4, .int x24)] _ _ _ _
          refine k_goto C (pc2 := 7) rfl rfl ?_
          refine k_sub S [(0, .ref r0), (1, .ref r1), (2, .int n2), (3, .int x55)] (List.forall_mem_cons.mpr ⟨List.mem_of_getElem? (i := 2) rfl, List.forall_mem_cons.mpr ⟨List.mem_of_getElem? (i := 3) rfl, List.forall_mem_cons.mpr ⟨List.mem_of_getElem? (i := 4) rfl, List.forall_mem_cons.mpr ⟨List.mem_of_getElem? (i := 0) rfl, fun _ h => nomatch h⟩⟩⟩⟩) ?_
          exact ihJ6 _ (MN.lt hmnn7 (by omega) (by omega)) I50 L51 x55 rfl hI50 (Chg.cons S12 (Chg.mono S52 (by decide)) (by decide)) (by omega)
        refine z_iconst C (z := -1) rfl rfl rfl (fun x56 ex56 => ?_)
        exact k_iret C rfl (Or.inl rfl) (Nat.le_of_ble_eq_true rfl) (Nat.le_of_ble_eq_true rfl) ⟨_, _, _, rfl, rfl, hI50, (Chg.cons S3 (Chg.cons S12 (Chg.mono S52 (by decide)) (by decide)) (by decide))⟩
      refine b_if_eq C (t := 36) rfl rfl rfl (fun c57 => ?_) (fun c57 => ?_)
      · skip
        refine k_sub S [(0, .ref r0), (1, .ref r1), (2, .int n2), (3, .int x10), (4, .int x24)] (List.forall_mem_cons.mpr ⟨List.mem_of_getElem? (i := 2) rfl, List.forall_mem_cons.mpr ⟨List.mem_of_getElem? (i := 3) rfl, List.forall_mem_cons.mpr ⟨List.mem_of_getElem? (i := 4) rfl, List.forall_mem_cons.mpr ⟨List.mem_of_getElem? (i := 5) rfl, List.forall_mem_cons.mpr ⟨List.mem_of_getElem? (i := 1) rfl, fun _ h => nomatch h⟩⟩⟩⟩⟩) ?_
        exact J26 
      refine k_iload C rfl rfl rfl ?_
      refine z_iconst C (z := 1) rfl rfl rfl (fun x58 ex58 => ?_)
      refine b_icmp_ne C (t := 59) rfl rfl rfl (fun c59 => ?_) (fun c59 => ?_)
      · skip
        refine k_iload C rfl rfl rfl ?_
        refine z_iconst C (z := 5) rfl rfl rfl (fun x60 ex60 => ?_)
        refine b_icmp_eq C (t := 92) rfl rfl rfl (fun c61 => ?_) (fun c61 => ?_)
        · skip
          refine k_iload C rfl rfl rfl ?_
          refine b_if_ne C (t := 99) rfl rfl rfl (fun c62 => ?_) (fun c62 => by exfalso; omega)
          refine z_iinc C (z := 1) (lw := fun x63 => [(3, .int x63), (5, .int x25), (4, .int x24), (0, .ref r0), (1, .ref r1), (2, .int n2)]) rfl rfl rfl (Nat.le_of_ble_eq_true rfl) rfl ⟨by omega, by omega⟩ (fun _ => rfl) (fun x63 ex63 => ?_)
          show V 102 [(3, .int x63), (5, .int x25), (4, .int x24), (0, .ref r0), (1, .ref r1), (2, .int n2)] _ _ _ _
          refine k_goto C (pc2 := 7) rfl rfl ?_
          refine k_sub S [(0, .ref r0), (1, .ref r1), (2, .int n2), (3, .int x63)] (List.forall_mem_cons.mpr ⟨List.mem_of_getElem? (i := 3) rfl, List.forall_mem_cons.mpr ⟨List.mem_of_getElem? (i := 4) rfl, List.forall_mem_cons.mpr ⟨List.mem_of_getElem? (i := 5) rfl, List.forall_mem_cons.mpr ⟨List.mem_of_getElem? (i := 0) rfl, fun _ h => nomatch h⟩⟩⟩⟩) ?_
          exact ihJ6 _ (MN.lt hmnn7 (by omega) (by omega)) I8 L9 x63 rfl hI13 (Chg.mono S12 (by decide)) (by omega)
        refine k_aload_n C rfl rfl rfl ?_
        refine k_iload C rfl rfl rfl ?_
        refine k_iload C rfl rfl rfl ?_
        refine z_iconst C (z := 4) rfl rfl rfl (fun x64 ex64 => ?_)
        refine b_icmp_ne C (t := 86) rfl rfl rfl (fun c65 => ?_) (fun c65 => ?_)
        · skip
          refine z_iconst C (z := 0) rfl rfl rfl (fun x66 ex66 => ?_)
          refine c_VI C (s_X1_isTotalJoined hS hI13 H_r0) rfl rfl rfl rfl rfl ⟨_, rfl, rfl, T_r0, Nat.le_of_ble_eq_true rfl⟩ rfl rfl (Nat.le_of_ble_eq_true rfl) (Nat.le_of_ble_eq_true rfl) (Nat.le_of_ble_eq_true rfl) ?_
          rintro x67 I68 L69 ⟨o0x67, o1x67, hI68, S70⟩
          have e71 := Chg.k S70 T_r1 (by decide) (by decide) ex14
          have gx67 := rg x67
          refine k_istore C (lw := [(5, .int x67), (4, .int x24), (0, .ref r0), (1, .ref r1), (2, .int n2), (3, .int x10)]) rfl rfl (Nat.le_of_ble_eq_true rfl) rfl ?_
          refine k_iload C rfl rfl rfl ?_
          refine b_if_ne C (t := 99) rfl rfl rfl (fun c72 => ?_) (fun c72 => ?_)
          · skip
            refine z_iinc C (z := 1) (lw := fun x73 => [(3, .int x73), (5, .int x67), (4, .int x24), (0, .ref r0), (1, .ref r1), (2, .int n2)]) rfl rfl rfl (Nat.le_of_ble_eq_true rfl) rfl ⟨by omega, by omega⟩ (fun _ => rfl) (fun x73 ex73 => ?_)
            show V 102 [(3, .int x73), (5, .int x67), (4, .int x24), (0, .ref r0), (1, .ref r1), (2, .int n2)] _ _ _ _
            refine k_goto C (pc2 := 7) rfl rfl ?_
            refine k_sub S [(0, .ref r0), (1, .ref r1), (2, .int n2), (3, .int x73)] (List.forall_mem_cons.mpr ⟨List.mem_of_getElem? (i := 3) rfl, List.forall_mem_cons.mpr ⟨List.mem_of_getElem? (i := 4) rfl, List.forall_mem_cons.mpr ⟨List.mem_of_getElem? (i := 5) rfl, List.forall_mem_cons.mpr ⟨List.mem_of_getElem? (i := 0) rfl, fun _ h => nomatch h⟩⟩⟩⟩) ?_
            exact ihJ6 _ (MN.lt hmnn7 (by omega) (by omega)) I68 L69 x73 rfl hI68 (Chg.cons S12 (Chg.mono S70 (by decide)) (by decide)) (by omega)
          refine z_iconst C (z := -1) rfl rfl rfl (fun x74 ex74 => ?_)
          exact k_iret C rfl (Or.inl rfl) (Nat.le_of_ble_eq_true rfl) (Nat.le_of_ble_eq_true rfl) ⟨_, _, _, rfl, rfl, hI68, (Chg.cons S3 (Chg.cons S12 (Chg.mono S70 (by decide)) (by decide)) (by decide))⟩
        refine k_iload_n C rfl rfl rfl ?_
        refine b_if_eq C (t := 86) rfl rfl rfl (fun c75 => ?_) (fun c75 => ?_)
        · skip
          refine z_iconst C (z := 0) rfl rfl rfl (fun x76 ex76 => ?_)
          refine c_VI C (s_X1_isTotalJoined hS hI13 H_r0) rfl rfl rfl rfl rfl ⟨_, rfl, rfl, T_r0, Nat.le_of_ble_eq_true rfl⟩ rfl rfl (Nat.le_of_ble_eq_true rfl) (Nat.le_of_ble_eq_true rfl) (Nat.le_of_ble_eq_true rfl) ?_
          rintro x77 I78 L79 ⟨o0x77, o1x77, hI78, S80⟩
          have e81 := Chg.k S80 T_r1 (by decide) (by decide) ex14
          have gx77 := rg x77
          refine k_istore C (lw := [(5, .int x77), (4, .int x24), (0, .ref r0), (1, .ref r1), (2, .int n2), (3, .int x10)]) rfl rfl (Nat.le_of_ble_eq_true rfl) rfl ?_
          refine k_iload C rfl rfl rfl ?_
          refine b_if_ne C (t := 99) rfl rfl rfl (fun c82 => ?_) (fun c82 => ?_)
          · skip
            refine z_iinc C (z := 1) (lw := fun x83 => [(3, .int x83), (5, .int x77), (4, .int x24), (0, .ref r0), (1, .ref r1), (2, .int n2)]) rfl rfl rfl (Nat.le_of_ble_eq_true rfl) rfl ⟨by omega, by omega⟩ (fun _ => rfl) (fun x83 ex83 => ?_)
            show V 102 [(3, .int x83), (5, .int x77), (4, .int x24), (0, .ref r0), (1, .ref r1), (2, .int n2)] _ _ _ _
            refine k_goto C (pc2 := 7) rfl rfl ?_
            refine k_sub S [(0, .ref r0), (1, .ref r1), (2, .int n2), (3, .int x83)] (List.forall_mem_cons.mpr ⟨List.mem_of_getElem? (i := 3) rfl, List.forall_mem_cons.mpr ⟨List.mem_of_getElem? (i := 4) rfl, List.forall_mem_cons.mpr ⟨List.mem_of_getElem? (i := 5) rfl, List.forall_mem_cons.mpr ⟨List.mem_of_getElem? (i := 0) rfl, fun _ h => nomatch h⟩⟩⟩⟩) ?_
            exact ihJ6 _ (MN.lt hmnn7 (by omega) (by omega)) I78 L79 x83 rfl hI78 (Chg.cons S12 (Chg.mono S80 (by decide)) (by decide)) (by omega)
          refine z_iconst C (z := -1) rfl rfl rfl (fun x84 ex84 => ?_)
          exact k_iret C rfl (Or.inl rfl) (Nat.le_of_ble_eq_true rfl) (Nat.le_of_ble_eq_true rfl) ⟨_, _, _, rfl, rfl, hI78, (Chg.cons S3 (Chg.cons S12 (Chg.mono S80 (by decide)) (by decide)) (by decide))⟩
        refine k_aload_n C rfl rfl rfl ?_
        refine k_iload_n C rfl rfl rfl ?_
        refine c_VI C (s_X7_sizeAt hS hI13 H_r1) rfl rfl rfl rfl rfl ⟨_, rfl, rfl, T_r1, Nat.le_of_ble_eq_true rfl⟩ rfl rfl (Nat.le_of_ble_eq_true rfl) (Nat.le_of_ble_eq_true rfl) (Nat.le_of_ble_eq_true rfl) ?_
        rintro x85 _ _ ⟨rfl, rfl⟩
        have gx85 := rg x85
        refine k_goto C (pc2 := 87) rfl rfl ?_
        refine c_VI C (s_X1_isTotalJoined hS hI13 H_r0) rfl rfl rfl rfl rfl ⟨_, rfl, rfl, T_r0, Nat.le_of_ble_eq_true rfl⟩ rfl rfl (Nat.le_of_ble_eq_true rfl) (Nat.le_of_ble_eq_true rfl) (Nat.le_of_ble_eq_true rfl) ?_
        rintro x86 I87 L88 ⟨o0x86, o1x86, hI87, S89⟩
        have e90 := Chg.k S89 T_r1 (by decide) (by decide) ex14
        have gx86 := rg x86
        refine k_istore C (lw := [(5, .int x86), (4, .int x24), (0, .ref r0), (1, .ref r1), (2, .int n2), (3, .int x10)]) rfl rfl (Nat.le_of_ble_eq_true rfl) rfl ?_
        refine k_iload C rfl rfl rfl ?_
        refine b_if_ne C (t := 99) rfl rfl rfl (fun c91 => ?_) (fun c91 => ?_)
        · skip
          refine z_iinc C (z := 1) (lw := fun x92 => [(3, .int x92), (5, .int x86), (4, .int x24), (0, .ref r0), (1, .ref r1), (2, .int n2)]) rfl rfl rfl (Nat.le_of_ble_eq_true rfl) rfl ⟨by omega, by omega⟩ (fun _ => rfl) (fun x92 ex92 => ?_)
          show V 102 [(3, .int x92), (5, .int x86), (4, .int x24), (0, .ref r0), (1, .ref r1), (2, .int n2)] _ _ _ _
          refine k_goto C (pc2 := 7) rfl rfl ?_
          refine k_sub S [(0, .ref r0), (1, .ref r1), (2, .int n2), (3, .int x92)] (List.forall_mem_cons.mpr ⟨List.mem_of_getElem? (i := 3) rfl, List.forall_mem_cons.mpr ⟨List.mem_of_getElem? (i := 4) rfl, List.forall_mem_cons.mpr ⟨List.mem_of_getElem? (i := 5) rfl, List.forall_mem_cons.mpr ⟨List.mem_of_getElem? (i := 0) rfl, fun _ h => nomatch h⟩⟩⟩⟩) ?_
          exact ihJ6 _ (MN.lt hmnn7 (by omega) (by omega)) I87 L88 x92 rfl hI87 (Chg.cons S12 (Chg.mono S89 (by decide)) (by decide)) (by omega)
        refine z_iconst C (z := -1) rfl rfl rfl (fun x93 ex93 => ?_)
        exact k_iret C rfl (Or.inl rfl) (Nat.le_of_ble_eq_true rfl) (Nat.le_of_ble_eq_true rfl) ⟨_, _, _, rfl, rfl, hI87, (Chg.cons S3 (Chg.cons S12 (Chg.mono S89 (by decide)) (by decide)) (by decide))⟩
      refine k_sub S [(0, .ref r0), (1, .ref r1), (2, .int n2), (3, .int x10), (4, .int x24)] (List.forall_mem_cons.mpr ⟨List.mem_of_getElem? (i := 2) rfl, List.forall_mem_cons.mpr ⟨List.mem_of_getElem? (i := 3) rfl, List.forall_mem_cons.mpr ⟨List.mem_of_getElem? (i := 4) rfl, List.forall_mem_cons.mpr ⟨List.mem_of_getElem? (i := 5) rfl, List.forall_mem_cons.mpr ⟨List.mem_of_getElem? (i := 1) rfl, fun _ h => nomatch h⟩⟩⟩⟩⟩) ?_
      exact J26 
  refine k_istore_n C (lw := [(3, .int x5), (0, .ref r0), (1, .ref r1), (2, .int n2)]) rfl rfl (Nat.le_of_ble_eq_true rfl) rfl ?_
  refine k_sub S [(0, .ref r0), (1, .ref r1), (2, .int n2), (3, .int x5)] (List.forall_mem_cons.mpr ⟨List.mem_of_getElem? (i := 1) rfl, List.forall_mem_cons.mpr ⟨List.mem_of_getElem? (i := 2) rfl, List.forall_mem_cons.mpr ⟨List.mem_of_getElem? (i := 3) rfl, List.forall_mem_cons.mpr ⟨List.mem_of_getElem? (i := 0) rfl, fun _ h => nomatch h⟩⟩⟩⟩) ?_
  exact J6 _ I2 L x5 rfl hI2 Chg.rf (by omega)

theorem s_X3_pointAt {d : Nat} {T N : Nat → Nat} {I : IT} {L : LT} {R : RT} {A B : Nat → Prop} {r0 : Nat} {n1 : Int32} (hS : SUB B A) (hI : IX A T I) (H_r0 : (hs_Po T N R A B) r0) : Ex (d + 1) 47 [.ref r0, .int n1] (T, N, I, L, R) 0 0 (pI T N R (fun x9 I9 L9 => (I = I9 ∧ L = L9))) := by
  refine ⟨_, rfl, Nat.le_of_ble_eq_true rfl, fun V C S => ?_⟩
  show V 0 [(0, .ref r0), (1, .int n1)] [] (T, N, I, L, R) 0 0
  have gn1 := rg n1
  refine k_iload_n C rfl rfl rfl ?_
  refine b_if_lt C (t := 21) rfl rfl rfl (fun c1 => ?_) (fun c1 => ?_)
  · skip
    refine z_iconst C (z := -1) rfl rfl rfl (fun x2 ex2 => ?_)
    refine k_goto C (pc2 := 31) rfl rfl ?_
    exact k_iret C rfl (Or.inl rfl) (Nat.le_of_ble_eq_true rfl) (Nat.le_of_ble_eq_true rfl) ⟨_, _, _, rfl, rfl, rfl, rfl⟩
  refine k_iload_n C rfl rfl rfl ?_
  refine k_aload_n C rfl rfl rfl ?_
  obtain ⟨T_r0, A_r0, B_r0, ⟨r0_1, R_r0_1, H_r0_1⟩, ⟨r0_2, R_r0_2, H_r0_2⟩, ⟨r0_3, R_r0_3, H_r0_3⟩, ⟨r0_4, R_r0_4, H_r0_4⟩, ⟨r0_5, R_r0_5, H_r0_5⟩⟩ := id H_r0
  refine z_gI C rfl rfl rfl T_r0 rfl (fun x3 ex3 => ?_)
  have gx3 := rg x3
  refine b_icmp_ge C (t := 21) rfl rfl rfl (fun c4 => ?_) (fun c4 => ?_)
  · skip
    refine z_iconst C (z := -1) rfl rfl rfl (fun x5 ex5 => ?_)
    refine k_goto C (pc2 := 31) rfl rfl ?_
    exact k_iret C rfl (Or.inl rfl) (Nat.le_of_ble_eq_true rfl) (Nat.le_of_ble_eq_true rfl) ⟨_, _, _, rfl, rfl, rfl, rfl⟩
  refine k_iload_n C rfl rfl rfl ?_
  refine k_aload_n C rfl rfl rfl ?_
  refine g_R C rfl rfl rfl T_r0 rfl R_r0_2 ?_
  obtain ⟨T_r0_2, N_r0_2, A_r0_2⟩ := id H_r0_2
  refine z_len C (n := 3) rfl rfl (by rw [T_r0_2]; exact Nat.le_of_ble_eq_true rfl) N_r0_2 (Nat.le_of_ble_eq_true rfl) (fun x6 ex6 => ?_)
  refine b_icmp_lt C (t := 25) rfl rfl rfl (fun c7 => ?_) (fun c7 => ?_)
  · skip
    refine k_aload_n C rfl rfl rfl ?_
    refine g_R C rfl rfl rfl T_r0 rfl R_r0_2 ?_
    refine k_iload_n C rfl rfl rfl ?_
    refine z_aI C rfl rfl T_r0_2 N_r0_2 (by omega) (by omega) (fun x8 ex8 => ?_)
    have gx8 := rg x8
    exact k_iret C rfl (Or.inl rfl) (Nat.le_of_ble_eq_true rfl) (Nat.le_of_ble_eq_true rfl) ⟨_, _, _, rfl, rfl, rfl, rfl⟩
  refine z_iconst C (z := -1) rfl rfl rfl (fun x9 ex9 => ?_)
  refine k_goto C (pc2 := 31) rfl rfl ?_
  exact k_iret C rfl (Or.inl rfl) (Nat.le_of_ble_eq_true rfl) (Nat.le_of_ble_eq_true rfl) ⟨_, _, _, rfl, rfl, rfl, rfl⟩

theorem s_X3_numberAt {d : Nat} {T N : Nat → Nat} {I : IT} {L : LT} {R : RT} {A B : Nat → Prop} {r0 : Nat} {n1 : Int32} (hS : SUB B A) (hI : IX A T I) (H_r0 : (hs_Po T N R A B) r0) : Ex (d + 1) 48 [.ref r0, .int n1] (T, N, I, L, R) 0 0 (pI T N R (fun x9 I9 L9 => (I = I9 ∧ L = L9))) := by
  refine ⟨_, rfl, Nat.le_of_ble_eq_true rfl, fun V C S => ?_⟩
  show V 0 [(0, .ref r0), (1, .int n1)] [] (T, N, I, L, R) 0 0
  have gn1 := rg n1
  refine k_iload_n C rfl rfl rfl ?_
  refine b_if_lt C (t := 21) rfl rfl rfl (fun c1 => ?_) (fun c1 => ?_)
  · skip
    refine z_iconst C (z := -1) rfl rfl rfl (fun x2 ex2 => ?_)
    refine k_goto C (pc2 := 31) rfl rfl ?_
    exact k_iret C rfl (Or.inl rfl) (Nat.le_of_ble_eq_true rfl) (Nat.le_of_ble_eq_true rfl) ⟨_, _, _, rfl, rfl, rfl, rfl⟩
  refine k_iload_n C rfl rfl rfl ?_
  refine k_aload_n C rfl rfl rfl ?_
  obtain ⟨T_r0, A_r0, B_r0, ⟨r0_1, R_r0_1, H_r0_1⟩, ⟨r0_2, R_r0_2, H_r0_2⟩, ⟨r0_3, R_r0_3, H_r0_3⟩, ⟨r0_4, R_r0_4, H_r0_4⟩, ⟨r0_5, R_r0_5, H_r0_5⟩⟩ := id H_r0
  refine z_gI C rfl rfl rfl T_r0 rfl (fun x3 ex3 => ?_)
  have gx3 := rg x3
  refine b_icmp_ge C (t := 21) rfl rfl rfl (fun c4 => ?_) (fun c4 => ?_)
  · skip
    refine z_iconst C (z := -1) rfl rfl rfl (fun x5 ex5 => ?_)
    refine k_goto C (pc2 := 31) rfl rfl ?_
    exact k_iret C rfl (Or.inl rfl) (Nat.le_of_ble_eq_true rfl) (Nat.le_of_ble_eq_true rfl) ⟨_, _, _, rfl, rfl, rfl, rfl⟩
  refine k_iload_n C rfl rfl rfl ?_
  refine k_aload_n C rfl rfl rfl ?_
  refine g_R C rfl rfl rfl T_r0 rfl R_r0_3 ?_
  obtain ⟨T_r0_3, N_r0_3, A_r0_3⟩ := id H_r0_3
  refine z_len C (n := 3) rfl rfl (by rw [T_r0_3]; exact Nat.le_of_ble_eq_true rfl) N_r0_3 (Nat.le_of_ble_eq_true rfl) (fun x6 ex6 => ?_)
  refine b_icmp_lt C (t := 25) rfl rfl rfl (fun c7 => ?_) (fun c7 => ?_)
  · skip
    refine k_aload_n C rfl rfl rfl ?_
    refine g_R C rfl rfl rfl T_r0 rfl R_r0_3 ?_
    refine k_iload_n C rfl rfl rfl ?_
    refine z_aI C rfl rfl T_r0_3 N_r0_3 (by omega) (by omega) (fun x8 ex8 => ?_)
    have gx8 := rg x8
    exact k_iret C rfl (Or.inl rfl) (Nat.le_of_ble_eq_true rfl) (Nat.le_of_ble_eq_true rfl) ⟨_, _, _, rfl, rfl, rfl, rfl⟩
  refine z_iconst C (z := -1) rfl rfl rfl (fun x9 ex9 => ?_)
  refine k_goto C (pc2 := 31) rfl rfl ?_
  exact k_iret C rfl (Or.inl rfl) (Nat.le_of_ble_eq_true rfl) (Nat.le_of_ble_eq_true rfl) ⟨_, _, _, rfl, rfl, rfl, rfl⟩

theorem s_X3_share {d : Nat} {T N : Nat → Nat} {I : IT} {L : LT} {R : RT} {A B : Nat → Prop} {r0 r1 : Nat} (hS : SUB B A) (hI : IX A T I) (H_r0 : (hs_Po T N R A B) r0) (H_r1 : (hs_F T N R A B) r1) : Ex (d + 4) 49 [.ref r0, .ref r1] (T, N, I, L, R) 0 0 (pV T N R (fun I9 L9 => (IX A T I9 ∧ Chg B T [] I L I9 L9))) := by
  refine ⟨_, rfl, Nat.le_of_ble_eq_true rfl, fun V C S => ?_⟩
  show V 0 [(0, .ref r0), (1, .ref r1)] [] (T, N, I, L, R) 0 0
  refine z_iconst C (z := 1) rfl rfl rfl (fun x1 ex1 => ?_)
  refine k_istore_n C (lw := [(2, .int x1), (0, .ref r0), (1, .ref r1)]) rfl rfl (Nat.le_of_ble_eq_true rfl) rfl ?_
  refine z_iconst C (z := 0) rfl rfl rfl (fun x2 ex2 => ?_)
  have J3 : ∀ (nn4 : Nat) (I5 : IT) (L6 : LT) (x7 : Int32) (x8 : Int32), (MN (9 - x8.toInt) nn4) → (IX A T I5) → (Chg B T [] I L I5 L6) → (0 ≤ x8.toInt) → (x8.toInt ≤ 9) → V 4 [(0, .ref r0), (1, .ref r1), (2, .int x7), (3, .int x8)] [] (T, N, I5, L6, R) 0 0 := by
    intro nn4
    induction nn4 using Nat.strongRecOn with
    | _ nn4 ihJ3 =>
      intro I5 L6 x7 x8 hmnn4 hI12 S11 b9 b10
      have gx7 := rg x7
      have gx8 := rg x8
      refine k_iload_n C rfl rfl rfl ?_
      refine k_aload_n C rfl rfl rfl ?_
      obtain ⟨T_r0, A_r0, B_r0, ⟨r0_1, R_r0_1, H_r0_1⟩, ⟨r0_2, R_r0_2, H_r0_2⟩, ⟨r0_3, R_r0_3, H_r0_3⟩, ⟨r0_4, R_r0_4, H_r0_4⟩, ⟨r0_5, R_r0_5, H_r0_5⟩⟩ := id H_r0
      refine z_gI C rfl rfl rfl T_r0 rfl (fun x13 ex13 => ?_)
      have gx13 := rg x13
      refine b_icmp_gt C (t := 68) rfl rfl rfl (fun c14 => ?_) (fun c14 => ?_)
      · skip
        exact k_vret C rfl rfl (Nat.le_of_ble_eq_true rfl) (Nat.le_of_ble_eq_true rfl) ⟨_, _, rfl, rfl, hI12, (Chg.mono S11 (by decide))⟩
      refine k_iload_n C rfl rfl rfl ?_
      refine k_aload_n C rfl rfl rfl ?_
      refine g_R C rfl rfl rfl T_r0 rfl R_r0_4 ?_
      obtain ⟨T_r0_4, N_r0_4, A_r0_4⟩ := id H_r0_4
      refine z_len C (n := 9) rfl rfl (by rw [T_r0_4]; exact Nat.le_of_ble_eq_true rfl) N_r0_4 (Nat.le_of_ble_eq_true rfl) (fun x15 ex15 => ?_)
      refine b_icmp_ge C (t := 68) rfl rfl rfl (fun c16 => ?_) (fun c16 => ?_)
      · skip
        exact k_vret C rfl rfl (Nat.le_of_ble_eq_true rfl) (Nat.le_of_ble_eq_true rfl) ⟨_, _, rfl, rfl, hI12, (Chg.mono S11 (by decide))⟩
      refine k_aload_n C rfl rfl rfl ?_
      refine g_R C rfl rfl rfl T_r0 rfl R_r0_4 ?_
      refine k_iload_n C rfl rfl rfl ?_
      refine k_aload_n C rfl rfl rfl ?_
      refine g_R C rfl rfl rfl T_r0 rfl R_r0_1 ?_
      refine k_aload_n C rfl rfl rfl ?_
      refine k_iload_n C rfl rfl rfl ?_
      obtain ⟨T_r1, A_r1, ⟨r1_1, R_r1_1, H_r1_1⟩⟩ := id H_r1
      refine c_VI C (s_X2_get hS hI12 H_r1) rfl rfl rfl rfl rfl ⟨_, rfl, rfl, T_r1, Nat.le_of_ble_eq_true rfl⟩ rfl rfl (Nat.le_of_ble_eq_true rfl) (Nat.le_of_ble_eq_true rfl) (Nat.le_of_ble_eq_true rfl) ?_
      rintro x17 _ _ ⟨rfl, rfl⟩
      have gx17 := rg x17
      refine k_aload_n C rfl rfl rfl ?_
      refine g_R C rfl rfl rfl T_r0 rfl R_r0_1 ?_
      refine k_iload_n C rfl rfl rfl ?_
      obtain ⟨T_r0_1, A_r0_1, B_r0_1, ⟨r0_1_0, R_r0_1_0, H_r0_1_0⟩, ⟨r0_1_1, R_r0_1_1, H_r0_1_1⟩, ⟨r0_1_2, R_r0_1_2, H_r0_1_2⟩⟩ := id H_r0_1
      refine c_VI C (s_X0_inverse hS hI12 H_r0_1) rfl rfl rfl rfl rfl ⟨_, rfl, rfl, T_r0_1, Nat.le_of_ble_eq_true rfl⟩ rfl rfl (Nat.le_of_ble_eq_true rfl) (Nat.le_of_ble_eq_true rfl) (Nat.le_of_ble_eq_true rfl) ?_
      rintro x18 _ _ ⟨rfl, rfl⟩
      have gx18 := rg x18
      refine zt_imul C rfl rfl (fun x19 => ?_)
      have gx19 := rg x19
      refine z_i2l C rfl rfl (fun lg20 elg20 => ?_)
      refine c_VI C (s_X0_of hS hI12 H_r0_1) rfl rfl rfl rfl rfl ⟨_, rfl, rfl, T_r0_1, Nat.le_of_ble_eq_true rfl⟩ rfl rfl (Nat.le_of_ble_eq_true rfl) (Nat.le_of_ble_eq_true rfl) (Nat.le_of_ble_eq_true rfl) ?_
      rintro x21 _ _ ⟨rfl, rfl⟩
      have gx21 := rg x21
      refine z_sI C rfl rfl T_r0_4 N_r0_4 (by omega) (by omega) (fun I22 uI22 => ?_)
      have hI22 : IX A T I22 := IX.a hI12 T_r0_4 (Nat.le_of_ble_eq_true rfl) uI22
      have S23 : Chg B T [] I5 L6 I22 L6 := Chg.a A_r0_4 T_r0_4 (Nat.le_of_ble_eq_true rfl) uI22
      have e24 := u2_n uI22 (t_nq T_r0 T_r0_4 (by decide)) ex13
      refine k_iload_n C rfl rfl rfl ?_
      refine k_aload_n C rfl rfl rfl ?_
      refine g_I C rfl rfl rfl T_r0 rfl e24 ?_
      refine k_iload_n C rfl rfl rfl ?_
      refine z_isub C rfl rfl ⟨by omega, by omega⟩ (fun x25 ex25 => ?_)
      refine zt_imul C rfl rfl (fun x26 => ?_)
      have gx26 := rg x26
      refine k_iload_n C rfl rfl rfl ?_
      refine z_iconst C (z := 1) rfl rfl rfl (fun x27 ex27 => ?_)
      refine z_iadd C rfl rfl ⟨by omega, by omega⟩ (fun x28 ex28 => ?_)
      refine zt_idiv C rfl rfl (by omega) (fun x29 => ?_)
      have gx29 := rg x29
      refine k_istore_n C (lw := [(2, .int x29), (0, .ref r0), (1, .ref r1), (3, .int x8)]) rfl rfl (Nat.le_of_ble_eq_true rfl) rfl ?_
      refine z_iinc C (z := 1) (lw := fun x30 => [(3, .int x30), (2, .int x29), (0, .ref r0), (1, .ref r1)]) rfl rfl rfl (Nat.le_of_ble_eq_true rfl) rfl ⟨by omega, by omega⟩ (fun _ => rfl) (fun x30 ex30 => ?_)
      show V 65 [(3, .int x30), (2, .int x29), (0, .ref r0), (1, .ref r1)] _ _ _ _
      refine k_goto C (pc2 := 4) rfl rfl ?_
      refine k_sub S [(0, .ref r0), (1, .ref r1), (2, .int x29), (3, .int x30)] (List.forall_mem_cons.mpr ⟨List.mem_of_getElem? (i := 2) rfl, List.forall_mem_cons.mpr ⟨List.mem_of_getElem? (i := 3) rfl, List.forall_mem_cons.mpr ⟨List.mem_of_getElem? (i := 1) rfl, List.forall_mem_cons.mpr ⟨List.mem_of_getElem? (i := 0) rfl, fun _ h => nomatch h⟩⟩⟩⟩) ?_
      exact ihJ3 _ (MN.lt hmnn4 (by omega) (by omega)) I22 L6 x29 x30 rfl hI22 (Chg.cons S11 (Chg.mono S23 (by decide)) (by decide)) (by omega) (by omega)
  refine k_istore_n C (lw := [(3, .int x2), (2, .int x1), (0, .ref r0), (1, .ref r1)]) rfl rfl (Nat.le_of_ble_eq_true rfl) rfl ?_
  refine k_sub S [(0, .ref r0), (1, .ref r1), (2, .int x1), (3, .int x2)] (List.forall_mem_cons.mpr ⟨List.mem_of_getElem? (i := 2) rfl, List.forall_mem_cons.mpr ⟨List.mem_of_getElem? (i := 3) rfl, List.forall_mem_cons.mpr ⟨List.mem_of_getElem? (i := 1) rfl, List.forall_mem_cons.mpr ⟨List.mem_of_getElem? (i := 0) rfl, fun _ h => nomatch h⟩⟩⟩⟩) ?_
  exact J3 _ I L x1 x2 rfl hI Chg.rf (by omega) (by omega)

theorem s_X3_beginRow {d : Nat} {T N : Nat → Nat} {I : IT} {L : LT} {R : RT} {A B : Nat → Prop} {r0 : Nat} (hS : SUB B A) (hI : IX A T I) (H_r0 : (hs_Po T N R A B) r0) : Ex (d + 1) 50 [.ref r0] (T, N, I, L, R) 0 0 (pV T N R (fun I9 L9 => (IX A T I9 ∧ Chg B T [(4, 7)] I L I9 L9))) := by
  refine ⟨_, rfl, Nat.le_of_ble_eq_true rfl, fun V C S => ?_⟩
  show V 0 [(0, .ref r0)] [] (T, N, I, L, R) 0 0
  refine k_aload_n C rfl rfl rfl ?_
  refine k_aload_n C rfl rfl rfl ?_
  obtain ⟨T_r0, A_r0, B_r0, ⟨r0_1, R_r0_1, H_r0_1⟩, ⟨r0_2, R_r0_2, H_r0_2⟩, ⟨r0_3, R_r0_3, H_r0_3⟩, ⟨r0_4, R_r0_4, H_r0_4⟩, ⟨r0_5, R_r0_5, H_r0_5⟩⟩ := id H_r0
  refine z_gI C rfl rfl rfl T_r0 rfl (fun x1 ex1 => ?_)
  have gx1 := rg x1
  refine z_iconst C (z := 1) rfl rfl rfl (fun x2 ex2 => ?_)
  refine zt_iadd C rfl rfl (fun x3 => ?_)
  have gx3 := rg x3
  refine z_pI C rfl rfl rfl T_r0 (Or.inr rfl) rfl (fun I4 uI4 => ?_)
  have hI4 : IX A T I4 := IX.f hI T_r0 (boX.tr (by decide) (by decide)) uI4
  have S5 : Chg B T [(4, 7)] I L I4 L := Chg.f B_r0 T_r0 uI4
  have e6 := u2_j uI4 (by decide) ex1
  have e7 := u2_e uI4
  refine z_iconst C (z := 0) rfl rfl rfl (fun x8 ex8 => ?_)
  have J9 : ∀ (nn10 : Nat) (I11 : IT) (L12 : LT) (x13 : Int32), (MN (9 - x13.toInt) nn10) → (IX A T I11) → (Chg B T [] I4 L I11 L12) → (0 ≤ x13.toInt) → (x13.toInt ≤ 9) → V 12 [(0, .ref r0), (1, .int x13)] [] (T, N, I11, L12, R) 0 0 := by
    intro nn10
    induction nn10 using Nat.strongRecOn with
    | _ nn10 ihJ9 =>
      intro I11 L12 x13 hmnn10 hI17 S16 b14 b15
      have gx13 := rg x13
      have e18 := Chg.k S16 T_r0 (by decide) (by decide) e6
      have e19 := Chg.k S16 T_r0 (by decide) (by decide) e7
      refine k_iload_n C rfl rfl rfl ?_
      refine k_aload_n C rfl rfl rfl ?_
      refine g_I C rfl rfl rfl T_r0 rfl e19 ?_
      refine b_icmp_ge C (t := 56) rfl rfl rfl (fun c20 => ?_) (fun c20 => ?_)
      · skip
        exact k_vret C rfl rfl (Nat.le_of_ble_eq_true rfl) (Nat.le_of_ble_eq_true rfl) ⟨_, _, rfl, rfl, hI17, (Chg.cons S5 (Chg.mono S16 (by decide)) (by decide))⟩
      refine k_iload_n C rfl rfl rfl ?_
      refine k_aload_n C rfl rfl rfl ?_
      refine g_R C rfl rfl rfl T_r0 rfl R_r0_5 ?_
      obtain ⟨T_r0_5, N_r0_5, A_r0_5⟩ := id H_r0_5
      refine z_len C (n := 9) rfl rfl (by rw [T_r0_5]; exact Nat.le_of_ble_eq_true rfl) N_r0_5 (Nat.le_of_ble_eq_true rfl) (fun x21 ex21 => ?_)
      refine b_icmp_ge C (t := 56) rfl rfl rfl (fun c22 => ?_) (fun c22 => ?_)
      · skip
        exact k_vret C rfl rfl (Nat.le_of_ble_eq_true rfl) (Nat.le_of_ble_eq_true rfl) ⟨_, _, rfl, rfl, hI17, (Chg.cons S5 (Chg.mono S16 (by decide)) (by decide))⟩
      refine k_iload_n C rfl rfl rfl ?_
      refine k_aload_n C rfl rfl rfl ?_
      refine g_R C rfl rfl rfl T_r0 rfl R_r0_4 ?_
      obtain ⟨T_r0_4, N_r0_4, A_r0_4⟩ := id H_r0_4
      refine z_len C (n := 9) rfl rfl (by rw [T_r0_4]; exact Nat.le_of_ble_eq_true rfl) N_r0_4 (Nat.le_of_ble_eq_true rfl) (fun x23 ex23 => ?_)
      refine b_icmp_ge C (t := 56) rfl rfl rfl (fun c24 => by exfalso; omega) (fun c24 => ?_)
      refine k_aload_n C rfl rfl rfl ?_
      refine g_R C rfl rfl rfl T_r0 rfl R_r0_5 ?_
      refine k_iload_n C rfl rfl rfl ?_
      refine k_aload_n C rfl rfl rfl ?_
      refine g_R C rfl rfl rfl T_r0 rfl R_r0_4 ?_
      refine k_iload_n C rfl rfl rfl ?_
      refine z_aI C rfl rfl T_r0_4 N_r0_4 (by omega) (by omega) (fun x25 ex25 => ?_)
      have gx25 := rg x25
      refine z_sI C rfl rfl T_r0_5 N_r0_5 (by omega) (by omega) (fun I26 uI26 => ?_)
      have hI26 : IX A T I26 := IX.a hI17 T_r0_5 (Nat.le_of_ble_eq_true rfl) uI26
      have S27 : Chg B T [] I11 L12 I26 L12 := Chg.a A_r0_5 T_r0_5 (Nat.le_of_ble_eq_true rfl) uI26
      have e28 := u2_n uI26 (t_nq T_r0 T_r0_5 (by decide)) e18
      have e29 := u2_n uI26 (t_nq T_r0 T_r0_5 (by decide)) e19
      refine z_iinc C (z := 1) (lw := fun x30 => [(1, .int x30), (0, .ref r0)]) rfl rfl rfl (Nat.le_of_ble_eq_true rfl) rfl ⟨by omega, by omega⟩ (fun _ => rfl) (fun x30 ex30 => ?_)
      show V 53 [(1, .int x30), (0, .ref r0)] _ _ _ _
      refine k_goto C (pc2 := 12) rfl rfl ?_
      refine k_sub S [(0, .ref r0), (1, .int x30)] (List.forall_mem_cons.mpr ⟨List.mem_of_getElem? (i := 1) rfl, List.forall_mem_cons.mpr ⟨List.mem_of_getElem? (i := 0) rfl, fun _ h => nomatch h⟩⟩) ?_
      exact ihJ9 _ (MN.lt hmnn10 (by omega) (by omega)) I26 L12 x30 rfl hI26 (Chg.cons S16 (Chg.mono S27 (by decide)) (by decide)) (by omega) (by omega)
  refine k_istore_n C (lw := [(1, .int x8), (0, .ref r0)]) rfl rfl (Nat.le_of_ble_eq_true rfl) rfl ?_
  refine k_sub S [(0, .ref r0), (1, .int x8)] (List.forall_mem_cons.mpr ⟨List.mem_of_getElem? (i := 1) rfl, List.forall_mem_cons.mpr ⟨List.mem_of_getElem? (i := 0) rfl, fun _ h => nomatch h⟩⟩) ?_
  exact J9 _ I4 L x8 rfl hI4 Chg.rf (by omega) (by omega)

