/-! the class in any state -/
theorem a_X11_empty {d : Nat} {T N : Nat → Nat} {I : IT} {L : LT} {R : RT} {A : Nat → Prop} {r0 : Nat} {n1 : Int32} (hI : IX A T I) (H_r0 : (h_LF T N R A) r0) : Ex (d + 4) 157 [.ref r0, .int n1] (T, N, I, L, R) 1 6 (pW [3] T N R (pI T N R (fun x9 I9 L9 => (0 ≤ x9.toInt) ∧ (x9.toInt ≤ 1) ∧ (IX A T I9 ∧ Chg A T [(3, 0)] I L I9 L9))) (fun I9 L9 => IX A T I9 ∧ Chg A T [(3, 0)] I L I9 L9)) := by
  refine ⟨_, rfl, Nat.le_of_ble_eq_true rfl, fun V C S => ?_⟩
  show V 0 [(0, .ref r0), (1, .int n1)] [] (T, N, I, L, R) 0 0
  have gn1 := rg n1
  refine k_aload_n C rfl rfl rfl ?_
  refine k_iload_n C rfl rfl rfl ?_
  obtain ⟨T_r0, A_r0, ⟨r0_0, R_r0_0, H_r0_0⟩, ⟨r0_1, R_r0_1, H_r0_1⟩, ⟨r0_2, R_r0_2, H_r0_2⟩, ⟨r0_5, R_r0_5, H_r0_5⟩, ⟨r0_6, R_r0_6, H_r0_6⟩, ⟨r0_7, R_r0_7, H_r0_7⟩, ⟨r0_8, R_r0_8, H_r0_8⟩, ⟨r0_9, R_r0_9, H_r0_9⟩, ⟨r0_10, R_r0_10, H_r0_10⟩, ⟨r0_11, R_r0_11, H_r0_11⟩, ⟨r0_12, R_r0_12, H_r0_12⟩, ⟨r0_13, R_r0_13, H_r0_13⟩⟩ := id H_r0
  refine w_VR C (a_X11_toldForm hI H_r0) rfl rfl rfl rfl rfl ⟨_, rfl, rfl, T_r0, Nat.le_of_ble_eq_true rfl⟩ rfl rfl (Nat.le_of_ble_eq_true rfl) (Nat.le_of_ble_eq_true rfl) (Nat.le_of_ble_eq_true rfl) (by decide) (fun e9 he I9 L9 hq => by obtain ⟨rfl, rfl⟩ := hq; exact Or.inl ⟨rfl, Or.inr ⟨e9, _, _, (by decide : ∀ z ∈ [3], z ∈ [3]) e9 he, rfl, rfl, hI, Chg.rf⟩⟩) ?_
  rintro yy1 _ _ ⟨hyy1, rfl, rfl⟩
  obtain ⟨rr2, err2, H_rr2⟩ := hyy1
  subst err2
  refine k_astore_n C (lw := [(2, .ref rr2), (0, .ref r0), (1, .int n1)]) rfl rfl (Nat.le_of_ble_eq_true rfl) rfl ?_
  refine z_iconst C (z := 0) rfl rfl rfl (fun x3 ex3 => ?_)
  have J4 : ∀ (nn5 : Nat) (I6 : IT) (L7 : LT) (x8 : Int32), ((20 - x8.toInt).toNat = nn5) → (IX A T I6) → (Chg A T [(3, 0)] I L I6 L7) → (0 ≤ x8.toInt) → (x8.toInt ≤ 20) → V 8 [(0, .ref r0), (2, .ref rr2), (3, .int x8)] [] (T, N, I6, L7, R) 1 6 := by
    intro nn5
    induction nn5 using Nat.strongRecOn with
    | _ nn5 ihJ4 =>
      intro I6 L7 x8 hmnn5 hI12 S11 b9 b10
      have gx8 := rg x8
      refine k_iload_n C rfl rfl rfl ?_
      refine k_aload_n C rfl rfl rfl ?_
      refine g_R C rfl rfl rfl T_r0 rfl R_r0_1 ?_
      obtain ⟨T_r0_1, A_r0_1, ⟨r0_1_6, R_r0_1_6, H_r0_1_6⟩, ⟨r0_1_7, R_r0_1_7, H_r0_1_7⟩, ⟨r0_1_8, R_r0_1_8, H_r0_1_8⟩, ⟨r0_1_9, R_r0_1_9, H_r0_1_9⟩, ⟨r0_1_10, R_r0_1_10, H_r0_1_10⟩⟩ := id H_r0_1
      refine z_gI C rfl rfl rfl T_r0_1 rfl (fun x13 ex13 => ?_)
      have gx13 := rg x13
      have ox13 := IX.p hI12 A_r0_1 T_r0_1 ex13
      refine b_icmp_gt C (t := 45) rfl rfl rfl (fun c14 => ?_) (fun c14 => ?_)
      · skip
        refine z_iconst C (z := 0) rfl rfl rfl (fun x15 ex15 => ?_)
        exact k_iret C rfl (Or.inr ⟨rfl, z01 (by omega) (by omega)⟩) (Nat.le_of_ble_eq_true rfl) (Nat.le_of_ble_eq_true rfl) (Or.inl ⟨_, _, _, rfl, rfl, by omega, by omega, hI12, (Chg.mono S11 (by decide))⟩)
      refine z_iconst C (z := 2) rfl rfl rfl (fun x16 ex16 => ?_)
      refine k_aload_n C rfl rfl rfl ?_
      refine g_R C rfl rfl rfl T_r0 rfl R_r0_5 ?_
      refine k_aload_n C rfl rfl rfl ?_
      refine k_iload_n C rfl rfl rfl ?_
      obtain ⟨T_r0_5, A_r0_5, ⟨r0_5_0, R_r0_5_0, H_r0_5_0⟩, ⟨r0_5_1, R_r0_5_1, H_r0_5_1⟩, ⟨r0_5_2, R_r0_5_2, H_r0_5_2⟩⟩ := id H_r0_5
      refine c_VI C (a_X0_howOften hI12 H_r0_5 H_rr2) rfl rfl rfl rfl rfl ⟨_, rfl, rfl, T_r0_5, Nat.le_of_ble_eq_true rfl⟩ rfl rfl (Nat.le_of_ble_eq_true rfl) (Nat.le_of_ble_eq_true rfl) (Nat.le_of_ble_eq_true rfl) ?_
      rintro x17 I18 L19 ⟨o0x17, o1x17, hI18, S20⟩
      have e21 := Chg.k S20 T_r0_1 (by decide) (by decide) ex13
      have gx17 := rg x17
      refine z_imulL C (c := 2) rfl rfl (by omega) ⟨by omega, by omega⟩ (fun x22 ex22 => ?_)
      refine k_aload_n C rfl rfl rfl ?_
      obtain ⟨T_rr2, A_rr2, ⟨rr2_1, R_rr2_1, H_rr2_1⟩⟩ := id H_rr2
      refine z_gI C rfl rfl rfl T_rr2 rfl (fun x23 ex23 => ?_)
      have gx23 := rg x23
      have ox23 := IX.deg hI18 A_rr2 T_rr2 ex23
      refine b_icmp_le C (t := 39) rfl rfl rfl (fun c24 => ?_) (fun c24 => ?_)
      · skip
        refine z_iinc C (z := 1) (lw := fun x25 => [(3, .int x25), (0, .ref r0), (2, .ref rr2)]) rfl rfl rfl (Nat.le_of_ble_eq_true rfl) rfl ⟨by omega, by omega⟩ (fun _ => rfl) (fun x25 ex25 => ?_)
        show V 42 [(3, .int x25), (0, .ref r0), (2, .ref rr2)] _ _ _ _
        refine k_goto C (pc2 := 8) rfl rfl ?_
        refine k_sub S [(0, .ref r0), (2, .ref rr2), (3, .int x25)] (List.forall_mem_cons.mpr ⟨List.mem_of_getElem? (i := 1) rfl, List.forall_mem_cons.mpr ⟨List.mem_of_getElem? (i := 2) rfl, List.forall_mem_cons.mpr ⟨List.mem_of_getElem? (i := 0) rfl, fun _ h => nomatch h⟩⟩⟩) ?_
        exact ihJ4 _ (by omega) I18 L19 x25 rfl hI18 (Chg.cons S11 (Chg.mono S20 (by decide)) (by decide)) (by omega) (by omega)
      refine z_iconst C (z := 1) rfl rfl rfl (fun x26 ex26 => ?_)
      exact k_iret C rfl (Or.inr ⟨rfl, z01 (by omega) (by omega)⟩) (Nat.le_of_ble_eq_true rfl) (Nat.le_of_ble_eq_true rfl) (Or.inl ⟨_, _, _, rfl, rfl, by omega, by omega, hI18, (Chg.cons S11 (Chg.mono S20 (by decide)) (by decide))⟩)
  refine k_istore_n C (lw := [(3, .int x3), (2, .ref rr2), (0, .ref r0), (1, .int n1)]) rfl rfl (Nat.le_of_ble_eq_true rfl) rfl ?_
  refine k_sub S [(0, .ref r0), (2, .ref rr2), (3, .int x3)] (List.forall_mem_cons.mpr ⟨List.mem_of_getElem? (i := 2) rfl, List.forall_mem_cons.mpr ⟨List.mem_of_getElem? (i := 1) rfl, List.forall_mem_cons.mpr ⟨List.mem_of_getElem? (i := 0) rfl, fun _ h => nomatch h⟩⟩⟩) ?_
  exact J4 _ I L x3 rfl hI Chg.rf (by omega) (by omega)

theorem a_X11_same {d : Nat} {T N : Nat → Nat} {I : IT} {L : LT} {R : RT} {A : Nat → Prop} {r0 : Nat} {n1 n2 : Int32} (hI : IX A T I) (H_r0 : (h_LF T N R A) r0) : Ex (d + 5) 158 [.ref r0, .int n1, .int n2] (T, N, I, L, R) 2 12 (pW [3] T N R (pI T N R (fun x9 I9 L9 => (IX A T I9 ∧ Chg A T [(7, 0), (7, 1)] I L I9 L9))) (fun I9 L9 => IX A T I9 ∧ Chg A T [(7, 0), (7, 1)] I L I9 L9)) := by
  refine ⟨_, rfl, Nat.le_of_ble_eq_true rfl, fun V C S => ?_⟩
  show V 0 [(0, .ref r0), (1, .int n1), (2, .int n2)] [] (T, N, I, L, R) 0 0
  have gn1 := rg n1
  have gn2 := rg n2
  refine k_aload_n C rfl rfl rfl ?_
  refine k_iload_n C rfl rfl rfl ?_
  obtain ⟨T_r0, A_r0, ⟨r0_0, R_r0_0, H_r0_0⟩, ⟨r0_1, R_r0_1, H_r0_1⟩, ⟨r0_2, R_r0_2, H_r0_2⟩, ⟨r0_5, R_r0_5, H_r0_5⟩, ⟨r0_6, R_r0_6, H_r0_6⟩, ⟨r0_7, R_r0_7, H_r0_7⟩, ⟨r0_8, R_r0_8, H_r0_8⟩, ⟨r0_9, R_r0_9, H_r0_9⟩, ⟨r0_10, R_r0_10, H_r0_10⟩, ⟨r0_11, R_r0_11, H_r0_11⟩, ⟨r0_12, R_r0_12, H_r0_12⟩, ⟨r0_13, R_r0_13, H_r0_13⟩⟩ := id H_r0
  refine w_VR C (a_X11_toldForm hI H_r0) rfl rfl rfl rfl rfl ⟨_, rfl, rfl, T_r0, Nat.le_of_ble_eq_true rfl⟩ rfl rfl (Nat.le_of_ble_eq_true rfl) (Nat.le_of_ble_eq_true rfl) (Nat.le_of_ble_eq_true rfl) (by decide) (fun e9 he I9 L9 hq => by obtain ⟨rfl, rfl⟩ := hq; exact Or.inl ⟨rfl, Or.inr ⟨e9, _, _, (by decide : ∀ z ∈ [3], z ∈ [3]) e9 he, rfl, rfl, hI, Chg.rf⟩⟩) ?_
  rintro yy1 _ _ ⟨hyy1, rfl, rfl⟩
  obtain ⟨rr2, err2, H_rr2⟩ := hyy1
  subst err2
  refine k_astore_n C (lw := [(3, .ref rr2), (0, .ref r0), (1, .int n1), (2, .int n2)]) rfl rfl (Nat.le_of_ble_eq_true rfl) rfl ?_
  refine k_aload_n C rfl rfl rfl ?_
  refine k_iload_n C rfl rfl rfl ?_
  refine w_VR C (a_X11_toldForm hI H_r0) rfl rfl rfl rfl rfl ⟨_, rfl, rfl, T_r0, Nat.le_of_ble_eq_true rfl⟩ rfl rfl (Nat.le_of_ble_eq_true rfl) (Nat.le_of_ble_eq_true rfl) (Nat.le_of_ble_eq_true rfl) (by decide) (fun e9 he I9 L9 hq => by obtain ⟨rfl, rfl⟩ := hq; exact Or.inl ⟨rfl, Or.inr ⟨e9, _, _, (by decide : ∀ z ∈ [3], z ∈ [3]) e9 he, rfl, rfl, hI, Chg.rf⟩⟩) ?_
  rintro yy3 _ _ ⟨hyy3, rfl, rfl⟩
  obtain ⟨rr4, err4, H_rr4⟩ := hyy3
  subst err4
  refine k_astore C (lw := [(4, .ref rr4), (3, .ref rr2), (0, .ref r0), (1, .int n1), (2, .int n2)]) rfl rfl (Nat.le_of_ble_eq_true rfl) rfl ?_
  refine k_aload_n C rfl rfl rfl ?_
  refine g_R C rfl rfl rfl T_r0 rfl R_r0_8 ?_
  refine k_aload_n C rfl rfl rfl ?_
  refine k_aload C rfl rfl rfl ?_
  obtain ⟨T_r0_8, A_r0_8, ⟨r0_8_2, R_r0_8_2, H_r0_8_2⟩, ⟨r0_8_3, R_r0_8_3, H_r0_8_3⟩, ⟨r0_8_4, R_r0_8_4, H_r0_8_4⟩, ⟨r0_8_5, R_r0_8_5, H_r0_8_5⟩, ⟨r0_8_6, R_r0_8_6, H_r0_8_6⟩⟩ := id H_r0_8
  refine c_VV C (a_X6_run hI H_r0_8 H_rr2 H_rr4) rfl rfl rfl rfl rfl ⟨_, rfl, rfl, T_r0_8, Nat.le_of_ble_eq_true rfl⟩ rfl rfl (Nat.le_of_ble_eq_true rfl) (Nat.le_of_ble_eq_true rfl) (Nat.le_of_ble_eq_true rfl) ?_
  rintro I6 L7 ⟨hI6, S8⟩
  refine k_aload_n C rfl rfl rfl ?_
  refine g_R C rfl rfl rfl T_r0 rfl R_r0_8 ?_
  refine z_gI C rfl rfl rfl T_r0_8 rfl (fun x9 ex9 => ?_)
  have gx9 := rg x9
  exact k_iret C rfl (Or.inl rfl) (Nat.le_of_ble_eq_true rfl) (Nat.le_of_ble_eq_true rfl) (Or.inl ⟨_, _, _, rfl, rfl, hI6, (Chg.mono S8 (by decide))⟩)

theorem a_X11_keep {d : Nat} {T N : Nat → Nat} {I : IT} {L : LT} {R : RT} {A : Nat → Prop} {r0 : Nat} {n1 : Int32} (hI : IX A T I) (H_r0 : (h_LF T N R A) r0) : Ex (d + 5) 159 [.ref r0, .int n1] (T, N, I, L, R) 1 6 (pW [3] T N R (pI T N R (fun x9 I9 L9 => (IX A T I9 ∧ Chg A T [(7, 0), (7, 1)] I L I9 L9))) (fun I9 L9 => IX A T I9 ∧ Chg A T [(7, 0), (7, 1)] I L I9 L9)) := by
  refine ⟨_, rfl, Nat.le_of_ble_eq_true rfl, fun V C S => ?_⟩
  show V 0 [(0, .ref r0), (1, .int n1)] [] (T, N, I, L, R) 0 0
  have gn1 := rg n1
  refine k_aload_n C rfl rfl rfl ?_
  refine k_iload_n C rfl rfl rfl ?_
  obtain ⟨T_r0, A_r0, ⟨r0_0, R_r0_0, H_r0_0⟩, ⟨r0_1, R_r0_1, H_r0_1⟩, ⟨r0_2, R_r0_2, H_r0_2⟩, ⟨r0_5, R_r0_5, H_r0_5⟩, ⟨r0_6, R_r0_6, H_r0_6⟩, ⟨r0_7, R_r0_7, H_r0_7⟩, ⟨r0_8, R_r0_8, H_r0_8⟩, ⟨r0_9, R_r0_9, H_r0_9⟩, ⟨r0_10, R_r0_10, H_r0_10⟩, ⟨r0_11, R_r0_11, H_r0_11⟩, ⟨r0_12, R_r0_12, H_r0_12⟩, ⟨r0_13, R_r0_13, H_r0_13⟩⟩ := id H_r0
  refine w_VR C (a_X11_toldForm hI H_r0) rfl rfl rfl rfl rfl ⟨_, rfl, rfl, T_r0, Nat.le_of_ble_eq_true rfl⟩ rfl rfl (Nat.le_of_ble_eq_true rfl) (Nat.le_of_ble_eq_true rfl) (Nat.le_of_ble_eq_true rfl) (by decide) (fun e9 he I9 L9 hq => by obtain ⟨rfl, rfl⟩ := hq; exact Or.inl ⟨rfl, Or.inr ⟨e9, _, _, (by decide : ∀ z ∈ [3], z ∈ [3]) e9 he, rfl, rfl, hI, Chg.rf⟩⟩) ?_
  rintro yy1 _ _ ⟨hyy1, rfl, rfl⟩
  obtain ⟨rr2, err2, H_rr2⟩ := hyy1
  subst err2
  refine k_astore_n C (lw := [(2, .ref rr2), (0, .ref r0), (1, .int n1)]) rfl rfl (Nat.le_of_ble_eq_true rfl) rfl ?_
  refine k_aload_n C rfl rfl rfl ?_
  refine g_R C rfl rfl rfl T_r0 rfl R_r0_8 ?_
  refine k_aload_n C rfl rfl rfl ?_
  refine k_aload_n C rfl rfl rfl ?_
  obtain ⟨T_r0_8, A_r0_8, ⟨r0_8_2, R_r0_8_2, H_r0_8_2⟩, ⟨r0_8_3, R_r0_8_3, H_r0_8_3⟩, ⟨r0_8_4, R_r0_8_4, H_r0_8_4⟩, ⟨r0_8_5, R_r0_8_5, H_r0_8_5⟩, ⟨r0_8_6, R_r0_8_6, H_r0_8_6⟩⟩ := id H_r0_8
  refine c_VV C (a_X6_run hI H_r0_8 H_rr2 H_rr2) rfl rfl rfl rfl rfl ⟨_, rfl, rfl, T_r0_8, Nat.le_of_ble_eq_true rfl⟩ rfl rfl (Nat.le_of_ble_eq_true rfl) (Nat.le_of_ble_eq_true rfl) (Nat.le_of_ble_eq_true rfl) ?_
  rintro I4 L5 ⟨hI4, S6⟩
  refine k_aload_n C rfl rfl rfl ?_
  refine g_R C rfl rfl rfl T_r0 rfl R_r0_8 ?_
  refine z_gI C rfl rfl rfl T_r0_8 rfl (fun x7 ex7 => ?_)
  have gx7 := rg x7
  exact k_iret C rfl (Or.inl rfl) (Nat.le_of_ble_eq_true rfl) (Nat.le_of_ble_eq_true rfl) (Or.inl ⟨_, _, _, rfl, rfl, hI4, (Chg.mono S6 (by decide))⟩)

theorem a_X11_kind {d : Nat} {T N : Nat → Nat} {I : IT} {L : LT} {R : RT} {A : Nat → Prop} {r0 : Nat} {n1 : Int32} (hI : IX A T I) (H_r0 : (h_LF T N R A) r0) : Ex (d + 5) 160 [.ref r0, .int n1] (T, N, I, L, R) 1 6 (pW [3] T N R (pI T N R (fun x9 I9 L9 => (IX A T I9 ∧ Chg A T [(7, 0), (7, 1)] I L I9 L9))) (fun I9 L9 => IX A T I9 ∧ Chg A T [(7, 0), (7, 1)] I L I9 L9)) := by
  refine ⟨_, rfl, Nat.le_of_ble_eq_true rfl, fun V C S => ?_⟩
  show V 0 [(0, .ref r0), (1, .int n1)] [] (T, N, I, L, R) 0 0
  have gn1 := rg n1
  refine k_aload_n C rfl rfl rfl ?_
  refine k_iload_n C rfl rfl rfl ?_
  obtain ⟨T_r0, A_r0, ⟨r0_0, R_r0_0, H_r0_0⟩, ⟨r0_1, R_r0_1, H_r0_1⟩, ⟨r0_2, R_r0_2, H_r0_2⟩, ⟨r0_5, R_r0_5, H_r0_5⟩, ⟨r0_6, R_r0_6, H_r0_6⟩, ⟨r0_7, R_r0_7, H_r0_7⟩, ⟨r0_8, R_r0_8, H_r0_8⟩, ⟨r0_9, R_r0_9, H_r0_9⟩, ⟨r0_10, R_r0_10, H_r0_10⟩, ⟨r0_11, R_r0_11, H_r0_11⟩, ⟨r0_12, R_r0_12, H_r0_12⟩, ⟨r0_13, R_r0_13, H_r0_13⟩⟩ := id H_r0
  refine w_VR C (a_X11_toldForm hI H_r0) rfl rfl rfl rfl rfl ⟨_, rfl, rfl, T_r0, Nat.le_of_ble_eq_true rfl⟩ rfl rfl (Nat.le_of_ble_eq_true rfl) (Nat.le_of_ble_eq_true rfl) (Nat.le_of_ble_eq_true rfl) (by decide) (fun e9 he I9 L9 hq => by obtain ⟨rfl, rfl⟩ := hq; exact Or.inl ⟨rfl, Or.inr ⟨e9, _, _, (by decide : ∀ z ∈ [3], z ∈ [3]) e9 he, rfl, rfl, hI, Chg.rf⟩⟩) ?_
  rintro yy1 _ _ ⟨hyy1, rfl, rfl⟩
  obtain ⟨rr2, err2, H_rr2⟩ := hyy1
  subst err2
  refine k_astore_n C (lw := [(2, .ref rr2), (0, .ref r0), (1, .int n1)]) rfl rfl (Nat.le_of_ble_eq_true rfl) rfl ?_
  refine z_iconst C (z := 0) rfl rfl rfl (fun x3 ex3 => ?_)
  have J4 : ∀ (nn5 : Nat) (I6 : IT) (L7 : LT) (x8 : Int32), ((2147483647 - x8.toInt).toNat = nn5) → (IX A T I6) → (Chg A T [(7, 0), (7, 1)] I L I6 L7) → (0 ≤ x8.toInt) → V 8 [(0, .ref r0), (1, .int n1), (2, .ref rr2), (3, .int x8)] [] (T, N, I6, L7, R) 1 6 := by
    intro nn5
    induction nn5 using Nat.strongRecOn with
    | _ nn5 ihJ4 =>
      intro I6 L7 x8 hmnn5 hI11 S10 b9
      have gx8 := rg x8
      refine k_iload_n C rfl rfl rfl ?_
      refine k_iload_n C rfl rfl rfl ?_
      refine b_icmp_ge C (t := 56) rfl rfl rfl (fun c12 => ?_) (fun c12 => ?_)
      · skip
        refine k_iload_n C rfl rfl rfl ?_
        exact k_iret C rfl (Or.inl rfl) (Nat.le_of_ble_eq_true rfl) (Nat.le_of_ble_eq_true rfl) (Or.inl ⟨_, _, _, rfl, rfl, hI11, (Chg.mono S10 (by decide))⟩)
      refine k_aload_n C rfl rfl rfl ?_
      refine g_R C rfl rfl rfl T_r0 rfl R_r0_1 ?_
      refine k_iload_n C rfl rfl rfl ?_
      obtain ⟨T_r0_1, A_r0_1, ⟨r0_1_6, R_r0_1_6, H_r0_1_6⟩, ⟨r0_1_7, R_r0_1_7, H_r0_1_7⟩, ⟨r0_1_8, R_r0_1_8, H_r0_1_8⟩, ⟨r0_1_9, R_r0_1_9, H_r0_1_9⟩, ⟨r0_1_10, R_r0_1_10, H_r0_1_10⟩⟩ := id H_r0_1
      refine c_VR C (a_X8_formAt hI11 H_r0_1) rfl rfl rfl rfl rfl ⟨_, rfl, rfl, T_r0_1, Nat.le_of_ble_eq_true rfl⟩ rfl rfl (Nat.le_of_ble_eq_true rfl) (Nat.le_of_ble_eq_true rfl) (Nat.le_of_ble_eq_true rfl) ?_
      rintro yy13 _ _ ⟨hyy13, rfl, rfl⟩
      refine k_astoreV C (x := yy13) (lw := [(4, va_rf yy13), (0, .ref r0), (1, .int n1), (2, .ref rr2), (3, .int x8)]) rfl rfl (Nat.le_of_ble_eq_true rfl) rfl ?_
      refine k_aloadV C (x := yy13) rfl rfl rfl ?_
      refine k_ifnull C (x := yy13) (t := 50) rfl rfl rfl (fun c14 => ?_) (fun rr15 c14 => ?_)
      · skip
        subst c14
        refine z_iinc C (z := 1) (lw := fun x16 => [(3, .int x16), (4, va_rf none), (0, .ref r0), (1, .int n1), (2, .ref rr2)]) rfl rfl rfl (Nat.le_of_ble_eq_true rfl) rfl ⟨by omega, by omega⟩ (fun _ => rfl) (fun x16 ex16 => ?_)
        show V 53 [(3, .int x16), (4, va_rf none), (0, .ref r0), (1, .int n1), (2, .ref rr2)] _ _ _ _
        refine k_goto C (pc2 := 8) rfl rfl ?_
        refine k_sub S [(0, .ref r0), (1, .int n1), (2, .ref rr2), (3, .int x16)] (List.forall_mem_cons.mpr ⟨List.mem_of_getElem? (i := 2) rfl, List.forall_mem_cons.mpr ⟨List.mem_of_getElem? (i := 3) rfl, List.forall_mem_cons.mpr ⟨List.mem_of_getElem? (i := 4) rfl, List.forall_mem_cons.mpr ⟨List.mem_of_getElem? (i := 0) rfl, fun _ h => nomatch h⟩⟩⟩⟩) ?_
        exact ihJ4 _ (by omega) I6 L7 x16 rfl hI11 (Chg.mono S10 (by decide)) (by omega)
      subst c14
      have H_rr15 := hyy13 rr15 rfl
      refine k_aload_n C rfl rfl rfl ?_
      refine g_R C rfl rfl rfl T_r0 rfl R_r0_8 ?_
      refine k_aload C rfl rfl rfl ?_
      refine k_aload_n C rfl rfl rfl ?_
      obtain ⟨T_r0_8, A_r0_8, ⟨r0_8_2, R_r0_8_2, H_r0_8_2⟩, ⟨r0_8_3, R_r0_8_3, H_r0_8_3⟩, ⟨r0_8_4, R_r0_8_4, H_r0_8_4⟩, ⟨r0_8_5, R_r0_8_5, H_r0_8_5⟩, ⟨r0_8_6, R_r0_8_6, H_r0_8_6⟩⟩ := id H_r0_8
      refine c_VV C (a_X6_run hI11 H_r0_8 H_rr15 H_rr2) rfl rfl rfl rfl rfl ⟨_, rfl, rfl, T_r0_8, Nat.le_of_ble_eq_true rfl⟩ rfl rfl (Nat.le_of_ble_eq_true rfl) (Nat.le_of_ble_eq_true rfl) (Nat.le_of_ble_eq_true rfl) ?_
      rintro I18 L19 ⟨hI18, S20⟩
      refine k_aload_n C rfl rfl rfl ?_
      refine g_R C rfl rfl rfl T_r0 rfl R_r0_8 ?_
      refine z_gI C rfl rfl rfl T_r0_8 rfl (fun x21 ex21 => ?_)
      have gx21 := rg x21
      refine b_if_le C (t := 50) rfl rfl rfl (fun c22 => ?_) (fun c22 => ?_)
      · skip
        refine z_iinc C (z := 1) (lw := fun x23 => [(3, .int x23), (4, .ref rr15), (0, .ref r0), (1, .int n1), (2, .ref rr2)]) rfl rfl rfl (Nat.le_of_ble_eq_true rfl) rfl ⟨by omega, by omega⟩ (fun _ => rfl) (fun x23 ex23 => ?_)
        show V 53 [(3, .int x23), (4, .ref rr15), (0, .ref r0), (1, .int n1), (2, .ref rr2)] _ _ _ _
        refine k_goto C (pc2 := 8) rfl rfl ?_
        refine k_sub S [(0, .ref r0), (1, .int n1), (2, .ref rr2), (3, .int x23)] (List.forall_mem_cons.mpr ⟨List.mem_of_getElem? (i := 2) rfl, List.forall_mem_cons.mpr ⟨List.mem_of_getElem? (i := 3) rfl, List.forall_mem_cons.mpr ⟨List.mem_of_getElem? (i := 4) rfl, List.forall_mem_cons.mpr ⟨List.mem_of_getElem? (i := 0) rfl, fun _ h => nomatch h⟩⟩⟩⟩) ?_
        exact ihJ4 _ (by omega) I18 L19 x23 rfl hI18 (Chg.cons S10 (Chg.mono S20 (by decide)) (by decide)) (by omega)
      refine k_iload_n C rfl rfl rfl ?_
      exact k_iret C rfl (Or.inl rfl) (Nat.le_of_ble_eq_true rfl) (Nat.le_of_ble_eq_true rfl) (Or.inl ⟨_, _, _, rfl, rfl, hI18, (Chg.cons S10 (Chg.mono S20 (by decide)) (by decide))⟩)
  refine k_istore_n C (lw := [(3, .int x3), (2, .ref rr2), (0, .ref r0), (1, .int n1)]) rfl rfl (Nat.le_of_ble_eq_true rfl) rfl ?_
  refine k_sub S [(0, .ref r0), (1, .int n1), (2, .ref rr2), (3, .int x3)] (List.forall_mem_cons.mpr ⟨List.mem_of_getElem? (i := 2) rfl, List.forall_mem_cons.mpr ⟨List.mem_of_getElem? (i := 3) rfl, List.forall_mem_cons.mpr ⟨List.mem_of_getElem? (i := 1) rfl, List.forall_mem_cons.mpr ⟨List.mem_of_getElem? (i := 0) rfl, fun _ h => nomatch h⟩⟩⟩⟩) ?_
  exact J4 _ I L x3 rfl hI Chg.rf (by omega)

theorem a_X11_orbit {d : Nat} {T N : Nat → Nat} {I : IT} {L : LT} {R : RT} {A : Nat → Prop} {r0 : Nat} {n1 : Int32} (hI : IX A T I) (H_r0 : (h_LF T N R A) r0) : Ex (d + 5) 161 [.ref r0, .int n1] (T, N, I, L, R) 1 6 (pW [3] T N R (pI T N R (fun x9 I9 L9 => (IX A T I9 ∧ Chg A T [(7, 0), (7, 1)] I L I9 L9))) (fun I9 L9 => IX A T I9 ∧ Chg A T [(7, 0), (7, 1)] I L I9 L9)) := by
  refine ⟨_, rfl, Nat.le_of_ble_eq_true rfl, fun V C S => ?_⟩
  show V 0 [(0, .ref r0), (1, .int n1)] [] (T, N, I, L, R) 0 0
  have gn1 := rg n1
  refine k_aload_n C rfl rfl rfl ?_
  refine k_iload_n C rfl rfl rfl ?_
  obtain ⟨T_r0, A_r0, ⟨r0_0, R_r0_0, H_r0_0⟩, ⟨r0_1, R_r0_1, H_r0_1⟩, ⟨r0_2, R_r0_2, H_r0_2⟩, ⟨r0_5, R_r0_5, H_r0_5⟩, ⟨r0_6, R_r0_6, H_r0_6⟩, ⟨r0_7, R_r0_7, H_r0_7⟩, ⟨r0_8, R_r0_8, H_r0_8⟩, ⟨r0_9, R_r0_9, H_r0_9⟩, ⟨r0_10, R_r0_10, H_r0_10⟩, ⟨r0_11, R_r0_11, H_r0_11⟩, ⟨r0_12, R_r0_12, H_r0_12⟩, ⟨r0_13, R_r0_13, H_r0_13⟩⟩ := id H_r0
  refine w_VR C (a_X11_toldForm hI H_r0) rfl rfl rfl rfl rfl ⟨_, rfl, rfl, T_r0, Nat.le_of_ble_eq_true rfl⟩ rfl rfl (Nat.le_of_ble_eq_true rfl) (Nat.le_of_ble_eq_true rfl) (Nat.le_of_ble_eq_true rfl) (by decide) (fun e9 he I9 L9 hq => by obtain ⟨rfl, rfl⟩ := hq; exact Or.inl ⟨rfl, Or.inr ⟨e9, _, _, (by decide : ∀ z ∈ [3], z ∈ [3]) e9 he, rfl, rfl, hI, Chg.rf⟩⟩) ?_
  rintro yy1 _ _ ⟨hyy1, rfl, rfl⟩
  obtain ⟨rr2, err2, H_rr2⟩ := hyy1
  subst err2
  refine k_astore_n C (lw := [(2, .ref rr2), (0, .ref r0), (1, .int n1)]) rfl rfl (Nat.le_of_ble_eq_true rfl) rfl ?_
  refine k_aload_n C rfl rfl rfl ?_
  refine g_R C rfl rfl rfl T_r0 rfl R_r0_8 ?_
  refine k_aload_n C rfl rfl rfl ?_
  refine k_aload_n C rfl rfl rfl ?_
  obtain ⟨T_r0_8, A_r0_8, ⟨r0_8_2, R_r0_8_2, H_r0_8_2⟩, ⟨r0_8_3, R_r0_8_3, H_r0_8_3⟩, ⟨r0_8_4, R_r0_8_4, H_r0_8_4⟩, ⟨r0_8_5, R_r0_8_5, H_r0_8_5⟩, ⟨r0_8_6, R_r0_8_6, H_r0_8_6⟩⟩ := id H_r0_8
  refine c_VV C (a_X6_run hI H_r0_8 H_rr2 H_rr2) rfl rfl rfl rfl rfl ⟨_, rfl, rfl, T_r0_8, Nat.le_of_ble_eq_true rfl⟩ rfl rfl (Nat.le_of_ble_eq_true rfl) (Nat.le_of_ble_eq_true rfl) (Nat.le_of_ble_eq_true rfl) ?_
  rintro I4 L5 ⟨hI4, S6⟩
  refine k_aload_n C rfl rfl rfl ?_
  refine g_R C rfl rfl rfl T_r0 rfl R_r0_8 ?_
  refine z_gI C rfl rfl rfl T_r0_8 rfl (fun x7 ex7 => ?_)
  have gx7 := rg x7
  refine b_if_le C (t := 43) rfl rfl rfl (fun c8 => ?_) (fun c8 => ?_)
  · skip
    refine z_iconst C (z := 0) rfl rfl rfl (fun x9 ex9 => ?_)
    exact k_iret C rfl (Or.inl rfl) (Nat.le_of_ble_eq_true rfl) (Nat.le_of_ble_eq_true rfl) (Or.inl ⟨_, _, _, rfl, rfl, hI4, (Chg.mono S6 (by decide))⟩)
  refine k_aload_n C rfl rfl rfl ?_
  refine g_R C rfl rfl rfl T_r0 rfl R_r0_5 ?_
  obtain ⟨T_r0_5, A_r0_5, ⟨r0_5_0, R_r0_5_0, H_r0_5_0⟩, ⟨r0_5_1, R_r0_5_1, H_r0_5_1⟩, ⟨r0_5_2, R_r0_5_2, H_r0_5_2⟩⟩ := id H_r0_5
  refine c_VI C (a_X0_tables hI4 H_r0_5) rfl rfl rfl rfl rfl ⟨_, rfl, rfl, T_r0_5, Nat.le_of_ble_eq_true rfl⟩ rfl rfl (Nat.le_of_ble_eq_true rfl) (Nat.le_of_ble_eq_true rfl) (Nat.le_of_ble_eq_true rfl) ?_
  rintro x10 _ _ ⟨rfl, rfl⟩
  have gx10 := rg x10
  refine k_aload_n C rfl rfl rfl ?_
  refine g_R C rfl rfl rfl T_r0 rfl R_r0_8 ?_
  refine g_I C rfl rfl rfl T_r0_8 rfl ex7 ?_
  refine zt_idiv C rfl rfl (by omega) (fun x11 => ?_)
  have gx11 := rg x11
  refine k_goto C (pc2 := 44) rfl rfl ?_
  exact k_iret C rfl (Or.inl rfl) (Nat.le_of_ble_eq_true rfl) (Nat.le_of_ble_eq_true rfl) (Or.inl ⟨_, _, _, rfl, rfl, hI4, (Chg.mono S6 (by decide))⟩)

theorem a_X11_powers {d : Nat} {T N : Nat → Nat} {I : IT} {L : LT} {R : RT} {A : Nat → Prop} {r0 : Nat} {n1 n2 : Int32} (hI : IX A T I) (H_r0 : (h_LF T N R A) r0) : Ex (d + 6) 162 [.ref r0, .int n1, .int n2] (T, N, I, L, R) 2 12 (pW [0, 3] T N R (pI T N R (fun x9 I9 L9 => (IX A T I9 ∧ Chg A T [(4, 0), (4, 6), (4, 7)] I L I9 L9))) (fun I9 L9 => IX A T I9 ∧ Chg A T [(4, 0), (4, 6), (4, 7)] I L I9 L9)) := by
  refine ⟨_, rfl, Nat.le_of_ble_eq_true rfl, fun V C S => ?_⟩
  show V 0 [(0, .ref r0), (1, .int n1), (2, .int n2)] [] (T, N, I, L, R) 0 0
  have gn1 := rg n1
  have gn2 := rg n2
  refine k_aload_n C rfl rfl rfl ?_
  refine k_iload_n C rfl rfl rfl ?_
  obtain ⟨T_r0, A_r0, ⟨r0_0, R_r0_0, H_r0_0⟩, ⟨r0_1, R_r0_1, H_r0_1⟩, ⟨r0_2, R_r0_2, H_r0_2⟩, ⟨r0_5, R_r0_5, H_r0_5⟩, ⟨r0_6, R_r0_6, H_r0_6⟩, ⟨r0_7, R_r0_7, H_r0_7⟩, ⟨r0_8, R_r0_8, H_r0_8⟩, ⟨r0_9, R_r0_9, H_r0_9⟩, ⟨r0_10, R_r0_10, H_r0_10⟩, ⟨r0_11, R_r0_11, H_r0_11⟩, ⟨r0_12, R_r0_12, H_r0_12⟩, ⟨r0_13, R_r0_13, H_r0_13⟩⟩ := id H_r0
  refine w_VR C (a_X11_toldForm hI H_r0) rfl rfl rfl rfl rfl ⟨_, rfl, rfl, T_r0, Nat.le_of_ble_eq_true rfl⟩ rfl rfl (Nat.le_of_ble_eq_true rfl) (Nat.le_of_ble_eq_true rfl) (Nat.le_of_ble_eq_true rfl) (by decide) (fun e9 he I9 L9 hq => by obtain ⟨rfl, rfl⟩ := hq; exact Or.inl ⟨rfl, Or.inr ⟨e9, _, _, (by decide : ∀ z ∈ [3], z ∈ [0, 3]) e9 he, rfl, rfl, hI, Chg.rf⟩⟩) ?_
  rintro yy1 _ _ ⟨hyy1, rfl, rfl⟩
  obtain ⟨rr2, err2, H_rr2⟩ := hyy1
  subst err2
  refine k_astore_n C (lw := [(3, .ref rr2), (0, .ref r0), (1, .int n1), (2, .int n2)]) rfl rfl (Nat.le_of_ble_eq_true rfl) rfl ?_
  refine k_aload_n C rfl rfl rfl ?_
  obtain ⟨T_rr2, A_rr2, ⟨rr2_1, R_rr2_1, H_rr2_1⟩⟩ := id H_rr2
  refine z_gI C rfl rfl rfl T_rr2 rfl (fun x3 ex3 => ?_)
  have gx3 := rg x3
  have ox3 := IX.deg hI A_rr2 T_rr2 ex3
  refine b_if_eq C (t := 18) rfl rfl rfl (fun c4 => ?_) (fun c4 => ?_)
  · skip
    exact k_throw C rfl rfl rfl rfl rfl rfl (Nat.le_of_ble_eq_true rfl) (Nat.le_of_ble_eq_true rfl) (Nat.le_of_ble_eq_true rfl) (Or.inr ⟨_, _, _, (by decide : 0 ∈ [0, 3]), rfl, rfl, hI, Chg.rf⟩)
  refine k_iload_n C rfl rfl rfl ?_
  refine z_iconst C (z := -1) rfl rfl rfl (fun x5 ex5 => ?_)
  refine b_icmp_ge C (t := 26) rfl rfl rfl (fun c6 => ?_) (fun c6 => ?_)
  · skip
    refine k_aload_n C rfl rfl rfl ?_
    refine g_R C rfl rfl rfl T_r0 rfl R_r0_9 ?_
    refine k_aload_n C rfl rfl rfl ?_
    obtain ⟨T_r0_9, A_r0_9, ⟨r0_9_1, R_r0_9_1, H_r0_9_1⟩, ⟨r0_9_2, R_r0_9_2, H_r0_9_2⟩, ⟨r0_9_3, R_r0_9_3, H_r0_9_3⟩, ⟨r0_9_4, R_r0_9_4, H_r0_9_4⟩, ⟨r0_9_5, R_r0_9_5, H_r0_9_5⟩⟩ := id H_r0_9
    refine c_VV C (a_X3_find hI H_r0_9 H_rr2) rfl rfl rfl rfl rfl ⟨_, rfl, rfl, T_r0_9, Nat.le_of_ble_eq_true rfl⟩ rfl rfl (Nat.le_of_ble_eq_true rfl) (Nat.le_of_ble_eq_true rfl) (Nat.le_of_ble_eq_true rfl) ?_
    rintro I8 L9 ⟨hI8, S10⟩
    have e11 := Chg.k S10 T_rr2 (by decide) (by decide) ex3
    refine k_iload_n C rfl rfl rfl ?_
    refine z_iconst C (z := -1) rfl rfl rfl (fun x12 ex12 => ?_)
    refine b_icmp_ne C (t := 47) rfl rfl rfl (fun c13 => ?_) (fun c13 => ?_)
    · skip
      refine k_iload_n C rfl rfl rfl ?_
      refine z_bipush C (z := 10) rfl rfl rfl (fun x14 ex14 => ?_)
      refine b_icmp_ge C (t := 64) rfl rfl rfl (fun c15 => ?_) (fun c15 => ?_)
      · skip
        refine k_aload_n C rfl rfl rfl ?_
        refine g_R C rfl rfl rfl T_r0 rfl R_r0_9 ?_
        refine k_iload_n C rfl rfl rfl ?_
        refine z_bipush C (z := 10) rfl rfl rfl (fun x16 ex16 => ?_)
        refine z_isub C rfl rfl ⟨by omega, by omega⟩ (fun x17 ex17 => ?_)
        refine c_VI C (a_X3_numberAt hI8 H_r0_9) rfl rfl rfl rfl rfl ⟨_, rfl, rfl, T_r0_9, Nat.le_of_ble_eq_true rfl⟩ rfl rfl (Nat.le_of_ble_eq_true rfl) (Nat.le_of_ble_eq_true rfl) (Nat.le_of_ble_eq_true rfl) ?_
        rintro x18 _ _ ⟨rfl, rfl⟩
        have gx18 := rg x18
        exact k_iret C rfl (Or.inl rfl) (Nat.le_of_ble_eq_true rfl) (Nat.le_of_ble_eq_true rfl) (Or.inl ⟨_, _, _, rfl, rfl, hI8, (Chg.mono S10 (by decide))⟩)
      refine k_aload_n C rfl rfl rfl ?_
      refine g_R C rfl rfl rfl T_r0 rfl R_r0_9 ?_
      refine k_iload_n C rfl rfl rfl ?_
      refine c_VI C (a_X3_pointAt hI8 H_r0_9) rfl rfl rfl rfl rfl ⟨_, rfl, rfl, T_r0_9, Nat.le_of_ble_eq_true rfl⟩ rfl rfl (Nat.le_of_ble_eq_true rfl) (Nat.le_of_ble_eq_true rfl) (Nat.le_of_ble_eq_true rfl) ?_
      rintro x19 _ _ ⟨rfl, rfl⟩
      have gx19 := rg x19
      refine k_goto C (pc2 := 75) rfl rfl ?_
      exact k_iret C rfl (Or.inl rfl) (Nat.le_of_ble_eq_true rfl) (Nat.le_of_ble_eq_true rfl) (Or.inl ⟨_, _, _, rfl, rfl, hI8, (Chg.mono S10 (by decide))⟩)
    refine k_aload_n C rfl rfl rfl ?_
    refine g_R C rfl rfl rfl T_r0 rfl R_r0_9 ?_
    refine z_gI C rfl rfl rfl T_r0_9 rfl (fun x20 ex20 => ?_)
    have gx20 := rg x20
    exact k_iret C rfl (Or.inl rfl) (Nat.le_of_ble_eq_true rfl) (Nat.le_of_ble_eq_true rfl) (Or.inl ⟨_, _, _, rfl, rfl, hI8, (Chg.mono S10 (by decide))⟩)
  exact k_throw C rfl rfl rfl rfl rfl rfl (Nat.le_of_ble_eq_true rfl) (Nat.le_of_ble_eq_true rfl) (Nat.le_of_ble_eq_true rfl) (Or.inr ⟨_, _, _, (by decide : 0 ∈ [0, 3]), rfl, rfl, hI, Chg.rf⟩)

theorem a_X11_common {d : Nat} {T N : Nat → Nat} {I : IT} {L : LT} {R : RT} {A : Nat → Prop} {r0 : Nat} {n1 n2 n3 : Int32} (hI : IX A T I) (H_r0 : (h_LF T N R A) r0) : Ex (d + 6) 163 [.ref r0, .int n1, .int n2, .int n3] (T, N, I, L, R) 2 12 (pW [3] T N R (pI T N R (fun x9 I9 L9 => (IX A T I9 ∧ Chg A T [(3, 0)] I L I9 L9))) (fun I9 L9 => IX A T I9 ∧ Chg A T [(3, 0)] I L I9 L9)) := by
  refine ⟨_, rfl, Nat.le_of_ble_eq_true rfl, fun V C S => ?_⟩
  show V 0 [(0, .ref r0), (1, .int n1), (2, .int n2), (3, .int n3)] [] (T, N, I, L, R) 0 0
  have gn1 := rg n1
  have gn2 := rg n2
  have gn3 := rg n3
  refine k_aload_n C rfl rfl rfl ?_
  refine k_iload_n C rfl rfl rfl ?_
  obtain ⟨T_r0, A_r0, ⟨r0_0, R_r0_0, H_r0_0⟩, ⟨r0_1, R_r0_1, H_r0_1⟩, ⟨r0_2, R_r0_2, H_r0_2⟩, ⟨r0_5, R_r0_5, H_r0_5⟩, ⟨r0_6, R_r0_6, H_r0_6⟩, ⟨r0_7, R_r0_7, H_r0_7⟩, ⟨r0_8, R_r0_8, H_r0_8⟩, ⟨r0_9, R_r0_9, H_r0_9⟩, ⟨r0_10, R_r0_10, H_r0_10⟩, ⟨r0_11, R_r0_11, H_r0_11⟩, ⟨r0_12, R_r0_12, H_r0_12⟩, ⟨r0_13, R_r0_13, H_r0_13⟩⟩ := id H_r0
  refine w_VR C (a_X11_toldForm hI H_r0) rfl rfl rfl rfl rfl ⟨_, rfl, rfl, T_r0, Nat.le_of_ble_eq_true rfl⟩ rfl rfl (Nat.le_of_ble_eq_true rfl) (Nat.le_of_ble_eq_true rfl) (Nat.le_of_ble_eq_true rfl) (by decide) (fun e9 he I9 L9 hq => by obtain ⟨rfl, rfl⟩ := hq; exact Or.inl ⟨rfl, Or.inr ⟨e9, _, _, (by decide : ∀ z ∈ [3], z ∈ [3]) e9 he, rfl, rfl, hI, Chg.rf⟩⟩) ?_
  rintro yy1 _ _ ⟨hyy1, rfl, rfl⟩
  obtain ⟨rr2, err2, H_rr2⟩ := hyy1
  subst err2
  refine k_astore C (lw := [(4, .ref rr2), (0, .ref r0), (1, .int n1), (2, .int n2), (3, .int n3)]) rfl rfl (Nat.le_of_ble_eq_true rfl) rfl ?_
  refine k_aload_n C rfl rfl rfl ?_
  refine k_iload_n C rfl rfl rfl ?_
  refine w_VR C (a_X11_toldForm hI H_r0) rfl rfl rfl rfl rfl ⟨_, rfl, rfl, T_r0, Nat.le_of_ble_eq_true rfl⟩ rfl rfl (Nat.le_of_ble_eq_true rfl) (Nat.le_of_ble_eq_true rfl) (Nat.le_of_ble_eq_true rfl) (by decide) (fun e9 he I9 L9 hq => by obtain ⟨rfl, rfl⟩ := hq; exact Or.inl ⟨rfl, Or.inr ⟨e9, _, _, (by decide : ∀ z ∈ [3], z ∈ [3]) e9 he, rfl, rfl, hI, Chg.rf⟩⟩) ?_
  rintro yy3 _ _ ⟨hyy3, rfl, rfl⟩
  obtain ⟨rr4, err4, H_rr4⟩ := hyy3
  subst err4
  refine k_astore C (lw := [(5, .ref rr4), (4, .ref rr2), (0, .ref r0), (1, .int n1), (2, .int n2), (3, .int n3)]) rfl rfl (Nat.le_of_ble_eq_true rfl) rfl ?_
  refine k_aload C rfl rfl rfl ?_
  obtain ⟨T_rr2, A_rr2, ⟨rr2_1, R_rr2_1, H_rr2_1⟩⟩ := id H_rr2
  refine c_VI C (a_X2_isNought hI H_rr2) rfl rfl rfl rfl rfl ⟨_, rfl, rfl, T_rr2, Nat.le_of_ble_eq_true rfl⟩ rfl rfl (Nat.le_of_ble_eq_true rfl) (Nat.le_of_ble_eq_true rfl) (Nat.le_of_ble_eq_true rfl) ?_
  rintro x5 _ _ ⟨o0x5, o1x5, rfl, rfl⟩
  have gx5 := rg x5
  refine b_if_ne C (t := 30) rfl rfl rfl (fun c6 => ?_) (fun c6 => ?_)
  · skip
    refine z_bipush C (z := -2) rfl rfl rfl (fun x7 ex7 => ?_)
    exact k_iret C rfl (Or.inl rfl) (Nat.le_of_ble_eq_true rfl) (Nat.le_of_ble_eq_true rfl) (Or.inl ⟨_, _, _, rfl, rfl, hI, Chg.rf⟩)
  refine k_aload C rfl rfl rfl ?_
  obtain ⟨T_rr4, A_rr4, ⟨rr4_1, R_rr4_1, H_rr4_1⟩⟩ := id H_rr4
  refine c_VI C (a_X2_isNought hI H_rr4) rfl rfl rfl rfl rfl ⟨_, rfl, rfl, T_rr4, Nat.le_of_ble_eq_true rfl⟩ rfl rfl (Nat.le_of_ble_eq_true rfl) (Nat.le_of_ble_eq_true rfl) (Nat.le_of_ble_eq_true rfl) ?_
  rintro x8 _ _ ⟨o0x8, o1x8, rfl, rfl⟩
  have gx8 := rg x8
  refine b_if_eq C (t := 33) rfl rfl rfl (fun c9 => ?_) (fun c9 => ?_)
  · skip
    refine k_aload_n C rfl rfl rfl ?_
    refine g_R C rfl rfl rfl T_r0 rfl R_r0_5 ?_
    refine k_aload C rfl rfl rfl ?_
    refine k_aload C rfl rfl rfl ?_
    refine k_aload_n C rfl rfl rfl ?_
    refine g_R C rfl rfl rfl T_r0 rfl R_r0_11 ?_
    obtain ⟨T_r0_5, A_r0_5, ⟨r0_5_0, R_r0_5_0, H_r0_5_0⟩, ⟨r0_5_1, R_r0_5_1, H_r0_5_1⟩, ⟨r0_5_2, R_r0_5_2, H_r0_5_2⟩⟩ := id H_r0_5
    refine c_VV C (a_X0_shareInto hI H_r0_5 H_rr2 H_rr4 H_r0_11) rfl rfl rfl rfl rfl ⟨_, rfl, rfl, T_r0_5, Nat.le_of_ble_eq_true rfl⟩ rfl rfl (Nat.le_of_ble_eq_true rfl) (Nat.le_of_ble_eq_true rfl) (Nat.le_of_ble_eq_true rfl) ?_
    rintro I11 L12 ⟨hI11, S13⟩
    refine k_aload_n C rfl rfl rfl ?_
    refine g_R C rfl rfl rfl T_r0 rfl R_r0_11 ?_
    refine k_iload_n C rfl rfl rfl ?_
    refine c_SI C (a_X11_degreeOrNumber hI11 H_r0_11) rfl rfl rfl rfl rfl rfl rfl (Nat.le_of_ble_eq_true rfl) (Nat.le_of_ble_eq_true rfl) (Nat.le_of_ble_eq_true rfl) ?_
    rintro x14 _ _ ⟨rfl, rfl⟩
    have gx14 := rg x14
    exact k_iret C rfl (Or.inl rfl) (Nat.le_of_ble_eq_true rfl) (Nat.le_of_ble_eq_true rfl) (Or.inl ⟨_, _, _, rfl, rfl, hI11, (Chg.mono S13 (by decide))⟩)
  refine z_bipush C (z := -2) rfl rfl rfl (fun x15 ex15 => ?_)
  exact k_iret C rfl (Or.inl rfl) (Nat.le_of_ble_eq_true rfl) (Nat.le_of_ble_eq_true rfl) (Or.inl ⟨_, _, _, rfl, rfl, hI, Chg.rf⟩)

theorem a_X11_quotient {d : Nat} {T N : Nat → Nat} {I : IT} {L : LT} {R : RT} {A : Nat → Prop} {r0 : Nat} {n1 n2 n3 : Int32} (hI : IX A T I) (H_r0 : (h_LF T N R A) r0) : Ex (d + 5) 164 [.ref r0, .int n1, .int n2, .int n3] (T, N, I, L, R) 2 12 (pW [3] T N R (pI T N R (fun x9 I9 L9 => (IX A T I9 ∧ Chg A T [(3, 0)] I L I9 L9))) (fun I9 L9 => IX A T I9 ∧ Chg A T [(3, 0)] I L I9 L9)) := by
  refine ⟨_, rfl, Nat.le_of_ble_eq_true rfl, fun V C S => ?_⟩
  show V 0 [(0, .ref r0), (1, .int n1), (2, .int n2), (3, .int n3)] [] (T, N, I, L, R) 0 0
  have gn1 := rg n1
  have gn2 := rg n2
  have gn3 := rg n3
  refine k_aload_n C rfl rfl rfl ?_
  refine k_iload_n C rfl rfl rfl ?_
  obtain ⟨T_r0, A_r0, ⟨r0_0, R_r0_0, H_r0_0⟩, ⟨r0_1, R_r0_1, H_r0_1⟩, ⟨r0_2, R_r0_2, H_r0_2⟩, ⟨r0_5, R_r0_5, H_r0_5⟩, ⟨r0_6, R_r0_6, H_r0_6⟩, ⟨r0_7, R_r0_7, H_r0_7⟩, ⟨r0_8, R_r0_8, H_r0_8⟩, ⟨r0_9, R_r0_9, H_r0_9⟩, ⟨r0_10, R_r0_10, H_r0_10⟩, ⟨r0_11, R_r0_11, H_r0_11⟩, ⟨r0_12, R_r0_12, H_r0_12⟩, ⟨r0_13, R_r0_13, H_r0_13⟩⟩ := id H_r0
  refine w_VR C (a_X11_toldForm hI H_r0) rfl rfl rfl rfl rfl ⟨_, rfl, rfl, T_r0, Nat.le_of_ble_eq_true rfl⟩ rfl rfl (Nat.le_of_ble_eq_true rfl) (Nat.le_of_ble_eq_true rfl) (Nat.le_of_ble_eq_true rfl) (by decide) (fun e9 he I9 L9 hq => by obtain ⟨rfl, rfl⟩ := hq; exact Or.inl ⟨rfl, Or.inr ⟨e9, _, _, (by decide : ∀ z ∈ [3], z ∈ [3]) e9 he, rfl, rfl, hI, Chg.rf⟩⟩) ?_
  rintro yy1 _ _ ⟨hyy1, rfl, rfl⟩
  obtain ⟨rr2, err2, H_rr2⟩ := hyy1
  subst err2
  refine k_astore C (lw := [(4, .ref rr2), (0, .ref r0), (1, .int n1), (2, .int n2), (3, .int n3)]) rfl rfl (Nat.le_of_ble_eq_true rfl) rfl ?_
  refine k_aload_n C rfl rfl rfl ?_
  refine k_iload_n C rfl rfl rfl ?_
  refine w_VR C (a_X11_toldForm hI H_r0) rfl rfl rfl rfl rfl ⟨_, rfl, rfl, T_r0, Nat.le_of_ble_eq_true rfl⟩ rfl rfl (Nat.le_of_ble_eq_true rfl) (Nat.le_of_ble_eq_true rfl) (Nat.le_of_ble_eq_true rfl) (by decide) (fun e9 he I9 L9 hq => by obtain ⟨rfl, rfl⟩ := hq; exact Or.inl ⟨rfl, Or.inr ⟨e9, _, _, (by decide : ∀ z ∈ [3], z ∈ [3]) e9 he, rfl, rfl, hI, Chg.rf⟩⟩) ?_
  rintro yy3 _ _ ⟨hyy3, rfl, rfl⟩
  obtain ⟨rr4, err4, H_rr4⟩ := hyy3
  subst err4
  refine k_astore C (lw := [(5, .ref rr4), (4, .ref rr2), (0, .ref r0), (1, .int n1), (2, .int n2), (3, .int n3)]) rfl rfl (Nat.le_of_ble_eq_true rfl) rfl ?_
  refine k_aload_n C rfl rfl rfl ?_
  refine g_R C rfl rfl rfl T_r0 rfl R_r0_5 ?_
  refine k_aload C rfl rfl rfl ?_
  refine k_aload C rfl rfl rfl ?_
  refine k_aload_n C rfl rfl rfl ?_
  refine g_R C rfl rfl rfl T_r0 rfl R_r0_11 ?_
  obtain ⟨T_r0_5, A_r0_5, ⟨r0_5_0, R_r0_5_0, H_r0_5_0⟩, ⟨r0_5_1, R_r0_5_1, H_r0_5_1⟩, ⟨r0_5_2, R_r0_5_2, H_r0_5_2⟩⟩ := id H_r0_5
  refine c_VI C (a_X0_divideInto hI H_r0_5 H_rr2 H_rr4 H_r0_11) rfl rfl rfl rfl rfl ⟨_, rfl, rfl, T_r0_5, Nat.le_of_ble_eq_true rfl⟩ rfl rfl (Nat.le_of_ble_eq_true rfl) (Nat.le_of_ble_eq_true rfl) (Nat.le_of_ble_eq_true rfl) ?_
  rintro x5 I6 L7 ⟨o0x5, o1x5, hI6, S8⟩
  have gx5 := rg x5
  refine b_if_eq C (t := 43) rfl rfl rfl (fun c9 => ?_) (fun c9 => ?_)
  · skip
    refine z_bipush C (z := -2) rfl rfl rfl (fun x10 ex10 => ?_)
    exact k_iret C rfl (Or.inl rfl) (Nat.le_of_ble_eq_true rfl) (Nat.le_of_ble_eq_true rfl) (Or.inl ⟨_, _, _, rfl, rfl, hI6, (Chg.mono S8 (by decide))⟩)
  refine k_aload_n C rfl rfl rfl ?_
  refine g_R C rfl rfl rfl T_r0 rfl R_r0_11 ?_
  refine k_iload_n C rfl rfl rfl ?_
  refine c_SI C (a_X11_degreeOrNumber hI6 H_r0_11) rfl rfl rfl rfl rfl rfl rfl (Nat.le_of_ble_eq_true rfl) (Nat.le_of_ble_eq_true rfl) (Nat.le_of_ble_eq_true rfl) ?_
  rintro x11 _ _ ⟨rfl, rfl⟩
  have gx11 := rg x11
  refine k_goto C (pc2 := 45) rfl rfl ?_
  exact k_iret C rfl (Or.inl rfl) (Nat.le_of_ble_eq_true rfl) (Nat.le_of_ble_eq_true rfl) (Or.inl ⟨_, _, _, rfl, rfl, hI6, (Chg.mono S8 (by decide))⟩)

theorem a_X11_plain {d : Nat} {T N : Nat → Nat} {I : IT} {L : LT} {R : RT} {A : Nat → Prop} {r0 : Nat} {n1 : Int32} (hI : IX A T I) (H_r0 : (h_LF T N R A) r0) : Ex (d + 6) 165 [.ref r0, .int n1] (T, N, I, L, R) 1 6 (pW [3] T N R (pI T N R (fun x9 I9 L9 => (0 ≤ x9.toInt) ∧ (x9.toInt ≤ 1) ∧ (IX A T I9 ∧ Chg A T [(3, 0)] I L I9 L9))) (fun I9 L9 => IX A T I9 ∧ Chg A T [(3, 0)] I L I9 L9)) := by
  refine ⟨_, rfl, Nat.le_of_ble_eq_true rfl, fun V C S => ?_⟩
  show V 0 [(0, .ref r0), (1, .int n1)] [] (T, N, I, L, R) 0 0
  have gn1 := rg n1
  refine k_aload_n C rfl rfl rfl ?_
  refine k_iload_n C rfl rfl rfl ?_
  obtain ⟨T_r0, A_r0, ⟨r0_0, R_r0_0, H_r0_0⟩, ⟨r0_1, R_r0_1, H_r0_1⟩, ⟨r0_2, R_r0_2, H_r0_2⟩, ⟨r0_5, R_r0_5, H_r0_5⟩, ⟨r0_6, R_r0_6, H_r0_6⟩, ⟨r0_7, R_r0_7, H_r0_7⟩, ⟨r0_8, R_r0_8, H_r0_8⟩, ⟨r0_9, R_r0_9, H_r0_9⟩, ⟨r0_10, R_r0_10, H_r0_10⟩, ⟨r0_11, R_r0_11, H_r0_11⟩, ⟨r0_12, R_r0_12, H_r0_12⟩, ⟨r0_13, R_r0_13, H_r0_13⟩⟩ := id H_r0
  refine w_VR C (a_X11_toldForm hI H_r0) rfl rfl rfl rfl rfl ⟨_, rfl, rfl, T_r0, Nat.le_of_ble_eq_true rfl⟩ rfl rfl (Nat.le_of_ble_eq_true rfl) (Nat.le_of_ble_eq_true rfl) (Nat.le_of_ble_eq_true rfl) (by decide) (fun e9 he I9 L9 hq => by obtain ⟨rfl, rfl⟩ := hq; exact Or.inl ⟨rfl, Or.inr ⟨e9, _, _, (by decide : ∀ z ∈ [3], z ∈ [3]) e9 he, rfl, rfl, hI, Chg.rf⟩⟩) ?_
  rintro yy1 _ _ ⟨hyy1, rfl, rfl⟩
  obtain ⟨rr2, err2, H_rr2⟩ := hyy1
  subst err2
  refine k_astore_n C (lw := [(2, .ref rr2), (0, .ref r0), (1, .int n1)]) rfl rfl (Nat.le_of_ble_eq_true rfl) rfl ?_
  refine k_aload_n C rfl rfl rfl ?_
  obtain ⟨T_rr2, A_rr2, ⟨rr2_1, R_rr2_1, H_rr2_1⟩⟩ := id H_rr2
  refine z_gI C rfl rfl rfl T_rr2 rfl (fun x3 ex3 => ?_)
  have gx3 := rg x3
  have ox3 := IX.deg hI A_rr2 T_rr2 ex3
  refine z_iconst C (z := 2) rfl rfl rfl (fun x4 ex4 => ?_)
  refine b_icmp_ge C (t := 16) rfl rfl rfl (fun c5 => ?_) (fun c5 => ?_)
  · skip
    refine k_aload_n C rfl rfl rfl ?_
    refine g_R C rfl rfl rfl T_r0 rfl R_r0_5 ?_
    refine k_aload_n C rfl rfl rfl ?_
    refine z_iconst C (z := 1) rfl rfl rfl (fun x6 ex6 => ?_)
    refine z_iconst C (z := 0) rfl rfl rfl (fun x7 ex7 => ?_)
    refine k_aload_n C rfl rfl rfl ?_
    refine g_R C rfl rfl rfl T_r0 rfl R_r0_12 ?_
    obtain ⟨T_r0_5, A_r0_5, ⟨r0_5_0, R_r0_5_0, H_r0_5_0⟩, ⟨r0_5_1, R_r0_5_1, H_r0_5_1⟩, ⟨r0_5_2, R_r0_5_2, H_r0_5_2⟩⟩ := id H_r0_5
    refine c_VV C (a_X0_differentiate hI H_r0_5 H_rr2 (by omega) (by omega) (by omega) (by omega) H_r0_12) rfl rfl rfl rfl rfl ⟨_, rfl, rfl, T_r0_5, Nat.le_of_ble_eq_true rfl⟩ rfl rfl (Nat.le_of_ble_eq_true rfl) (Nat.le_of_ble_eq_true rfl) (Nat.le_of_ble_eq_true rfl) ?_
    rintro I9 L10 ⟨hI9, S11⟩
    refine k_aload_n C rfl rfl rfl ?_
    refine g_R C rfl rfl rfl T_r0 rfl R_r0_5 ?_
    refine k_aload_n C rfl rfl rfl ?_
    refine z_iconst C (z := 0) rfl rfl rfl (fun x12 ex12 => ?_)
    refine z_iconst C (z := 1) rfl rfl rfl (fun x13 ex13 => ?_)
    refine k_aload_n C rfl rfl rfl ?_
    refine g_R C rfl rfl rfl T_r0 rfl R_r0_13 ?_
    refine c_VV C (a_X0_differentiate hI9 H_r0_5 H_rr2 (by omega) (by omega) (by omega) (by omega) H_r0_13) rfl rfl rfl rfl rfl ⟨_, rfl, rfl, T_r0_5, Nat.le_of_ble_eq_true rfl⟩ rfl rfl (Nat.le_of_ble_eq_true rfl) (Nat.le_of_ble_eq_true rfl) (Nat.le_of_ble_eq_true rfl) ?_
    rintro I15 L16 ⟨hI15, S17⟩
    refine k_aload_n C rfl rfl rfl ?_
    refine g_R C rfl rfl rfl T_r0 rfl R_r0_12 ?_
    obtain ⟨T_r0_12, A_r0_12, ⟨r0_12_1, R_r0_12_1, H_r0_12_1⟩⟩ := id H_r0_12
    refine c_VI C (a_X2_isNought hI15 H_r0_12) rfl rfl rfl rfl rfl ⟨_, rfl, rfl, T_r0_12, Nat.le_of_ble_eq_true rfl⟩ rfl rfl (Nat.le_of_ble_eq_true rfl) (Nat.le_of_ble_eq_true rfl) (Nat.le_of_ble_eq_true rfl) ?_
    rintro x18 _ _ ⟨o0x18, o1x18, rfl, rfl⟩
    have gx18 := rg x18
    refine b_if_ne C (t := 64) rfl rfl rfl (fun c19 => ?_) (fun c19 => ?_)
    · skip
      refine z_iconst C (z := 0) rfl rfl rfl (fun x20 ex20 => ?_)
      exact k_iret C rfl (Or.inr ⟨rfl, z01 (by omega) (by omega)⟩) (Nat.le_of_ble_eq_true rfl) (Nat.le_of_ble_eq_true rfl) (Or.inl ⟨_, _, _, rfl, rfl, by omega, by omega, hI15, (Chg.cons S11 (Chg.mono S17 (by decide)) (by decide))⟩)
    refine k_aload_n C rfl rfl rfl ?_
    refine g_R C rfl rfl rfl T_r0 rfl R_r0_13 ?_
    obtain ⟨T_r0_13, A_r0_13, ⟨r0_13_1, R_r0_13_1, H_r0_13_1⟩⟩ := id H_r0_13
    refine c_VI C (a_X2_isNought hI15 H_r0_13) rfl rfl rfl rfl rfl ⟨_, rfl, rfl, T_r0_13, Nat.le_of_ble_eq_true rfl⟩ rfl rfl (Nat.le_of_ble_eq_true rfl) (Nat.le_of_ble_eq_true rfl) (Nat.le_of_ble_eq_true rfl) ?_
    rintro x21 _ _ ⟨o0x21, o1x21, rfl, rfl⟩
    have gx21 := rg x21
    refine b_if_eq C (t := 66) rfl rfl rfl (fun c22 => ?_) (fun c22 => ?_)
    · skip
      refine k_aload_n C rfl rfl rfl ?_
      refine g_R C rfl rfl rfl T_r0 rfl R_r0_5 ?_
      refine k_aload_n C rfl rfl rfl ?_
      refine g_R C rfl rfl rfl T_r0 rfl R_r0_12 ?_
      refine k_aload_n C rfl rfl rfl ?_
      refine g_R C rfl rfl rfl T_r0 rfl R_r0_13 ?_
      refine k_aload_n C rfl rfl rfl ?_
      refine g_R C rfl rfl rfl T_r0 rfl R_r0_11 ?_
      refine c_VV C (a_X0_shareInto hI15 H_r0_5 H_r0_12 H_r0_13 H_r0_11) rfl rfl rfl rfl rfl ⟨_, rfl, rfl, T_r0_5, Nat.le_of_ble_eq_true rfl⟩ rfl rfl (Nat.le_of_ble_eq_true rfl) (Nat.le_of_ble_eq_true rfl) (Nat.le_of_ble_eq_true rfl) ?_
      rintro I24 L25 ⟨hI24, S26⟩
      refine k_aload_n C rfl rfl rfl ?_
      refine g_R C rfl rfl rfl T_r0 rfl R_r0_11 ?_
      obtain ⟨T_r0_11, A_r0_11, ⟨r0_11_1, R_r0_11_1, H_r0_11_1⟩⟩ := id H_r0_11
      refine z_gI C rfl rfl rfl T_r0_11 rfl (fun x27 ex27 => ?_)
      have gx27 := rg x27
      have ox27 := IX.deg hI24 A_r0_11 T_r0_11 ex27
      refine b_if_ne C (t := 99) rfl rfl rfl (fun c28 => ?_) (fun c28 => ?_)
      · skip
        refine z_iconst C (z := 0) rfl rfl rfl (fun x29 ex29 => ?_)
        exact k_iret C rfl (Or.inr ⟨rfl, z01 (by omega) (by omega)⟩) (Nat.le_of_ble_eq_true rfl) (Nat.le_of_ble_eq_true rfl) (Or.inl ⟨_, _, _, rfl, rfl, by omega, by omega, hI24, (Chg.cons S11 (Chg.cons S17 (Chg.mono S26 (by decide)) (by decide)) (by decide))⟩)
      refine z_iconst C (z := 1) rfl rfl rfl (fun x30 ex30 => ?_)
      refine k_goto C (pc2 := 100) rfl rfl ?_
      exact k_iret C rfl (Or.inr ⟨rfl, z01 (by omega) (by omega)⟩) (Nat.le_of_ble_eq_true rfl) (Nat.le_of_ble_eq_true rfl) (Or.inl ⟨_, _, _, rfl, rfl, by omega, by omega, hI24, (Chg.cons S11 (Chg.cons S17 (Chg.mono S26 (by decide)) (by decide)) (by decide))⟩)
    refine z_iconst C (z := 0) rfl rfl rfl (fun x31 ex31 => ?_)
    exact k_iret C rfl (Or.inr ⟨rfl, z01 (by omega) (by omega)⟩) (Nat.le_of_ble_eq_true rfl) (Nat.le_of_ble_eq_true rfl) (Or.inl ⟨_, _, _, rfl, rfl, by omega, by omega, hI15, (Chg.cons S11 (Chg.mono S17 (by decide)) (by decide))⟩)
  refine z_iconst C (z := 0) rfl rfl rfl (fun x32 ex32 => ?_)
  exact k_iret C rfl (Or.inr ⟨rfl, z01 (by omega) (by omega)⟩) (Nat.le_of_ble_eq_true rfl) (Nat.le_of_ble_eq_true rfl) (Or.inl ⟨_, _, _, rfl, rfl, by omega, by omega, hI, Chg.rf⟩)

theorem a_X11_overlap {d : Nat} {T N : Nat → Nat} {I : IT} {L : LT} {R : RT} {A : Nat → Prop} {r0 : Nat} {n1 n2 n3 n4 : Int32} (hI : IX A T I) (H_r0 : (h_LF T N R A) r0) : Ex (d + 5) 166 [.ref r0, .int n1, .int n2, .int n3, .int n4] (T, N, I, L, R) 3 18 (pW [0, 3] T N R (pI T N R (fun x9 I9 L9 => (IX A T I9 ∧ Chg A T [(3, 0)] I L I9 L9))) (fun I9 L9 => IX A T I9 ∧ Chg A T [(3, 0)] I L I9 L9)) := by
  refine ⟨_, rfl, Nat.le_of_ble_eq_true rfl, fun V C S => ?_⟩
  show V 0 [(0, .ref r0), (1, .int n1), (2, .int n2), (3, .int n3), (4, .int n4)] [] (T, N, I, L, R) 0 0
  have gn1 := rg n1
  have gn2 := rg n2
  have gn3 := rg n3
  have gn4 := rg n4
  refine k_aload_n C rfl rfl rfl ?_
  refine k_iload_n C rfl rfl rfl ?_
  obtain ⟨T_r0, A_r0, ⟨r0_0, R_r0_0, H_r0_0⟩, ⟨r0_1, R_r0_1, H_r0_1⟩, ⟨r0_2, R_r0_2, H_r0_2⟩, ⟨r0_5, R_r0_5, H_r0_5⟩, ⟨r0_6, R_r0_6, H_r0_6⟩, ⟨r0_7, R_r0_7, H_r0_7⟩, ⟨r0_8, R_r0_8, H_r0_8⟩, ⟨r0_9, R_r0_9, H_r0_9⟩, ⟨r0_10, R_r0_10, H_r0_10⟩, ⟨r0_11, R_r0_11, H_r0_11⟩, ⟨r0_12, R_r0_12, H_r0_12⟩, ⟨r0_13, R_r0_13, H_r0_13⟩⟩ := id H_r0
  refine w_VR C (a_X11_toldForm hI H_r0) rfl rfl rfl rfl rfl ⟨_, rfl, rfl, T_r0, Nat.le_of_ble_eq_true rfl⟩ rfl rfl (Nat.le_of_ble_eq_true rfl) (Nat.le_of_ble_eq_true rfl) (Nat.le_of_ble_eq_true rfl) (by decide) (fun e9 he I9 L9 hq => by obtain ⟨rfl, rfl⟩ := hq; exact Or.inl ⟨rfl, Or.inr ⟨e9, _, _, (by decide : ∀ z ∈ [3], z ∈ [0, 3]) e9 he, rfl, rfl, hI, Chg.rf⟩⟩) ?_
  rintro yy1 _ _ ⟨hyy1, rfl, rfl⟩
  obtain ⟨rr2, err2, H_rr2⟩ := hyy1
  subst err2
  refine k_astore C (lw := [(5, .ref rr2), (0, .ref r0), (1, .int n1), (2, .int n2), (3, .int n3), (4, .int n4)]) rfl rfl (Nat.le_of_ble_eq_true rfl) rfl ?_
  refine k_aload_n C rfl rfl rfl ?_
  refine k_iload_n C rfl rfl rfl ?_
  refine w_VR C (a_X11_toldForm hI H_r0) rfl rfl rfl rfl rfl ⟨_, rfl, rfl, T_r0, Nat.le_of_ble_eq_true rfl⟩ rfl rfl (Nat.le_of_ble_eq_true rfl) (Nat.le_of_ble_eq_true rfl) (Nat.le_of_ble_eq_true rfl) (by decide) (fun e9 he I9 L9 hq => by obtain ⟨rfl, rfl⟩ := hq; exact Or.inl ⟨rfl, Or.inr ⟨e9, _, _, (by decide : ∀ z ∈ [3], z ∈ [0, 3]) e9 he, rfl, rfl, hI, Chg.rf⟩⟩) ?_
  rintro yy3 _ _ ⟨hyy3, rfl, rfl⟩
  obtain ⟨rr4, err4, H_rr4⟩ := hyy3
  subst err4
  refine k_astore C (lw := [(6, .ref rr4), (5, .ref rr2), (0, .ref r0), (1, .int n1), (2, .int n2), (3, .int n3), (4, .int n4)]) rfl rfl (Nat.le_of_ble_eq_true rfl) rfl ?_
  refine k_aload_n C rfl rfl rfl ?_
  refine g_R C rfl rfl rfl T_r0 rfl R_r0_5 ?_
  refine k_aload C rfl rfl rfl ?_
  refine k_aload C rfl rfl rfl ?_
  refine k_iload_n C rfl rfl rfl ?_
  refine k_aload_n C rfl rfl rfl ?_
  refine g_R C rfl rfl rfl T_r0 rfl R_r0_11 ?_
  obtain ⟨T_r0_5, A_r0_5, ⟨r0_5_0, R_r0_5_0, H_r0_5_0⟩, ⟨r0_5_1, R_r0_5_1, H_r0_5_1⟩, ⟨r0_5_2, R_r0_5_2, H_r0_5_2⟩⟩ := id H_r0_5
  refine c_VI C (a_X0_overlapInto hI H_r0_5 H_rr2 H_rr4 H_r0_11) rfl rfl rfl rfl rfl ⟨_, rfl, rfl, T_r0_5, Nat.le_of_ble_eq_true rfl⟩ rfl rfl (Nat.le_of_ble_eq_true rfl) (Nat.le_of_ble_eq_true rfl) (Nat.le_of_ble_eq_true rfl) ?_
  rintro x5 I6 L7 ⟨o0x5, o1x5, hI6, S8⟩
  have gx5 := rg x5
  refine b_if_ne C (t := 41) rfl rfl rfl (fun c9 => ?_) (fun c9 => ?_)
  · skip
    refine k_aload_n C rfl rfl rfl ?_
    refine g_R C rfl rfl rfl T_r0 rfl R_r0_11 ?_
    refine k_iload C rfl rfl rfl ?_
    refine c_SI C (a_X11_degreeOrNumber hI6 H_r0_11) rfl rfl rfl rfl rfl rfl rfl (Nat.le_of_ble_eq_true rfl) (Nat.le_of_ble_eq_true rfl) (Nat.le_of_ble_eq_true rfl) ?_
    rintro x10 _ _ ⟨rfl, rfl⟩
    have gx10 := rg x10
    exact k_iret C rfl (Or.inl rfl) (Nat.le_of_ble_eq_true rfl) (Nat.le_of_ble_eq_true rfl) (Or.inl ⟨_, _, _, rfl, rfl, hI6, (Chg.mono S8 (by decide))⟩)
  exact k_throw C rfl rfl rfl rfl rfl rfl (Nat.le_of_ble_eq_true rfl) (Nat.le_of_ble_eq_true rfl) (Nat.le_of_ble_eq_true rfl) (Or.inr ⟨_, _, _, (by decide : 0 ∈ [0, 3]), rfl, rfl, hI6, (Chg.mono S8 (by decide))⟩)

theorem a_X11_image {d : Nat} {T N : Nat → Nat} {I : IT} {L : LT} {R : RT} {A : Nat → Prop} {r0 : Nat} (hI : IX A T I) (H_r0 : (h_LF T N R A) r0) : Ex (d + 5) 174 [.ref r0] (T, N, I, L, R) 0 0 (pV T N R (fun I9 L9 => (IX A T I9 ∧ Chg A T [(3, 0), (8, 2), (9, 0), (9, 1), (9, 2), (9, 3), (9, 4), (9, 5), (10, 0), (10, 1), (10, 2), (10, 3), (12, 3)] I L I9 L9))) := by
  refine ⟨_, rfl, Nat.le_of_ble_eq_true rfl, fun V C S => ?_⟩
  show V 0 [(0, .ref r0)] [] (T, N, I, L, R) 0 0
  refine k_aload_n C rfl rfl rfl ?_
  obtain ⟨T_r0, A_r0, ⟨r0_0, R_r0_0, H_r0_0⟩, ⟨r0_1, R_r0_1, H_r0_1⟩, ⟨r0_2, R_r0_2, H_r0_2⟩, ⟨r0_5, R_r0_5, H_r0_5⟩, ⟨r0_6, R_r0_6, H_r0_6⟩, ⟨r0_7, R_r0_7, H_r0_7⟩, ⟨r0_8, R_r0_8, H_r0_8⟩, ⟨r0_9, R_r0_9, H_r0_9⟩, ⟨r0_10, R_r0_10, H_r0_10⟩, ⟨r0_11, R_r0_11, H_r0_11⟩, ⟨r0_12, R_r0_12, H_r0_12⟩, ⟨r0_13, R_r0_13, H_r0_13⟩⟩ := id H_r0
  refine g_R C rfl rfl rfl T_r0 rfl R_r0_2 ?_
  refine k_aload_n C rfl rfl rfl ?_
  refine g_R C rfl rfl rfl T_r0 rfl R_r0_1 ?_
  obtain ⟨T_r0_2, A_r0_2, ⟨r0_2_6, R_r0_2_6, H_r0_2_6⟩, ⟨r0_2_7, R_r0_2_7, H_r0_2_7⟩, ⟨r0_2_8, R_r0_2_8, H_r0_2_8⟩, ⟨r0_2_9, R_r0_2_9, H_r0_2_9⟩, ⟨r0_2_10, R_r0_2_10, H_r0_2_10⟩⟩ := id H_r0_2
  refine c_VV C (a_X8_copyFrom hI H_r0_2 H_r0_1) rfl rfl rfl rfl rfl ⟨_, rfl, rfl, T_r0_2, Nat.le_of_ble_eq_true rfl⟩ rfl rfl (Nat.le_of_ble_eq_true rfl) (Nat.le_of_ble_eq_true rfl) (Nat.le_of_ble_eq_true rfl) ?_
  rintro I2 L3 ⟨hI2, S4⟩
  refine k_aload_n C rfl rfl rfl ?_
  refine z_iconst C (z := 1) rfl rfl rfl (fun x5 ex5 => ?_)
  refine z_pZ C rfl rfl rfl T_r0 (Or.inr rfl) rfl (z01 (by omega) (by omega)) (fun I6 uI6 => ?_)
  have hI6 : IX A T I6 := IX.f hI2 T_r0 (boX.tr (by decide) (by decide)) uI6
  have S7 : Chg A T [(12, 3)] I2 L3 I6 L3 := Chg.f A_r0 T_r0 uI6
  have e8 := u2_e uI6
  exact k_vret C rfl rfl (Nat.le_of_ble_eq_true rfl) (Nat.le_of_ble_eq_true rfl) ⟨_, _, rfl, rfl, hI6, (Chg.cons S4 (Chg.mono S7 (by decide)) (by decide))⟩

theorem a_X11_back {d : Nat} {T N : Nat → Nat} {I : IT} {L : LT} {R : RT} {A : Nat → Prop} {r0 : Nat} (hI : IX A T I) (H_r0 : (h_LF T N R A) r0) : Ex (d + 5) 175 [.ref r0] (T, N, I, L, R) 0 0 (pI T N R (fun x9 I9 L9 => (0 ≤ x9.toInt) ∧ (x9.toInt ≤ 1) ∧ (IX A T I9 ∧ Chg A T [(3, 0), (8, 2), (9, 0), (9, 1), (9, 2), (9, 3), (9, 4), (9, 5), (10, 0), (10, 1), (10, 2), (10, 3)] I L I9 L9))) := by
  refine ⟨_, rfl, Nat.le_of_ble_eq_true rfl, fun V C S => ?_⟩
  show V 0 [(0, .ref r0)] [] (T, N, I, L, R) 0 0
  refine k_aload_n C rfl rfl rfl ?_
  obtain ⟨T_r0, A_r0, ⟨r0_0, R_r0_0, H_r0_0⟩, ⟨r0_1, R_r0_1, H_r0_1⟩, ⟨r0_2, R_r0_2, H_r0_2⟩, ⟨r0_5, R_r0_5, H_r0_5⟩, ⟨r0_6, R_r0_6, H_r0_6⟩, ⟨r0_7, R_r0_7, H_r0_7⟩, ⟨r0_8, R_r0_8, H_r0_8⟩, ⟨r0_9, R_r0_9, H_r0_9⟩, ⟨r0_10, R_r0_10, H_r0_10⟩, ⟨r0_11, R_r0_11, H_r0_11⟩, ⟨r0_12, R_r0_12, H_r0_12⟩, ⟨r0_13, R_r0_13, H_r0_13⟩⟩ := id H_r0
  refine z_gI C rfl rfl rfl T_r0 rfl (fun x1 ex1 => ?_)
  have gx1 := rg x1
  refine b_if_ne C (t := 9) rfl rfl rfl (fun c2 => ?_) (fun c2 => ?_)
  · skip
    refine k_aload_n C rfl rfl rfl ?_
    refine g_R C rfl rfl rfl T_r0 rfl R_r0_1 ?_
    refine k_aload_n C rfl rfl rfl ?_
    refine g_R C rfl rfl rfl T_r0 rfl R_r0_2 ?_
    obtain ⟨T_r0_1, A_r0_1, ⟨r0_1_6, R_r0_1_6, H_r0_1_6⟩, ⟨r0_1_7, R_r0_1_7, H_r0_1_7⟩, ⟨r0_1_8, R_r0_1_8, H_r0_1_8⟩, ⟨r0_1_9, R_r0_1_9, H_r0_1_9⟩, ⟨r0_1_10, R_r0_1_10, H_r0_1_10⟩⟩ := id H_r0_1
    refine c_VV C (a_X8_copyFrom hI H_r0_1 H_r0_2) rfl rfl rfl rfl rfl ⟨_, rfl, rfl, T_r0_1, Nat.le_of_ble_eq_true rfl⟩ rfl rfl (Nat.le_of_ble_eq_true rfl) (Nat.le_of_ble_eq_true rfl) (Nat.le_of_ble_eq_true rfl) ?_
    rintro I4 L5 ⟨hI4, S6⟩
    have e7 := Chg.k S6 T_r0 (by decide) (by decide) ex1
    refine z_iconst C (z := 1) rfl rfl rfl (fun x8 ex8 => ?_)
    exact k_iret C rfl (Or.inr ⟨rfl, z01 (by omega) (by omega)⟩) (Nat.le_of_ble_eq_true rfl) (Nat.le_of_ble_eq_true rfl) ⟨_, _, _, rfl, rfl, by omega, by omega, hI4, (Chg.mono S6 (by decide))⟩
  refine z_iconst C (z := 0) rfl rfl rfl (fun x9 ex9 => ?_)
  exact k_iret C rfl (Or.inr ⟨rfl, z01 (by omega) (by omega)⟩) (Nat.le_of_ble_eq_true rfl) (Nat.le_of_ble_eq_true rfl) ⟨_, _, _, rfl, rfl, by omega, by omega, hI, Chg.rf⟩

theorem a_X11_stock {d : Nat} {T N : Nat → Nat} {I : IT} {L : LT} {R : RT} {A : Nat → Prop} {r0 : Nat} {n1 : Int32} (hI : IX A T I) (H_r0 : (h_LF T N R A) r0) : Ex (d + 5) 176 [.ref r0, .int n1] (T, N, I, L, R) 0 0 (pI T N R (fun x9 I9 L9 => (I = I9 ∧ L = L9))) := by
  refine ⟨_, rfl, Nat.le_of_ble_eq_true rfl, fun V C S => ?_⟩
  show V 0 [(0, .ref r0), (1, .int n1)] [] (T, N, I, L, R) 0 0
  have gn1 := rg n1
  refine k_iload_n C rfl rfl rfl ?_
  refine k_table C rfl (by decide) (fun c1 => ?_) (fun c1 c2 => ?_)
  · skip
    show V 100 _ _ _ _ _
    refine z_iconst C (z := -1) rfl rfl rfl (fun x3 ex3 => ?_)
    exact k_iret C rfl (Or.inl rfl) (Nat.le_of_ble_eq_true rfl) (Nat.le_of_ble_eq_true rfl) ⟨_, _, _, rfl, rfl, rfl, rfl⟩
  have h4 : n1.toInt = 0 ∨ n1.toInt = 1 ∨ n1.toInt = 2 ∨ n1.toInt = 3 ∨ n1.toInt = 4 ∨ n1.toInt = 5 ∨ n1.toInt = 6 := by omega
  rcases h4 with h4 | h4 | h4 | h4 | h4 | h4 | h4
  · skip
    refine ⟨43, by rw [h4]; rfl, by decide, ?_⟩
    show V 44 _ _ _ _ _
    refine k_aload_n C rfl rfl rfl ?_
    obtain ⟨T_r0, A_r0, ⟨r0_0, R_r0_0, H_r0_0⟩, ⟨r0_1, R_r0_1, H_r0_1⟩, ⟨r0_2, R_r0_2, H_r0_2⟩, ⟨r0_5, R_r0_5, H_r0_5⟩, ⟨r0_6, R_r0_6, H_r0_6⟩, ⟨r0_7, R_r0_7, H_r0_7⟩, ⟨r0_8, R_r0_8, H_r0_8⟩, ⟨r0_9, R_r0_9, H_r0_9⟩, ⟨r0_10, R_r0_10, H_r0_10⟩, ⟨r0_11, R_r0_11, H_r0_11⟩, ⟨r0_12, R_r0_12, H_r0_12⟩, ⟨r0_13, R_r0_13, H_r0_13⟩⟩ := id H_r0
    refine g_R C rfl rfl rfl T_r0 rfl R_r0_1 ?_
    obtain ⟨T_r0_1, A_r0_1, ⟨r0_1_6, R_r0_1_6, H_r0_1_6⟩, ⟨r0_1_7, R_r0_1_7, H_r0_1_7⟩, ⟨r0_1_8, R_r0_1_8, H_r0_1_8⟩, ⟨r0_1_9, R_r0_1_9, H_r0_1_9⟩, ⟨r0_1_10, R_r0_1_10, H_r0_1_10⟩⟩ := id H_r0_1
    refine z_gI C rfl rfl rfl T_r0_1 rfl (fun x5 ex5 => ?_)
    have gx5 := rg x5
    have ox5 := IX.p hI A_r0_1 T_r0_1 ex5
    exact k_iret C rfl (Or.inl rfl) (Nat.le_of_ble_eq_true rfl) (Nat.le_of_ble_eq_true rfl) ⟨_, _, _, rfl, rfl, rfl, rfl⟩
  · skip
    refine ⟨51, by rw [h4]; rfl, by decide, ?_⟩
    show V 52 _ _ _ _ _
    refine k_aload_n C rfl rfl rfl ?_
    obtain ⟨T_r0, A_r0, ⟨r0_0, R_r0_0, H_r0_0⟩, ⟨r0_1, R_r0_1, H_r0_1⟩, ⟨r0_2, R_r0_2, H_r0_2⟩, ⟨r0_5, R_r0_5, H_r0_5⟩, ⟨r0_6, R_r0_6, H_r0_6⟩, ⟨r0_7, R_r0_7, H_r0_7⟩, ⟨r0_8, R_r0_8, H_r0_8⟩, ⟨r0_9, R_r0_9, H_r0_9⟩, ⟨r0_10, R_r0_10, H_r0_10⟩, ⟨r0_11, R_r0_11, H_r0_11⟩, ⟨r0_12, R_r0_12, H_r0_12⟩, ⟨r0_13, R_r0_13, H_r0_13⟩⟩ := id H_r0
    refine g_R C rfl rfl rfl T_r0 rfl R_r0_1 ?_
    obtain ⟨T_r0_1, A_r0_1, ⟨r0_1_6, R_r0_1_6, H_r0_1_6⟩, ⟨r0_1_7, R_r0_1_7, H_r0_1_7⟩, ⟨r0_1_8, R_r0_1_8, H_r0_1_8⟩, ⟨r0_1_9, R_r0_1_9, H_r0_1_9⟩, ⟨r0_1_10, R_r0_1_10, H_r0_1_10⟩⟩ := id H_r0_1
    refine z_gI C rfl rfl rfl T_r0_1 rfl (fun x6 ex6 => ?_)
    have gx6 := rg x6
    exact k_iret C rfl (Or.inl rfl) (Nat.le_of_ble_eq_true rfl) (Nat.le_of_ble_eq_true rfl) ⟨_, _, _, rfl, rfl, rfl, rfl⟩
  · skip
    refine ⟨59, by rw [h4]; rfl, by decide, ?_⟩
    show V 60 _ _ _ _ _
    refine k_aload_n C rfl rfl rfl ?_
    obtain ⟨T_r0, A_r0, ⟨r0_0, R_r0_0, H_r0_0⟩, ⟨r0_1, R_r0_1, H_r0_1⟩, ⟨r0_2, R_r0_2, H_r0_2⟩, ⟨r0_5, R_r0_5, H_r0_5⟩, ⟨r0_6, R_r0_6, H_r0_6⟩, ⟨r0_7, R_r0_7, H_r0_7⟩, ⟨r0_8, R_r0_8, H_r0_8⟩, ⟨r0_9, R_r0_9, H_r0_9⟩, ⟨r0_10, R_r0_10, H_r0_10⟩, ⟨r0_11, R_r0_11, H_r0_11⟩, ⟨r0_12, R_r0_12, H_r0_12⟩, ⟨r0_13, R_r0_13, H_r0_13⟩⟩ := id H_r0
    refine g_R C rfl rfl rfl T_r0 rfl R_r0_1 ?_
    obtain ⟨T_r0_1, A_r0_1, ⟨r0_1_6, R_r0_1_6, H_r0_1_6⟩, ⟨r0_1_7, R_r0_1_7, H_r0_1_7⟩, ⟨r0_1_8, R_r0_1_8, H_r0_1_8⟩, ⟨r0_1_9, R_r0_1_9, H_r0_1_9⟩, ⟨r0_1_10, R_r0_1_10, H_r0_1_10⟩⟩ := id H_r0_1
    refine z_gI C rfl rfl rfl T_r0_1 rfl (fun x7 ex7 => ?_)
    have gx7 := rg x7
    exact k_iret C rfl (Or.inl rfl) (Nat.le_of_ble_eq_true rfl) (Nat.le_of_ble_eq_true rfl) ⟨_, _, _, rfl, rfl, rfl, rfl⟩
  · skip
    refine ⟨67, by rw [h4]; rfl, by decide, ?_⟩
    show V 68 _ _ _ _ _
    refine k_aload_n C rfl rfl rfl ?_
    obtain ⟨T_r0, A_r0, ⟨r0_0, R_r0_0, H_r0_0⟩, ⟨r0_1, R_r0_1, H_r0_1⟩, ⟨r0_2, R_r0_2, H_r0_2⟩, ⟨r0_5, R_r0_5, H_r0_5⟩, ⟨r0_6, R_r0_6, H_r0_6⟩, ⟨r0_7, R_r0_7, H_r0_7⟩, ⟨r0_8, R_r0_8, H_r0_8⟩, ⟨r0_9, R_r0_9, H_r0_9⟩, ⟨r0_10, R_r0_10, H_r0_10⟩, ⟨r0_11, R_r0_11, H_r0_11⟩, ⟨r0_12, R_r0_12, H_r0_12⟩, ⟨r0_13, R_r0_13, H_r0_13⟩⟩ := id H_r0
    refine g_R C rfl rfl rfl T_r0 rfl R_r0_1 ?_
    obtain ⟨T_r0_1, A_r0_1, ⟨r0_1_6, R_r0_1_6, H_r0_1_6⟩, ⟨r0_1_7, R_r0_1_7, H_r0_1_7⟩, ⟨r0_1_8, R_r0_1_8, H_r0_1_8⟩, ⟨r0_1_9, R_r0_1_9, H_r0_1_9⟩, ⟨r0_1_10, R_r0_1_10, H_r0_1_10⟩⟩ := id H_r0_1
    refine z_gI C rfl rfl rfl T_r0_1 rfl (fun x8 ex8 => ?_)
    have gx8 := rg x8
    exact k_iret C rfl (Or.inl rfl) (Nat.le_of_ble_eq_true rfl) (Nat.le_of_ble_eq_true rfl) ⟨_, _, _, rfl, rfl, rfl, rfl⟩
  · skip
    refine ⟨75, by rw [h4]; rfl, by decide, ?_⟩
    show V 76 _ _ _ _ _
    refine k_aload_n C rfl rfl rfl ?_
    obtain ⟨T_r0, A_r0, ⟨r0_0, R_r0_0, H_r0_0⟩, ⟨r0_1, R_r0_1, H_r0_1⟩, ⟨r0_2, R_r0_2, H_r0_2⟩, ⟨r0_5, R_r0_5, H_r0_5⟩, ⟨r0_6, R_r0_6, H_r0_6⟩, ⟨r0_7, R_r0_7, H_r0_7⟩, ⟨r0_8, R_r0_8, H_r0_8⟩, ⟨r0_9, R_r0_9, H_r0_9⟩, ⟨r0_10, R_r0_10, H_r0_10⟩, ⟨r0_11, R_r0_11, H_r0_11⟩, ⟨r0_12, R_r0_12, H_r0_12⟩, ⟨r0_13, R_r0_13, H_r0_13⟩⟩ := id H_r0
    refine g_R C rfl rfl rfl T_r0 rfl R_r0_1 ?_
    obtain ⟨T_r0_1, A_r0_1, ⟨r0_1_6, R_r0_1_6, H_r0_1_6⟩, ⟨r0_1_7, R_r0_1_7, H_r0_1_7⟩, ⟨r0_1_8, R_r0_1_8, H_r0_1_8⟩, ⟨r0_1_9, R_r0_1_9, H_r0_1_9⟩, ⟨r0_1_10, R_r0_1_10, H_r0_1_10⟩⟩ := id H_r0_1
    refine z_gI C rfl rfl rfl T_r0_1 rfl (fun x9 ex9 => ?_)
    have gx9 := rg x9
    exact k_iret C rfl (Or.inl rfl) (Nat.le_of_ble_eq_true rfl) (Nat.le_of_ble_eq_true rfl) ⟨_, _, _, rfl, rfl, rfl, rfl⟩
  · skip
    refine ⟨83, by rw [h4]; rfl, by decide, ?_⟩
    show V 84 _ _ _ _ _
    refine k_aload_n C rfl rfl rfl ?_
    obtain ⟨T_r0, A_r0, ⟨r0_0, R_r0_0, H_r0_0⟩, ⟨r0_1, R_r0_1, H_r0_1⟩, ⟨r0_2, R_r0_2, H_r0_2⟩, ⟨r0_5, R_r0_5, H_r0_5⟩, ⟨r0_6, R_r0_6, H_r0_6⟩, ⟨r0_7, R_r0_7, H_r0_7⟩, ⟨r0_8, R_r0_8, H_r0_8⟩, ⟨r0_9, R_r0_9, H_r0_9⟩, ⟨r0_10, R_r0_10, H_r0_10⟩, ⟨r0_11, R_r0_11, H_r0_11⟩, ⟨r0_12, R_r0_12, H_r0_12⟩, ⟨r0_13, R_r0_13, H_r0_13⟩⟩ := id H_r0
    refine g_R C rfl rfl rfl T_r0 rfl R_r0_1 ?_
    obtain ⟨T_r0_1, A_r0_1, ⟨r0_1_6, R_r0_1_6, H_r0_1_6⟩, ⟨r0_1_7, R_r0_1_7, H_r0_1_7⟩, ⟨r0_1_8, R_r0_1_8, H_r0_1_8⟩, ⟨r0_1_9, R_r0_1_9, H_r0_1_9⟩, ⟨r0_1_10, R_r0_1_10, H_r0_1_10⟩⟩ := id H_r0_1
    refine z_gI C rfl rfl rfl T_r0_1 rfl (fun x10 ex10 => ?_)
    have gx10 := rg x10
    exact k_iret C rfl (Or.inl rfl) (Nat.le_of_ble_eq_true rfl) (Nat.le_of_ble_eq_true rfl) ⟨_, _, _, rfl, rfl, rfl, rfl⟩
  · skip
    refine ⟨91, by rw [h4]; rfl, by decide, ?_⟩
    show V 92 _ _ _ _ _
    refine k_aload_n C rfl rfl rfl ?_
    obtain ⟨T_r0, A_r0, ⟨r0_0, R_r0_0, H_r0_0⟩, ⟨r0_1, R_r0_1, H_r0_1⟩, ⟨r0_2, R_r0_2, H_r0_2⟩, ⟨r0_5, R_r0_5, H_r0_5⟩, ⟨r0_6, R_r0_6, H_r0_6⟩, ⟨r0_7, R_r0_7, H_r0_7⟩, ⟨r0_8, R_r0_8, H_r0_8⟩, ⟨r0_9, R_r0_9, H_r0_9⟩, ⟨r0_10, R_r0_10, H_r0_10⟩, ⟨r0_11, R_r0_11, H_r0_11⟩, ⟨r0_12, R_r0_12, H_r0_12⟩, ⟨r0_13, R_r0_13, H_r0_13⟩⟩ := id H_r0
    refine g_R C rfl rfl rfl T_r0 rfl R_r0_1 ?_
    obtain ⟨T_r0_1, A_r0_1, ⟨r0_1_6, R_r0_1_6, H_r0_1_6⟩, ⟨r0_1_7, R_r0_1_7, H_r0_1_7⟩, ⟨r0_1_8, R_r0_1_8, H_r0_1_8⟩, ⟨r0_1_9, R_r0_1_9, H_r0_1_9⟩, ⟨r0_1_10, R_r0_1_10, H_r0_1_10⟩⟩ := id H_r0_1
    refine c_VI C (a_X8_noughts hI H_r0_1) rfl rfl rfl rfl rfl ⟨_, rfl, rfl, T_r0_1, Nat.le_of_ble_eq_true rfl⟩ rfl rfl (Nat.le_of_ble_eq_true rfl) (Nat.le_of_ble_eq_true rfl) (Nat.le_of_ble_eq_true rfl) ?_
    rintro x11 _ _ ⟨rfl, rfl⟩
    have gx11 := rg x11
    exact k_iret C rfl (Or.inl rfl) (Nat.le_of_ble_eq_true rfl) (Nat.le_of_ble_eq_true rfl) ⟨_, _, _, rfl, rfl, rfl, rfl⟩

