/-! the class in any state, the states' forms kept -/
theorem s_X2_pick_Row12 {d : Nat} {T N : Nat → Nat} {I : IT} {L : LT} {R : RT} {A B : Nat → Prop} {r0 : Nat} {n1 : Int32} (hS : SUB B A) (hI : IX A T I) (H_r0 : (hs_Row12 T N R A B) r0) : Ex (d + 1) 36 [.ref r0, .int n1] (T, N, I, L, R) 0 0 (pR T N R (fun x9 I9 L9 => (∀ b, x9 = some b → (hs_G T N R A B) b) ∧ (I = I9 ∧ L = L9))) := by
  refine ⟨_, rfl, Nat.le_of_ble_eq_true rfl, fun V C S => ?_⟩
  show V 0 [(0, .ref r0), (1, .int n1)] [] (T, N, I, L, R) 0 0
  have gn1 := rg n1
  refine k_iload_n C rfl rfl rfl ?_
  refine b_if_lt C (t := 10) rfl rfl rfl (fun c1 => ?_) (fun c1 => ?_)
  · skip
    refine k_null C rfl rfl ?_
    refine k_goto C (pc2 := 17) rfl rfl ?_
    exact k_aret C (x := none) rfl (Or.inl ⟨_, rfl⟩) (Nat.le_of_ble_eq_true rfl) (Nat.le_of_ble_eq_true rfl) ⟨_, _, _, rfl, rfl, fz, rfl, rfl⟩
  refine k_iload_n C rfl rfl rfl ?_
  refine k_aload_n C rfl rfl rfl ?_
  obtain ⟨T_r0, N_r0, A_r0, E_r0⟩ := id H_r0
  refine z_len C (n := 12) rfl rfl (by rw [T_r0]; exact Nat.le_of_ble_eq_true rfl) N_r0 (Nat.le_of_ble_eq_true rfl) (fun x2 ex2 => ?_)
  refine b_icmp_lt C (t := 14) rfl rfl rfl (fun c3 => ?_) (fun c3 => ?_)
  · skip
    refine k_aload_n C rfl rfl rfl ?_
    refine k_iload_n C rfl rfl rfl ?_
    refine z_aR C (t := 0) rfl rfl (Nat.le_of_ble_eq_true rfl) T_r0 N_r0 E_r0 (by omega) (by omega) (fun rr4 H_rr4 => ?_)
    exact k_aret C (x := some _) rfl (Or.inl ⟨_, rfl⟩) (Nat.le_of_ble_eq_true rfl) (Nat.le_of_ble_eq_true rfl) ⟨_, _, _, rfl, rfl, fb H_rr4, rfl, rfl⟩
  refine k_null C rfl rfl ?_
  refine k_goto C (pc2 := 17) rfl rfl ?_
  exact k_aret C (x := none) rfl (Or.inl ⟨_, rfl⟩) (Nat.le_of_ble_eq_true rfl) (Nat.le_of_ble_eq_true rfl) ⟨_, _, _, rfl, rfl, fz, rfl, rfl⟩

theorem s_X5_draw {d : Nat} {T N : Nat → Nat} {I : IT} {L : LT} {R : RT} {A B : Nat → Prop} {r0 : Nat} {n1 n2 : Int32} (hS : SUB B A) (hI : IX A T I) (H_r0 : (hs_Rw T N R A B) r0) (b0_n1 : 1 ≤ n1.toInt) (b1_n1 : n1.toInt ≤ 8) : Ex (d + 3) 76 [.ref r0, .int n1, .int n2] (T, N, I, L, R) 0 0 (pV T N R (fun I9 L9 => (IX A T I9 ∧ Chg B T [(3, 0)] I L I9 L9))) := by
  refine ⟨_, rfl, Nat.le_of_ble_eq_true rfl, fun V C S => ?_⟩
  show V 0 [(0, .ref r0), (1, .int n1), (2, .int n2)] [] (T, N, I, L, R) 0 0
  have gn1 := rg n1
  have gn2 := rg n2
  refine k_iload_n C rfl rfl rfl ?_
  refine k_istore_n C (lw := [(3, .int n2), (0, .ref r0), (1, .int n1), (2, .int n2)]) rfl rfl (Nat.le_of_ble_eq_true rfl) rfl ?_
  refine z_iconst C (z := 0) rfl rfl rfl (fun x1 ex1 => ?_)
  have J2 : ∀ (nn3 : Nat) (I4 : IT) (L5 : LT) (x6 : Int32) (x7 : Int32), (MN (12 - x7.toInt) nn3) → (IX A T I4) → (Chg B T [(3, 0)] I L I4 L5) → (0 ≤ x7.toInt) → (x7.toInt ≤ 12) → V 5 [(0, .ref r0), (1, .int n1), (3, .int x6), (4, .int x7)] [] (T, N, I4, L5, R) 0 0 := by
    intro nn3
    induction nn3 using Nat.strongRecOn with
    | _ nn3 ihJ2 =>
      intro I4 L5 x6 x7 hmnn3 hI11 S10 b8 b9
      have gx6 := rg x6
      have gx7 := rg x7
      refine k_iload C rfl rfl rfl ?_
      refine z_bipush C (z := 12) rfl rfl rfl (fun x12 ex12 => ?_)
      refine b_icmp_ge C (t := 87) rfl rfl rfl (fun c13 => ?_) (fun c13 => ?_)
      · skip
        exact k_vret C rfl rfl (Nat.le_of_ble_eq_true rfl) (Nat.le_of_ble_eq_true rfl) ⟨_, _, rfl, rfl, hI11, (Chg.mono S10 (by decide))⟩
      refine k_aload_n C rfl rfl rfl ?_
      obtain ⟨T_r0, A_r0, B_r0, ⟨r0_0, R_r0_0, H_r0_0⟩, ⟨r0_1, R_r0_1, H_r0_1⟩, ⟨r0_2, R_r0_2, H_r0_2⟩, ⟨r0_3, R_r0_3, H_r0_3⟩, ⟨r0_4, R_r0_4, H_r0_4⟩, ⟨r0_5, R_r0_5, H_r0_5⟩⟩ := id H_r0
      refine g_R C rfl rfl rfl T_r0 rfl R_r0_2 ?_
      refine k_iload C rfl rfl rfl ?_
      refine c_SR C (s_X2_pick_Row12 hS hI11 H_r0_2) rfl rfl rfl rfl rfl rfl rfl (Nat.le_of_ble_eq_true rfl) (Nat.le_of_ble_eq_true rfl) (Nat.le_of_ble_eq_true rfl) ?_
      rintro yy14 _ _ ⟨hyy14, rfl, rfl⟩
      refine k_astoreV C (x := yy14) (lw := [(5, va_rf yy14), (0, .ref r0), (1, .int n1), (3, .int x6), (4, .int x7)]) rfl rfl (Nat.le_of_ble_eq_true rfl) rfl ?_
      refine k_aloadV C (x := yy14) rfl rfl rfl ?_
      refine k_ifnull C (x := yy14) (t := 81) rfl rfl rfl (fun c15 => ?_) (fun rr16 c15 => ?_)
      · skip
        subst c15
        refine z_iinc C (z := 1) (lw := fun x17 => [(4, .int x17), (5, va_rf none), (0, .ref r0), (1, .int n1), (3, .int x6)]) rfl rfl rfl (Nat.le_of_ble_eq_true rfl) rfl ⟨by omega, by omega⟩ (fun _ => rfl) (fun x17 ex17 => ?_)
        show V 84 [(4, .int x17), (5, va_rf none), (0, .ref r0), (1, .int n1), (3, .int x6)] _ _ _ _
        refine k_goto C (pc2 := 5) rfl rfl ?_
        refine k_sub S [(0, .ref r0), (1, .int n1), (3, .int x6), (4, .int x17)] (List.forall_mem_cons.mpr ⟨List.mem_of_getElem? (i := 2) rfl, List.forall_mem_cons.mpr ⟨List.mem_of_getElem? (i := 3) rfl, List.forall_mem_cons.mpr ⟨List.mem_of_getElem? (i := 4) rfl, List.forall_mem_cons.mpr ⟨List.mem_of_getElem? (i := 0) rfl, fun _ h => nomatch h⟩⟩⟩⟩) ?_
        exact ihJ2 _ (MN.lt hmnn3 (by omega) (by omega)) I4 L5 x6 x17 rfl hI11 (Chg.mono S10 (by decide)) (by omega) (by omega)
      subst c15
      have H_rr16 := hyy14 rr16 rfl
      refine k_aload C rfl rfl rfl ?_
      refine k_iload_n C rfl rfl rfl ?_
      obtain ⟨T_rr16, A_rr16, B_rr16, ⟨rr16_1, R_rr16_1, H_rr16_1⟩⟩ := id H_rr16
      refine c_VV C (s_X2_begin hS hI11 H_rr16) rfl rfl rfl rfl rfl ⟨_, rfl, rfl, T_rr16, Nat.le_of_ble_eq_true rfl⟩ rfl rfl (Nat.le_of_ble_eq_true rfl) (Nat.le_of_ble_eq_true rfl) (Nat.le_of_ble_eq_true rfl) ?_
      rintro I19 L20 ⟨hI19, S21⟩
      refine z_iconst C (z := 0) rfl rfl rfl (fun x22 ex22 => ?_)
      have J23 : ∀ (nn24 : Nat) (I25 : IT) (L26 : LT) (x27 : Int32) (x28 : Int32), (MN (9 - x28.toInt) nn24) → (IX A T I25) → (Chg B T [] I19 L20 I25 L26) → (0 ≤ x28.toInt) → (x28.toInt ≤ 9) → V 37 [(0, .ref r0), (1, .int n1), (3, .int x27), (4, .int x7), (5, .ref rr16), (6, .int x28)] [] (T, N, I25, L26, R) 0 0 := by
        intro nn24
        induction nn24 using Nat.strongRecOn with
        | _ nn24 ihJ23 =>
          intro I25 L26 x27 x28 hmnn24 hI32 S31 b29 b30
          have gx27 := rg x27
          have gx28 := rg x28
          refine k_iload C rfl rfl rfl ?_
          refine k_iload_n C rfl rfl rfl ?_
          refine b_icmp_gt C (t := 81) rfl rfl rfl (fun c33 => ?_) (fun c33 => ?_)
          · skip
            refine z_iinc C (z := 1) (lw := fun x34 => [(4, .int x34), (0, .ref r0), (1, .int n1), (3, .int x27), (5, .ref rr16), (6, .int x28)]) rfl rfl rfl (Nat.le_of_ble_eq_true rfl) rfl ⟨by omega, by omega⟩ (fun _ => rfl) (fun x34 ex34 => ?_)
            show V 84 [(4, .int x34), (0, .ref r0), (1, .int n1), (3, .int x27), (5, .ref rr16), (6, .int x28)] _ _ _ _
            refine k_goto C (pc2 := 5) rfl rfl ?_
            refine k_sub S [(0, .ref r0), (1, .int n1), (3, .int x27), (4, .int x34)] (List.forall_mem_cons.mpr ⟨List.mem_of_getElem? (i := 1) rfl, List.forall_mem_cons.mpr ⟨List.mem_of_getElem? (i := 2) rfl, List.forall_mem_cons.mpr ⟨List.mem_of_getElem? (i := 3) rfl, List.forall_mem_cons.mpr ⟨List.mem_of_getElem? (i := 0) rfl, fun _ h => nomatch h⟩⟩⟩⟩) ?_
            exact ihJ2 _ (MN.lt hmnn3 (by omega) (by omega)) I25 L26 x27 x34 rfl hI32 (Chg.cons S10 (Chg.cons S21 (Chg.mono S31 (by decide)) (by decide)) (by decide)) (by omega) (by omega)
          refine z_ldc C rfl rfl rfl (fun x35 ex35 => ?_)
          have gx35 := rg x35
          clear ex35
          refine k_iload_n C rfl rfl rfl ?_
          refine zt_imul C rfl rfl (fun x36 => ?_)
          have gx36 := rg x36
          refine z_sipush C (z := 12345) rfl rfl rfl (fun x37 ex37 => ?_)
          refine zt_iadd C rfl rfl (fun x38 => ?_)
          have gx38 := rg x38
          refine k_istore_n C (lw := [(3, .int x38), (0, .ref r0), (1, .int n1), (4, .int x7), (5, .ref rr16), (6, .int x28)]) rfl rfl (Nat.le_of_ble_eq_true rfl) rfl ?_
          refine k_aload C rfl rfl rfl ?_
          refine k_iload C rfl rfl rfl ?_
          refine k_aload_n C rfl rfl rfl ?_
          refine g_R C rfl rfl rfl T_r0 rfl R_r0_0 ?_
          refine k_iload_n C rfl rfl rfl ?_
          refine z_bipush C (z := 16) rfl rfl rfl (fun x39 ex39 => ?_)
          refine zt_iushr C rfl rfl (fun x40 => ?_)
          have gx40 := rg x40
          refine z_sipush C (z := 32767) rfl rfl rfl (fun x41 ex41 => ?_)
          refine zt_iand C rfl rfl (fun x42 => ?_)
          have gx42 := rg x42
          refine z_i2l C rfl rfl (fun lg43 elg43 => ?_)
          obtain ⟨T_r0_0, A_r0_0, B_r0_0, ⟨r0_0_0, R_r0_0_0, H_r0_0_0⟩, ⟨r0_0_1, R_r0_0_1, H_r0_0_1⟩, ⟨r0_0_2, R_r0_0_2, H_r0_0_2⟩⟩ := id H_r0_0
          refine c_VI C (s_X0_of hS hI32 H_r0_0) rfl rfl rfl rfl rfl ⟨_, rfl, rfl, T_r0_0, Nat.le_of_ble_eq_true rfl⟩ rfl rfl (Nat.le_of_ble_eq_true rfl) (Nat.le_of_ble_eq_true rfl) (Nat.le_of_ble_eq_true rfl) ?_
          rintro x44 _ _ ⟨rfl, rfl⟩
          have gx44 := rg x44
          refine c_VV C (s_X2_set hS hI32 H_rr16) rfl rfl rfl rfl rfl ⟨_, rfl, rfl, T_rr16, Nat.le_of_ble_eq_true rfl⟩ rfl rfl (Nat.le_of_ble_eq_true rfl) (Nat.le_of_ble_eq_true rfl) (Nat.le_of_ble_eq_true rfl) ?_
          rintro I46 L47 ⟨hI46, S48⟩
          refine z_iinc C (z := 1) (lw := fun x49 => [(6, .int x49), (3, .int x38), (0, .ref r0), (1, .int n1), (4, .int x7), (5, .ref rr16)]) rfl rfl rfl (Nat.le_of_ble_eq_true rfl) rfl ⟨by omega, by omega⟩ (fun _ => rfl) (fun x49 ex49 => ?_)
          show V 78 [(6, .int x49), (3, .int x38), (0, .ref r0), (1, .int n1), (4, .int x7), (5, .ref rr16)] _ _ _ _
          refine k_goto C (pc2 := 37) rfl rfl ?_
          refine k_sub S [(0, .ref r0), (1, .int n1), (3, .int x38), (4, .int x7), (5, .ref rr16), (6, .int x49)] (List.forall_mem_cons.mpr ⟨List.mem_of_getElem? (i := 2) rfl, List.forall_mem_cons.mpr ⟨List.mem_of_getElem? (i := 3) rfl, List.forall_mem_cons.mpr ⟨List.mem_of_getElem? (i := 1) rfl, List.forall_mem_cons.mpr ⟨List.mem_of_getElem? (i := 4) rfl, List.forall_mem_cons.mpr ⟨List.mem_of_getElem? (i := 5) rfl, List.forall_mem_cons.mpr ⟨List.mem_of_getElem? (i := 0) rfl, fun _ h => nomatch h⟩⟩⟩⟩⟩⟩) ?_
          exact ihJ23 _ (MN.lt hmnn24 (by omega) (by omega)) I46 L47 x38 x49 rfl hI46 (Chg.cons S31 (Chg.mono S48 (by decide)) (by decide)) (by omega) (by omega)
      refine k_istore C (lw := [(6, .int x22), (5, .ref rr16), (0, .ref r0), (1, .int n1), (3, .int x6), (4, .int x7)]) rfl rfl (Nat.le_of_ble_eq_true rfl) rfl ?_
      refine k_sub S [(0, .ref r0), (1, .int n1), (3, .int x6), (4, .int x7), (5, .ref rr16), (6, .int x22)] (List.forall_mem_cons.mpr ⟨List.mem_of_getElem? (i := 2) rfl, List.forall_mem_cons.mpr ⟨List.mem_of_getElem? (i := 3) rfl, List.forall_mem_cons.mpr ⟨List.mem_of_getElem? (i := 4) rfl, List.forall_mem_cons.mpr ⟨List.mem_of_getElem? (i := 5) rfl, List.forall_mem_cons.mpr ⟨List.mem_of_getElem? (i := 1) rfl, List.forall_mem_cons.mpr ⟨List.mem_of_getElem? (i := 0) rfl, fun _ h => nomatch h⟩⟩⟩⟩⟩⟩) ?_
      exact J23 _ I19 L20 x6 x22 rfl hI19 Chg.rf (by omega) (by omega)
  refine k_istore C (lw := [(4, .int x1), (3, .int n2), (0, .ref r0), (1, .int n1), (2, .int n2)]) rfl rfl (Nat.le_of_ble_eq_true rfl) rfl ?_
  refine k_sub S [(0, .ref r0), (1, .int n1), (3, .int n2), (4, .int x1)] (List.forall_mem_cons.mpr ⟨List.mem_of_getElem? (i := 2) rfl, List.forall_mem_cons.mpr ⟨List.mem_of_getElem? (i := 3) rfl, List.forall_mem_cons.mpr ⟨List.mem_of_getElem? (i := 1) rfl, List.forall_mem_cons.mpr ⟨List.mem_of_getElem? (i := 0) rfl, fun _ h => nomatch h⟩⟩⟩⟩) ?_
  exact J2 _ I L n2 x1 rfl hI Chg.rf (by omega) (by omega)

theorem s_X8_signsAt {d : Nat} {T N : Nat → Nat} {I : IT} {L : LT} {R : RT} {A B : Nat → Prop} {r0 : Nat} {n1 : Int32} (hS : SUB B A) (hI : IX A T I) (H_r0 : (hs_St T N R A B) r0) : Ex (d + 1) 77 [.ref r0, .int n1] (T, N, I, L, R) 0 0 (pR T N R (fun x9 I9 L9 => (∀ b, x9 = some b → (hs_Sg T N R A B) b) ∧ (I = I9 ∧ L = L9))) := by
  refine ⟨_, rfl, Nat.le_of_ble_eq_true rfl, fun V C S => ?_⟩
  show V 0 [(0, .ref r0), (1, .int n1)] [] (T, N, I, L, R) 0 0
  have gn1 := rg n1
  refine k_iload_n C rfl rfl rfl ?_
  refine b_if_lt C (t := 21) rfl rfl rfl (fun c1 => ?_) (fun c1 => ?_)
  · skip
    refine k_null C rfl rfl ?_
    refine k_goto C (pc2 := 31) rfl rfl ?_
    exact k_aret C (x := none) rfl (Or.inl ⟨_, rfl⟩) (Nat.le_of_ble_eq_true rfl) (Nat.le_of_ble_eq_true rfl) ⟨_, _, _, rfl, rfl, fz, rfl, rfl⟩
  refine k_iload_n C rfl rfl rfl ?_
  refine k_aload_n C rfl rfl rfl ?_
  obtain ⟨T_r0, A_r0, B_r0, ⟨r0_6, R_r0_6, H_r0_6⟩, ⟨r0_7, R_r0_7, H_r0_7⟩, ⟨r0_8, R_r0_8, H_r0_8⟩, ⟨r0_9, R_r0_9, H_r0_9⟩, ⟨r0_10, R_r0_10, H_r0_10⟩⟩ := id H_r0
  refine z_gI C rfl rfl rfl T_r0 rfl (fun x2 ex2 => ?_)
  have gx2 := rg x2
  refine b_icmp_ge C (t := 21) rfl rfl rfl (fun c3 => ?_) (fun c3 => ?_)
  · skip
    refine k_null C rfl rfl ?_
    refine k_goto C (pc2 := 31) rfl rfl ?_
    exact k_aret C (x := none) rfl (Or.inl ⟨_, rfl⟩) (Nat.le_of_ble_eq_true rfl) (Nat.le_of_ble_eq_true rfl) ⟨_, _, _, rfl, rfl, fz, rfl, rfl⟩
  refine k_iload_n C rfl rfl rfl ?_
  refine k_aload_n C rfl rfl rfl ?_
  refine g_R C rfl rfl rfl T_r0 rfl R_r0_10 ?_
  obtain ⟨T_r0_10, N_r0_10, A_r0_10, E_r0_10⟩ := id H_r0_10
  refine z_len C (n := 8) rfl rfl (by rw [T_r0_10]; exact Nat.le_of_ble_eq_true rfl) N_r0_10 (Nat.le_of_ble_eq_true rfl) (fun x4 ex4 => ?_)
  refine b_icmp_lt C (t := 25) rfl rfl rfl (fun c5 => ?_) (fun c5 => ?_)
  · skip
    refine k_aload_n C rfl rfl rfl ?_
    refine g_R C rfl rfl rfl T_r0 rfl R_r0_10 ?_
    refine k_iload_n C rfl rfl rfl ?_
    refine z_aR C (t := 2) rfl rfl (Nat.le_of_ble_eq_true rfl) T_r0_10 N_r0_10 E_r0_10 (by omega) (by omega) (fun rr6 H_rr6 => ?_)
    exact k_aret C (x := some _) rfl (Or.inl ⟨_, rfl⟩) (Nat.le_of_ble_eq_true rfl) (Nat.le_of_ble_eq_true rfl) ⟨_, _, _, rfl, rfl, fb H_rr6, rfl, rfl⟩
  refine k_null C rfl rfl ?_
  refine k_goto C (pc2 := 31) rfl rfl ?_
  exact k_aret C (x := none) rfl (Or.inl ⟨_, rfl⟩) (Nat.le_of_ble_eq_true rfl) (Nat.le_of_ble_eq_true rfl) ⟨_, _, _, rfl, rfl, fz, rfl, rfl⟩

theorem s_X5_isAppended {d : Nat} {T N : Nat → Nat} {I : IT} {L : LT} {R : RT} {A B : Nat → Prop} {r0 : Nat} {y1 : Option Nat} (hS : SUB B A) (hI : IX A T I) (H_r0 : (hs_Rw T N R A B) r0) (H_y1 : ∀ b, y1 = some b → (hs_F T N R A B) b) (hp0 : 0 ≤ (I r0 8).toInt) : Ex (d + 2) 78 [.ref r0, va_rf y1] (T, N, I, L, R) 0 0 (pI T N R (fun x9 I9 L9 => (0 ≤ x9.toInt) ∧ (x9.toInt ≤ 1) ∧ (0 ≤ (I9 r0 8).toInt) ∧ (IX A T I9 ∧ Chg B T [(6, 7), (6, 8)] I L I9 L9))) := by
  refine ⟨_, rfl, (by cases y1 <;> exact Nat.le_of_ble_eq_true rfl), fun V C S => ?_⟩
  show V 0 [(0, .ref r0), (1, va_rf y1)] [] (T, N, I, L, R) 0 0
  obtain ⟨T_r0, A_r0, B_r0, ⟨r0_0, R_r0_0, H_r0_0⟩, ⟨r0_1, R_r0_1, H_r0_1⟩, ⟨r0_2, R_r0_2, H_r0_2⟩, ⟨r0_3, R_r0_3, H_r0_3⟩, ⟨r0_4, R_r0_4, H_r0_4⟩, ⟨r0_5, R_r0_5, H_r0_5⟩⟩ := id H_r0
  obtain ⟨w_r0_8, k0_r0_8⟩ : ∃ x, I r0 8 = x := ⟨_, rfl⟩
  have gw_r0_8 := rg w_r0_8
  try simp only [k0_r0_8] at hp0
  refine k_aload_nV C (x := y1) rfl rfl rfl ?_
  refine k_ifnull C (x := y1) (t := 42) rfl rfl rfl (fun c1 => ?_) (fun rr2 c1 => ?_)
  · skip
    subst c1
    refine z_iconst C (z := 0) rfl rfl rfl (fun x3 ex3 => ?_)
    exact k_iret C rfl (Or.inr ⟨rfl, z01 (by omega) (by omega)⟩) (Nat.le_of_ble_eq_true rfl) (Nat.le_of_ble_eq_true rfl) ⟨_, _, _, rfl, rfl, by omega, by omega, by first | omega | (simp only [k0_r0_8] <;> omega), hI, Chg.rf⟩
  subst c1
  have H_rr2 := H_y1 rr2 rfl
  refine k_aload_n C rfl rfl rfl ?_
  refine z_gI C rfl rfl rfl T_r0 rfl (fun x4 ex4 => ?_)
  have gx4 := rg x4
  refine z_iconst C (z := -1) rfl rfl rfl (fun x5 ex5 => ?_)
  have J6 : V 23 [(0, .ref r0), (1, .ref rr2)] [] (T, N, I, L, R) 0 0 := by
    refine k_aload_n C rfl rfl rfl ?_
    refine z_gI C rfl rfl rfl T_r0 rfl (fun x8 ex8 => ?_)
    have gx8 := rg x8
    refine b_if_lt C (t := 42) rfl rfl rfl (fun c9 => ?_) (fun c9 => ?_)
    · skip
      refine z_iconst C (z := 0) rfl rfl rfl (fun x10 ex10 => ?_)
      exact k_iret C rfl (Or.inr ⟨rfl, z01 (by omega) (by omega)⟩) (Nat.le_of_ble_eq_true rfl) (Nat.le_of_ble_eq_true rfl) ⟨_, _, _, rfl, rfl, by omega, by omega, by first | omega | (simp only [k0_r0_8, ex4, ex8] <;> omega), hI, Chg.rf⟩
    refine k_aload_n C rfl rfl rfl ?_
    refine g_I C rfl rfl rfl T_r0 rfl ex8 ?_
    refine k_aload_n C rfl rfl rfl ?_
    refine g_R C rfl rfl rfl T_r0 rfl R_r0_3 ?_
    obtain ⟨T_r0_3, N_r0_3, A_r0_3, E_r0_3⟩ := id H_r0_3
    refine z_len C (n := 8) rfl rfl (by rw [T_r0_3]; exact Nat.le_of_ble_eq_true rfl) N_r0_3 (Nat.le_of_ble_eq_true rfl) (fun x11 ex11 => ?_)
    refine b_icmp_lt C (t := 44) rfl rfl rfl (fun c12 => ?_) (fun c12 => ?_)
    · skip
      refine k_aload_n C rfl rfl rfl ?_
      refine k_aload_n C rfl rfl rfl ?_
      obtain ⟨T_rr2, A_rr2, ⟨rr2_1, R_rr2_1, H_rr2_1⟩⟩ := id H_rr2
      refine z_gI C rfl rfl rfl T_rr2 rfl (fun x13 ex13 => ?_)
      have gx13 := rg x13
      have ox13 := IX.deg hI A_rr2 T_rr2 ex13
      refine z_pI C rfl rfl rfl T_r0 (Or.inr rfl) rfl (fun I14 uI14 => ?_)
      have hI14 : IX A T I14 := IX.f hI T_r0 (boX.tr (by decide) (by decide)) uI14
      have S15 : Chg B T [(6, 7)] I L I14 L := Chg.f B_r0 T_r0 uI14
      have e16 := u2_j uI14 (by decide) k0_r0_8
      have e17 := u2_j uI14 (by decide) ex8
      have e18 := u2_j uI14 (by decide) ex13
      have e19 := u2_e uI14
      refine k_aload_n C rfl rfl rfl ?_
      refine g_R C rfl rfl rfl T_r0 rfl R_r0_3 ?_
      refine k_aload_n C rfl rfl rfl ?_
      refine g_I C rfl rfl rfl T_r0 rfl e17 ?_
      refine z_aR C (t := 3) rfl rfl (Nat.le_of_ble_eq_true rfl) T_r0_3 N_r0_3 E_r0_3 (by omega) (by omega) (fun rr20 H_rr20 => ?_)
      refine k_astore_n C (lw := [(2, .ref rr20), (0, .ref r0), (1, .ref rr2)]) rfl rfl (Nat.le_of_ble_eq_true rfl) rfl ?_
      refine z_iconst C (z := 0) rfl rfl rfl (fun x21 ex21 => ?_)
      have J22 : ∀ (nn23 : Nat) (I24 : IT) (L25 : LT) (x26 : Int32) (x29 : Int32), (MN (2147483647 - x26.toInt) nn23) → (IX A T I24) → (Chg B T [(6, 8)] I14 L I24 L25) → (I24 r0 8 = x29) → (0 ≤ x29.toInt) → V 64 [(0, .ref r0), (1, .ref rr2), (2, .ref rr20), (3, .int x26)] [] (T, N, I24, L25, R) 0 0 := by
        intro nn23
        induction nn23 using Nat.strongRecOn with
        | _ nn23 ihJ22 =>
          intro I24 L25 x26 x29 hmnn23 hI28 S27 e30 b31
          have gx26 := rg x26
          have gx29 := rg x29
          have e32 := Chg.k S27 T_r0 (by decide) (by decide) e17
          have e33 := Chg.k S27 T_rr2 (by decide) (by decide) e18
          have e34 := Chg.k S27 T_r0 (by decide) (by decide) e19
          refine k_iload_n C rfl rfl rfl ?_
          refine k_aload_n C rfl rfl rfl ?_
          refine g_I C rfl rfl rfl T_r0 rfl e34 ?_
          refine b_icmp_gt C (t := 108) rfl rfl rfl (fun c35 => ?_) (fun c35 => ?_)
          · skip
            refine z_iconst C (z := 1) rfl rfl rfl (fun x36 ex36 => ?_)
            exact k_iret C rfl (Or.inr ⟨rfl, z01 (by omega) (by omega)⟩) (Nat.le_of_ble_eq_true rfl) (Nat.le_of_ble_eq_true rfl) ⟨_, _, _, rfl, rfl, by omega, by omega, by first | omega | (simp only [e32, e33, e34, e30, k0_r0_8] <;> omega), hI28, (Chg.cons S15 (Chg.mono S27 (by decide)) (by decide))⟩
          refine k_aload_n C rfl rfl rfl ?_
          refine g_I C rfl rfl rfl T_r0 rfl e30 ?_
          refine k_aload_n C rfl rfl rfl ?_
          obtain ⟨T_rr20, N_rr20, A_rr20⟩ := id H_rr20
          refine z_len C (n := 492) rfl rfl (by rw [T_rr20]; exact Nat.le_of_ble_eq_true rfl) N_rr20 (Nat.le_of_ble_eq_true rfl) (fun x37 ex37 => ?_)
          refine b_icmp_ge C (t := 108) rfl rfl rfl (fun c38 => ?_) (fun c38 => ?_)
          · skip
            refine z_iconst C (z := 1) rfl rfl rfl (fun x39 ex39 => ?_)
            exact k_iret C rfl (Or.inr ⟨rfl, z01 (by omega) (by omega)⟩) (Nat.le_of_ble_eq_true rfl) (Nat.le_of_ble_eq_true rfl) ⟨_, _, _, rfl, rfl, by omega, by omega, by first | omega | (simp only [e32, e33, e34, e30, k0_r0_8] <;> omega), hI28, (Chg.cons S15 (Chg.mono S27 (by decide)) (by decide))⟩
          refine k_aload_n C rfl rfl rfl ?_
          refine k_aload_n C rfl rfl rfl ?_
          refine g_I C rfl rfl rfl T_r0 rfl e30 ?_
          refine k_aload_n C rfl rfl rfl ?_
          refine k_iload_n C rfl rfl rfl ?_
          refine c_VI C (s_X2_get hS hI28 H_rr2) rfl rfl rfl rfl rfl ⟨_, rfl, rfl, T_rr2, Nat.le_of_ble_eq_true rfl⟩ rfl rfl (Nat.le_of_ble_eq_true rfl) (Nat.le_of_ble_eq_true rfl) (Nat.le_of_ble_eq_true rfl) ?_
          rintro x40 _ _ ⟨rfl, rfl⟩
          have gx40 := rg x40
          refine z_sI C rfl rfl T_rr20 N_rr20 (by omega) (by omega) (fun I41 uI41 => ?_)
          have hI41 : IX A T I41 := IX.a hI28 T_rr20 (Nat.le_of_ble_eq_true rfl) uI41
          have S42 : Chg B T [] I24 L25 I41 L25 := Chg.a A_rr20 T_rr20 (Nat.le_of_ble_eq_true rfl) uI41
          have e43 := u2_n uI41 (t_nq T_r0 T_rr20 (by decide)) e32
          have e44 := u2_n uI41 (t_nq T_rr2 T_rr20 (by decide)) e33
          have e45 := u2_n uI41 (t_nq T_r0 T_rr20 (by decide)) e34
          have e46 := u2_n uI41 (t_nq T_r0 T_rr20 (by decide)) e30
          refine k_aload_n C rfl rfl rfl ?_
          refine k_dup C rfl rfl rfl ?_
          refine g_I C rfl rfl rfl T_r0 rfl e46 ?_
          refine z_iconst C (z := 1) rfl rfl rfl (fun x47 ex47 => ?_)
          refine z_iadd C rfl rfl ⟨by omega, by omega⟩ (fun x48 ex48 => ?_)
          refine z_pI C rfl rfl rfl T_r0 (Or.inr rfl) rfl (fun I49 uI49 => ?_)
          have hI49 : IX A T I49 := IX.f hI41 T_r0 (boX.tr (by decide) (by decide)) uI49
          have S50 : Chg B T [(6, 8)] I41 L25 I49 L25 := Chg.f B_r0 T_r0 uI49
          have e51 := u2_j uI49 (by decide) e43
          have e52 := u2_j uI49 (by decide) e44
          have e53 := u2_j uI49 (by decide) e45
          have e54 := u2_e uI49
          refine z_iinc C (z := 1) (lw := fun x55 => [(3, .int x55), (0, .ref r0), (1, .ref rr2), (2, .ref rr20)]) rfl rfl rfl (Nat.le_of_ble_eq_true rfl) rfl ⟨by omega, by omega⟩ (fun _ => rfl) (fun x55 ex55 => ?_)
          show V 105 [(3, .int x55), (0, .ref r0), (1, .ref rr2), (2, .ref rr20)] _ _ _ _
          refine k_goto C (pc2 := 64) rfl rfl ?_
          refine k_sub S [(0, .ref r0), (1, .ref rr2), (2, .ref rr20), (3, .int x55)] (List.forall_mem_cons.mpr ⟨List.mem_of_getElem? (i := 1) rfl, List.forall_mem_cons.mpr ⟨List.mem_of_getElem? (i := 2) rfl, List.forall_mem_cons.mpr ⟨List.mem_of_getElem? (i := 3) rfl, List.forall_mem_cons.mpr ⟨List.mem_of_getElem? (i := 0) rfl, fun _ h => nomatch h⟩⟩⟩⟩) ?_
          exact ihJ22 _ (MN.lt hmnn23 (by omega) (by omega)) I49 L25 x55 x48 rfl hI49 (Chg.cons S27 (Chg.cons S42 (Chg.mono S50 (by decide)) (by decide)) (by decide)) e54 (by omega)
      refine k_istore_n C (lw := [(3, .int x21), (2, .ref rr20), (0, .ref r0), (1, .ref rr2)]) rfl rfl (Nat.le_of_ble_eq_true rfl) rfl ?_
      refine k_sub S [(0, .ref r0), (1, .ref rr2), (2, .ref rr20), (3, .int x21)] (List.forall_mem_cons.mpr ⟨List.mem_of_getElem? (i := 2) rfl, List.forall_mem_cons.mpr ⟨List.mem_of_getElem? (i := 3) rfl, List.forall_mem_cons.mpr ⟨List.mem_of_getElem? (i := 1) rfl, List.forall_mem_cons.mpr ⟨List.mem_of_getElem? (i := 0) rfl, fun _ h => nomatch h⟩⟩⟩⟩) ?_
      exact J22 _ I14 L x21 w_r0_8 rfl hI14 Chg.rf e16 (by omega)
    refine z_iconst C (z := 0) rfl rfl rfl (fun x56 ex56 => ?_)
    exact k_iret C rfl (Or.inr ⟨rfl, z01 (by omega) (by omega)⟩) (Nat.le_of_ble_eq_true rfl) (Nat.le_of_ble_eq_true rfl) ⟨_, _, _, rfl, rfl, by omega, by omega, by first | omega | (simp only [k0_r0_8, ex4, ex8] <;> omega), hI, Chg.rf⟩
  refine b_icmp_eq C (t := 23) rfl rfl rfl (fun c57 => ?_) (fun c57 => ?_)
  · skip
    refine k_sub S [(0, .ref r0), (1, .ref rr2)] (List.forall_mem_cons.mpr ⟨List.mem_of_getElem? (i := 0) rfl, List.forall_mem_cons.mpr ⟨List.mem_of_getElem? (i := 1) rfl, fun _ h => nomatch h⟩⟩) ?_
    exact J6 
  refine k_aload_n C rfl rfl rfl ?_
  obtain ⟨T_rr2, A_rr2, ⟨rr2_1, R_rr2_1, H_rr2_1⟩⟩ := id H_rr2
  refine z_gI C rfl rfl rfl T_rr2 rfl (fun x58 ex58 => ?_)
  have gx58 := rg x58
  have ox58 := IX.deg hI A_rr2 T_rr2 ex58
  refine k_aload_n C rfl rfl rfl ?_
  refine g_I C rfl rfl rfl T_r0 rfl ex4 ?_
  refine b_icmp_ne C (t := 42) rfl rfl rfl (fun c59 => ?_) (fun c59 => ?_)
  · skip
    refine z_iconst C (z := 0) rfl rfl rfl (fun x60 ex60 => ?_)
    exact k_iret C rfl (Or.inr ⟨rfl, z01 (by omega) (by omega)⟩) (Nat.le_of_ble_eq_true rfl) (Nat.le_of_ble_eq_true rfl) ⟨_, _, _, rfl, rfl, by omega, by omega, by first | omega | (simp only [k0_r0_8, ex4, ex58] <;> omega), hI, Chg.rf⟩
  refine k_sub S [(0, .ref r0), (1, .ref rr2)] (List.forall_mem_cons.mpr ⟨List.mem_of_getElem? (i := 0) rfl, List.forall_mem_cons.mpr ⟨List.mem_of_getElem? (i := 1) rfl, fun _ h => nomatch h⟩⟩) ?_
  exact J6 

theorem s_X5_isHeld {d : Nat} {T N : Nat → Nat} {I : IT} {L : LT} {R : RT} {A B : Nat → Prop} {r0 : Nat} (hS : SUB B A) (hI : IX A T I) (H_r0 : (hs_Rw T N R A B) r0) : Ex (d + 4) 79 [.ref r0] (T, N, I, L, R) 0 0 (pI T N R (fun x9 I9 L9 => (0 ≤ x9.toInt) ∧ (x9.toInt ≤ 1) ∧ (IX A T I9 ∧ Chg B T [(6, 6)] I L I9 L9))) := by
  refine ⟨_, rfl, Nat.le_of_ble_eq_true rfl, fun V C S => ?_⟩
  show V 0 [(0, .ref r0)] [] (T, N, I, L, R) 0 0
  refine k_aload_n C rfl rfl rfl ?_
  obtain ⟨T_r0, A_r0, B_r0, ⟨r0_0, R_r0_0, H_r0_0⟩, ⟨r0_1, R_r0_1, H_r0_1⟩, ⟨r0_2, R_r0_2, H_r0_2⟩, ⟨r0_3, R_r0_3, H_r0_3⟩, ⟨r0_4, R_r0_4, H_r0_4⟩, ⟨r0_5, R_r0_5, H_r0_5⟩⟩ := id H_r0
  refine z_gI C rfl rfl rfl T_r0 rfl (fun x1 ex1 => ?_)
  have gx1 := rg x1
  refine b_if_lt C (t := 31) rfl rfl rfl (fun c2 => ?_) (fun c2 => ?_)
  · skip
    refine z_iconst C (z := 0) rfl rfl rfl (fun x3 ex3 => ?_)
    exact k_iret C rfl (Or.inr ⟨rfl, z01 (by omega) (by omega)⟩) (Nat.le_of_ble_eq_true rfl) (Nat.le_of_ble_eq_true rfl) ⟨_, _, _, rfl, rfl, by omega, by omega, hI, Chg.rf⟩
  refine k_aload_n C rfl rfl rfl ?_
  refine g_I C rfl rfl rfl T_r0 rfl ex1 ?_
  refine k_aload_n C rfl rfl rfl ?_
  refine g_R C rfl rfl rfl T_r0 rfl R_r0_3 ?_
  obtain ⟨T_r0_3, N_r0_3, A_r0_3, E_r0_3⟩ := id H_r0_3
  refine z_len C (n := 8) rfl rfl (by rw [T_r0_3]; exact Nat.le_of_ble_eq_true rfl) N_r0_3 (Nat.le_of_ble_eq_true rfl) (fun x4 ex4 => ?_)
  refine b_icmp_ge C (t := 31) rfl rfl rfl (fun c5 => ?_) (fun c5 => ?_)
  · skip
    refine z_iconst C (z := 0) rfl rfl rfl (fun x6 ex6 => ?_)
    exact k_iret C rfl (Or.inr ⟨rfl, z01 (by omega) (by omega)⟩) (Nat.le_of_ble_eq_true rfl) (Nat.le_of_ble_eq_true rfl) ⟨_, _, _, rfl, rfl, by omega, by omega, hI, Chg.rf⟩
  refine k_aload_n C rfl rfl rfl ?_
  refine g_I C rfl rfl rfl T_r0 rfl ex1 ?_
  refine k_aload_n C rfl rfl rfl ?_
  refine g_R C rfl rfl rfl T_r0 rfl R_r0_4 ?_
  obtain ⟨T_r0_4, N_r0_4, A_r0_4⟩ := id H_r0_4
  refine z_len C (n := 8) rfl rfl (by rw [T_r0_4]; exact Nat.le_of_ble_eq_true rfl) N_r0_4 (Nat.le_of_ble_eq_true rfl) (fun x7 ex7 => ?_)
  refine b_icmp_lt C (t := 33) rfl rfl rfl (fun c8 => ?_) (fun c8 => by exfalso; omega)
  refine k_aload_n C rfl rfl rfl ?_
  refine g_R C rfl rfl rfl T_r0 rfl R_r0_3 ?_
  refine k_aload_n C rfl rfl rfl ?_
  refine g_I C rfl rfl rfl T_r0 rfl ex1 ?_
  refine z_aR C (t := 3) rfl rfl (Nat.le_of_ble_eq_true rfl) T_r0_3 N_r0_3 E_r0_3 (by omega) (by omega) (fun rr9 H_rr9 => ?_)
  refine k_astore_n C (lw := [(1, .ref rr9), (0, .ref r0)]) rfl rfl (Nat.le_of_ble_eq_true rfl) rfl ?_
  refine k_aload_n C rfl rfl rfl ?_
  obtain ⟨T_rr9, N_rr9, A_rr9⟩ := id H_rr9
  refine z_len C (n := 492) rfl rfl (by rw [T_rr9]; exact Nat.le_of_ble_eq_true rfl) N_rr9 (Nat.le_of_ble_eq_true rfl) (fun x10 ex10 => ?_)
  refine k_aload_n C rfl rfl rfl ?_
  refine z_gI C rfl rfl rfl T_r0 rfl (fun x11 ex11 => ?_)
  have gx11 := rg x11
  refine c_SI C (s_J9_min_7cf53 hS hI ) rfl rfl rfl rfl rfl rfl rfl (Nat.le_of_ble_eq_true rfl) (Nat.le_of_ble_eq_true rfl) (Nat.le_of_ble_eq_true rfl) ?_
  rintro x12 _ _ ⟨p0x12, p1x12, p2x12, rfl, rfl⟩
  have gx12 := rg x12
  try simp only [ex1, ex11] at p0x12
  try have q0x12 := congrArg Int32.toInt p0x12
  try simp only [ex1, ex11] at p1x12
  try have q1x12 := congrArg Int32.toInt p1x12
  try simp only [ex1, ex11] at p2x12
  try have q2x12 := congrArg Int32.toInt p2x12
  refine k_istore_n C (lw := [(2, .int x12), (1, .ref rr9), (0, .ref r0)]) rfl rfl (Nat.le_of_ble_eq_true rfl) rfl ?_
  refine z_iconst C (z := 0) rfl rfl rfl (fun x13 ex13 => ?_)
  have J14 : ∀ (nn15 : Nat) (I16 : IT) (L17 : LT) (x18 : Int32), (MN (2147483647 - x18.toInt) nn15) → (IX A T I16) → (Chg B T [] I L I16 L17) → (0 ≤ x18.toInt) → V 55 [(0, .ref r0), (1, .ref rr9), (2, .int x12), (3, .int x18)] [] (T, N, I16, L17, R) 0 0 := by
    intro nn15
    induction nn15 using Nat.strongRecOn with
    | _ nn15 ihJ14 =>
      intro I16 L17 x18 hmnn15 hI21 S20 b19
      have gx18 := rg x18
      have e22 := Chg.k S20 T_r0 (by decide) (by decide) ex1
      have e23 := Chg.k S20 T_r0 (by decide) (by decide) ex11
      refine k_iload_n C rfl rfl rfl ?_
      refine k_aload_n C rfl rfl rfl ?_
      refine g_I C rfl rfl rfl T_r0 rfl e22 ?_
      refine b_icmp_ge C (t := 160) rfl rfl rfl (fun c24 => ?_) (fun c24 => ?_)
      · skip
        refine z_iconst C (z := 0) rfl rfl rfl (fun x25 ex25 => ?_)
        have J26 : ∀ (nn27 : Nat) (x28 : Int32), (MN (492 - x28.toInt) nn27) → (0 ≤ x28.toInt) → (x28.toInt ≤ 492) → V 162 [(0, .ref r0), (1, .ref rr9), (2, .int x12), (3, .int x28)] [] (T, N, I16, L17, R) 0 0 := by
          intro nn27
          induction nn27 using Nat.strongRecOn with
          | _ nn27 ihJ26 =>
            intro x28 hmnn27 b29 b30
            have gx28 := rg x28
            refine k_iload_n C rfl rfl rfl ?_
            refine k_iload_n C rfl rfl rfl ?_
            have J31 : V 179 [(0, .ref r0), (1, .ref rr9), (2, .int x12), (3, .int x28)] [] (T, N, I16, L17, R) 0 0 := by
              refine k_iload_n C rfl rfl rfl ?_
              refine k_iload_n C rfl rfl rfl ?_
              refine b_icmp_lt C (t := 186) rfl rfl rfl (fun c33 => ?_) (fun c33 => ?_)
              · skip
                refine k_aload_n C rfl rfl rfl ?_
                refine g_R C rfl rfl rfl T_r0 rfl R_r0_0 ?_
                refine k_aload_n C rfl rfl rfl ?_
                refine k_iload_n C rfl rfl rfl ?_
                refine z_aI C rfl rfl T_rr9 N_rr9 (by omega) (by omega) (fun x34 ex34 => ?_)
                have gx34 := rg x34
                obtain ⟨T_r0_0, A_r0_0, B_r0_0, ⟨r0_0_0, R_r0_0_0, H_r0_0_0⟩, ⟨r0_0_1, R_r0_0_1, H_r0_0_1⟩, ⟨r0_0_2, R_r0_0_2, H_r0_0_2⟩⟩ := id H_r0_0
                refine c_VI C (s_X0_inverse hS hI21 H_r0_0) rfl rfl rfl rfl rfl ⟨_, rfl, rfl, T_r0_0, Nat.le_of_ble_eq_true rfl⟩ rfl rfl (Nat.le_of_ble_eq_true rfl) (Nat.le_of_ble_eq_true rfl) (Nat.le_of_ble_eq_true rfl) ?_
                rintro x35 _ _ ⟨rfl, rfl⟩
                have gx35 := rg x35
                refine k_istore C (lw := [(4, .int x35), (0, .ref r0), (1, .ref rr9), (2, .int x12), (3, .int x28)]) rfl rfl (Nat.le_of_ble_eq_true rfl) rfl ?_
                refine k_iload_n C rfl rfl rfl ?_
                have J36 : ∀ (nn37 : Nat) (I38 : IT) (L39 : LT) (x40 : Int32), (MN (492 - x40.toInt) nn37) → (IX A T I38) → (Chg B T [] I16 L17 I38 L39) → (0 ≤ x40.toInt) → (x40.toInt ≤ 492) → V 201 [(0, .ref r0), (1, .ref rr9), (2, .int x12), (3, .int x28), (4, .int x35), (5, .int x40)] [] (T, N, I38, L39, R) 0 0 := by
                  intro nn37
                  induction nn37 using Nat.strongRecOn with
                  | _ nn37 ihJ36 =>
                    intro I38 L39 x40 hmnn37 hI44 S43 b41 b42
                    have gx40 := rg x40
                    have e45 := Chg.k S43 T_r0 (by decide) (by decide) e22
                    have e46 := Chg.k S43 T_r0 (by decide) (by decide) e23
                    refine k_iload C rfl rfl rfl ?_
                    refine k_iload_n C rfl rfl rfl ?_
                    refine b_icmp_ge C (t := 232) rfl rfl rfl (fun c47 => ?_) (fun c47 => ?_)
                    · skip
                      refine k_aload_n C rfl rfl rfl ?_
                      refine g_R C rfl rfl rfl T_r0 rfl R_r0_4 ?_
                      refine k_aload_n C rfl rfl rfl ?_
                      refine g_I C rfl rfl rfl T_r0 rfl e45 ?_
                      refine k_iload_n C rfl rfl rfl ?_
                      refine z_sI C rfl rfl T_r0_4 N_r0_4 (by omega) (by omega) (fun I48 uI48 => ?_)
                      have hI48 : IX A T I48 := IX.a hI44 T_r0_4 (Nat.le_of_ble_eq_true rfl) uI48
                      have S49 : Chg B T [] I38 L39 I48 L39 := Chg.a A_r0_4 T_r0_4 (Nat.le_of_ble_eq_true rfl) uI48
                      have e50 := u2_n uI48 (t_nq T_r0 T_r0_4 (by decide)) e45
                      have e51 := u2_n uI48 (t_nq T_r0 T_r0_4 (by decide)) e46
                      refine k_aload_n C rfl rfl rfl ?_
                      refine k_dup C rfl rfl rfl ?_
                      refine g_I C rfl rfl rfl T_r0 rfl e50 ?_
                      refine z_iconst C (z := 1) rfl rfl rfl (fun x52 ex52 => ?_)
                      refine z_iadd C rfl rfl ⟨by omega, by omega⟩ (fun x53 ex53 => ?_)
                      refine z_pI C rfl rfl rfl T_r0 (Or.inr rfl) rfl (fun I54 uI54 => ?_)
                      have hI54 : IX A T I54 := IX.f hI48 T_r0 (boX.tr (by decide) (by decide)) uI54
                      have S55 : Chg B T [(6, 6)] I48 L39 I54 L39 := Chg.f B_r0 T_r0 uI54
                      have e56 := u2_j uI54 (by decide) e51
                      have e57 := u2_e uI54
                      refine z_iconst C (z := 1) rfl rfl rfl (fun x58 ex58 => ?_)
                      exact k_iret C rfl (Or.inr ⟨rfl, z01 (by omega) (by omega)⟩) (Nat.le_of_ble_eq_true rfl) (Nat.le_of_ble_eq_true rfl) ⟨_, _, _, rfl, rfl, by omega, by omega, hI54, (Chg.cons S20 (Chg.cons S43 (Chg.cons S49 (Chg.mono S55 (by decide)) (by decide)) (by decide)) (by decide))⟩
                    refine k_aload_n C rfl rfl rfl ?_
                    refine k_iload C rfl rfl rfl ?_
                    refine k_aload_n C rfl rfl rfl ?_
                    refine g_R C rfl rfl rfl T_r0 rfl R_r0_0 ?_
                    refine k_aload_n C rfl rfl rfl ?_
                    refine k_iload C rfl rfl rfl ?_
                    refine z_aI C rfl rfl T_rr9 N_rr9 (by omega) (by omega) (fun x59 ex59 => ?_)
                    have gx59 := rg x59
                    refine k_iload C rfl rfl rfl ?_
                    refine zt_imul C rfl rfl (fun x60 => ?_)
                    have gx60 := rg x60
                    refine z_i2l C rfl rfl (fun lg61 elg61 => ?_)
                    refine c_VI C (s_X0_of hS hI44 H_r0_0) rfl rfl rfl rfl rfl ⟨_, rfl, rfl, T_r0_0, Nat.le_of_ble_eq_true rfl⟩ rfl rfl (Nat.le_of_ble_eq_true rfl) (Nat.le_of_ble_eq_true rfl) (Nat.le_of_ble_eq_true rfl) ?_
                    rintro x62 _ _ ⟨rfl, rfl⟩
                    have gx62 := rg x62
                    refine z_sI C rfl rfl T_rr9 N_rr9 (by omega) (by omega) (fun I63 uI63 => ?_)
                    have hI63 : IX A T I63 := IX.a hI44 T_rr9 (Nat.le_of_ble_eq_true rfl) uI63
                    have S64 : Chg B T [] I38 L39 I63 L39 := Chg.a A_rr9 T_rr9 (Nat.le_of_ble_eq_true rfl) uI63
                    have e65 := u2_n uI63 (t_nq T_r0 T_rr9 (by decide)) e45
                    have e66 := u2_n uI63 (t_nq T_r0 T_rr9 (by decide)) e46
                    refine z_iinc C (z := 1) (lw := fun x67 => [(5, .int x67), (0, .ref r0), (1, .ref rr9), (2, .int x12), (3, .int x28), (4, .int x35)]) rfl rfl rfl (Nat.le_of_ble_eq_true rfl) rfl ⟨by omega, by omega⟩ (fun _ => rfl) (fun x67 ex67 => ?_)
                    show V 229 [(5, .int x67), (0, .ref r0), (1, .ref rr9), (2, .int x12), (3, .int x28), (4, .int x35)] _ _ _ _
                    refine k_goto C (pc2 := 201) rfl rfl ?_
                    refine k_sub S [(0, .ref r0), (1, .ref rr9), (2, .int x12), (3, .int x28), (4, .int x35), (5, .int x67)] (List.forall_mem_cons.mpr ⟨List.mem_of_getElem? (i := 1) rfl, List.forall_mem_cons.mpr ⟨List.mem_of_getElem? (i := 2) rfl, List.forall_mem_cons.mpr ⟨List.mem_of_getElem? (i := 3) rfl, List.forall_mem_cons.mpr ⟨List.mem_of_getElem? (i := 4) rfl, List.forall_mem_cons.mpr ⟨List.mem_of_getElem? (i := 5) rfl, List.forall_mem_cons.mpr ⟨List.mem_of_getElem? (i := 0) rfl, fun _ h => nomatch h⟩⟩⟩⟩⟩⟩) ?_
                    exact ihJ36 _ (MN.lt hmnn37 (by omega) (by omega)) I63 L39 x67 rfl hI63 (Chg.cons S43 (Chg.mono S64 (by decide)) (by decide)) (by omega) (by omega)
                refine k_istore C (lw := [(5, .int x28), (4, .int x35), (0, .ref r0), (1, .ref rr9), (2, .int x12), (3, .int x28)]) rfl rfl (Nat.le_of_ble_eq_true rfl) rfl ?_
                refine k_sub S [(0, .ref r0), (1, .ref rr9), (2, .int x12), (3, .int x28), (4, .int x35), (5, .int x28)] (List.forall_mem_cons.mpr ⟨List.mem_of_getElem? (i := 2) rfl, List.forall_mem_cons.mpr ⟨List.mem_of_getElem? (i := 3) rfl, List.forall_mem_cons.mpr ⟨List.mem_of_getElem? (i := 4) rfl, List.forall_mem_cons.mpr ⟨List.mem_of_getElem? (i := 5) rfl, List.forall_mem_cons.mpr ⟨List.mem_of_getElem? (i := 1) rfl, List.forall_mem_cons.mpr ⟨List.mem_of_getElem? (i := 0) rfl, fun _ h => nomatch h⟩⟩⟩⟩⟩⟩) ?_
                exact J36 _ I16 L17 x28 rfl hI21 Chg.rf (by omega) (by omega)
              refine z_iconst C (z := 0) rfl rfl rfl (fun x68 ex68 => ?_)
              exact k_iret C rfl (Or.inr ⟨rfl, z01 (by omega) (by omega)⟩) (Nat.le_of_ble_eq_true rfl) (Nat.le_of_ble_eq_true rfl) ⟨_, _, _, rfl, rfl, by omega, by omega, hI21, (Chg.mono S20 (by decide))⟩
            refine b_icmp_ge C (t := 179) rfl rfl rfl (fun c69 => ?_) (fun c69 => ?_)
            · skip
              refine k_sub S [(0, .ref r0), (1, .ref rr9), (2, .int x12), (3, .int x28)] (List.forall_mem_cons.mpr ⟨List.mem_of_getElem? (i := 0) rfl, List.forall_mem_cons.mpr ⟨List.mem_of_getElem? (i := 1) rfl, List.forall_mem_cons.mpr ⟨List.mem_of_getElem? (i := 2) rfl, List.forall_mem_cons.mpr ⟨List.mem_of_getElem? (i := 3) rfl, fun _ h => nomatch h⟩⟩⟩⟩) ?_
              exact J31 
            refine k_aload_n C rfl rfl rfl ?_
            refine k_iload_n C rfl rfl rfl ?_
            refine z_aI C rfl rfl T_rr9 N_rr9 (by omega) (by omega) (fun x70 ex70 => ?_)
            have gx70 := rg x70
            refine b_if_ne C (t := 179) rfl rfl rfl (fun c71 => ?_) (fun c71 => ?_)
            · skip
              refine k_sub S [(0, .ref r0), (1, .ref rr9), (2, .int x12), (3, .int x28)] (List.forall_mem_cons.mpr ⟨List.mem_of_getElem? (i := 0) rfl, List.forall_mem_cons.mpr ⟨List.mem_of_getElem? (i := 1) rfl, List.forall_mem_cons.mpr ⟨List.mem_of_getElem? (i := 2) rfl, List.forall_mem_cons.mpr ⟨List.mem_of_getElem? (i := 3) rfl, fun _ h => nomatch h⟩⟩⟩⟩) ?_
              exact J31 
            refine z_iinc C (z := 1) (lw := fun x72 => [(3, .int x72), (0, .ref r0), (1, .ref rr9), (2, .int x12)]) rfl rfl rfl (Nat.le_of_ble_eq_true rfl) rfl ⟨by omega, by omega⟩ (fun _ => rfl) (fun x72 ex72 => ?_)
            show V 176 [(3, .int x72), (0, .ref r0), (1, .ref rr9), (2, .int x12)] _ _ _ _
            refine k_goto C (pc2 := 162) rfl rfl ?_
            refine k_sub S [(0, .ref r0), (1, .ref rr9), (2, .int x12), (3, .int x72)] (List.forall_mem_cons.mpr ⟨List.mem_of_getElem? (i := 1) rfl, List.forall_mem_cons.mpr ⟨List.mem_of_getElem? (i := 2) rfl, List.forall_mem_cons.mpr ⟨List.mem_of_getElem? (i := 3) rfl, List.forall_mem_cons.mpr ⟨List.mem_of_getElem? (i := 0) rfl, fun _ h => nomatch h⟩⟩⟩⟩) ?_
            exact ihJ26 _ (MN.lt hmnn27 (by omega) (by omega)) x72 rfl (by omega) (by omega)
        refine k_istore_n C (lw := [(3, .int x25), (0, .ref r0), (1, .ref rr9), (2, .int x12)]) rfl rfl (Nat.le_of_ble_eq_true rfl) rfl ?_
        refine k_sub S [(0, .ref r0), (1, .ref rr9), (2, .int x12), (3, .int x25)] (List.forall_mem_cons.mpr ⟨List.mem_of_getElem? (i := 1) rfl, List.forall_mem_cons.mpr ⟨List.mem_of_getElem? (i := 2) rfl, List.forall_mem_cons.mpr ⟨List.mem_of_getElem? (i := 3) rfl, List.forall_mem_cons.mpr ⟨List.mem_of_getElem? (i := 0) rfl, fun _ h => nomatch h⟩⟩⟩⟩) ?_
        exact J26 _ x25 rfl (by omega) (by omega)
      refine k_aload_n C rfl rfl rfl ?_
      refine g_R C rfl rfl rfl T_r0 rfl R_r0_4 ?_
      refine k_iload_n C rfl rfl rfl ?_
      refine z_aI C rfl rfl T_r0_4 N_r0_4 (by omega) (by omega) (fun x73 ex73 => ?_)
      have gx73 := rg x73
      refine k_istore C (lw := [(4, .int x73), (0, .ref r0), (1, .ref rr9), (2, .int x12), (3, .int x18)]) rfl rfl (Nat.le_of_ble_eq_true rfl) rfl ?_
      refine k_iload C rfl rfl rfl ?_
      refine b_if_lt C (t := 90) rfl rfl rfl (fun c74 => ?_) (fun c74 => ?_)
      · skip
        refine z_iconst C (z := 0) rfl rfl rfl (fun x75 ex75 => ?_)
        refine k_istore C (lw := [(5, .int x75), (4, .int x73), (0, .ref r0), (1, .ref rr9), (2, .int x12), (3, .int x18)]) rfl rfl (Nat.le_of_ble_eq_true rfl) rfl ?_
        refine k_aload_n C rfl rfl rfl ?_
        refine g_R C rfl rfl rfl T_r0 rfl R_r0_3 ?_
        refine k_iload_n C rfl rfl rfl ?_
        refine z_aR C (t := 3) rfl rfl (Nat.le_of_ble_eq_true rfl) T_r0_3 N_r0_3 E_r0_3 (by omega) (by omega) (fun rr76 H_rr76 => ?_)
        refine k_astore C (lw := [(6, .ref rr76), (5, .int x75), (4, .int x73), (0, .ref r0), (1, .ref rr9), (2, .int x12), (3, .int x18)]) rfl rfl (Nat.le_of_ble_eq_true rfl) rfl ?_
        refine z_iconst C (z := 0) rfl rfl rfl (fun x77 ex77 => ?_)
        have J78 : ∀ (nn79 : Nat) (I80 : IT) (L81 : LT) (x82 : Int32), (MN (492 - x82.toInt) nn79) → (IX A T I80) → (Chg B T [] I16 L17 I80 L81) → (0 ≤ x82.toInt) → (x82.toInt ≤ 492) → V 104 [(0, .ref r0), (1, .ref rr9), (2, .int x12), (3, .int x18), (5, .int x75), (6, .ref rr76), (7, .int x82)] [] (T, N, I80, L81, R) 0 0 := by
          intro nn79
          induction nn79 using Nat.strongRecOn with
          | _ nn79 ihJ78 =>
            intro I80 L81 x82 hmnn79 hI86 S85 b83 b84
            have gx82 := rg x82
            have e87 := Chg.k S85 T_r0 (by decide) (by decide) e22
            have e88 := Chg.k S85 T_r0 (by decide) (by decide) e23
            refine k_iload C rfl rfl rfl ?_
            refine b_if_eq C (t := 154) rfl rfl rfl (fun c89 => ?_) (fun c89 => by exfalso; omega)
            refine z_iinc C (z := 1) (lw := fun x90 => [(3, .int x90), (0, .ref r0), (1, .ref rr9), (2, .int x12), (5, .int x75), (6, .ref rr76), (7, .int x82)]) rfl rfl rfl (Nat.le_of_ble_eq_true rfl) rfl ⟨by omega, by omega⟩ (fun _ => rfl) (fun x90 ex90 => ?_)
            show V 157 [(3, .int x90), (0, .ref r0), (1, .ref rr9), (2, .int x12), (5, .int x75), (6, .ref rr76), (7, .int x82)] _ _ _ _
            refine k_goto C (pc2 := 55) rfl rfl ?_
            refine k_sub S [(0, .ref r0), (1, .ref rr9), (2, .int x12), (3, .int x90)] (List.forall_mem_cons.mpr ⟨List.mem_of_getElem? (i := 1) rfl, List.forall_mem_cons.mpr ⟨List.mem_of_getElem? (i := 2) rfl, List.forall_mem_cons.mpr ⟨List.mem_of_getElem? (i := 3) rfl, List.forall_mem_cons.mpr ⟨List.mem_of_getElem? (i := 0) rfl, fun _ h => nomatch h⟩⟩⟩⟩) ?_
            exact ihJ14 _ (MN.lt hmnn15 (by omega) (by omega)) I80 L81 x90 rfl hI86 (Chg.cons S20 (Chg.mono S85 (by decide)) (by decide)) (by omega)
        refine k_istore C (lw := [(7, .int x77), (6, .ref rr76), (5, .int x75), (4, .int x73), (0, .ref r0), (1, .ref rr9), (2, .int x12), (3, .int x18)]) rfl rfl (Nat.le_of_ble_eq_true rfl) rfl ?_
        refine k_sub S [(0, .ref r0), (1, .ref rr9), (2, .int x12), (3, .int x18), (5, .int x75), (6, .ref rr76), (7, .int x77)] (List.forall_mem_cons.mpr ⟨List.mem_of_getElem? (i := 4) rfl, List.forall_mem_cons.mpr ⟨List.mem_of_getElem? (i := 5) rfl, List.forall_mem_cons.mpr ⟨List.mem_of_getElem? (i := 6) rfl, List.forall_mem_cons.mpr ⟨List.mem_of_getElem? (i := 7) rfl, List.forall_mem_cons.mpr ⟨List.mem_of_getElem? (i := 2) rfl, List.forall_mem_cons.mpr ⟨List.mem_of_getElem? (i := 1) rfl, List.forall_mem_cons.mpr ⟨List.mem_of_getElem? (i := 0) rfl, fun _ h => nomatch h⟩⟩⟩⟩⟩⟩⟩) ?_
        exact J78 _ I16 L17 x77 rfl hI21 Chg.rf (by omega) (by omega)
      refine k_iload C rfl rfl rfl ?_
      refine k_aload_n C rfl rfl rfl ?_
      refine z_len C (n := 492) rfl rfl (by rw [T_rr9]; exact Nat.le_of_ble_eq_true rfl) N_rr9 (Nat.le_of_ble_eq_true rfl) (fun x91 ex91 => ?_)
      refine b_icmp_ge C (t := 90) rfl rfl rfl (fun c92 => ?_) (fun c92 => ?_)
      · skip
        refine z_iconst C (z := 0) rfl rfl rfl (fun x93 ex93 => ?_)
        refine k_istore C (lw := [(5, .int x93), (4, .int x73), (0, .ref r0), (1, .ref rr9), (2, .int x12), (3, .int x18)]) rfl rfl (Nat.le_of_ble_eq_true rfl) rfl ?_
        refine k_aload_n C rfl rfl rfl ?_
        refine g_R C rfl rfl rfl T_r0 rfl R_r0_3 ?_
        refine k_iload_n C rfl rfl rfl ?_
        refine z_aR C (t := 3) rfl rfl (Nat.le_of_ble_eq_true rfl) T_r0_3 N_r0_3 E_r0_3 (by omega) (by omega) (fun rr94 H_rr94 => ?_)
        refine k_astore C (lw := [(6, .ref rr94), (5, .int x93), (4, .int x73), (0, .ref r0), (1, .ref rr9), (2, .int x12), (3, .int x18)]) rfl rfl (Nat.le_of_ble_eq_true rfl) rfl ?_
        refine z_iconst C (z := 0) rfl rfl rfl (fun x95 ex95 => ?_)
        have J96 : ∀ (nn97 : Nat) (I98 : IT) (L99 : LT) (x100 : Int32), (MN (492 - x100.toInt) nn97) → (IX A T I98) → (Chg B T [] I16 L17 I98 L99) → (0 ≤ x100.toInt) → (x100.toInt ≤ 492) → V 104 [(0, .ref r0), (1, .ref rr9), (2, .int x12), (3, .int x18), (5, .int x93), (6, .ref rr94), (7, .int x100)] [] (T, N, I98, L99, R) 0 0 := by
          intro nn97
          induction nn97 using Nat.strongRecOn with
          | _ nn97 ihJ96 =>
            intro I98 L99 x100 hmnn97 hI104 S103 b101 b102
            have gx100 := rg x100
            have e105 := Chg.k S103 T_r0 (by decide) (by decide) e22
            have e106 := Chg.k S103 T_r0 (by decide) (by decide) e23
            refine k_iload C rfl rfl rfl ?_
            refine b_if_eq C (t := 154) rfl rfl rfl (fun c107 => ?_) (fun c107 => by exfalso; omega)
            refine z_iinc C (z := 1) (lw := fun x108 => [(3, .int x108), (0, .ref r0), (1, .ref rr9), (2, .int x12), (5, .int x93), (6, .ref rr94), (7, .int x100)]) rfl rfl rfl (Nat.le_of_ble_eq_true rfl) rfl ⟨by omega, by omega⟩ (fun _ => rfl) (fun x108 ex108 => ?_)
            show V 157 [(3, .int x108), (0, .ref r0), (1, .ref rr9), (2, .int x12), (5, .int x93), (6, .ref rr94), (7, .int x100)] _ _ _ _
            refine k_goto C (pc2 := 55) rfl rfl ?_
            refine k_sub S [(0, .ref r0), (1, .ref rr9), (2, .int x12), (3, .int x108)] (List.forall_mem_cons.mpr ⟨List.mem_of_getElem? (i := 1) rfl, List.forall_mem_cons.mpr ⟨List.mem_of_getElem? (i := 2) rfl, List.forall_mem_cons.mpr ⟨List.mem_of_getElem? (i := 3) rfl, List.forall_mem_cons.mpr ⟨List.mem_of_getElem? (i := 0) rfl, fun _ h => nomatch h⟩⟩⟩⟩) ?_
            exact ihJ14 _ (MN.lt hmnn15 (by omega) (by omega)) I98 L99 x108 rfl hI104 (Chg.cons S20 (Chg.mono S103 (by decide)) (by decide)) (by omega)
        refine k_istore C (lw := [(7, .int x95), (6, .ref rr94), (5, .int x93), (4, .int x73), (0, .ref r0), (1, .ref rr9), (2, .int x12), (3, .int x18)]) rfl rfl (Nat.le_of_ble_eq_true rfl) rfl ?_
        refine k_sub S [(0, .ref r0), (1, .ref rr9), (2, .int x12), (3, .int x18), (5, .int x93), (6, .ref rr94), (7, .int x95)] (List.forall_mem_cons.mpr ⟨List.mem_of_getElem? (i := 4) rfl, List.forall_mem_cons.mpr ⟨List.mem_of_getElem? (i := 5) rfl, List.forall_mem_cons.mpr ⟨List.mem_of_getElem? (i := 6) rfl, List.forall_mem_cons.mpr ⟨List.mem_of_getElem? (i := 7) rfl, List.forall_mem_cons.mpr ⟨List.mem_of_getElem? (i := 2) rfl, List.forall_mem_cons.mpr ⟨List.mem_of_getElem? (i := 1) rfl, List.forall_mem_cons.mpr ⟨List.mem_of_getElem? (i := 0) rfl, fun _ h => nomatch h⟩⟩⟩⟩⟩⟩⟩) ?_
        exact J96 _ I16 L17 x95 rfl hI21 Chg.rf (by omega) (by omega)
      refine k_aload_n C rfl rfl rfl ?_
      refine k_iload C rfl rfl rfl ?_
      refine z_aI C rfl rfl T_rr9 N_rr9 (by omega) (by omega) (fun x109 ex109 => ?_)
      have gx109 := rg x109
      refine k_goto C (pc2 := 91) rfl rfl ?_
      refine k_istore C (lw := [(5, .int x109), (4, .int x73), (0, .ref r0), (1, .ref rr9), (2, .int x12), (3, .int x18)]) rfl rfl (Nat.le_of_ble_eq_true rfl) rfl ?_
      refine k_aload_n C rfl rfl rfl ?_
      refine g_R C rfl rfl rfl T_r0 rfl R_r0_3 ?_
      refine k_iload_n C rfl rfl rfl ?_
      refine z_aR C (t := 3) rfl rfl (Nat.le_of_ble_eq_true rfl) T_r0_3 N_r0_3 E_r0_3 (by omega) (by omega) (fun rr110 H_rr110 => ?_)
      refine k_astore C (lw := [(6, .ref rr110), (5, .int x109), (4, .int x73), (0, .ref r0), (1, .ref rr9), (2, .int x12), (3, .int x18)]) rfl rfl (Nat.le_of_ble_eq_true rfl) rfl ?_
      refine z_iconst C (z := 0) rfl rfl rfl (fun x111 ex111 => ?_)
      have J112 : ∀ (nn113 : Nat) (I114 : IT) (L115 : LT) (x116 : Int32), (MN (492 - x116.toInt) nn113) → (IX A T I114) → (Chg B T [] I16 L17 I114 L115) → (0 ≤ x116.toInt) → (x116.toInt ≤ 492) → V 104 [(0, .ref r0), (1, .ref rr9), (2, .int x12), (3, .int x18), (5, .int x109), (6, .ref rr110), (7, .int x116)] [] (T, N, I114, L115, R) 0 0 := by
        intro nn113
        induction nn113 using Nat.strongRecOn with
        | _ nn113 ihJ112 =>
          intro I114 L115 x116 hmnn113 hI120 S119 b117 b118
          have gx116 := rg x116
          have e121 := Chg.k S119 T_r0 (by decide) (by decide) e22
          have e122 := Chg.k S119 T_r0 (by decide) (by decide) e23
          refine k_iload C rfl rfl rfl ?_
          refine b_if_eq C (t := 154) rfl rfl rfl (fun c123 => ?_) (fun c123 => ?_)
          · skip
            refine z_iinc C (z := 1) (lw := fun x124 => [(3, .int x124), (0, .ref r0), (1, .ref rr9), (2, .int x12), (5, .int x109), (6, .ref rr110), (7, .int x116)]) rfl rfl rfl (Nat.le_of_ble_eq_true rfl) rfl ⟨by omega, by omega⟩ (fun _ => rfl) (fun x124 ex124 => ?_)
            show V 157 [(3, .int x124), (0, .ref r0), (1, .ref rr9), (2, .int x12), (5, .int x109), (6, .ref rr110), (7, .int x116)] _ _ _ _
            refine k_goto C (pc2 := 55) rfl rfl ?_
            refine k_sub S [(0, .ref r0), (1, .ref rr9), (2, .int x12), (3, .int x124)] (List.forall_mem_cons.mpr ⟨List.mem_of_getElem? (i := 1) rfl, List.forall_mem_cons.mpr ⟨List.mem_of_getElem? (i := 2) rfl, List.forall_mem_cons.mpr ⟨List.mem_of_getElem? (i := 3) rfl, List.forall_mem_cons.mpr ⟨List.mem_of_getElem? (i := 0) rfl, fun _ h => nomatch h⟩⟩⟩⟩) ?_
            exact ihJ14 _ (MN.lt hmnn15 (by omega) (by omega)) I114 L115 x124 rfl hI120 (Chg.cons S20 (Chg.mono S119 (by decide)) (by decide)) (by omega)
          refine k_iload C rfl rfl rfl ?_
          refine k_iload_n C rfl rfl rfl ?_
          refine b_icmp_ge C (t := 154) rfl rfl rfl (fun c125 => ?_) (fun c125 => ?_)
          · skip
            refine z_iinc C (z := 1) (lw := fun x126 => [(3, .int x126), (0, .ref r0), (1, .ref rr9), (2, .int x12), (5, .int x109), (6, .ref rr110), (7, .int x116)]) rfl rfl rfl (Nat.le_of_ble_eq_true rfl) rfl ⟨by omega, by omega⟩ (fun _ => rfl) (fun x126 ex126 => ?_)
            show V 157 [(3, .int x126), (0, .ref r0), (1, .ref rr9), (2, .int x12), (5, .int x109), (6, .ref rr110), (7, .int x116)] _ _ _ _
            refine k_goto C (pc2 := 55) rfl rfl ?_
            refine k_sub S [(0, .ref r0), (1, .ref rr9), (2, .int x12), (3, .int x126)] (List.forall_mem_cons.mpr ⟨List.mem_of_getElem? (i := 1) rfl, List.forall_mem_cons.mpr ⟨List.mem_of_getElem? (i := 2) rfl, List.forall_mem_cons.mpr ⟨List.mem_of_getElem? (i := 3) rfl, List.forall_mem_cons.mpr ⟨List.mem_of_getElem? (i := 0) rfl, fun _ h => nomatch h⟩⟩⟩⟩) ?_
            exact ihJ14 _ (MN.lt hmnn15 (by omega) (by omega)) I114 L115 x126 rfl hI120 (Chg.cons S20 (Chg.mono S119 (by decide)) (by decide)) (by omega)
          refine k_iload C rfl rfl rfl ?_
          refine k_aload C rfl rfl rfl ?_
          obtain ⟨T_rr110, N_rr110, A_rr110⟩ := id H_rr110
          refine z_len C (n := 492) rfl rfl (by rw [T_rr110]; exact Nat.le_of_ble_eq_true rfl) N_rr110 (Nat.le_of_ble_eq_true rfl) (fun x127 ex127 => ?_)
          refine b_icmp_ge C (t := 154) rfl rfl rfl (fun c128 => by exfalso; omega) (fun c128 => ?_)
          refine k_aload_n C rfl rfl rfl ?_
          refine k_iload C rfl rfl rfl ?_
          refine k_aload_n C rfl rfl rfl ?_
          refine g_R C rfl rfl rfl T_r0 rfl R_r0_0 ?_
          refine k_aload_n C rfl rfl rfl ?_
          refine k_iload C rfl rfl rfl ?_
          refine z_aI C rfl rfl T_rr9 N_rr9 (by omega) (by omega) (fun x129 ex129 => ?_)
          have gx129 := rg x129
          refine k_iload C rfl rfl rfl ?_
          refine k_aload C rfl rfl rfl ?_
          refine k_iload C rfl rfl rfl ?_
          refine z_aI C rfl rfl T_rr110 N_rr110 (by omega) (by omega) (fun x130 ex130 => ?_)
          have gx130 := rg x130
          refine zt_imul C rfl rfl (fun x131 => ?_)
          have gx131 := rg x131
          refine zt_isub C rfl rfl (fun x132 => ?_)
          have gx132 := rg x132
          refine z_i2l C rfl rfl (fun lg133 elg133 => ?_)
          obtain ⟨T_r0_0, A_r0_0, B_r0_0, ⟨r0_0_0, R_r0_0_0, H_r0_0_0⟩, ⟨r0_0_1, R_r0_0_1, H_r0_0_1⟩, ⟨r0_0_2, R_r0_0_2, H_r0_0_2⟩⟩ := id H_r0_0
          refine c_VI C (s_X0_of hS hI120 H_r0_0) rfl rfl rfl rfl rfl ⟨_, rfl, rfl, T_r0_0, Nat.le_of_ble_eq_true rfl⟩ rfl rfl (Nat.le_of_ble_eq_true rfl) (Nat.le_of_ble_eq_true rfl) (Nat.le_of_ble_eq_true rfl) ?_
          rintro x134 _ _ ⟨rfl, rfl⟩
          have gx134 := rg x134
          refine z_sI C rfl rfl T_rr9 N_rr9 (by omega) (by omega) (fun I135 uI135 => ?_)
          have hI135 : IX A T I135 := IX.a hI120 T_rr9 (Nat.le_of_ble_eq_true rfl) uI135
          have S136 : Chg B T [] I114 L115 I135 L115 := Chg.a A_rr9 T_rr9 (Nat.le_of_ble_eq_true rfl) uI135
          have e137 := u2_n uI135 (t_nq T_r0 T_rr9 (by decide)) e121
          have e138 := u2_n uI135 (t_nq T_r0 T_rr9 (by decide)) e122
          refine z_iinc C (z := 1) (lw := fun x139 => [(7, .int x139), (0, .ref r0), (1, .ref rr9), (2, .int x12), (3, .int x18), (5, .int x109), (6, .ref rr110)]) rfl rfl rfl (Nat.le_of_ble_eq_true rfl) rfl ⟨by omega, by omega⟩ (fun _ => rfl) (fun x139 ex139 => ?_)
          show V 151 [(7, .int x139), (0, .ref r0), (1, .ref rr9), (2, .int x12), (3, .int x18), (5, .int x109), (6, .ref rr110)] _ _ _ _
          refine k_goto C (pc2 := 104) rfl rfl ?_
          refine k_sub S [(0, .ref r0), (1, .ref rr9), (2, .int x12), (3, .int x18), (5, .int x109), (6, .ref rr110), (7, .int x139)] (List.forall_mem_cons.mpr ⟨List.mem_of_getElem? (i := 1) rfl, List.forall_mem_cons.mpr ⟨List.mem_of_getElem? (i := 2) rfl, List.forall_mem_cons.mpr ⟨List.mem_of_getElem? (i := 3) rfl, List.forall_mem_cons.mpr ⟨List.mem_of_getElem? (i := 4) rfl, List.forall_mem_cons.mpr ⟨List.mem_of_getElem? (i := 5) rfl, List.forall_mem_cons.mpr ⟨List.mem_of_getElem? (i := 6) rfl, List.forall_mem_cons.mpr ⟨List.mem_of_getElem? (i := 0) rfl, fun _ h => nomatch h⟩⟩⟩⟩⟩⟩⟩) ?_
          exact ihJ112 _ (MN.lt hmnn113 (by omega) (by omega)) I135 L115 x139 rfl hI135 (Chg.cons S119 (Chg.mono S136 (by decide)) (by decide)) (by omega) (by omega)
      refine k_istore C (lw := [(7, .int x111), (6, .ref rr110), (5, .int x109), (4, .int x73), (0, .ref r0), (1, .ref rr9), (2, .int x12), (3, .int x18)]) rfl rfl (Nat.le_of_ble_eq_true rfl) rfl ?_
      refine k_sub S [(0, .ref r0), (1, .ref rr9), (2, .int x12), (3, .int x18), (5, .int x109), (6, .ref rr110), (7, .int x111)] (List.forall_mem_cons.mpr ⟨List.mem_of_getElem? (i := 4) rfl, List.forall_mem_cons.mpr ⟨List.mem_of_getElem? (i := 5) rfl, List.forall_mem_cons.mpr ⟨List.mem_of_getElem? (i := 6) rfl, List.forall_mem_cons.mpr ⟨List.mem_of_getElem? (i := 7) rfl, List.forall_mem_cons.mpr ⟨List.mem_of_getElem? (i := 2) rfl, List.forall_mem_cons.mpr ⟨List.mem_of_getElem? (i := 1) rfl, List.forall_mem_cons.mpr ⟨List.mem_of_getElem? (i := 0) rfl, fun _ h => nomatch h⟩⟩⟩⟩⟩⟩⟩) ?_
      exact J112 _ I16 L17 x111 rfl hI21 Chg.rf (by omega) (by omega)
  refine k_istore_n C (lw := [(3, .int x13), (2, .int x12), (1, .ref rr9), (0, .ref r0)]) rfl rfl (Nat.le_of_ble_eq_true rfl) rfl ?_
  refine k_sub S [(0, .ref r0), (1, .ref rr9), (2, .int x12), (3, .int x13)] (List.forall_mem_cons.mpr ⟨List.mem_of_getElem? (i := 3) rfl, List.forall_mem_cons.mpr ⟨List.mem_of_getElem? (i := 2) rfl, List.forall_mem_cons.mpr ⟨List.mem_of_getElem? (i := 1) rfl, List.forall_mem_cons.mpr ⟨List.mem_of_getElem? (i := 0) rfl, fun _ h => nomatch h⟩⟩⟩⟩) ?_
  exact J14 _ I L x13 rfl hI Chg.rf (by omega)

theorem s_X5_independent {d : Nat} {T N : Nat → Nat} {I : IT} {L : LT} {R : RT} {A B : Nat → Prop} {r0 r1 : Nat} {n2 n3 n4 : Int32} (hS : SUB B A) (hI : IX A T I) (H_r0 : (hs_Rw T N R A B) r0) (H_r1 : (hs_St T N R A B) r1) (b0_n3 : 1 ≤ n3.toInt) (b1_n3 : n3.toInt ≤ 8) : Ex (d + 7) 80 [.ref r0, .ref r1, .int n2, .int n3, .int n4] (T, N, I, L, R) 0 0 (pI T N R (fun x9 I9 L9 => (IX A T I9 ∧ Chg B T [(2, 5), (3, 0), (6, 6), (6, 7), (6, 8)] I L I9 L9))) := by
  refine ⟨_, rfl, Nat.le_of_ble_eq_true rfl, fun V C S => ?_⟩
  show V 0 [(0, .ref r0), (1, .ref r1), (2, .int n2), (3, .int n3), (4, .int n4)] [] (T, N, I, L, R) 0 0
  have gn2 := rg n2
  have gn3 := rg n3
  have gn4 := rg n4
  refine k_aload_n C rfl rfl rfl ?_
  refine k_iload_n C rfl rfl rfl ?_
  refine k_iload C rfl rfl rfl ?_
  obtain ⟨T_r0, A_r0, B_r0, ⟨r0_0, R_r0_0, H_r0_0⟩, ⟨r0_1, R_r0_1, H_r0_1⟩, ⟨r0_2, R_r0_2, H_r0_2⟩, ⟨r0_3, R_r0_3, H_r0_3⟩, ⟨r0_4, R_r0_4, H_r0_4⟩, ⟨r0_5, R_r0_5, H_r0_5⟩⟩ := id H_r0
  refine c_VV C (s_X5_draw hS hI H_r0 (by omega) (by omega)) rfl rfl rfl rfl rfl ⟨_, rfl, rfl, T_r0, Nat.le_of_ble_eq_true rfl⟩ rfl rfl (Nat.le_of_ble_eq_true rfl) (Nat.le_of_ble_eq_true rfl) (Nat.le_of_ble_eq_true rfl) ?_
  rintro I2 L3 ⟨hI2, S4⟩
  refine k_aload_n C rfl rfl rfl ?_
  refine z_iconst C (z := 0) rfl rfl rfl (fun x5 ex5 => ?_)
  refine z_pI C rfl rfl rfl T_r0 (Or.inr rfl) rfl (fun I6 uI6 => ?_)
  have hI6 : IX A T I6 := IX.f hI2 T_r0 (boX.tr (by decide) (by decide)) uI6
  have S7 : Chg B T [(6, 6)] I2 L3 I6 L3 := Chg.f B_r0 T_r0 uI6
  have e8 := u2_e uI6
  refine k_aload_n C rfl rfl rfl ?_
  refine z_iconst C (z := -1) rfl rfl rfl (fun x9 ex9 => ?_)
  refine z_pI C rfl rfl rfl T_r0 (Or.inr rfl) rfl (fun I10 uI10 => ?_)
  have hI10 : IX A T I10 := IX.f hI6 T_r0 (boX.tr (by decide) (by decide)) uI10
  have S11 : Chg B T [(6, 7)] I6 L3 I10 L3 := Chg.f B_r0 T_r0 uI10
  have e12 := u2_j uI10 (by decide) e8
  have e13 := u2_e uI10
  refine z_iconst C (z := 0) rfl rfl rfl (fun x14 ex14 => ?_)
  refine k_istore C (lw := [(5, .int x14), (0, .ref r0), (1, .ref r1), (2, .int n2), (3, .int n3), (4, .int n4)]) rfl rfl (Nat.le_of_ble_eq_true rfl) rfl ?_
  refine z_iconst C (z := 0) rfl rfl rfl (fun x15 ex15 => ?_)
  have J16 : ∀ (nn17 : Nat) (I18 : IT) (L19 : LT) (x20 : Int32) (x21 : Int32), (MN (8 - x21.toInt) nn17) → (IX A T I18) → (Chg B T [(2, 5), (3, 0), (6, 6), (6, 7), (6, 8)] I10 L3 I18 L19) → (0 ≤ x21.toInt) → (x21.toInt ≤ 8) → V 23 [(0, .ref r0), (1, .ref r1), (2, .int n2), (5, .int x20), (6, .int x21)] [] (T, N, I18, L19, R) 0 0 := by
    intro nn17
    induction nn17 using Nat.strongRecOn with
    | _ nn17 ihJ16 =>
      intro I18 L19 x20 x21 hmnn17 hI25 S24 b22 b23
      have gx20 := rg x20
      have gx21 := rg x21
      refine k_iload C rfl rfl rfl ?_
      refine z_bipush C (z := 8) rfl rfl rfl (fun x26 ex26 => ?_)
      refine b_icmp_ge C (t := 140) rfl rfl rfl (fun c27 => ?_) (fun c27 => ?_)
      · skip
        refine k_iload C rfl rfl rfl ?_
        exact k_iret C rfl (Or.inl rfl) (Nat.le_of_ble_eq_true rfl) (Nat.le_of_ble_eq_true rfl) ⟨_, _, _, rfl, rfl, hI25, (Chg.cons S4 (Chg.cons S7 (Chg.cons S11 (Chg.mono S24 (by decide)) (by decide)) (by decide)) (by decide))⟩
      refine k_iload_n C rfl rfl rfl ?_
      refine k_iload C rfl rfl rfl ?_
      refine zt_iushr C rfl rfl (fun x28 => ?_)
      have gx28 := rg x28
      refine z_iconst C (z := 1) rfl rfl rfl (fun x29 ex29 => ?_)
      refine zt_iand C rfl rfl (fun x30 => ?_)
      have gx30 := rg x30
      refine z_iconst C (z := 1) rfl rfl rfl (fun x31 ex31 => ?_)
      refine b_icmp_ne C (t := 49) rfl rfl rfl (fun c32 => ?_) (fun c32 => ?_)
      · skip
        refine k_null C rfl rfl ?_
        refine k_astoreV C (x := none) (lw := [(7, va_rf none), (0, .ref r0), (1, .ref r1), (2, .int n2), (5, .int x20), (6, .int x21)]) rfl rfl (Nat.le_of_ble_eq_true rfl) rfl ?_
        refine k_aloadV C (x := none) rfl rfl rfl ?_
        refine k_ifnull C (x := none) (t := 134) rfl rfl rfl (fun _ => ?_) (fun _ c33 => nomatch c33)
        refine z_iinc C (z := 1) (lw := fun x35 => [(6, .int x35), (7, va_rf none), (0, .ref r0), (1, .ref r1), (2, .int n2), (5, .int x20)]) rfl rfl rfl (Nat.le_of_ble_eq_true rfl) rfl ⟨by omega, by omega⟩ (fun _ => rfl) (fun x35 ex35 => ?_)
        show V 137 [(6, .int x35), (7, va_rf none), (0, .ref r0), (1, .ref r1), (2, .int n2), (5, .int x20)] _ _ _ _
        refine k_goto C (pc2 := 23) rfl rfl ?_
        refine k_sub S [(0, .ref r0), (1, .ref r1), (2, .int n2), (5, .int x20), (6, .int x35)] (List.forall_mem_cons.mpr ⟨List.mem_of_getElem? (i := 2) rfl, List.forall_mem_cons.mpr ⟨List.mem_of_getElem? (i := 3) rfl, List.forall_mem_cons.mpr ⟨List.mem_of_getElem? (i := 4) rfl, List.forall_mem_cons.mpr ⟨List.mem_of_getElem? (i := 5) rfl, List.forall_mem_cons.mpr ⟨List.mem_of_getElem? (i := 0) rfl, fun _ h => nomatch h⟩⟩⟩⟩⟩) ?_
        exact ihJ16 _ (MN.lt hmnn17 (by omega) (by omega)) I18 L19 x20 x35 rfl hI25 (Chg.mono S24 (by decide)) (by omega) (by omega)
      refine k_aload_n C rfl rfl rfl ?_
      refine k_iload C rfl rfl rfl ?_
      obtain ⟨T_r1, A_r1, B_r1, ⟨r1_6, R_r1_6, H_r1_6⟩, ⟨r1_7, R_r1_7, H_r1_7⟩, ⟨r1_8, R_r1_8, H_r1_8⟩, ⟨r1_9, R_r1_9, H_r1_9⟩, ⟨r1_10, R_r1_10, H_r1_10⟩⟩ := id H_r1
      refine c_VR C (s_X8_signsAt hS hI25 H_r1) rfl rfl rfl rfl rfl ⟨_, rfl, rfl, T_r1, Nat.le_of_ble_eq_true rfl⟩ rfl rfl (Nat.le_of_ble_eq_true rfl) (Nat.le_of_ble_eq_true rfl) (Nat.le_of_ble_eq_true rfl) ?_
      rintro yy36 _ _ ⟨hyy36, rfl, rfl⟩
      refine k_goto C (pc2 := 50) rfl rfl ?_
      refine k_astoreV C (x := yy36) (lw := [(7, va_rf yy36), (0, .ref r0), (1, .ref r1), (2, .int n2), (5, .int x20), (6, .int x21)]) rfl rfl (Nat.le_of_ble_eq_true rfl) rfl ?_
      refine k_aloadV C (x := yy36) rfl rfl rfl ?_
      refine k_ifnull C (x := yy36) (t := 134) rfl rfl rfl (fun c37 => ?_) (fun rr38 c37 => ?_)
      · skip
        subst c37
        refine z_iinc C (z := 1) (lw := fun x39 => [(6, .int x39), (7, va_rf none), (0, .ref r0), (1, .ref r1), (2, .int n2), (5, .int x20)]) rfl rfl rfl (Nat.le_of_ble_eq_true rfl) rfl ⟨by omega, by omega⟩ (fun _ => rfl) (fun x39 ex39 => ?_)
        show V 137 [(6, .int x39), (7, va_rf none), (0, .ref r0), (1, .ref r1), (2, .int n2), (5, .int x20)] _ _ _ _
        refine k_goto C (pc2 := 23) rfl rfl ?_
        refine k_sub S [(0, .ref r0), (1, .ref r1), (2, .int n2), (5, .int x20), (6, .int x39)] (List.forall_mem_cons.mpr ⟨List.mem_of_getElem? (i := 2) rfl, List.forall_mem_cons.mpr ⟨List.mem_of_getElem? (i := 3) rfl, List.forall_mem_cons.mpr ⟨List.mem_of_getElem? (i := 4) rfl, List.forall_mem_cons.mpr ⟨List.mem_of_getElem? (i := 5) rfl, List.forall_mem_cons.mpr ⟨List.mem_of_getElem? (i := 0) rfl, fun _ h => nomatch h⟩⟩⟩⟩⟩) ?_
        exact ihJ16 _ (MN.lt hmnn17 (by omega) (by omega)) I18 L19 x20 x39 rfl hI25 (Chg.mono S24 (by decide)) (by omega) (by omega)
      subst c37
      have H_rr38 := hyy36 rr38 rfl
      refine k_aload_n C rfl rfl rfl ?_
      refine z_iconst C (z := 0) rfl rfl rfl (fun x40 ex40 => ?_)
      refine z_pI C rfl rfl rfl T_r0 (Or.inr rfl) rfl (fun I41 uI41 => ?_)
      have hI41 : IX A T I41 := IX.f hI25 T_r0 (boX.tr (by decide) (by decide)) uI41
      have S42 : Chg B T [(6, 8)] I18 L19 I41 L19 := Chg.f B_r0 T_r0 uI41
      have e43 := u2_e uI41
      refine z_iconst C (z := 0) rfl rfl rfl (fun x44 ex44 => ?_)
      have J45 : ∀ (nn46 : Nat) (I47 : IT) (L48 : LT) (x49 : Int32) (x54 : Int32), (MN (12 - x49.toInt) nn46) → (IX A T I47) → (Chg B T [(2, 5), (3, 0), (6, 7), (6, 8)] I41 L19 I47 L48) → (0 ≤ x49.toInt) → (x49.toInt ≤ 12) → (I47 r0 8 = x54) → (0 ≤ x54.toInt) → V 65 [(0, .ref r0), (1, .ref r1), (2, .int n2), (5, .int x20), (6, .int x21), (7, .ref rr38), (8, .int x49)] [] (T, N, I47, L48, R) 0 0 := by
        intro nn46
        induction nn46 using Nat.strongRecOn with
        | _ nn46 ihJ45 =>
          intro I47 L48 x49 x54 hmnn46 hI53 S52 b50 b51 e55 b56
          have gx49 := rg x49
          have gx54 := rg x54
          refine k_iload C rfl rfl rfl ?_
          refine z_bipush C (z := 12) rfl rfl rfl (fun x57 ex57 => ?_)
          refine b_icmp_ge C (t := 114) rfl rfl rfl (fun c58 => ?_) (fun c58 => ?_)
          · skip
            refine k_iload C rfl rfl rfl ?_
            refine k_aload_n C rfl rfl rfl ?_
            refine c_VI C (s_X5_isHeld hS hI53 H_r0) rfl rfl rfl rfl rfl ⟨_, rfl, rfl, T_r0, Nat.le_of_ble_eq_true rfl⟩ rfl rfl (Nat.le_of_ble_eq_true rfl) (Nat.le_of_ble_eq_true rfl) (Nat.le_of_ble_eq_true rfl) ?_
            rintro x59 I60 L61 ⟨o0x59, o1x59, hI60, S62⟩
            have e63 := Chg.k S62 T_r0 (by decide) (by decide) e55
            have gx59 := rg x59
            refine b_if_eq C (t := 130) rfl rfl rfl (fun c64 => ?_) (fun c64 => ?_)
            · skip
              refine z_iconst C (z := 0) rfl rfl rfl (fun x65 ex65 => ?_)
              refine zt_ior C rfl rfl (fun x66 => ?_)
              have gx66 := rg x66
              refine k_istore C (lw := [(5, .int x66), (0, .ref r0), (1, .ref r1), (2, .int n2), (6, .int x21), (7, .ref rr38), (8, .int x49)]) rfl rfl (Nat.le_of_ble_eq_true rfl) rfl ?_
              refine z_iinc C (z := 1) (lw := fun x67 => [(6, .int x67), (5, .int x66), (0, .ref r0), (1, .ref r1), (2, .int n2), (7, .ref rr38), (8, .int x49)]) rfl rfl rfl (Nat.le_of_ble_eq_true rfl) rfl ⟨by omega, by omega⟩ (fun _ => rfl) (fun x67 ex67 => ?_)
              show V 137 [(6, .int x67), (5, .int x66), (0, .ref r0), (1, .ref r1), (2, .int n2), (7, .ref rr38), (8, .int x49)] _ _ _ _
              refine k_goto C (pc2 := 23) rfl rfl ?_
              refine k_sub S [(0, .ref r0), (1, .ref r1), (2, .int n2), (5, .int x66), (6, .int x67)] (List.forall_mem_cons.mpr ⟨List.mem_of_getElem? (i := 2) rfl, List.forall_mem_cons.mpr ⟨List.mem_of_getElem? (i := 3) rfl, List.forall_mem_cons.mpr ⟨List.mem_of_getElem? (i := 4) rfl, List.forall_mem_cons.mpr ⟨List.mem_of_getElem? (i := 1) rfl, List.forall_mem_cons.mpr ⟨List.mem_of_getElem? (i := 0) rfl, fun _ h => nomatch h⟩⟩⟩⟩⟩) ?_
              exact ihJ16 _ (MN.lt hmnn17 (by omega) (by omega)) I60 L61 x66 x67 rfl hI60 (Chg.cons S24 (Chg.cons S42 (Chg.cons S52 (Chg.mono S62 (by decide)) (by decide)) (by decide)) (by decide)) (by omega) (by omega)
            refine z_iconst C (z := 1) rfl rfl rfl (fun x68 ex68 => ?_)
            refine k_iload C rfl rfl rfl ?_
            refine zt_ishl C rfl rfl (fun x69 => ?_)
            have gx69 := rg x69
            refine k_goto C (pc2 := 131) rfl rfl ?_
            refine zt_ior C rfl rfl (fun x70 => ?_)
            have gx70 := rg x70
            refine k_istore C (lw := [(5, .int x70), (0, .ref r0), (1, .ref r1), (2, .int n2), (6, .int x21), (7, .ref rr38), (8, .int x49)]) rfl rfl (Nat.le_of_ble_eq_true rfl) rfl ?_
            refine z_iinc C (z := 1) (lw := fun x71 => [(6, .int x71), (5, .int x70), (0, .ref r0), (1, .ref r1), (2, .int n2), (7, .ref rr38), (8, .int x49)]) rfl rfl rfl (Nat.le_of_ble_eq_true rfl) rfl ⟨by omega, by omega⟩ (fun _ => rfl) (fun x71 ex71 => ?_)
            show V 137 [(6, .int x71), (5, .int x70), (0, .ref r0), (1, .ref r1), (2, .int n2), (7, .ref rr38), (8, .int x49)] _ _ _ _
            refine k_goto C (pc2 := 23) rfl rfl ?_
            refine k_sub S [(0, .ref r0), (1, .ref r1), (2, .int n2), (5, .int x70), (6, .int x71)] (List.forall_mem_cons.mpr ⟨List.mem_of_getElem? (i := 2) rfl, List.forall_mem_cons.mpr ⟨List.mem_of_getElem? (i := 3) rfl, List.forall_mem_cons.mpr ⟨List.mem_of_getElem? (i := 4) rfl, List.forall_mem_cons.mpr ⟨List.mem_of_getElem? (i := 1) rfl, List.forall_mem_cons.mpr ⟨List.mem_of_getElem? (i := 0) rfl, fun _ h => nomatch h⟩⟩⟩⟩⟩) ?_
            exact ihJ16 _ (MN.lt hmnn17 (by omega) (by omega)) I60 L61 x70 x71 rfl hI60 (Chg.cons S24 (Chg.cons S42 (Chg.cons S52 (Chg.mono S62 (by decide)) (by decide)) (by decide)) (by decide)) (by omega) (by omega)
          refine k_aload_n C rfl rfl rfl ?_
          refine g_R C rfl rfl rfl T_r0 rfl R_r0_2 ?_
          refine k_iload C rfl rfl rfl ?_
          refine c_SR C (s_X2_pick_Row12 hS hI53 H_r0_2) rfl rfl rfl rfl rfl rfl rfl (Nat.le_of_ble_eq_true rfl) (Nat.le_of_ble_eq_true rfl) (Nat.le_of_ble_eq_true rfl) ?_
          rintro yy72 _ _ ⟨hyy72, rfl, rfl⟩
          refine k_astoreV C (x := yy72) (lw := [(9, va_rf yy72), (0, .ref r0), (1, .ref r1), (2, .int n2), (5, .int x20), (6, .int x21), (7, .ref rr38), (8, .int x49)]) rfl rfl (Nat.le_of_ble_eq_true rfl) rfl ?_
          refine k_aloadV C (x := yy72) rfl rfl rfl ?_
          refine k_ifnull C (x := yy72) (t := 106) rfl rfl rfl (fun c73 => ?_) (fun rr74 c73 => ?_)
          · skip
            subst c73
            refine z_iconst C (z := -1) rfl rfl rfl (fun x75 ex75 => ?_)
            exact k_iret C rfl (Or.inl rfl) (Nat.le_of_ble_eq_true rfl) (Nat.le_of_ble_eq_true rfl) ⟨_, _, _, rfl, rfl, hI53, (Chg.cons S4 (Chg.cons S7 (Chg.cons S11 (Chg.cons S24 (Chg.cons S42 (Chg.mono S52 (by decide)) (by decide)) (by decide)) (by decide)) (by decide)) (by decide))⟩
          subst c73
          have H_rr74 := hyy72 rr74 rfl
          refine k_aload_n C rfl rfl rfl ?_
          refine k_aload_n C rfl rfl rfl ?_
          refine g_R C rfl rfl rfl T_r0 rfl R_r0_1 ?_
          refine k_aload C rfl rfl rfl ?_
          refine k_aload C rfl rfl rfl ?_
          obtain ⟨T_r0_1, A_r0_1, B_r0_1, ⟨r0_1_0, R_r0_1_0, H_r0_1_0⟩, ⟨r0_1_1, R_r0_1_1, H_r0_1_1⟩, ⟨r0_1_2, R_r0_1_2, H_r0_1_2⟩, ⟨r0_1_3, R_r0_1_3, H_r0_1_3⟩, ⟨r0_1_4, R_r0_1_4, H_r0_1_4⟩⟩ := id H_r0_1
          refine c_VR C (s_X1_valueOf hS hI53 H_r0_1 H_rr38 (hs_GF hS H_rr74)) rfl rfl rfl rfl rfl ⟨_, rfl, rfl, T_r0_1, Nat.le_of_ble_eq_true rfl⟩ rfl rfl (Nat.le_of_ble_eq_true rfl) (Nat.le_of_ble_eq_true rfl) (Nat.le_of_ble_eq_true rfl) ?_
          rintro yy76 I77 L78 ⟨hyy76, hI77, S79⟩
          have e80 := Chg.k S79 T_r0 (by decide) (by decide) e55
          refine c_VI C (s_X5_isAppended hS hI77 H_r0 (fun b9 h9 => hs_GF hS (hyy76 b9 h9)) (by first | omega | (simp only [e80] <;> omega))) rfl rfl rfl rfl rfl ⟨_, rfl, rfl, T_r0, Nat.le_of_ble_eq_true rfl⟩ rfl rfl (Nat.le_of_ble_eq_true rfl) (Nat.le_of_ble_eq_true rfl) (Nat.le_of_ble_eq_true rfl) ?_
          rintro x81 I82 L83 ⟨o0x81, o1x81, p0x81, hI82, S84⟩
          have gx81 := rg x81
          obtain ⟨x85, e86⟩ : ∃ x, I82 r0 8 = x := ⟨_, rfl⟩
          have gx85 := rg x85
          try simp only [e80, e86] at p0x81
          try have q0x81 := congrArg Int32.toInt p0x81
          refine b_if_ne C (t := 108) rfl rfl rfl (fun c87 => ?_) (fun c87 => ?_)
          · skip
            refine z_iinc C (z := 1) (lw := fun x88 => [(8, .int x88), (9, .ref rr74), (0, .ref r0), (1, .ref r1), (2, .int n2), (5, .int x20), (6, .int x21), (7, .ref rr38)]) rfl rfl rfl (Nat.le_of_ble_eq_true rfl) rfl ⟨by omega, by omega⟩ (fun _ => rfl) (fun x88 ex88 => ?_)
            show V 111 [(8, .int x88), (9, .ref rr74), (0, .ref r0), (1, .ref r1), (2, .int n2), (5, .int x20), (6, .int x21), (7, .ref rr38)] _ _ _ _
            refine k_goto C (pc2 := 65) rfl rfl ?_
            refine k_sub S [(0, .ref r0), (1, .ref r1), (2, .int n2), (5, .int x20), (6, .int x21), (7, .ref rr38), (8, .int x88)] (List.forall_mem_cons.mpr ⟨List.mem_of_getElem? (i := 2) rfl, List.forall_mem_cons.mpr ⟨List.mem_of_getElem? (i := 3) rfl, List.forall_mem_cons.mpr ⟨List.mem_of_getElem? (i := 4) rfl, List.forall_mem_cons.mpr ⟨List.mem_of_getElem? (i := 5) rfl, List.forall_mem_cons.mpr ⟨List.mem_of_getElem? (i := 6) rfl, List.forall_mem_cons.mpr ⟨List.mem_of_getElem? (i := 7) rfl, List.forall_mem_cons.mpr ⟨List.mem_of_getElem? (i := 0) rfl, fun _ h => nomatch h⟩⟩⟩⟩⟩⟩⟩) ?_
            exact ihJ45 _ (MN.lt hmnn46 (by omega) (by omega)) I82 L83 x88 x85 rfl hI82 (Chg.cons S52 (Chg.cons S79 (Chg.mono S84 (by decide)) (by decide)) (by decide)) (by omega) (by omega) e86 (by omega)
          refine z_iconst C (z := -1) rfl rfl rfl (fun x89 ex89 => ?_)
          exact k_iret C rfl (Or.inl rfl) (Nat.le_of_ble_eq_true rfl) (Nat.le_of_ble_eq_true rfl) ⟨_, _, _, rfl, rfl, hI82, (Chg.cons S4 (Chg.cons S7 (Chg.cons S11 (Chg.cons S24 (Chg.cons S42 (Chg.cons S52 (Chg.cons S79 (Chg.mono S84 (by decide)) (by decide)) (by decide)) (by decide)) (by decide)) (by decide)) (by decide)) (by decide))⟩
      refine k_istore C (lw := [(8, .int x44), (7, .ref rr38), (0, .ref r0), (1, .ref r1), (2, .int n2), (5, .int x20), (6, .int x21)]) rfl rfl (Nat.le_of_ble_eq_true rfl) rfl ?_
      refine k_sub S [(0, .ref r0), (1, .ref r1), (2, .int n2), (5, .int x20), (6, .int x21), (7, .ref rr38), (8, .int x44)] (List.forall_mem_cons.mpr ⟨List.mem_of_getElem? (i := 2) rfl, List.forall_mem_cons.mpr ⟨List.mem_of_getElem? (i := 3) rfl, List.forall_mem_cons.mpr ⟨List.mem_of_getElem? (i := 4) rfl, List.forall_mem_cons.mpr ⟨List.mem_of_getElem? (i := 5) rfl, List.forall_mem_cons.mpr ⟨List.mem_of_getElem? (i := 6) rfl, List.forall_mem_cons.mpr ⟨List.mem_of_getElem? (i := 1) rfl, List.forall_mem_cons.mpr ⟨List.mem_of_getElem? (i := 0) rfl, fun _ h => nomatch h⟩⟩⟩⟩⟩⟩⟩) ?_
      exact J45 _ I41 L19 x44 x40 rfl hI41 Chg.rf (by omega) (by omega) e43 (by omega)
  refine k_istore C (lw := [(6, .int x15), (5, .int x14), (0, .ref r0), (1, .ref r1), (2, .int n2), (3, .int n3), (4, .int n4)]) rfl rfl (Nat.le_of_ble_eq_true rfl) rfl ?_
  refine k_sub S [(0, .ref r0), (1, .ref r1), (2, .int n2), (5, .int x14), (6, .int x15)] (List.forall_mem_cons.mpr ⟨List.mem_of_getElem? (i := 2) rfl, List.forall_mem_cons.mpr ⟨List.mem_of_getElem? (i := 3) rfl, List.forall_mem_cons.mpr ⟨List.mem_of_getElem? (i := 4) rfl, List.forall_mem_cons.mpr ⟨List.mem_of_getElem? (i := 1) rfl, List.forall_mem_cons.mpr ⟨List.mem_of_getElem? (i := 0) rfl, fun _ h => nomatch h⟩⟩⟩⟩⟩) ?_
  exact J16 _ I10 L3 x14 x15 rfl hI10 Chg.rf (by omega) (by omega)

