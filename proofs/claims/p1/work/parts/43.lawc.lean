/-! the law: its own methods that throw -/
theorem e_L_look0 {d : Nat} {T N : Nat → Nat} {I : IT} {L : LT} {R : RT} {x o nw fr : Nat} {n0 n1 : Int32} (T_x : T x = 12) (R_x_1 : R x 1 = some nw) (T_nw : T nw = 9) (R_nw_8 : R nw 8 = some fr) (I_nw_1 : I nw 1 = 0) : Ex (d + 5) 320 [.ref x, .int n0, .int n1, .ref o] (T, N, I, L, R) 1 6 (pI T N R (fun x9 I9 L9 => x9 = (1) ∧ I9 = I ∧ L9 = L)) := by
  refine ⟨_, rfl, Nat.le_of_ble_eq_true rfl, fun V C S => ?_⟩
  show V 0 [(0, .ref x), (1, .int n0), (2, .int n1), (3, .ref o)] [] (T, N, I, L, R) 0 0
  refine k_aload_n C rfl rfl rfl ?_
  refine k_iconst C (x := 0) rfl rfl rfl ?_
  refine k_aload_n C rfl rfl rfl ?_
  refine k_iload_n C rfl rfl rfl ?_
  refine k_iload_n C rfl rfl rfl ?_
  refine c_VH C (e_look0 T_x R_x_1 T_nw R_nw_8 (I_nw_1) ) rfl rfl rfl rfl rfl ⟨_, rfl, rfl, T_x, Nat.le_of_ble_eq_true rfl⟩ rfl rfl (Nat.le_of_ble_eq_true rfl) (Nat.le_of_ble_eq_true rfl) (Nat.le_of_ble_eq_true rfl) (Nat.le_of_ble_eq_true rfl) (ph := 13) rfl ?_
  rintro _ _ z5 ⟨hI8, hL9⟩
  have hI8 := hI8.symm; subst hI8; have hL9 := hL9.symm; subst hL9
  refine k_astore C (lw := [(4, _), (0, _), (1, .int _), (2, .int _), (3, _)]) rfl rfl (Nat.le_of_ble_eq_true rfl) rfl ?_
  refine k_iconst C (x := 1) rfl rfl rfl ?_
  exact k_iret C rfl (Or.inl rfl) (Nat.le_of_ble_eq_true rfl) (Nat.le_of_ble_eq_true rfl) ⟨_, _, _, rfl, rfl, ⟨rfl, rfl, rfl⟩⟩

theorem e_L_at0 {d : Nat} {T N : Nat → Nat} {I : IT} {L : LT} {R : RT} {x o nw fr : Nat} {n0 n1 n2 : Int32} (T_x : T x = 12) (R_x_1 : R x 1 = some nw) (T_nw : T nw = 9) (R_nw_8 : R nw 8 = some fr) (I_nw_1 : I nw 1 = 0) : Ex (d + 5) 321 [.ref x, .int n0, .int n1, .int n2, .ref o] (T, N, I, L, R) 1 6 (pI T N R (fun x9 I9 L9 => x9 = (1) ∧ I9 = I ∧ L9 = L)) := by
  refine ⟨_, rfl, Nat.le_of_ble_eq_true rfl, fun V C S => ?_⟩
  show V 0 [(0, .ref x), (1, .int n0), (2, .int n1), (3, .int n2), (4, .ref o)] [] (T, N, I, L, R) 0 0
  refine k_aload C rfl rfl rfl ?_
  refine k_iconst C (x := 0) rfl rfl rfl ?_
  refine k_aload_n C rfl rfl rfl ?_
  refine k_iload_n C rfl rfl rfl ?_
  refine k_iload_n C rfl rfl rfl ?_
  refine k_iload_n C rfl rfl rfl ?_
  refine c_VH C (e_at0 T_x R_x_1 T_nw R_nw_8 (I_nw_1) ) rfl rfl rfl rfl rfl ⟨_, rfl, rfl, T_x, Nat.le_of_ble_eq_true rfl⟩ rfl rfl (Nat.le_of_ble_eq_true rfl) (Nat.le_of_ble_eq_true rfl) (Nat.le_of_ble_eq_true rfl) (Nat.le_of_ble_eq_true rfl) (ph := 15) rfl ?_
  rintro _ _ z7 ⟨hI8, hL9⟩
  have hI8 := hI8.symm; subst hI8; have hL9 := hL9.symm; subst hL9
  refine k_astore C (lw := [(5, _), (0, _), (1, .int _), (2, .int _), (3, .int _), (4, _)]) rfl rfl (Nat.le_of_ble_eq_true rfl) rfl ?_
  refine k_iconst C (x := 1) rfl rfl rfl ?_
  exact k_iret C rfl (Or.inl rfl) (Nat.le_of_ble_eq_true rfl) (Nat.le_of_ble_eq_true rfl) ⟨_, _, _, rfl, rfl, ⟨rfl, rfl, rfl⟩⟩

theorem e_L_det0 {d : Nat} {T N : Nat → Nat} {I : IT} {L : LT} {R : RT} {x o nw : Nat} {n0 : Int32} (T_x : T x = 12) (R_x_1 : R x 1 = some nw) (T_nw : T nw = 9) (I_nw_2 : I nw 2 = 0) : Ex (d + 4) 322 [.ref x, .int n0, .ref o] (T, N, I, L, R) 1 6 (pI T N R (fun x9 I9 L9 => x9 = (1) ∧ I9 = I ∧ L9 = L)) := by
  refine ⟨_, rfl, Nat.le_of_ble_eq_true rfl, fun V C S => ?_⟩
  show V 0 [(0, .ref x), (1, .int n0), (2, .ref o)] [] (T, N, I, L, R) 0 0
  refine k_aload_n C rfl rfl rfl ?_
  refine k_iconst C (x := 0) rfl rfl rfl ?_
  refine k_aload_n C rfl rfl rfl ?_
  refine k_iload_n C rfl rfl rfl ?_
  refine c_VH C (e_det0 T_x R_x_1 T_nw (I_nw_2) ) rfl rfl rfl rfl rfl ⟨_, rfl, rfl, T_x, Nat.le_of_ble_eq_true rfl⟩ rfl rfl (Nat.le_of_ble_eq_true rfl) (Nat.le_of_ble_eq_true rfl) (Nat.le_of_ble_eq_true rfl) (Nat.le_of_ble_eq_true rfl) (ph := 12) rfl ?_
  rintro _ _ z4 ⟨hI8, hL9⟩
  have hI8 := hI8.symm; subst hI8; have hL9 := hL9.symm; subst hL9
  refine k_astore_n C (lw := [(3, _), (0, _), (1, .int _), (2, _)]) rfl rfl (Nat.le_of_ble_eq_true rfl) rfl ?_
  refine k_iconst C (x := 1) rfl rfl rfl ?_
  exact k_iret C rfl (Or.inl rfl) (Nat.le_of_ble_eq_true rfl) (Nat.le_of_ble_eq_true rfl) ⟨_, _, _, rfl, rfl, ⟨rfl, rfl, rfl⟩⟩

theorem e_L_told0 {d : Nat} {T N : Nat → Nat} {I : IT} {L : LT} {R : RT} {x o nw : Nat} {n0 n1 : Int32} (T_x : T x = 12) (R_x_1 : R x 1 = some nw) (T_nw : T nw = 9) (I_nw_2 : I nw 2 = 0) : Ex (d + 4) 335 [.ref x, .int n0, .int n1, .ref o] (T, N, I, L, R) 1 6 (pI T N R (fun x9 I9 L9 => x9 = (1) ∧ I9 = I ∧ L9 = L)) := by
  refine ⟨_, rfl, Nat.le_of_ble_eq_true rfl, fun V C S => ?_⟩
  show V 0 [(0, .ref x), (1, .int n0), (2, .int n1), (3, .ref o)] [] (T, N, I, L, R) 0 0
  refine k_aload_n C rfl rfl rfl ?_
  refine k_iconst C (x := 0) rfl rfl rfl ?_
  refine k_aload_n C rfl rfl rfl ?_
  refine k_iload_n C rfl rfl rfl ?_
  refine k_iload_n C rfl rfl rfl ?_
  refine c_VH C (e_told0 T_x R_x_1 T_nw (I_nw_2) ) rfl rfl rfl rfl rfl ⟨_, rfl, rfl, T_x, Nat.le_of_ble_eq_true rfl⟩ rfl rfl (Nat.le_of_ble_eq_true rfl) (Nat.le_of_ble_eq_true rfl) (Nat.le_of_ble_eq_true rfl) (Nat.le_of_ble_eq_true rfl) (ph := 13) rfl ?_
  rintro _ _ z5 ⟨hI8, hL9⟩
  have hI8 := hI8.symm; subst hI8; have hL9 := hL9.symm; subst hL9
  refine k_astore C (lw := [(4, _), (0, _), (1, .int _), (2, .int _), (3, _)]) rfl rfl (Nat.le_of_ble_eq_true rfl) rfl ?_
  refine k_iconst C (x := 1) rfl rfl rfl ?_
  exact k_iret C rfl (Or.inl rfl) (Nat.le_of_ble_eq_true rfl) (Nat.le_of_ble_eq_true rfl) ⟨_, _, _, rfl, rfl, ⟨rfl, rfl, rfl⟩⟩

theorem e_L_join0 {d : Nat} {T N : Nat → Nat} {I : IT} {L : LT} {R : RT} {x o nw : Nat} {n0 n1 : Int32} (T_x : T x = 12) (R_x_1 : R x 1 = some nw) (T_nw : T nw = 9) (I_nw_2 : I nw 2 = 0) : Ex (d + 4) 333 [.ref x, .int n0, .int n1, .ref o] (T, N, I, L, R) 1 6 (pI T N R (fun x9 I9 L9 => x9 = (1) ∧ I9 = I ∧ L9 = L)) := by
  refine ⟨_, rfl, Nat.le_of_ble_eq_true rfl, fun V C S => ?_⟩
  show V 0 [(0, .ref x), (1, .int n0), (2, .int n1), (3, .ref o)] [] (T, N, I, L, R) 0 0
  refine k_aload_n C rfl rfl rfl ?_
  refine k_iconst C (x := 0) rfl rfl rfl ?_
  refine k_aload_n C rfl rfl rfl ?_
  refine k_iload_n C rfl rfl rfl ?_
  refine k_iload_n C rfl rfl rfl ?_
  refine c_VH C (e_join0 T_x R_x_1 T_nw (I_nw_2) ) rfl rfl rfl rfl rfl ⟨_, rfl, rfl, T_x, Nat.le_of_ble_eq_true rfl⟩ rfl rfl (Nat.le_of_ble_eq_true rfl) (Nat.le_of_ble_eq_true rfl) (Nat.le_of_ble_eq_true rfl) (Nat.le_of_ble_eq_true rfl) (ph := 13) rfl ?_
  rintro _ _ z5 ⟨hI8, hL9⟩
  have hI8 := hI8.symm; subst hI8; have hL9 := hL9.symm; subst hL9
  refine k_astore C (lw := [(4, _), (0, _), (1, .int _), (2, .int _), (3, _)]) rfl rfl (Nat.le_of_ble_eq_true rfl) rfl ?_
  refine k_iconst C (x := 1) rfl rfl rfl ?_
  exact k_iret C rfl (Or.inl rfl) (Nat.le_of_ble_eq_true rfl) (Nat.le_of_ble_eq_true rfl) ⟨_, _, _, rfl, rfl, ⟨rfl, rfl, rfl⟩⟩

theorem e_L_turn0 {d : Nat} {T N : Nat → Nat} {I : IT} {L : LT} {R : RT} {x o nw : Nat} {n0 : Int32} (T_x : T x = 12) (R_x_1 : R x 1 = some nw) (T_nw : T nw = 9) (I_nw_2 : I nw 2 = 0) : Ex (d + 4) 334 [.ref x, .int n0, .ref o] (T, N, I, L, R) 1 6 (pI T N R (fun x9 I9 L9 => x9 = (1) ∧ I9 = I ∧ L9 = L)) := by
  refine ⟨_, rfl, Nat.le_of_ble_eq_true rfl, fun V C S => ?_⟩
  show V 0 [(0, .ref x), (1, .int n0), (2, .ref o)] [] (T, N, I, L, R) 0 0
  refine k_aload_n C rfl rfl rfl ?_
  refine k_iconst C (x := 0) rfl rfl rfl ?_
  refine k_aload_n C rfl rfl rfl ?_
  refine k_iload_n C rfl rfl rfl ?_
  refine c_VH C (e_turn0 T_x R_x_1 T_nw (I_nw_2) ) rfl rfl rfl rfl rfl ⟨_, rfl, rfl, T_x, Nat.le_of_ble_eq_true rfl⟩ rfl rfl (Nat.le_of_ble_eq_true rfl) (Nat.le_of_ble_eq_true rfl) (Nat.le_of_ble_eq_true rfl) (Nat.le_of_ble_eq_true rfl) (ph := 12) rfl ?_
  rintro _ _ z4 ⟨hI8, hL9⟩
  have hI8 := hI8.symm; subst hI8; have hL9 := hL9.symm; subst hL9
  refine k_astore_n C (lw := [(3, _), (0, _), (1, .int _), (2, _)]) rfl rfl (Nat.le_of_ble_eq_true rfl) rfl ?_
  refine k_iconst C (x := 1) rfl rfl rfl ?_
  exact k_iret C rfl (Or.inl rfl) (Nat.le_of_ble_eq_true rfl) (Nat.le_of_ble_eq_true rfl) ⟨_, _, _, rfl, rfl, ⟨rfl, rfl, rfl⟩⟩

theorem e_L_mix0 {d : Nat} {T N : Nat → Nat} {I : IT} {L : LT} {R : RT} {x o nw fr : Nat} {n0 n1 : Int32} (T_x : T x = 12) (R_x_1 : R x 1 = some nw) (T_nw : T nw = 9) (R_nw_8 : R nw 8 = some fr) (I_nw_1 : I nw 1 = 0) : Ex (d + 5) 323 [.ref x, .int n0, .int n1, .ref o] (T, N, I, L, R) 1 6 (pI T N R (fun x9 I9 L9 => x9 = (1) ∧ I9 = I ∧ L9 = L)) := by
  refine ⟨_, rfl, Nat.le_of_ble_eq_true rfl, fun V C S => ?_⟩
  show V 0 [(0, .ref x), (1, .int n0), (2, .int n1), (3, .ref o)] [] (T, N, I, L, R) 0 0
  refine k_aload_n C rfl rfl rfl ?_
  refine k_iconst C (x := 0) rfl rfl rfl ?_
  refine k_aload_n C rfl rfl rfl ?_
  refine k_iload_n C rfl rfl rfl ?_
  refine k_iload_n C rfl rfl rfl ?_
  refine c_VH C (e_mix0 T_x R_x_1 T_nw R_nw_8 (I_nw_1) ) rfl rfl rfl rfl rfl ⟨_, rfl, rfl, T_x, Nat.le_of_ble_eq_true rfl⟩ rfl rfl (Nat.le_of_ble_eq_true rfl) (Nat.le_of_ble_eq_true rfl) (Nat.le_of_ble_eq_true rfl) (Nat.le_of_ble_eq_true rfl) (ph := 20) rfl ?_
  rintro _ _ z5 ⟨hI8, hL9⟩
  have hI8 := hI8.symm; subst hI8; have hL9 := hL9.symm; subst hL9
  refine k_astore C (lw := [(4, _), (0, _), (1, .int _), (2, .int _), (3, _)]) rfl rfl (Nat.le_of_ble_eq_true rfl) rfl ?_
  refine k_iconst C (x := 1) rfl rfl rfl ?_
  exact k_iret C rfl (Or.inl rfl) (Nat.le_of_ble_eq_true rfl) (Nat.le_of_ble_eq_true rfl) ⟨_, _, _, rfl, rfl, ⟨rfl, rfl, rfl⟩⟩

theorem e_L_value0 {d : Nat} {T N : Nat → Nat} {I : IT} {L : LT} {R : RT} {x o nw : Nat} {n0 n1 n2 : Int32} (T_x : T x = 12) (R_x_1 : R x 1 = some nw) (T_nw : T nw = 9) (I_nw_3 : I nw 3 = 0) : Ex (d + 4) 324 [.ref x, .int n0, .int n1, .int n2, .ref o] (T, N, I, L, R) 1 6 (pI T N R (fun x9 I9 L9 => x9 = (1) ∧ I9 = I ∧ L9 = L)) := by
  refine ⟨_, rfl, Nat.le_of_ble_eq_true rfl, fun V C S => ?_⟩
  show V 0 [(0, .ref x), (1, .int n0), (2, .int n1), (3, .int n2), (4, .ref o)] [] (T, N, I, L, R) 0 0
  refine k_aload C rfl rfl rfl ?_
  refine k_iconst C (x := 0) rfl rfl rfl ?_
  refine k_aload_n C rfl rfl rfl ?_
  refine k_iload_n C rfl rfl rfl ?_
  refine k_iload_n C rfl rfl rfl ?_
  refine k_iload_n C rfl rfl rfl ?_
  refine c_VH C (e_value0 T_x R_x_1 T_nw (I_nw_3) ) rfl rfl rfl rfl rfl ⟨_, rfl, rfl, T_x, Nat.le_of_ble_eq_true rfl⟩ rfl rfl (Nat.le_of_ble_eq_true rfl) (Nat.le_of_ble_eq_true rfl) (Nat.le_of_ble_eq_true rfl) (Nat.le_of_ble_eq_true rfl) (ph := 15) rfl ?_
  rintro _ _ z7 ⟨hI8, hL9⟩
  have hI8 := hI8.symm; subst hI8; have hL9 := hL9.symm; subst hL9
  refine k_astore C (lw := [(5, _), (0, _), (1, .int _), (2, .int _), (3, .int _), (4, _)]) rfl rfl (Nat.le_of_ble_eq_true rfl) rfl ?_
  refine k_iconst C (x := 1) rfl rfl rfl ?_
  exact k_iret C rfl (Or.inl rfl) (Nat.le_of_ble_eq_true rfl) (Nat.le_of_ble_eq_true rfl) ⟨_, _, _, rfl, rfl, ⟨rfl, rfl, rfl⟩⟩

theorem e_L_rank0 {d : Nat} {T N : Nat → Nat} {I : IT} {L : LT} {R : RT} {x o nw cc : Nat} {n0 n1 : Int32} (T_x : T x = 12) (R_x_1 : R x 1 = some nw) (T_nw : T nw = 9) (I_nw_3 : I nw 3 = 0) (R_x_6 : R x 6 = some cc) : Ex (d + 4) 325 [.ref x, .int n0, .int n1, .ref o] (T, N, I, L, R) 1 6 (pI T N R (fun x9 I9 L9 => x9 = (1) ∧ I9 = I ∧ L9 = L)) := by
  refine ⟨_, rfl, Nat.le_of_ble_eq_true rfl, fun V C S => ?_⟩
  show V 0 [(0, .ref x), (1, .int n0), (2, .int n1), (3, .ref o)] [] (T, N, I, L, R) 0 0
  refine k_aload_n C rfl rfl rfl ?_
  refine k_iconst C (x := 0) rfl rfl rfl ?_
  refine k_aload_n C rfl rfl rfl ?_
  refine k_iload_n C rfl rfl rfl ?_
  refine k_iload_n C rfl rfl rfl ?_
  refine c_VH C (e_rank0 T_x R_x_1 T_nw (I_nw_3) R_x_6 ) rfl rfl rfl rfl rfl ⟨_, rfl, rfl, T_x, Nat.le_of_ble_eq_true rfl⟩ rfl rfl (Nat.le_of_ble_eq_true rfl) (Nat.le_of_ble_eq_true rfl) (Nat.le_of_ble_eq_true rfl) (Nat.le_of_ble_eq_true rfl) (ph := 13) rfl ?_
  rintro _ _ z5 ⟨hI8, hL9⟩
  have hI8 := hI8.symm; subst hI8; have hL9 := hL9.symm; subst hL9
  refine k_astore C (lw := [(4, _), (0, _), (1, .int _), (2, .int _), (3, _)]) rfl rfl (Nat.le_of_ble_eq_true rfl) rfl ?_
  refine k_iconst C (x := 1) rfl rfl rfl ?_
  exact k_iret C rfl (Or.inl rfl) (Nat.le_of_ble_eq_true rfl) (Nat.le_of_ble_eq_true rfl) ⟨_, _, _, rfl, rfl, ⟨rfl, rfl, rfl⟩⟩

theorem e_L_stays0 {d : Nat} {T N : Nat → Nat} {I : IT} {L : LT} {R : RT} {x o nw : Nat} {n0 n1 n2 : Int32} (T_x : T x = 12) (R_x_1 : R x 1 = some nw) (T_nw : T nw = 9) (I_nw_3 : I nw 3 = 0) : Ex (d + 4) 326 [.ref x, .int n0, .int n1, .int n2, .ref o] (T, N, I, L, R) 1 6 (pI T N R (fun x9 I9 L9 => x9 = (1) ∧ I9 = I ∧ L9 = L)) := by
  refine ⟨_, rfl, Nat.le_of_ble_eq_true rfl, fun V C S => ?_⟩
  show V 0 [(0, .ref x), (1, .int n0), (2, .int n1), (3, .int n2), (4, .ref o)] [] (T, N, I, L, R) 0 0
  refine k_aload C rfl rfl rfl ?_
  refine k_iconst C (x := 0) rfl rfl rfl ?_
  refine k_aload_n C rfl rfl rfl ?_
  refine k_iload_n C rfl rfl rfl ?_
  refine k_iload_n C rfl rfl rfl ?_
  refine k_iload_n C rfl rfl rfl ?_
  refine c_VH C (e_stays0 T_x R_x_1 T_nw (I_nw_3) ) rfl rfl rfl rfl rfl ⟨_, rfl, rfl, T_x, Nat.le_of_ble_eq_true rfl⟩ rfl rfl (Nat.le_of_ble_eq_true rfl) (Nat.le_of_ble_eq_true rfl) (Nat.le_of_ble_eq_true rfl) (Nat.le_of_ble_eq_true rfl) (ph := 22) rfl ?_
  rintro _ _ z7 ⟨hI8, hL9⟩
  have hI8 := hI8.symm; subst hI8; have hL9 := hL9.symm; subst hL9
  refine k_astore C (lw := [(5, _), (0, _), (1, .int _), (2, .int _), (3, .int _), (4, _)]) rfl rfl (Nat.le_of_ble_eq_true rfl) rfl ?_
  refine k_iconst C (x := 1) rfl rfl rfl ?_
  exact k_iret C rfl (Or.inl rfl) (Nat.le_of_ble_eq_true rfl) (Nat.le_of_ble_eq_true rfl) ⟨_, _, _, rfl, rfl, ⟨rfl, rfl, rfl⟩⟩

theorem e_L_agree0 {d : Nat} {T N : Nat → Nat} {I : IT} {L : LT} {R : RT} {x o nw : Nat} {n0 n1 n2 : Int32} (T_x : T x = 12) (R_x_1 : R x 1 = some nw) (T_nw : T nw = 9) (I_nw_3 : I nw 3 = 0) : Ex (d + 4) 327 [.ref x, .int n0, .int n1, .int n2, .ref o] (T, N, I, L, R) 1 6 (pI T N R (fun x9 I9 L9 => x9 = (1) ∧ I9 = I ∧ L9 = L)) := by
  refine ⟨_, rfl, Nat.le_of_ble_eq_true rfl, fun V C S => ?_⟩
  show V 0 [(0, .ref x), (1, .int n0), (2, .int n1), (3, .int n2), (4, .ref o)] [] (T, N, I, L, R) 0 0
  refine k_aload C rfl rfl rfl ?_
  refine k_iconst C (x := 0) rfl rfl rfl ?_
  refine k_aload_n C rfl rfl rfl ?_
  refine k_iload_n C rfl rfl rfl ?_
  refine k_iload_n C rfl rfl rfl ?_
  refine k_iload_n C rfl rfl rfl ?_
  refine c_VH C (e_agree0 T_x R_x_1 T_nw (I_nw_3) ) rfl rfl rfl rfl rfl ⟨_, rfl, rfl, T_x, Nat.le_of_ble_eq_true rfl⟩ rfl rfl (Nat.le_of_ble_eq_true rfl) (Nat.le_of_ble_eq_true rfl) (Nat.le_of_ble_eq_true rfl) (Nat.le_of_ble_eq_true rfl) (ph := 15) rfl ?_
  rintro _ _ z7 ⟨hI8, hL9⟩
  have hI8 := hI8.symm; subst hI8; have hL9 := hL9.symm; subst hL9
  refine k_astore C (lw := [(5, _), (0, _), (1, .int _), (2, .int _), (3, .int _), (4, _)]) rfl rfl (Nat.le_of_ble_eq_true rfl) rfl ?_
  refine k_iconst C (x := 1) rfl rfl rfl ?_
  exact k_iret C rfl (Or.inl rfl) (Nat.le_of_ble_eq_true rfl) (Nat.le_of_ble_eq_true rfl) ⟨_, _, _, rfl, rfl, ⟨rfl, rfl, rfl⟩⟩

theorem e_L_root0 {d : Nat} {T N : Nat → Nat} {I : IT} {L : LT} {R : RT} {x o nw fr : Nat} {n0 n1 : Int32} (T_x : T x = 12) (R_x_1 : R x 1 = some nw) (T_nw : T nw = 9) (R_nw_8 : R nw 8 = some fr) (I_nw_1 : I nw 1 = 0) : Ex (d + 5) 338 [.ref x, .int n0, .int n1, .ref o] (T, N, I, L, R) 1 6 (pI T N R (fun x9 I9 L9 => x9 = (1) ∧ I9 = I ∧ L9 = L)) := by
  refine ⟨_, rfl, Nat.le_of_ble_eq_true rfl, fun V C S => ?_⟩
  show V 0 [(0, .ref x), (1, .int n0), (2, .int n1), (3, .ref o)] [] (T, N, I, L, R) 0 0
  refine k_aload_n C rfl rfl rfl ?_
  refine k_iconst C (x := 0) rfl rfl rfl ?_
  refine k_aload_n C rfl rfl rfl ?_
  refine k_iload_n C rfl rfl rfl ?_
  refine k_iload_n C rfl rfl rfl ?_
  refine c_VH C (e_root0 T_x R_x_1 T_nw R_nw_8 (I_nw_1) ) rfl rfl rfl rfl rfl ⟨_, rfl, rfl, T_x, Nat.le_of_ble_eq_true rfl⟩ rfl rfl (Nat.le_of_ble_eq_true rfl) (Nat.le_of_ble_eq_true rfl) (Nat.le_of_ble_eq_true rfl) (Nat.le_of_ble_eq_true rfl) (ph := 13) rfl ?_
  rintro _ _ z5 ⟨hI8, hL9⟩
  have hI8 := hI8.symm; subst hI8; have hL9 := hL9.symm; subst hL9
  refine k_astore C (lw := [(4, _), (0, _), (1, .int _), (2, .int _), (3, _)]) rfl rfl (Nat.le_of_ble_eq_true rfl) rfl ?_
  refine k_iconst C (x := 1) rfl rfl rfl ?_
  exact k_iret C rfl (Or.inl rfl) (Nat.le_of_ble_eq_true rfl) (Nat.le_of_ble_eq_true rfl) ⟨_, _, _, rfl, rfl, ⟨rfl, rfl, rfl⟩⟩

theorem e_L_roots0 {d : Nat} {T N : Nat → Nat} {I : IT} {L : LT} {R : RT} {x o nw fr : Nat} {n0 : Int32} (T_x : T x = 12) (R_x_1 : R x 1 = some nw) (T_nw : T nw = 9) (R_nw_8 : R nw 8 = some fr) (I_nw_1 : I nw 1 = 0) : Ex (d + 5) 339 [.ref x, .int n0, .ref o] (T, N, I, L, R) 1 6 (pI T N R (fun x9 I9 L9 => x9 = (1) ∧ I9 = I ∧ L9 = L)) := by
  refine ⟨_, rfl, Nat.le_of_ble_eq_true rfl, fun V C S => ?_⟩
  show V 0 [(0, .ref x), (1, .int n0), (2, .ref o)] [] (T, N, I, L, R) 0 0
  refine k_aload_n C rfl rfl rfl ?_
  refine k_iconst C (x := 0) rfl rfl rfl ?_
  refine k_aload_n C rfl rfl rfl ?_
  refine k_iload_n C rfl rfl rfl ?_
  refine c_VH C (e_roots0 T_x R_x_1 T_nw R_nw_8 (I_nw_1) ) rfl rfl rfl rfl rfl ⟨_, rfl, rfl, T_x, Nat.le_of_ble_eq_true rfl⟩ rfl rfl (Nat.le_of_ble_eq_true rfl) (Nat.le_of_ble_eq_true rfl) (Nat.le_of_ble_eq_true rfl) (Nat.le_of_ble_eq_true rfl) (ph := 12) rfl ?_
  rintro _ _ z4 ⟨hI8, hL9⟩
  have hI8 := hI8.symm; subst hI8; have hL9 := hL9.symm; subst hL9
  refine k_astore_n C (lw := [(3, _), (0, _), (1, .int _), (2, _)]) rfl rfl (Nat.le_of_ble_eq_true rfl) rfl ?_
  refine k_iconst C (x := 1) rfl rfl rfl ?_
  exact k_iret C rfl (Or.inl rfl) (Nat.le_of_ble_eq_true rfl) (Nat.le_of_ble_eq_true rfl) ⟨_, _, _, rfl, rfl, ⟨rfl, rfl, rfl⟩⟩

theorem e_L_empty0 {d : Nat} {T N : Nat → Nat} {I : IT} {L : LT} {R : RT} {x o nw fr : Nat} {n0 : Int32} (T_x : T x = 12) (R_x_1 : R x 1 = some nw) (T_nw : T nw = 9) (R_nw_8 : R nw 8 = some fr) (I_nw_1 : I nw 1 = 0) : Ex (d + 5) 340 [.ref x, .int n0, .ref o] (T, N, I, L, R) 1 6 (pI T N R (fun x9 I9 L9 => x9 = (1) ∧ I9 = I ∧ L9 = L)) := by
  refine ⟨_, rfl, Nat.le_of_ble_eq_true rfl, fun V C S => ?_⟩
  show V 0 [(0, .ref x), (1, .int n0), (2, .ref o)] [] (T, N, I, L, R) 0 0
  refine k_aload_n C rfl rfl rfl ?_
  refine k_iconst C (x := 0) rfl rfl rfl ?_
  refine k_aload_n C rfl rfl rfl ?_
  refine k_iload_n C rfl rfl rfl ?_
  refine c_VH C (e_empty0 T_x R_x_1 T_nw R_nw_8 (I_nw_1) ) rfl rfl rfl rfl rfl ⟨_, rfl, rfl, T_x, Nat.le_of_ble_eq_true rfl⟩ rfl rfl (Nat.le_of_ble_eq_true rfl) (Nat.le_of_ble_eq_true rfl) (Nat.le_of_ble_eq_true rfl) (Nat.le_of_ble_eq_true rfl) (ph := 19) rfl ?_
  rintro _ _ z4 ⟨hI8, hL9⟩
  have hI8 := hI8.symm; subst hI8; have hL9 := hL9.symm; subst hL9
  refine k_astore_n C (lw := [(3, _), (0, _), (1, .int _), (2, _)]) rfl rfl (Nat.le_of_ble_eq_true rfl) rfl ?_
  refine k_iconst C (x := 1) rfl rfl rfl ?_
  exact k_iret C rfl (Or.inl rfl) (Nat.le_of_ble_eq_true rfl) (Nat.le_of_ble_eq_true rfl) ⟨_, _, _, rfl, rfl, ⟨rfl, rfl, rfl⟩⟩

theorem e_L_same0 {d : Nat} {T N : Nat → Nat} {I : IT} {L : LT} {R : RT} {x o nw fr : Nat} {n0 n1 : Int32} (T_x : T x = 12) (R_x_1 : R x 1 = some nw) (T_nw : T nw = 9) (R_nw_8 : R nw 8 = some fr) (I_nw_1 : I nw 1 = 0) : Ex (d + 5) 341 [.ref x, .int n0, .int n1, .ref o] (T, N, I, L, R) 1 6 (pI T N R (fun x9 I9 L9 => x9 = (1) ∧ I9 = I ∧ L9 = L)) := by
  refine ⟨_, rfl, Nat.le_of_ble_eq_true rfl, fun V C S => ?_⟩
  show V 0 [(0, .ref x), (1, .int n0), (2, .int n1), (3, .ref o)] [] (T, N, I, L, R) 0 0
  refine k_aload_n C rfl rfl rfl ?_
  refine k_iconst C (x := 0) rfl rfl rfl ?_
  refine k_aload_n C rfl rfl rfl ?_
  refine k_iload_n C rfl rfl rfl ?_
  refine k_iload_n C rfl rfl rfl ?_
  refine c_VH C (e_same0 T_x R_x_1 T_nw R_nw_8 (I_nw_1) ) rfl rfl rfl rfl rfl ⟨_, rfl, rfl, T_x, Nat.le_of_ble_eq_true rfl⟩ rfl rfl (Nat.le_of_ble_eq_true rfl) (Nat.le_of_ble_eq_true rfl) (Nat.le_of_ble_eq_true rfl) (Nat.le_of_ble_eq_true rfl) (ph := 13) rfl ?_
  rintro _ _ z5 ⟨hI8, hL9⟩
  have hI8 := hI8.symm; subst hI8; have hL9 := hL9.symm; subst hL9
  refine k_astore C (lw := [(4, _), (0, _), (1, .int _), (2, .int _), (3, _)]) rfl rfl (Nat.le_of_ble_eq_true rfl) rfl ?_
  refine k_iconst C (x := 1) rfl rfl rfl ?_
  exact k_iret C rfl (Or.inl rfl) (Nat.le_of_ble_eq_true rfl) (Nat.le_of_ble_eq_true rfl) ⟨_, _, _, rfl, rfl, ⟨rfl, rfl, rfl⟩⟩

theorem e_L_keep0 {d : Nat} {T N : Nat → Nat} {I : IT} {L : LT} {R : RT} {x o nw fr : Nat} {n0 : Int32} (T_x : T x = 12) (R_x_1 : R x 1 = some nw) (T_nw : T nw = 9) (R_nw_8 : R nw 8 = some fr) (I_nw_1 : I nw 1 = 0) : Ex (d + 5) 342 [.ref x, .int n0, .ref o] (T, N, I, L, R) 1 6 (pI T N R (fun x9 I9 L9 => x9 = (1) ∧ I9 = I ∧ L9 = L)) := by
  refine ⟨_, rfl, Nat.le_of_ble_eq_true rfl, fun V C S => ?_⟩
  show V 0 [(0, .ref x), (1, .int n0), (2, .ref o)] [] (T, N, I, L, R) 0 0
  refine k_aload_n C rfl rfl rfl ?_
  refine k_iconst C (x := 0) rfl rfl rfl ?_
  refine k_aload_n C rfl rfl rfl ?_
  refine k_iload_n C rfl rfl rfl ?_
  refine c_VH C (e_keep0 T_x R_x_1 T_nw R_nw_8 (I_nw_1) ) rfl rfl rfl rfl rfl ⟨_, rfl, rfl, T_x, Nat.le_of_ble_eq_true rfl⟩ rfl rfl (Nat.le_of_ble_eq_true rfl) (Nat.le_of_ble_eq_true rfl) (Nat.le_of_ble_eq_true rfl) (Nat.le_of_ble_eq_true rfl) (ph := 12) rfl ?_
  rintro _ _ z4 ⟨hI8, hL9⟩
  have hI8 := hI8.symm; subst hI8; have hL9 := hL9.symm; subst hL9
  refine k_astore_n C (lw := [(3, _), (0, _), (1, .int _), (2, _)]) rfl rfl (Nat.le_of_ble_eq_true rfl) rfl ?_
  refine k_iconst C (x := 1) rfl rfl rfl ?_
  exact k_iret C rfl (Or.inl rfl) (Nat.le_of_ble_eq_true rfl) (Nat.le_of_ble_eq_true rfl) ⟨_, _, _, rfl, rfl, ⟨rfl, rfl, rfl⟩⟩

theorem e_L_kind0 {d : Nat} {T N : Nat → Nat} {I : IT} {L : LT} {R : RT} {x o nw fr : Nat} {n0 : Int32} (T_x : T x = 12) (R_x_1 : R x 1 = some nw) (T_nw : T nw = 9) (R_nw_8 : R nw 8 = some fr) (I_nw_1 : I nw 1 = 0) : Ex (d + 5) 331 [.ref x, .int n0, .ref o] (T, N, I, L, R) 1 6 (pI T N R (fun x9 I9 L9 => x9 = (1) ∧ I9 = I ∧ L9 = L)) := by
  refine ⟨_, rfl, Nat.le_of_ble_eq_true rfl, fun V C S => ?_⟩
  show V 0 [(0, .ref x), (1, .int n0), (2, .ref o)] [] (T, N, I, L, R) 0 0
  refine k_aload_n C rfl rfl rfl ?_
  refine k_iconst C (x := 0) rfl rfl rfl ?_
  refine k_aload_n C rfl rfl rfl ?_
  refine k_iload_n C rfl rfl rfl ?_
  refine c_VH C (e_kind0 T_x R_x_1 T_nw R_nw_8 (I_nw_1) ) rfl rfl rfl rfl rfl ⟨_, rfl, rfl, T_x, Nat.le_of_ble_eq_true rfl⟩ rfl rfl (Nat.le_of_ble_eq_true rfl) (Nat.le_of_ble_eq_true rfl) (Nat.le_of_ble_eq_true rfl) (Nat.le_of_ble_eq_true rfl) (ph := 12) rfl ?_
  rintro _ _ z4 ⟨hI8, hL9⟩
  have hI8 := hI8.symm; subst hI8; have hL9 := hL9.symm; subst hL9
  refine k_astore_n C (lw := [(3, _), (0, _), (1, .int _), (2, _)]) rfl rfl (Nat.le_of_ble_eq_true rfl) rfl ?_
  refine k_iconst C (x := 1) rfl rfl rfl ?_
  exact k_iret C rfl (Or.inl rfl) (Nat.le_of_ble_eq_true rfl) (Nat.le_of_ble_eq_true rfl) ⟨_, _, _, rfl, rfl, ⟨rfl, rfl, rfl⟩⟩

theorem e_L_orbit0 {d : Nat} {T N : Nat → Nat} {I : IT} {L : LT} {R : RT} {x o nw fr : Nat} {n0 : Int32} (T_x : T x = 12) (R_x_1 : R x 1 = some nw) (T_nw : T nw = 9) (R_nw_8 : R nw 8 = some fr) (I_nw_1 : I nw 1 = 0) : Ex (d + 5) 332 [.ref x, .int n0, .ref o] (T, N, I, L, R) 1 6 (pI T N R (fun x9 I9 L9 => x9 = (1) ∧ I9 = I ∧ L9 = L)) := by
  refine ⟨_, rfl, Nat.le_of_ble_eq_true rfl, fun V C S => ?_⟩
  show V 0 [(0, .ref x), (1, .int n0), (2, .ref o)] [] (T, N, I, L, R) 0 0
  refine k_aload_n C rfl rfl rfl ?_
  refine k_iconst C (x := 0) rfl rfl rfl ?_
  refine k_aload_n C rfl rfl rfl ?_
  refine k_iload_n C rfl rfl rfl ?_
  refine c_VH C (e_orbit0 T_x R_x_1 T_nw R_nw_8 (I_nw_1) ) rfl rfl rfl rfl rfl ⟨_, rfl, rfl, T_x, Nat.le_of_ble_eq_true rfl⟩ rfl rfl (Nat.le_of_ble_eq_true rfl) (Nat.le_of_ble_eq_true rfl) (Nat.le_of_ble_eq_true rfl) (Nat.le_of_ble_eq_true rfl) (ph := 12) rfl ?_
  rintro _ _ z4 ⟨hI8, hL9⟩
  have hI8 := hI8.symm; subst hI8; have hL9 := hL9.symm; subst hL9
  refine k_astore_n C (lw := [(3, _), (0, _), (1, .int _), (2, _)]) rfl rfl (Nat.le_of_ble_eq_true rfl) rfl ?_
  refine k_iconst C (x := 1) rfl rfl rfl ?_
  exact k_iret C rfl (Or.inl rfl) (Nat.le_of_ble_eq_true rfl) (Nat.le_of_ble_eq_true rfl) ⟨_, _, _, rfl, rfl, ⟨rfl, rfl, rfl⟩⟩

theorem e_L_powers0 {d : Nat} {T N : Nat → Nat} {I : IT} {L : LT} {R : RT} {x o nw fr : Nat} {n0 n1 : Int32} (T_x : T x = 12) (R_x_1 : R x 1 = some nw) (T_nw : T nw = 9) (R_nw_8 : R nw 8 = some fr) (I_nw_1 : I nw 1 = 0) : Ex (d + 5) 343 [.ref x, .int n0, .int n1, .ref o] (T, N, I, L, R) 1 6 (pI T N R (fun x9 I9 L9 => x9 = (1) ∧ I9 = I ∧ L9 = L)) := by
  refine ⟨_, rfl, Nat.le_of_ble_eq_true rfl, fun V C S => ?_⟩
  show V 0 [(0, .ref x), (1, .int n0), (2, .int n1), (3, .ref o)] [] (T, N, I, L, R) 0 0
  refine k_aload_n C rfl rfl rfl ?_
  refine k_iconst C (x := 0) rfl rfl rfl ?_
  refine k_aload_n C rfl rfl rfl ?_
  refine k_iload_n C rfl rfl rfl ?_
  refine k_iload_n C rfl rfl rfl ?_
  refine c_VH C (e_powers0 T_x R_x_1 T_nw R_nw_8 (I_nw_1) ) rfl rfl rfl rfl rfl ⟨_, rfl, rfl, T_x, Nat.le_of_ble_eq_true rfl⟩ rfl rfl (Nat.le_of_ble_eq_true rfl) (Nat.le_of_ble_eq_true rfl) (Nat.le_of_ble_eq_true rfl) (Nat.le_of_ble_eq_true rfl) (ph := 13) rfl ?_
  rintro _ _ z5 ⟨hI8, hL9⟩
  have hI8 := hI8.symm; subst hI8; have hL9 := hL9.symm; subst hL9
  refine k_astore C (lw := [(4, _), (0, _), (1, .int _), (2, .int _), (3, _)]) rfl rfl (Nat.le_of_ble_eq_true rfl) rfl ?_
  refine k_iconst C (x := 1) rfl rfl rfl ?_
  exact k_iret C rfl (Or.inl rfl) (Nat.le_of_ble_eq_true rfl) (Nat.le_of_ble_eq_true rfl) ⟨_, _, _, rfl, rfl, ⟨rfl, rfl, rfl⟩⟩

theorem e_L_common0 {d : Nat} {T N : Nat → Nat} {I : IT} {L : LT} {R : RT} {x o nw fr : Nat} {n0 n1 n2 : Int32} (T_x : T x = 12) (R_x_1 : R x 1 = some nw) (T_nw : T nw = 9) (R_nw_8 : R nw 8 = some fr) (I_nw_1 : I nw 1 = 0) : Ex (d + 5) 344 [.ref x, .int n0, .int n1, .int n2, .ref o] (T, N, I, L, R) 1 6 (pI T N R (fun x9 I9 L9 => x9 = (1) ∧ I9 = I ∧ L9 = L)) := by
  refine ⟨_, rfl, Nat.le_of_ble_eq_true rfl, fun V C S => ?_⟩
  show V 0 [(0, .ref x), (1, .int n0), (2, .int n1), (3, .int n2), (4, .ref o)] [] (T, N, I, L, R) 0 0
  refine k_aload C rfl rfl rfl ?_
  refine k_iconst C (x := 0) rfl rfl rfl ?_
  refine k_aload_n C rfl rfl rfl ?_
  refine k_iload_n C rfl rfl rfl ?_
  refine k_iload_n C rfl rfl rfl ?_
  refine k_iload_n C rfl rfl rfl ?_
  refine c_VH C (e_common0 T_x R_x_1 T_nw R_nw_8 (I_nw_1) ) rfl rfl rfl rfl rfl ⟨_, rfl, rfl, T_x, Nat.le_of_ble_eq_true rfl⟩ rfl rfl (Nat.le_of_ble_eq_true rfl) (Nat.le_of_ble_eq_true rfl) (Nat.le_of_ble_eq_true rfl) (Nat.le_of_ble_eq_true rfl) (ph := 15) rfl ?_
  rintro _ _ z7 ⟨hI8, hL9⟩
  have hI8 := hI8.symm; subst hI8; have hL9 := hL9.symm; subst hL9
  refine k_astore C (lw := [(5, _), (0, _), (1, .int _), (2, .int _), (3, .int _), (4, _)]) rfl rfl (Nat.le_of_ble_eq_true rfl) rfl ?_
  refine k_iconst C (x := 1) rfl rfl rfl ?_
  exact k_iret C rfl (Or.inl rfl) (Nat.le_of_ble_eq_true rfl) (Nat.le_of_ble_eq_true rfl) ⟨_, _, _, rfl, rfl, ⟨rfl, rfl, rfl⟩⟩

theorem e_L_quotient0 {d : Nat} {T N : Nat → Nat} {I : IT} {L : LT} {R : RT} {x o nw fr : Nat} {n0 n1 n2 : Int32} (T_x : T x = 12) (R_x_1 : R x 1 = some nw) (T_nw : T nw = 9) (R_nw_8 : R nw 8 = some fr) (I_nw_1 : I nw 1 = 0) : Ex (d + 5) 336 [.ref x, .int n0, .int n1, .int n2, .ref o] (T, N, I, L, R) 1 6 (pI T N R (fun x9 I9 L9 => x9 = (1) ∧ I9 = I ∧ L9 = L)) := by
  refine ⟨_, rfl, Nat.le_of_ble_eq_true rfl, fun V C S => ?_⟩
  show V 0 [(0, .ref x), (1, .int n0), (2, .int n1), (3, .int n2), (4, .ref o)] [] (T, N, I, L, R) 0 0
  refine k_aload C rfl rfl rfl ?_
  refine k_iconst C (x := 0) rfl rfl rfl ?_
  refine k_aload_n C rfl rfl rfl ?_
  refine k_iload_n C rfl rfl rfl ?_
  refine k_iload_n C rfl rfl rfl ?_
  refine k_iload_n C rfl rfl rfl ?_
  refine c_VH C (e_quotient0 T_x R_x_1 T_nw R_nw_8 (I_nw_1) ) rfl rfl rfl rfl rfl ⟨_, rfl, rfl, T_x, Nat.le_of_ble_eq_true rfl⟩ rfl rfl (Nat.le_of_ble_eq_true rfl) (Nat.le_of_ble_eq_true rfl) (Nat.le_of_ble_eq_true rfl) (Nat.le_of_ble_eq_true rfl) (ph := 15) rfl ?_
  rintro _ _ z7 ⟨hI8, hL9⟩
  have hI8 := hI8.symm; subst hI8; have hL9 := hL9.symm; subst hL9
  refine k_astore C (lw := [(5, _), (0, _), (1, .int _), (2, .int _), (3, .int _), (4, _)]) rfl rfl (Nat.le_of_ble_eq_true rfl) rfl ?_
  refine k_iconst C (x := 1) rfl rfl rfl ?_
  exact k_iret C rfl (Or.inl rfl) (Nat.le_of_ble_eq_true rfl) (Nat.le_of_ble_eq_true rfl) ⟨_, _, _, rfl, rfl, ⟨rfl, rfl, rfl⟩⟩

theorem e_L_plain0 {d : Nat} {T N : Nat → Nat} {I : IT} {L : LT} {R : RT} {x o nw fr : Nat} {n0 : Int32} (T_x : T x = 12) (R_x_1 : R x 1 = some nw) (T_nw : T nw = 9) (R_nw_8 : R nw 8 = some fr) (I_nw_1 : I nw 1 = 0) : Ex (d + 5) 337 [.ref x, .int n0, .ref o] (T, N, I, L, R) 1 6 (pI T N R (fun x9 I9 L9 => x9 = (1) ∧ I9 = I ∧ L9 = L)) := by
  refine ⟨_, rfl, Nat.le_of_ble_eq_true rfl, fun V C S => ?_⟩
  show V 0 [(0, .ref x), (1, .int n0), (2, .ref o)] [] (T, N, I, L, R) 0 0
  refine k_aload_n C rfl rfl rfl ?_
  refine k_iconst C (x := 0) rfl rfl rfl ?_
  refine k_aload_n C rfl rfl rfl ?_
  refine k_iload_n C rfl rfl rfl ?_
  refine c_VH C (e_plain0 T_x R_x_1 T_nw R_nw_8 (I_nw_1) ) rfl rfl rfl rfl rfl ⟨_, rfl, rfl, T_x, Nat.le_of_ble_eq_true rfl⟩ rfl rfl (Nat.le_of_ble_eq_true rfl) (Nat.le_of_ble_eq_true rfl) (Nat.le_of_ble_eq_true rfl) (Nat.le_of_ble_eq_true rfl) (ph := 19) rfl ?_
  rintro _ _ z4 ⟨hI8, hL9⟩
  have hI8 := hI8.symm; subst hI8; have hL9 := hL9.symm; subst hL9
  refine k_astore_n C (lw := [(3, _), (0, _), (1, .int _), (2, _)]) rfl rfl (Nat.le_of_ble_eq_true rfl) rfl ?_
  refine k_iconst C (x := 1) rfl rfl rfl ?_
  exact k_iret C rfl (Or.inl rfl) (Nat.le_of_ble_eq_true rfl) (Nat.le_of_ble_eq_true rfl) ⟨_, _, _, rfl, rfl, ⟨rfl, rfl, rfl⟩⟩

theorem e_L_overlap0 {d : Nat} {T N : Nat → Nat} {I : IT} {L : LT} {R : RT} {x o nw fr : Nat} {n0 n1 n2 n3 : Int32} (T_x : T x = 12) (R_x_1 : R x 1 = some nw) (T_nw : T nw = 9) (R_nw_8 : R nw 8 = some fr) (I_nw_1 : I nw 1 = 0) : Ex (d + 5) 345 [.ref x, .int n0, .int n1, .int n2, .int n3, .ref o] (T, N, I, L, R) 1 6 (pI T N R (fun x9 I9 L9 => x9 = (1) ∧ I9 = I ∧ L9 = L)) := by
  refine ⟨_, rfl, Nat.le_of_ble_eq_true rfl, fun V C S => ?_⟩
  show V 0 [(0, .ref x), (1, .int n0), (2, .int n1), (3, .int n2), (4, .int n3), (5, .ref o)] [] (T, N, I, L, R) 0 0
  refine k_aload C rfl rfl rfl ?_
  refine k_iconst C (x := 0) rfl rfl rfl ?_
  refine k_aload_n C rfl rfl rfl ?_
  refine k_iload_n C rfl rfl rfl ?_
  refine k_iload_n C rfl rfl rfl ?_
  refine k_iload_n C rfl rfl rfl ?_
  refine k_iload C rfl rfl rfl ?_
  refine c_VH C (e_overlap0 T_x R_x_1 T_nw R_nw_8 (I_nw_1) ) rfl rfl rfl rfl rfl ⟨_, rfl, rfl, T_x, Nat.le_of_ble_eq_true rfl⟩ rfl rfl (Nat.le_of_ble_eq_true rfl) (Nat.le_of_ble_eq_true rfl) (Nat.le_of_ble_eq_true rfl) (Nat.le_of_ble_eq_true rfl) (ph := 17) rfl ?_
  rintro _ _ z9 ⟨hI8, hL9⟩
  have hI8 := hI8.symm; subst hI8; have hL9 := hL9.symm; subst hL9
  refine k_astore C (lw := [(6, _), (0, _), (1, .int _), (2, .int _), (3, .int _), (4, .int _), (5, _)]) rfl rfl (Nat.le_of_ble_eq_true rfl) rfl ?_
  refine k_iconst C (x := 1) rfl rfl rfl ?_
  exact k_iret C rfl (Or.inl rfl) (Nat.le_of_ble_eq_true rfl) (Nat.le_of_ble_eq_true rfl) ⟨_, _, _, rfl, rfl, ⟨rfl, rfl, rfl⟩⟩

theorem e_L_form0 {d : Nat} {T N : Nat → Nat} {I : IT} {L : LT} {R : RT} {A : Nat → Prop} {x o rd : Nat} (T_x : T x = 12) (R_x_0 : R x 0 = some rd) (T_rd : T rd = 5) (I_rd_1 : I rd 1 = 0) (A_rd : A rd) : Ex (d + 3) 317 [.ref x, .ref o] (T, N, I, L, R) 1 6 (pI T N R (fun x9 I9 L9 => x9 = 1 ∧ Fr A I L I9 L9)) := by
  refine ⟨_, rfl, Nat.le_of_ble_eq_true rfl, fun V C S => ?_⟩
  show V 0 [(0, .ref x), (1, .ref o)] [] (T, N, I, L, R) 0 0
  refine k_aload_n C rfl rfl rfl ?_
  refine k_iconst C (x := 0) rfl rfl rfl ?_
  refine k_aload_n C rfl rfl rfl ?_
  refine c_VH C (e_form0 T_x R_x_0 T_rd (I_rd_1) A_rd ) rfl rfl rfl rfl rfl ⟨_, rfl, rfl, T_x, Nat.le_of_ble_eq_true rfl⟩ rfl rfl (Nat.le_of_ble_eq_true rfl) (Nat.le_of_ble_eq_true rfl) (Nat.le_of_ble_eq_true rfl) (Nat.le_of_ble_eq_true rfl) (ph := 11) rfl ?_
  intro I3 L3 z3 h3
  refine k_astore_n C (lw := [(2, _), (0, _), (1, _)]) rfl rfl (Nat.le_of_ble_eq_true rfl) rfl ?_
  refine k_iconst C (x := 1) rfl rfl rfl ?_
  exact k_iret C rfl (Or.inl rfl) (Nat.le_of_ble_eq_true rfl) (Nat.le_of_ble_eq_true rfl) ⟨_, _, _, rfl, rfl, ⟨rfl, h3⟩⟩

theorem e_L_field_no {d : Nat} {T N : Nat → Nat} {I : IT} {L : LT} {R : RT} {x : Nat} {p : Int32} (T_x : T x = 12) (hp : ¬ (p = 11 ∨ p = 13 ∨ p = 17 ∨ p = 19)) : Ex (d + 2) 316 [.ref x, .int p] (T, N, I, L, R) 1 6 (pI T N R (fun x9 I9 L9 => x9 = (1) ∧ I9 = I ∧ L9 = L)) := by
  refine ⟨_, rfl, Nat.le_of_ble_eq_true rfl, fun V C S => ?_⟩
  show V 0 [(0, .ref x), (1, .int p)] [] (T, N, I, L, R) 0 0
  refine k_aload_n C rfl rfl rfl ?_
  refine k_iload_n C rfl rfl rfl ?_
  refine c_VH C (e_field_no  hp) rfl rfl rfl rfl rfl ⟨_, rfl, rfl, T_x, Nat.le_of_ble_eq_true rfl⟩ rfl rfl (Nat.le_of_ble_eq_true rfl) (Nat.le_of_ble_eq_true rfl) (Nat.le_of_ble_eq_true rfl) (Nat.le_of_ble_eq_true rfl) (ph := 8) rfl ?_
  rintro _ _ z2 ⟨hI8, hL9⟩
  have hI8 := hI8.symm; subst hI8; have hL9 := hL9.symm; subst hL9
  refine k_astore_n C (lw := [(2, _), (0, _), (1, .int _)]) rfl rfl (Nat.le_of_ble_eq_true rfl) rfl ?_
  refine k_iconst C (x := 1) rfl rfl rfl ?_
  exact k_iret C rfl (Or.inl rfl) (Nat.le_of_ble_eq_true rfl) (Nat.le_of_ble_eq_true rfl) ⟨_, _, _, rfl, rfl, ⟨rfl, rfl, rfl⟩⟩

theorem e_L_field_yes {d : Nat} {T N : Nat → Nat} {I : IT} {L : LT} {R : RT} {A : Nat → Prop} {x nw : Nat} {p : Int32} (T_x : T x = 12) (R_x_1 : R x 1 = some nw) (T_nw : T nw = 9) (I_nw_1 : I nw 1 = 0) (I_nw_2 : I nw 2 = 0) (A_nw : A nw) (hp : p = 11 ∨ p = 13 ∨ p = 17 ∨ p = 19) : Ex (d + 2) 316 [.ref x, .int p] (T, N, I, L, R) 0 0 (pI T N R (fun x9 I9 L9 => x9 = 0 ∧ Fr A I L I9 L9)) := by
  refine ⟨_, rfl, Nat.le_of_ble_eq_true rfl, fun V C S => ?_⟩
  show V 0 [(0, .ref x), (1, .int p)] [] (T, N, I, L, R) 0 0
  refine k_aload_n C rfl rfl rfl ?_
  refine k_iload_n C rfl rfl rfl ?_
  refine c_VV C (e_field_yes T_x R_x_1 T_nw (I_nw_1) (I_nw_2) A_nw hp) rfl rfl rfl rfl rfl ⟨_, rfl, rfl, T_x, Nat.le_of_ble_eq_true rfl⟩ rfl rfl (Nat.le_of_ble_eq_true rfl) (Nat.le_of_ble_eq_true rfl) (Nat.le_of_ble_eq_true rfl) ?_
  intro I2 L2 h2
  refine k_goto C (pc2 := 14) rfl rfl ?_
  refine k_iconst C (x := 0) rfl rfl rfl ?_
  exact k_iret C rfl (Or.inl rfl) (Nat.le_of_ble_eq_true rfl) (Nat.le_of_ble_eq_true rfl) ⟨_, _, _, rfl, rfl, ⟨rfl, h2⟩⟩

