/-! the class on a new object: what throws, and small calls -/
theorem e_pick_neg {d : Nat} {T N : Nat → Nat} {I : IT} {L : LT} {R : RT} {fr : Nat} {n : Int32}  (hn : n < 0) : Ex (d + 1) 36 [.ref fr, .int n] (T, N, I, L, R) 0 0 (pR T N R (fun x9 I9 L9 => x9 = (none) ∧ I9 = I ∧ L9 = L)) := by
  refine ⟨_, rfl, Nat.le_of_ble_eq_true rfl, fun V C S => ?_⟩
  show V 0 [(0, .ref fr), (1, .int n)] [] (T, N, I, L, R) 0 0
  refine k_iload_n C rfl rfl rfl ?_
  refine k_if_lt C (t := 10) rfl rfl rfl (fun c1 => ?_) (fun c1 => ?_)
  · skip
    refine k_null C rfl rfl ?_
    refine k_goto C (pc2 := 17) rfl rfl ?_
    exact k_aret C (x := none) rfl (Or.inl ⟨_, rfl⟩) (Nat.le_of_ble_eq_true rfl) (Nat.le_of_ble_eq_true rfl) ⟨_, _, _, rfl, rfl, ⟨rfl, rfl, rfl⟩⟩
  exact absurd hn c1

theorem e_formAt0 {d : Nat} {T N : Nat → Nat} {I : IT} {L : LT} {R : RT} {st fr : Nat} {n : Int32} (T_st : T st = 9) (R_st_8 : R st 8 = some fr) (I_st_1 : I st 1 = 0) : Ex (d + 2) 96 [.ref st, .int n] (T, N, I, L, R) 0 0 (pR T N R (fun x9 I9 L9 => x9 = (none) ∧ I9 = I ∧ L9 = L)) := by
  refine ⟨_, rfl, Nat.le_of_ble_eq_true rfl, fun V C S => ?_⟩
  show V 0 [(0, .ref st), (1, .int n)] [] (T, N, I, L, R) 0 0
  refine k_iload_n C rfl rfl rfl ?_
  refine k_aload_n C rfl rfl rfl ?_
  refine g_I C rfl rfl rfl T_st rfl (I_st_1) ?_
  refine k_icmp_ge C (t := 19) rfl rfl rfl (fun c5 => ?_) (fun c5 => ?_)
  · skip
    refine k_null C rfl rfl ?_
    exact k_aret C (x := none) rfl (Or.inl ⟨_, rfl⟩) (Nat.le_of_ble_eq_true rfl) (Nat.le_of_ble_eq_true rfl) ⟨_, _, _, rfl, rfl, ⟨rfl, rfl, rfl⟩⟩
  refine k_aload_n C rfl rfl rfl ?_
  refine g_R C rfl rfl rfl T_st rfl R_st_8 ?_
  refine k_iload_n C rfl rfl rfl ?_
  refine c_SR C (e_pick_neg  (by have := c5; rw [Int32.not_le] at this; exact this)) rfl rfl rfl rfl rfl rfl rfl (Nat.le_of_ble_eq_true rfl) (Nat.le_of_ble_eq_true rfl) (Nat.le_of_ble_eq_true rfl) ?_
  rintro _ _ _ ⟨rfl, rfl, rfl⟩
  refine k_goto C (pc2 := 20) rfl rfl ?_
  exact k_aret C (x := none) rfl (Or.inl ⟨_, rfl⟩) (Nat.le_of_ble_eq_true rfl) (Nat.le_of_ble_eq_true rfl) ⟨_, _, _, rfl, rfl, ⟨rfl, rfl, rfl⟩⟩

theorem e_tableAt0 {d : Nat} {T N : Nat → Nat} {I : IT} {L : LT} {R : RT} {st : Nat} {n : Int32} (T_st : T st = 9) (I_st_2 : I st 2 = 0) : Ex (d + 1) 97 [.ref st, .int n] (T, N, I, L, R) 0 0 (pR T N R (fun x9 I9 L9 => x9 = (none) ∧ I9 = I ∧ L9 = L)) := by
  refine ⟨_, rfl, Nat.le_of_ble_eq_true rfl, fun V C S => ?_⟩
  show V 0 [(0, .ref st), (1, .int n)] [] (T, N, I, L, R) 0 0
  refine k_iload_n C rfl rfl rfl ?_
  refine k_if_lt C (t := 21) rfl rfl rfl (fun c1 => ?_) (fun c1 => ?_)
  · skip
    refine k_null C rfl rfl ?_
    refine k_goto C (pc2 := 31) rfl rfl ?_
    exact k_aret C (x := none) rfl (Or.inl ⟨_, rfl⟩) (Nat.le_of_ble_eq_true rfl) (Nat.le_of_ble_eq_true rfl) ⟨_, _, _, rfl, rfl, ⟨rfl, rfl, rfl⟩⟩
  refine k_iload_n C rfl rfl rfl ?_
  refine k_aload_n C rfl rfl rfl ?_
  refine g_I C rfl rfl rfl T_st rfl (I_st_2) ?_
  refine k_icmp_ge C (t := 21) rfl rfl rfl (fun c9 => ?_) (fun c9 => ?_)
  · skip
    refine k_null C rfl rfl ?_
    refine k_goto C (pc2 := 31) rfl rfl ?_
    exact k_aret C (x := none) rfl (Or.inl ⟨_, rfl⟩) (Nat.le_of_ble_eq_true rfl) (Nat.le_of_ble_eq_true rfl) ⟨_, _, _, rfl, rfl, ⟨rfl, rfl, rfl⟩⟩
  exact absurd (Int32.not_lt.mp c1) c9

theorem e_signsAt0 {d : Nat} {T N : Nat → Nat} {I : IT} {L : LT} {R : RT} {st : Nat} {n : Int32} (T_st : T st = 9) (I_st_3 : I st 3 = 0) : Ex (d + 1) 77 [.ref st, .int n] (T, N, I, L, R) 0 0 (pR T N R (fun x9 I9 L9 => x9 = (none) ∧ I9 = I ∧ L9 = L)) := by
  refine ⟨_, rfl, Nat.le_of_ble_eq_true rfl, fun V C S => ?_⟩
  show V 0 [(0, .ref st), (1, .int n)] [] (T, N, I, L, R) 0 0
  refine k_iload_n C rfl rfl rfl ?_
  refine k_if_lt C (t := 21) rfl rfl rfl (fun c1 => ?_) (fun c1 => ?_)
  · skip
    refine k_null C rfl rfl ?_
    refine k_goto C (pc2 := 31) rfl rfl ?_
    exact k_aret C (x := none) rfl (Or.inl ⟨_, rfl⟩) (Nat.le_of_ble_eq_true rfl) (Nat.le_of_ble_eq_true rfl) ⟨_, _, _, rfl, rfl, ⟨rfl, rfl, rfl⟩⟩
  refine k_iload_n C rfl rfl rfl ?_
  refine k_aload_n C rfl rfl rfl ?_
  refine g_I C rfl rfl rfl T_st rfl (I_st_3) ?_
  refine k_icmp_ge C (t := 21) rfl rfl rfl (fun c9 => ?_) (fun c9 => ?_)
  · skip
    refine k_null C rfl rfl ?_
    refine k_goto C (pc2 := 31) rfl rfl ?_
    exact k_aret C (x := none) rfl (Or.inl ⟨_, rfl⟩) (Nat.le_of_ble_eq_true rfl) (Nat.le_of_ble_eq_true rfl) ⟨_, _, _, rfl, rfl, ⟨rfl, rfl, rfl⟩⟩
  exact absurd (Int32.not_lt.mp c1) c9

theorem e_toldForm0 {d : Nat} {T N : Nat → Nat} {I : IT} {L : LT} {R : RT} {x nw fr : Nat} {n : Int32} (T_x : T x = 12) (R_x_1 : R x 1 = some nw) (T_nw : T nw = 9) (R_nw_8 : R nw 8 = some fr) (I_nw_1 : I nw 1 = 0) : Ex (d + 3) 133 [.ref x, .int n] (T, N, I, L, R) 1 6 (pX 3 T N R (fun I9 L9 => I9 = I ∧ L9 = L)) := by
  refine ⟨_, rfl, Nat.le_of_ble_eq_true rfl, fun V C S => ?_⟩
  show V 0 [(0, .ref x), (1, .int n)] [] (T, N, I, L, R) 0 0
  refine k_aload_n C rfl rfl rfl ?_
  refine g_R C rfl rfl rfl T_x rfl R_x_1 ?_
  refine k_iload_n C rfl rfl rfl ?_
  refine c_VR C (e_formAt0 T_nw R_nw_8 I_nw_1 ) rfl rfl rfl rfl rfl ⟨_, rfl, rfl, T_nw, Nat.le_of_ble_eq_true rfl⟩ rfl rfl (Nat.le_of_ble_eq_true rfl) (Nat.le_of_ble_eq_true rfl) (Nat.le_of_ble_eq_true rfl) ?_
  rintro _ _ _ ⟨rfl, rfl, rfl⟩
  refine k_astore_nV C (x := none) (lw := [(2, _), (0, _), (1, .int _)]) rfl rfl (Nat.le_of_ble_eq_true rfl) rfl ?_
  refine k_aload_nV C (x := none) rfl rfl rfl ?_
  refine k_ifnonnull C (x := none) (t := 21) rfl rfl rfl (fun _ => ?_) (fun _ c10 => nomatch c10)
  exact k_throw C rfl rfl rfl rfl rfl rfl (Nat.le_of_ble_eq_true rfl) (Nat.le_of_ble_eq_true rfl) (Nat.le_of_ble_eq_true rfl) ⟨_, _, rfl, rfl, ⟨rfl, rfl⟩⟩

theorem e_toldTable0 {d : Nat} {T N : Nat → Nat} {I : IT} {L : LT} {R : RT} {x nw : Nat} {n : Int32} (T_x : T x = 12) (R_x_1 : R x 1 = some nw) (T_nw : T nw = 9) (I_nw_2 : I nw 2 = 0) : Ex (d + 2) 134 [.ref x, .int n] (T, N, I, L, R) 1 6 (pX 3 T N R (fun I9 L9 => I9 = I ∧ L9 = L)) := by
  refine ⟨_, rfl, Nat.le_of_ble_eq_true rfl, fun V C S => ?_⟩
  show V 0 [(0, .ref x), (1, .int n)] [] (T, N, I, L, R) 0 0
  refine k_aload_n C rfl rfl rfl ?_
  refine g_R C rfl rfl rfl T_x rfl R_x_1 ?_
  refine k_iload_n C rfl rfl rfl ?_
  refine c_VR C (e_tableAt0 T_nw I_nw_2 ) rfl rfl rfl rfl rfl ⟨_, rfl, rfl, T_nw, Nat.le_of_ble_eq_true rfl⟩ rfl rfl (Nat.le_of_ble_eq_true rfl) (Nat.le_of_ble_eq_true rfl) (Nat.le_of_ble_eq_true rfl) ?_
  rintro _ _ _ ⟨rfl, rfl, rfl⟩
  refine k_astore_nV C (x := none) (lw := [(2, _), (0, _), (1, .int _)]) rfl rfl (Nat.le_of_ble_eq_true rfl) rfl ?_
  refine k_aload_nV C (x := none) rfl rfl rfl ?_
  refine k_ifnonnull C (x := none) (t := 21) rfl rfl rfl (fun _ => ?_) (fun _ c10 => nomatch c10)
  exact k_throw C rfl rfl rfl rfl rfl rfl (Nat.le_of_ble_eq_true rfl) (Nat.le_of_ble_eq_true rfl) (Nat.le_of_ble_eq_true rfl) ⟨_, _, rfl, rfl, ⟨rfl, rfl⟩⟩

theorem e_toldSigns0 {d : Nat} {T N : Nat → Nat} {I : IT} {L : LT} {R : RT} {x nw : Nat} {n : Int32} (T_x : T x = 12) (R_x_1 : R x 1 = some nw) (T_nw : T nw = 9) (I_nw_3 : I nw 3 = 0) : Ex (d + 2) 135 [.ref x, .int n] (T, N, I, L, R) 1 6 (pX 3 T N R (fun I9 L9 => I9 = I ∧ L9 = L)) := by
  refine ⟨_, rfl, Nat.le_of_ble_eq_true rfl, fun V C S => ?_⟩
  show V 0 [(0, .ref x), (1, .int n)] [] (T, N, I, L, R) 0 0
  refine k_aload_n C rfl rfl rfl ?_
  refine g_R C rfl rfl rfl T_x rfl R_x_1 ?_
  refine k_iload_n C rfl rfl rfl ?_
  refine c_VR C (e_signsAt0 T_nw I_nw_3 ) rfl rfl rfl rfl rfl ⟨_, rfl, rfl, T_nw, Nat.le_of_ble_eq_true rfl⟩ rfl rfl (Nat.le_of_ble_eq_true rfl) (Nat.le_of_ble_eq_true rfl) (Nat.le_of_ble_eq_true rfl) ?_
  rintro _ _ _ ⟨rfl, rfl, rfl⟩
  refine k_astore_nV C (x := none) (lw := [(2, _), (0, _), (1, .int _)]) rfl rfl (Nat.le_of_ble_eq_true rfl) rfl ?_
  refine k_aload_nV C (x := none) rfl rfl rfl ?_
  refine k_ifnonnull C (x := none) (t := 21) rfl rfl rfl (fun _ => ?_) (fun _ c10 => nomatch c10)
  exact k_throw C rfl rfl rfl rfl rfl rfl (Nat.le_of_ble_eq_true rfl) (Nat.le_of_ble_eq_true rfl) (Nat.le_of_ble_eq_true rfl) ⟨_, _, rfl, rfl, ⟨rfl, rfl⟩⟩

theorem e_look0 {d : Nat} {T N : Nat → Nat} {I : IT} {L : LT} {R : RT} {x nw fr : Nat} {n0 n1 : Int32} (T_x : T x = 12) (R_x_1 : R x 1 = some nw) (T_nw : T nw = 9) (R_nw_8 : R nw 8 = some fr) (I_nw_1 : I nw 1 = 0) : Ex (d + 4) 137 [.ref x, .int n0, .int n1] (T, N, I, L, R) 1 6 (pX 3 T N R (fun I9 L9 => I9 = I ∧ L9 = L)) := by
  refine ⟨_, rfl, Nat.le_of_ble_eq_true rfl, fun V C S => ?_⟩
  show V 0 [(0, .ref x), (1, .int n0), (2, .int n1)] [] (T, N, I, L, R) 0 0
  refine k_aload_n C rfl rfl rfl ?_
  refine k_iload_n C rfl rfl rfl ?_
  refine c_VP C (e_toldForm0 T_x R_x_1 T_nw R_nw_8 I_nw_1 ) rfl rfl rfl rfl rfl ⟨_, rfl, rfl, T_x, Nat.le_of_ble_eq_true rfl⟩ rfl rfl (Nat.le_of_ble_eq_true rfl) (Nat.le_of_ble_eq_true rfl) (Nat.le_of_ble_eq_true rfl) (Nat.le_of_ble_eq_true rfl) rfl ?_
  exact fun I1 L1 h1 => ⟨_, _, rfl, rfl, h1⟩

theorem e_at0 {d : Nat} {T N : Nat → Nat} {I : IT} {L : LT} {R : RT} {x nw fr : Nat} {n0 n1 n2 : Int32} (T_x : T x = 12) (R_x_1 : R x 1 = some nw) (T_nw : T nw = 9) (R_nw_8 : R nw 8 = some fr) (I_nw_1 : I nw 1 = 0) : Ex (d + 4) 138 [.ref x, .int n0, .int n1, .int n2] (T, N, I, L, R) 1 6 (pX 3 T N R (fun I9 L9 => I9 = I ∧ L9 = L)) := by
  refine ⟨_, rfl, Nat.le_of_ble_eq_true rfl, fun V C S => ?_⟩
  show V 0 [(0, .ref x), (1, .int n0), (2, .int n1), (3, .int n2)] [] (T, N, I, L, R) 0 0
  refine k_aload_n C rfl rfl rfl ?_
  refine k_iload_n C rfl rfl rfl ?_
  refine c_VP C (e_toldForm0 T_x R_x_1 T_nw R_nw_8 I_nw_1 ) rfl rfl rfl rfl rfl ⟨_, rfl, rfl, T_x, Nat.le_of_ble_eq_true rfl⟩ rfl rfl (Nat.le_of_ble_eq_true rfl) (Nat.le_of_ble_eq_true rfl) (Nat.le_of_ble_eq_true rfl) (Nat.le_of_ble_eq_true rfl) rfl ?_
  exact fun I1 L1 h1 => ⟨_, _, rfl, rfl, h1⟩

theorem e_det0 {d : Nat} {T N : Nat → Nat} {I : IT} {L : LT} {R : RT} {x nw : Nat} {n0 : Int32} (T_x : T x = 12) (R_x_1 : R x 1 = some nw) (T_nw : T nw = 9) (I_nw_2 : I nw 2 = 0) : Ex (d + 3) 139 [.ref x, .int n0] (T, N, I, L, R) 1 6 (pX 3 T N R (fun I9 L9 => I9 = I ∧ L9 = L)) := by
  refine ⟨_, rfl, Nat.le_of_ble_eq_true rfl, fun V C S => ?_⟩
  show V 0 [(0, .ref x), (1, .int n0)] [] (T, N, I, L, R) 0 0
  refine k_aload_n C rfl rfl rfl ?_
  refine k_iload_n C rfl rfl rfl ?_
  refine c_VP C (e_toldTable0 T_x R_x_1 T_nw I_nw_2 ) rfl rfl rfl rfl rfl ⟨_, rfl, rfl, T_x, Nat.le_of_ble_eq_true rfl⟩ rfl rfl (Nat.le_of_ble_eq_true rfl) (Nat.le_of_ble_eq_true rfl) (Nat.le_of_ble_eq_true rfl) (Nat.le_of_ble_eq_true rfl) rfl ?_
  exact fun I1 L1 h1 => ⟨_, _, rfl, rfl, h1⟩

theorem e_told0 {d : Nat} {T N : Nat → Nat} {I : IT} {L : LT} {R : RT} {x nw : Nat} {n0 n1 : Int32} (T_x : T x = 12) (R_x_1 : R x 1 = some nw) (T_nw : T nw = 9) (I_nw_2 : I nw 2 = 0) : Ex (d + 3) 140 [.ref x, .int n0, .int n1] (T, N, I, L, R) 1 6 (pX 3 T N R (fun I9 L9 => I9 = I ∧ L9 = L)) := by
  refine ⟨_, rfl, Nat.le_of_ble_eq_true rfl, fun V C S => ?_⟩
  show V 0 [(0, .ref x), (1, .int n0), (2, .int n1)] [] (T, N, I, L, R) 0 0
  refine k_aload_n C rfl rfl rfl ?_
  refine k_iload_n C rfl rfl rfl ?_
  refine c_VP C (e_toldTable0 T_x R_x_1 T_nw I_nw_2 ) rfl rfl rfl rfl rfl ⟨_, rfl, rfl, T_x, Nat.le_of_ble_eq_true rfl⟩ rfl rfl (Nat.le_of_ble_eq_true rfl) (Nat.le_of_ble_eq_true rfl) (Nat.le_of_ble_eq_true rfl) (Nat.le_of_ble_eq_true rfl) rfl ?_
  exact fun I1 L1 h1 => ⟨_, _, rfl, rfl, h1⟩

theorem e_join0 {d : Nat} {T N : Nat → Nat} {I : IT} {L : LT} {R : RT} {x nw : Nat} {n0 n1 : Int32} (T_x : T x = 12) (R_x_1 : R x 1 = some nw) (T_nw : T nw = 9) (I_nw_2 : I nw 2 = 0) : Ex (d + 3) 141 [.ref x, .int n0, .int n1] (T, N, I, L, R) 1 6 (pX 3 T N R (fun I9 L9 => I9 = I ∧ L9 = L)) := by
  refine ⟨_, rfl, Nat.le_of_ble_eq_true rfl, fun V C S => ?_⟩
  show V 0 [(0, .ref x), (1, .int n0), (2, .int n1)] [] (T, N, I, L, R) 0 0
  refine k_aload_n C rfl rfl rfl ?_
  refine k_iload_n C rfl rfl rfl ?_
  refine c_VP C (e_toldTable0 T_x R_x_1 T_nw I_nw_2 ) rfl rfl rfl rfl rfl ⟨_, rfl, rfl, T_x, Nat.le_of_ble_eq_true rfl⟩ rfl rfl (Nat.le_of_ble_eq_true rfl) (Nat.le_of_ble_eq_true rfl) (Nat.le_of_ble_eq_true rfl) (Nat.le_of_ble_eq_true rfl) rfl ?_
  exact fun I1 L1 h1 => ⟨_, _, rfl, rfl, h1⟩

theorem e_turn0 {d : Nat} {T N : Nat → Nat} {I : IT} {L : LT} {R : RT} {x nw : Nat} {n0 : Int32} (T_x : T x = 12) (R_x_1 : R x 1 = some nw) (T_nw : T nw = 9) (I_nw_2 : I nw 2 = 0) : Ex (d + 3) 142 [.ref x, .int n0] (T, N, I, L, R) 1 6 (pX 3 T N R (fun I9 L9 => I9 = I ∧ L9 = L)) := by
  refine ⟨_, rfl, Nat.le_of_ble_eq_true rfl, fun V C S => ?_⟩
  show V 0 [(0, .ref x), (1, .int n0)] [] (T, N, I, L, R) 0 0
  refine k_aload_n C rfl rfl rfl ?_
  refine k_iload_n C rfl rfl rfl ?_
  refine c_VP C (e_toldTable0 T_x R_x_1 T_nw I_nw_2 ) rfl rfl rfl rfl rfl ⟨_, rfl, rfl, T_x, Nat.le_of_ble_eq_true rfl⟩ rfl rfl (Nat.le_of_ble_eq_true rfl) (Nat.le_of_ble_eq_true rfl) (Nat.le_of_ble_eq_true rfl) (Nat.le_of_ble_eq_true rfl) rfl ?_
  exact fun I1 L1 h1 => ⟨_, _, rfl, rfl, h1⟩

theorem e_mix0 {d : Nat} {T N : Nat → Nat} {I : IT} {L : LT} {R : RT} {x nw fr : Nat} {n0 n1 : Int32} (T_x : T x = 12) (R_x_1 : R x 1 = some nw) (T_nw : T nw = 9) (R_nw_8 : R nw 8 = some fr) (I_nw_1 : I nw 1 = 0) : Ex (d + 4) 143 [.ref x, .int n0, .int n1] (T, N, I, L, R) 1 6 (pX 3 T N R (fun I9 L9 => I9 = I ∧ L9 = L)) := by
  refine ⟨_, rfl, Nat.le_of_ble_eq_true rfl, fun V C S => ?_⟩
  show V 0 [(0, .ref x), (1, .int n0), (2, .int n1)] [] (T, N, I, L, R) 0 0
  refine k_aload_n C rfl rfl rfl ?_
  refine k_iload_n C rfl rfl rfl ?_
  refine c_VP C (e_toldForm0 T_x R_x_1 T_nw R_nw_8 I_nw_1 ) rfl rfl rfl rfl rfl ⟨_, rfl, rfl, T_x, Nat.le_of_ble_eq_true rfl⟩ rfl rfl (Nat.le_of_ble_eq_true rfl) (Nat.le_of_ble_eq_true rfl) (Nat.le_of_ble_eq_true rfl) (Nat.le_of_ble_eq_true rfl) rfl ?_
  exact fun I1 L1 h1 => ⟨_, _, rfl, rfl, h1⟩

theorem e_value0 {d : Nat} {T N : Nat → Nat} {I : IT} {L : LT} {R : RT} {x nw : Nat} {n0 n1 n2 : Int32} (T_x : T x = 12) (R_x_1 : R x 1 = some nw) (T_nw : T nw = 9) (I_nw_3 : I nw 3 = 0) : Ex (d + 3) 146 [.ref x, .int n0, .int n1, .int n2] (T, N, I, L, R) 1 6 (pX 3 T N R (fun I9 L9 => I9 = I ∧ L9 = L)) := by
  refine ⟨_, rfl, Nat.le_of_ble_eq_true rfl, fun V C S => ?_⟩
  show V 0 [(0, .ref x), (1, .int n0), (2, .int n1), (3, .int n2)] [] (T, N, I, L, R) 0 0
  refine k_aload_n C rfl rfl rfl ?_
  refine k_iload_n C rfl rfl rfl ?_
  refine c_VP C (e_toldSigns0 T_x R_x_1 T_nw I_nw_3 ) rfl rfl rfl rfl rfl ⟨_, rfl, rfl, T_x, Nat.le_of_ble_eq_true rfl⟩ rfl rfl (Nat.le_of_ble_eq_true rfl) (Nat.le_of_ble_eq_true rfl) (Nat.le_of_ble_eq_true rfl) (Nat.le_of_ble_eq_true rfl) rfl ?_
  exact fun I1 L1 h1 => ⟨_, _, rfl, rfl, h1⟩

theorem e_rank0 {d : Nat} {T N : Nat → Nat} {I : IT} {L : LT} {R : RT} {x nw cc : Nat} {n0 n1 : Int32} (T_x : T x = 12) (R_x_1 : R x 1 = some nw) (T_nw : T nw = 9) (I_nw_3 : I nw 3 = 0) (R_x_6 : R x 6 = some cc) : Ex (d + 3) 147 [.ref x, .int n0, .int n1] (T, N, I, L, R) 1 6 (pX 3 T N R (fun I9 L9 => I9 = I ∧ L9 = L)) := by
  refine ⟨_, rfl, Nat.le_of_ble_eq_true rfl, fun V C S => ?_⟩
  show V 0 [(0, .ref x), (1, .int n0), (2, .int n1)] [] (T, N, I, L, R) 0 0
  refine k_aload_n C rfl rfl rfl ?_
  refine g_R C rfl rfl rfl T_x rfl R_x_6 ?_
  refine k_aload_n C rfl rfl rfl ?_
  refine k_iload_n C rfl rfl rfl ?_
  refine c_VP C (e_toldSigns0 T_x R_x_1 T_nw I_nw_3 ) rfl rfl rfl rfl rfl ⟨_, rfl, rfl, T_x, Nat.le_of_ble_eq_true rfl⟩ rfl rfl (Nat.le_of_ble_eq_true rfl) (Nat.le_of_ble_eq_true rfl) (Nat.le_of_ble_eq_true rfl) (Nat.le_of_ble_eq_true rfl) rfl ?_
  exact fun I1 L1 h1 => ⟨_, _, rfl, rfl, h1⟩

theorem e_stays0 {d : Nat} {T N : Nat → Nat} {I : IT} {L : LT} {R : RT} {x nw : Nat} {n0 n1 n2 : Int32} (T_x : T x = 12) (R_x_1 : R x 1 = some nw) (T_nw : T nw = 9) (I_nw_3 : I nw 3 = 0) : Ex (d + 3) 148 [.ref x, .int n0, .int n1, .int n2] (T, N, I, L, R) 1 6 (pX 3 T N R (fun I9 L9 => I9 = I ∧ L9 = L)) := by
  refine ⟨_, rfl, Nat.le_of_ble_eq_true rfl, fun V C S => ?_⟩
  show V 0 [(0, .ref x), (1, .int n0), (2, .int n1), (3, .int n2)] [] (T, N, I, L, R) 0 0
  refine k_aload_n C rfl rfl rfl ?_
  refine k_iload_n C rfl rfl rfl ?_
  refine c_VP C (e_toldSigns0 T_x R_x_1 T_nw I_nw_3 ) rfl rfl rfl rfl rfl ⟨_, rfl, rfl, T_x, Nat.le_of_ble_eq_true rfl⟩ rfl rfl (Nat.le_of_ble_eq_true rfl) (Nat.le_of_ble_eq_true rfl) (Nat.le_of_ble_eq_true rfl) (Nat.le_of_ble_eq_true rfl) rfl ?_
  exact fun I1 L1 h1 => ⟨_, _, rfl, rfl, h1⟩

theorem e_agree0 {d : Nat} {T N : Nat → Nat} {I : IT} {L : LT} {R : RT} {x nw : Nat} {n0 n1 n2 : Int32} (T_x : T x = 12) (R_x_1 : R x 1 = some nw) (T_nw : T nw = 9) (I_nw_3 : I nw 3 = 0) : Ex (d + 3) 150 [.ref x, .int n0, .int n1, .int n2] (T, N, I, L, R) 1 6 (pX 3 T N R (fun I9 L9 => I9 = I ∧ L9 = L)) := by
  refine ⟨_, rfl, Nat.le_of_ble_eq_true rfl, fun V C S => ?_⟩
  show V 0 [(0, .ref x), (1, .int n0), (2, .int n1), (3, .int n2)] [] (T, N, I, L, R) 0 0
  refine k_aload_n C rfl rfl rfl ?_
  refine k_iload_n C rfl rfl rfl ?_
  refine c_VP C (e_toldSigns0 T_x R_x_1 T_nw I_nw_3 ) rfl rfl rfl rfl rfl ⟨_, rfl, rfl, T_x, Nat.le_of_ble_eq_true rfl⟩ rfl rfl (Nat.le_of_ble_eq_true rfl) (Nat.le_of_ble_eq_true rfl) (Nat.le_of_ble_eq_true rfl) (Nat.le_of_ble_eq_true rfl) rfl ?_
  exact fun I1 L1 h1 => ⟨_, _, rfl, rfl, h1⟩

theorem e_root0 {d : Nat} {T N : Nat → Nat} {I : IT} {L : LT} {R : RT} {x nw fr : Nat} {n0 n1 : Int32} (T_x : T x = 12) (R_x_1 : R x 1 = some nw) (T_nw : T nw = 9) (R_nw_8 : R nw 8 = some fr) (I_nw_1 : I nw 1 = 0) : Ex (d + 4) 155 [.ref x, .int n0, .int n1] (T, N, I, L, R) 1 6 (pX 3 T N R (fun I9 L9 => I9 = I ∧ L9 = L)) := by
  refine ⟨_, rfl, Nat.le_of_ble_eq_true rfl, fun V C S => ?_⟩
  show V 0 [(0, .ref x), (1, .int n0), (2, .int n1)] [] (T, N, I, L, R) 0 0
  refine k_aload_n C rfl rfl rfl ?_
  refine k_iload_n C rfl rfl rfl ?_
  refine c_VP C (e_toldForm0 T_x R_x_1 T_nw R_nw_8 I_nw_1 ) rfl rfl rfl rfl rfl ⟨_, rfl, rfl, T_x, Nat.le_of_ble_eq_true rfl⟩ rfl rfl (Nat.le_of_ble_eq_true rfl) (Nat.le_of_ble_eq_true rfl) (Nat.le_of_ble_eq_true rfl) (Nat.le_of_ble_eq_true rfl) rfl ?_
  exact fun I1 L1 h1 => ⟨_, _, rfl, rfl, h1⟩

theorem e_roots0 {d : Nat} {T N : Nat → Nat} {I : IT} {L : LT} {R : RT} {x nw fr : Nat} {n0 : Int32} (T_x : T x = 12) (R_x_1 : R x 1 = some nw) (T_nw : T nw = 9) (R_nw_8 : R nw 8 = some fr) (I_nw_1 : I nw 1 = 0) : Ex (d + 4) 156 [.ref x, .int n0] (T, N, I, L, R) 1 6 (pX 3 T N R (fun I9 L9 => I9 = I ∧ L9 = L)) := by
  refine ⟨_, rfl, Nat.le_of_ble_eq_true rfl, fun V C S => ?_⟩
  show V 0 [(0, .ref x), (1, .int n0)] [] (T, N, I, L, R) 0 0
  refine k_aload_n C rfl rfl rfl ?_
  refine k_iload_n C rfl rfl rfl ?_
  refine c_VP C (e_toldForm0 T_x R_x_1 T_nw R_nw_8 I_nw_1 ) rfl rfl rfl rfl rfl ⟨_, rfl, rfl, T_x, Nat.le_of_ble_eq_true rfl⟩ rfl rfl (Nat.le_of_ble_eq_true rfl) (Nat.le_of_ble_eq_true rfl) (Nat.le_of_ble_eq_true rfl) (Nat.le_of_ble_eq_true rfl) rfl ?_
  exact fun I1 L1 h1 => ⟨_, _, rfl, rfl, h1⟩

theorem e_empty0 {d : Nat} {T N : Nat → Nat} {I : IT} {L : LT} {R : RT} {x nw fr : Nat} {n0 : Int32} (T_x : T x = 12) (R_x_1 : R x 1 = some nw) (T_nw : T nw = 9) (R_nw_8 : R nw 8 = some fr) (I_nw_1 : I nw 1 = 0) : Ex (d + 4) 157 [.ref x, .int n0] (T, N, I, L, R) 1 6 (pX 3 T N R (fun I9 L9 => I9 = I ∧ L9 = L)) := by
  refine ⟨_, rfl, Nat.le_of_ble_eq_true rfl, fun V C S => ?_⟩
  show V 0 [(0, .ref x), (1, .int n0)] [] (T, N, I, L, R) 0 0
  refine k_aload_n C rfl rfl rfl ?_
  refine k_iload_n C rfl rfl rfl ?_
  refine c_VP C (e_toldForm0 T_x R_x_1 T_nw R_nw_8 I_nw_1 ) rfl rfl rfl rfl rfl ⟨_, rfl, rfl, T_x, Nat.le_of_ble_eq_true rfl⟩ rfl rfl (Nat.le_of_ble_eq_true rfl) (Nat.le_of_ble_eq_true rfl) (Nat.le_of_ble_eq_true rfl) (Nat.le_of_ble_eq_true rfl) rfl ?_
  exact fun I1 L1 h1 => ⟨_, _, rfl, rfl, h1⟩

theorem e_same0 {d : Nat} {T N : Nat → Nat} {I : IT} {L : LT} {R : RT} {x nw fr : Nat} {n0 n1 : Int32} (T_x : T x = 12) (R_x_1 : R x 1 = some nw) (T_nw : T nw = 9) (R_nw_8 : R nw 8 = some fr) (I_nw_1 : I nw 1 = 0) : Ex (d + 4) 158 [.ref x, .int n0, .int n1] (T, N, I, L, R) 1 6 (pX 3 T N R (fun I9 L9 => I9 = I ∧ L9 = L)) := by
  refine ⟨_, rfl, Nat.le_of_ble_eq_true rfl, fun V C S => ?_⟩
  show V 0 [(0, .ref x), (1, .int n0), (2, .int n1)] [] (T, N, I, L, R) 0 0
  refine k_aload_n C rfl rfl rfl ?_
  refine k_iload_n C rfl rfl rfl ?_
  refine c_VP C (e_toldForm0 T_x R_x_1 T_nw R_nw_8 I_nw_1 ) rfl rfl rfl rfl rfl ⟨_, rfl, rfl, T_x, Nat.le_of_ble_eq_true rfl⟩ rfl rfl (Nat.le_of_ble_eq_true rfl) (Nat.le_of_ble_eq_true rfl) (Nat.le_of_ble_eq_true rfl) (Nat.le_of_ble_eq_true rfl) rfl ?_
  exact fun I1 L1 h1 => ⟨_, _, rfl, rfl, h1⟩

theorem e_keep0 {d : Nat} {T N : Nat → Nat} {I : IT} {L : LT} {R : RT} {x nw fr : Nat} {n0 : Int32} (T_x : T x = 12) (R_x_1 : R x 1 = some nw) (T_nw : T nw = 9) (R_nw_8 : R nw 8 = some fr) (I_nw_1 : I nw 1 = 0) : Ex (d + 4) 159 [.ref x, .int n0] (T, N, I, L, R) 1 6 (pX 3 T N R (fun I9 L9 => I9 = I ∧ L9 = L)) := by
  refine ⟨_, rfl, Nat.le_of_ble_eq_true rfl, fun V C S => ?_⟩
  show V 0 [(0, .ref x), (1, .int n0)] [] (T, N, I, L, R) 0 0
  refine k_aload_n C rfl rfl rfl ?_
  refine k_iload_n C rfl rfl rfl ?_
  refine c_VP C (e_toldForm0 T_x R_x_1 T_nw R_nw_8 I_nw_1 ) rfl rfl rfl rfl rfl ⟨_, rfl, rfl, T_x, Nat.le_of_ble_eq_true rfl⟩ rfl rfl (Nat.le_of_ble_eq_true rfl) (Nat.le_of_ble_eq_true rfl) (Nat.le_of_ble_eq_true rfl) (Nat.le_of_ble_eq_true rfl) rfl ?_
  exact fun I1 L1 h1 => ⟨_, _, rfl, rfl, h1⟩

theorem e_kind0 {d : Nat} {T N : Nat → Nat} {I : IT} {L : LT} {R : RT} {x nw fr : Nat} {n0 : Int32} (T_x : T x = 12) (R_x_1 : R x 1 = some nw) (T_nw : T nw = 9) (R_nw_8 : R nw 8 = some fr) (I_nw_1 : I nw 1 = 0) : Ex (d + 4) 160 [.ref x, .int n0] (T, N, I, L, R) 1 6 (pX 3 T N R (fun I9 L9 => I9 = I ∧ L9 = L)) := by
  refine ⟨_, rfl, Nat.le_of_ble_eq_true rfl, fun V C S => ?_⟩
  show V 0 [(0, .ref x), (1, .int n0)] [] (T, N, I, L, R) 0 0
  refine k_aload_n C rfl rfl rfl ?_
  refine k_iload_n C rfl rfl rfl ?_
  refine c_VP C (e_toldForm0 T_x R_x_1 T_nw R_nw_8 I_nw_1 ) rfl rfl rfl rfl rfl ⟨_, rfl, rfl, T_x, Nat.le_of_ble_eq_true rfl⟩ rfl rfl (Nat.le_of_ble_eq_true rfl) (Nat.le_of_ble_eq_true rfl) (Nat.le_of_ble_eq_true rfl) (Nat.le_of_ble_eq_true rfl) rfl ?_
  exact fun I1 L1 h1 => ⟨_, _, rfl, rfl, h1⟩

theorem e_orbit0 {d : Nat} {T N : Nat → Nat} {I : IT} {L : LT} {R : RT} {x nw fr : Nat} {n0 : Int32} (T_x : T x = 12) (R_x_1 : R x 1 = some nw) (T_nw : T nw = 9) (R_nw_8 : R nw 8 = some fr) (I_nw_1 : I nw 1 = 0) : Ex (d + 4) 161 [.ref x, .int n0] (T, N, I, L, R) 1 6 (pX 3 T N R (fun I9 L9 => I9 = I ∧ L9 = L)) := by
  refine ⟨_, rfl, Nat.le_of_ble_eq_true rfl, fun V C S => ?_⟩
  show V 0 [(0, .ref x), (1, .int n0)] [] (T, N, I, L, R) 0 0
  refine k_aload_n C rfl rfl rfl ?_
  refine k_iload_n C rfl rfl rfl ?_
  refine c_VP C (e_toldForm0 T_x R_x_1 T_nw R_nw_8 I_nw_1 ) rfl rfl rfl rfl rfl ⟨_, rfl, rfl, T_x, Nat.le_of_ble_eq_true rfl⟩ rfl rfl (Nat.le_of_ble_eq_true rfl) (Nat.le_of_ble_eq_true rfl) (Nat.le_of_ble_eq_true rfl) (Nat.le_of_ble_eq_true rfl) rfl ?_
  exact fun I1 L1 h1 => ⟨_, _, rfl, rfl, h1⟩

theorem e_powers0 {d : Nat} {T N : Nat → Nat} {I : IT} {L : LT} {R : RT} {x nw fr : Nat} {n0 n1 : Int32} (T_x : T x = 12) (R_x_1 : R x 1 = some nw) (T_nw : T nw = 9) (R_nw_8 : R nw 8 = some fr) (I_nw_1 : I nw 1 = 0) : Ex (d + 4) 162 [.ref x, .int n0, .int n1] (T, N, I, L, R) 1 6 (pX 3 T N R (fun I9 L9 => I9 = I ∧ L9 = L)) := by
  refine ⟨_, rfl, Nat.le_of_ble_eq_true rfl, fun V C S => ?_⟩
  show V 0 [(0, .ref x), (1, .int n0), (2, .int n1)] [] (T, N, I, L, R) 0 0
  refine k_aload_n C rfl rfl rfl ?_
  refine k_iload_n C rfl rfl rfl ?_
  refine c_VP C (e_toldForm0 T_x R_x_1 T_nw R_nw_8 I_nw_1 ) rfl rfl rfl rfl rfl ⟨_, rfl, rfl, T_x, Nat.le_of_ble_eq_true rfl⟩ rfl rfl (Nat.le_of_ble_eq_true rfl) (Nat.le_of_ble_eq_true rfl) (Nat.le_of_ble_eq_true rfl) (Nat.le_of_ble_eq_true rfl) rfl ?_
  exact fun I1 L1 h1 => ⟨_, _, rfl, rfl, h1⟩

theorem e_common0 {d : Nat} {T N : Nat → Nat} {I : IT} {L : LT} {R : RT} {x nw fr : Nat} {n0 n1 n2 : Int32} (T_x : T x = 12) (R_x_1 : R x 1 = some nw) (T_nw : T nw = 9) (R_nw_8 : R nw 8 = some fr) (I_nw_1 : I nw 1 = 0) : Ex (d + 4) 163 [.ref x, .int n0, .int n1, .int n2] (T, N, I, L, R) 1 6 (pX 3 T N R (fun I9 L9 => I9 = I ∧ L9 = L)) := by
  refine ⟨_, rfl, Nat.le_of_ble_eq_true rfl, fun V C S => ?_⟩
  show V 0 [(0, .ref x), (1, .int n0), (2, .int n1), (3, .int n2)] [] (T, N, I, L, R) 0 0
  refine k_aload_n C rfl rfl rfl ?_
  refine k_iload_n C rfl rfl rfl ?_
  refine c_VP C (e_toldForm0 T_x R_x_1 T_nw R_nw_8 I_nw_1 ) rfl rfl rfl rfl rfl ⟨_, rfl, rfl, T_x, Nat.le_of_ble_eq_true rfl⟩ rfl rfl (Nat.le_of_ble_eq_true rfl) (Nat.le_of_ble_eq_true rfl) (Nat.le_of_ble_eq_true rfl) (Nat.le_of_ble_eq_true rfl) rfl ?_
  exact fun I1 L1 h1 => ⟨_, _, rfl, rfl, h1⟩

theorem e_quotient0 {d : Nat} {T N : Nat → Nat} {I : IT} {L : LT} {R : RT} {x nw fr : Nat} {n0 n1 n2 : Int32} (T_x : T x = 12) (R_x_1 : R x 1 = some nw) (T_nw : T nw = 9) (R_nw_8 : R nw 8 = some fr) (I_nw_1 : I nw 1 = 0) : Ex (d + 4) 164 [.ref x, .int n0, .int n1, .int n2] (T, N, I, L, R) 1 6 (pX 3 T N R (fun I9 L9 => I9 = I ∧ L9 = L)) := by
  refine ⟨_, rfl, Nat.le_of_ble_eq_true rfl, fun V C S => ?_⟩
  show V 0 [(0, .ref x), (1, .int n0), (2, .int n1), (3, .int n2)] [] (T, N, I, L, R) 0 0
  refine k_aload_n C rfl rfl rfl ?_
  refine k_iload_n C rfl rfl rfl ?_
  refine c_VP C (e_toldForm0 T_x R_x_1 T_nw R_nw_8 I_nw_1 ) rfl rfl rfl rfl rfl ⟨_, rfl, rfl, T_x, Nat.le_of_ble_eq_true rfl⟩ rfl rfl (Nat.le_of_ble_eq_true rfl) (Nat.le_of_ble_eq_true rfl) (Nat.le_of_ble_eq_true rfl) (Nat.le_of_ble_eq_true rfl) rfl ?_
  exact fun I1 L1 h1 => ⟨_, _, rfl, rfl, h1⟩

theorem e_plain0 {d : Nat} {T N : Nat → Nat} {I : IT} {L : LT} {R : RT} {x nw fr : Nat} {n0 : Int32} (T_x : T x = 12) (R_x_1 : R x 1 = some nw) (T_nw : T nw = 9) (R_nw_8 : R nw 8 = some fr) (I_nw_1 : I nw 1 = 0) : Ex (d + 4) 165 [.ref x, .int n0] (T, N, I, L, R) 1 6 (pX 3 T N R (fun I9 L9 => I9 = I ∧ L9 = L)) := by
  refine ⟨_, rfl, Nat.le_of_ble_eq_true rfl, fun V C S => ?_⟩
  show V 0 [(0, .ref x), (1, .int n0)] [] (T, N, I, L, R) 0 0
  refine k_aload_n C rfl rfl rfl ?_
  refine k_iload_n C rfl rfl rfl ?_
  refine c_VP C (e_toldForm0 T_x R_x_1 T_nw R_nw_8 I_nw_1 ) rfl rfl rfl rfl rfl ⟨_, rfl, rfl, T_x, Nat.le_of_ble_eq_true rfl⟩ rfl rfl (Nat.le_of_ble_eq_true rfl) (Nat.le_of_ble_eq_true rfl) (Nat.le_of_ble_eq_true rfl) (Nat.le_of_ble_eq_true rfl) rfl ?_
  exact fun I1 L1 h1 => ⟨_, _, rfl, rfl, h1⟩

theorem e_overlap0 {d : Nat} {T N : Nat → Nat} {I : IT} {L : LT} {R : RT} {x nw fr : Nat} {n0 n1 n2 n3 : Int32} (T_x : T x = 12) (R_x_1 : R x 1 = some nw) (T_nw : T nw = 9) (R_nw_8 : R nw 8 = some fr) (I_nw_1 : I nw 1 = 0) : Ex (d + 4) 166 [.ref x, .int n0, .int n1, .int n2, .int n3] (T, N, I, L, R) 1 6 (pX 3 T N R (fun I9 L9 => I9 = I ∧ L9 = L)) := by
  refine ⟨_, rfl, Nat.le_of_ble_eq_true rfl, fun V C S => ?_⟩
  show V 0 [(0, .ref x), (1, .int n0), (2, .int n1), (3, .int n2), (4, .int n3)] [] (T, N, I, L, R) 0 0
  refine k_aload_n C rfl rfl rfl ?_
  refine k_iload_n C rfl rfl rfl ?_
  refine c_VP C (e_toldForm0 T_x R_x_1 T_nw R_nw_8 I_nw_1 ) rfl rfl rfl rfl rfl ⟨_, rfl, rfl, T_x, Nat.le_of_ble_eq_true rfl⟩ rfl rfl (Nat.le_of_ble_eq_true rfl) (Nat.le_of_ble_eq_true rfl) (Nat.le_of_ble_eq_true rfl) (Nat.le_of_ble_eq_true rfl) rfl ?_
  exact fun I1 L1 h1 => ⟨_, _, rfl, rfl, h1⟩

theorem e_nextBack0 {d : Nat} {T N : Nat → Nat} {I : IT} {L : LT} {R : RT} {st : Nat} (T_st : T st = 9) (I_st_4 : I st 4 = 0) : Ex (d + 1) 105 [.ref st] (T, N, I, L, R) 0 0 (pI T N R (fun x9 I9 L9 => x9 = (-1) ∧ I9 = I ∧ L9 = L)) := by
  refine ⟨_, rfl, Nat.le_of_ble_eq_true rfl, fun V C S => ?_⟩
  show V 0 [(0, .ref st)] [] (T, N, I, L, R) 0 0
  refine k_aload_n C rfl rfl rfl ?_
  refine g_I C rfl rfl rfl T_st rfl (I_st_4) ?_
  refine k_if_le C (t := 33) rfl rfl rfl (fun c4 => ?_) (fun c4 => ?_)
  · skip
    refine k_iconst C (x := -1) rfl rfl rfl ?_
    exact k_iret C rfl (Or.inl rfl) (Nat.le_of_ble_eq_true rfl) (Nat.le_of_ble_eq_true rfl) ⟨_, _, _, rfl, rfl, ⟨rfl, rfl, rfl⟩⟩
  exact absurd (Int32.le_refl 0) c4

theorem e_nextOn0 {d : Nat} {T N : Nat → Nat} {I : IT} {L : LT} {R : RT} {st : Nat} (T_st : T st = 9) (I_st_5 : I st 5 = 0) : Ex (d + 1) 106 [.ref st] (T, N, I, L, R) 0 0 (pI T N R (fun x9 I9 L9 => x9 = (-1) ∧ I9 = I ∧ L9 = L)) := by
  refine ⟨_, rfl, Nat.le_of_ble_eq_true rfl, fun V C S => ?_⟩
  show V 0 [(0, .ref st)] [] (T, N, I, L, R) 0 0
  refine k_aload_n C rfl rfl rfl ?_
  refine g_I C rfl rfl rfl T_st rfl (I_st_5) ?_
  refine k_if_le C (t := 38) rfl rfl rfl (fun c4 => ?_) (fun c4 => ?_)
  · skip
    refine k_iconst C (x := -1) rfl rfl rfl ?_
    exact k_iret C rfl (Or.inl rfl) (Nat.le_of_ble_eq_true rfl) (Nat.le_of_ble_eq_true rfl) ⟨_, _, _, rfl, rfl, ⟨rfl, rfl, rfl⟩⟩
  exact absurd (Int32.le_refl 0) c4

theorem e_undo0 {d : Nat} {T N : Nat → Nat} {I : IT} {L : LT} {R : RT} {x nw fr : Nat} (T_x : T x = 12) (R_x_1 : R x 1 = some nw) (T_nw : T nw = 9) (R_nw_8 : R nw 8 = some fr) (I_nw_1 : I nw 1 = 0) (I_nw_4 : I nw 4 = 0) : Ex (d + 3) 144 [.ref x] (T, N, I, L, R) 0 0 (pI T N R (fun x9 I9 L9 => x9 = (-1) ∧ I9 = I ∧ L9 = L)) := by
  refine ⟨_, rfl, Nat.le_of_ble_eq_true rfl, fun V C S => ?_⟩
  show V 0 [(0, .ref x)] [] (T, N, I, L, R) 0 0
  refine k_aload_n C rfl rfl rfl ?_
  refine g_R C rfl rfl rfl T_x rfl R_x_1 ?_
  refine c_VI C (e_nextBack0 T_nw I_nw_4 ) rfl rfl rfl rfl rfl ⟨_, rfl, rfl, T_nw, Nat.le_of_ble_eq_true rfl⟩ rfl rfl (Nat.le_of_ble_eq_true rfl) (Nat.le_of_ble_eq_true rfl) (Nat.le_of_ble_eq_true rfl) ?_
  rintro _ _ _ ⟨rfl, rfl, rfl⟩
  refine k_istore_n C (lw := [(1, .int _), (0, _)]) rfl rfl (Nat.le_of_ble_eq_true rfl) rfl ?_
  refine k_aload_n C rfl rfl rfl ?_
  refine g_R C rfl rfl rfl T_x rfl R_x_1 ?_
  refine k_iload_n C rfl rfl rfl ?_
  refine c_VR C (e_formAt0 T_nw R_nw_8 I_nw_1 ) rfl rfl rfl rfl rfl ⟨_, rfl, rfl, T_nw, Nat.le_of_ble_eq_true rfl⟩ rfl rfl (Nat.le_of_ble_eq_true rfl) (Nat.le_of_ble_eq_true rfl) (Nat.le_of_ble_eq_true rfl) ?_
  rintro _ _ _ ⟨rfl, rfl, rfl⟩
  refine k_astore_nV C (x := none) (lw := [(2, _), (1, .int _), (0, _)]) rfl rfl (Nat.le_of_ble_eq_true rfl) rfl ?_
  refine k_aload_nV C (x := none) rfl rfl rfl ?_
  refine k_ifnonnull C (x := none) (t := 23) rfl rfl rfl (fun _ => ?_) (fun _ c18 => nomatch c18)
  refine k_iconst C (x := -1) rfl rfl rfl ?_
  exact k_iret C rfl (Or.inl rfl) (Nat.le_of_ble_eq_true rfl) (Nat.le_of_ble_eq_true rfl) ⟨_, _, _, rfl, rfl, ⟨rfl, rfl, rfl⟩⟩

theorem e_redo0 {d : Nat} {T N : Nat → Nat} {I : IT} {L : LT} {R : RT} {x nw fr : Nat} (T_x : T x = 12) (R_x_1 : R x 1 = some nw) (T_nw : T nw = 9) (R_nw_8 : R nw 8 = some fr) (I_nw_1 : I nw 1 = 0) (I_nw_5 : I nw 5 = 0) : Ex (d + 3) 145 [.ref x] (T, N, I, L, R) 0 0 (pI T N R (fun x9 I9 L9 => x9 = (-1) ∧ I9 = I ∧ L9 = L)) := by
  refine ⟨_, rfl, Nat.le_of_ble_eq_true rfl, fun V C S => ?_⟩
  show V 0 [(0, .ref x)] [] (T, N, I, L, R) 0 0
  refine k_aload_n C rfl rfl rfl ?_
  refine g_R C rfl rfl rfl T_x rfl R_x_1 ?_
  refine c_VI C (e_nextOn0 T_nw I_nw_5 ) rfl rfl rfl rfl rfl ⟨_, rfl, rfl, T_nw, Nat.le_of_ble_eq_true rfl⟩ rfl rfl (Nat.le_of_ble_eq_true rfl) (Nat.le_of_ble_eq_true rfl) (Nat.le_of_ble_eq_true rfl) ?_
  rintro _ _ _ ⟨rfl, rfl, rfl⟩
  refine k_istore_n C (lw := [(1, .int _), (0, _)]) rfl rfl (Nat.le_of_ble_eq_true rfl) rfl ?_
  refine k_aload_n C rfl rfl rfl ?_
  refine g_R C rfl rfl rfl T_x rfl R_x_1 ?_
  refine k_iload_n C rfl rfl rfl ?_
  refine c_VR C (e_formAt0 T_nw R_nw_8 I_nw_1 ) rfl rfl rfl rfl rfl ⟨_, rfl, rfl, T_nw, Nat.le_of_ble_eq_true rfl⟩ rfl rfl (Nat.le_of_ble_eq_true rfl) (Nat.le_of_ble_eq_true rfl) (Nat.le_of_ble_eq_true rfl) ?_
  rintro _ _ _ ⟨rfl, rfl, rfl⟩
  refine k_astore_nV C (x := none) (lw := [(2, _), (1, .int _), (0, _)]) rfl rfl (Nat.le_of_ble_eq_true rfl) rfl ?_
  refine k_aload_nV C (x := none) rfl rfl rfl ?_
  refine k_ifnonnull C (x := none) (t := 23) rfl rfl rfl (fun _ => ?_) (fun _ c18 => nomatch c18)
  refine k_iconst C (x := -1) rfl rfl rfl ?_
  exact k_iret C rfl (Or.inl rfl) (Nat.le_of_ble_eq_true rfl) (Nat.le_of_ble_eq_true rfl) ⟨_, _, _, rfl, rfl, ⟨rfl, rfl, rfl⟩⟩

theorem e_fault0 {d : Nat} {T N : Nat → Nat} {I : IT} {L : LT} {R : RT} {x : Nat} (T_x : T x = 12) (I_x_4 : I x 4 = -1) : Ex (d + 1) 132 [.ref x] (T, N, I, L, R) 0 0 (pI T N R (fun x9 I9 L9 => x9 = (-1) ∧ I9 = I ∧ L9 = L)) := by
  refine ⟨_, rfl, Nat.le_of_ble_eq_true rfl, fun V C S => ?_⟩
  show V 0 [(0, .ref x)] [] (T, N, I, L, R) 0 0
  refine k_aload_n C rfl rfl rfl ?_
  refine g_I C rfl rfl rfl T_x rfl (I_x_4) ?_
  exact k_iret C rfl (Or.inl rfl) (Nat.le_of_ble_eq_true rfl) (Nat.le_of_ble_eq_true rfl) ⟨_, _, _, rfl, rfl, ⟨rfl, rfl, rfl⟩⟩

theorem e_end0 {d : Nat} {T N : Nat → Nat} {I : IT} {L : LT} {R : RT} {A : Nat → Prop} {x rd : Nat} {n : Int32} (T_x : T x = 12) (R_x_0 : R x 0 = some rd) (T_rd : T rd = 5) (I_rd_1 : I rd 1 = 0) (A_rd : A rd) : Ex (d + 1) 127 [.ref x, .int n] (T, N, I, L, R) 0 0 (pI T N R (fun x9 I9 L9 => (x9 = if n = 0 then 1 else 0) ∧ Fr A I L I9 L9)) := by
  refine ⟨_, rfl, Nat.le_of_ble_eq_true rfl, fun V C S => ?_⟩
  show V 0 [(0, .ref x), (1, .int n)] [] (T, N, I, L, R) 0 0
  refine k_iload_n C rfl rfl rfl ?_
  refine k_if_lt C (t := 15) rfl rfl rfl (fun c1 => ?_) (fun c1 => ?_)
  · skip
    refine k_iconst C (x := 0) rfl rfl rfl ?_
    exact k_iret C rfl (Or.inr ⟨rfl, Or.inl rfl⟩) (Nat.le_of_ble_eq_true rfl) (Nat.le_of_ble_eq_true rfl) ⟨_, _, _, rfl, rfl, ⟨(if_neg (by rintro rfl; first | exact absurd c1 (by decide) | exact absurd c12 (by decide))).symm, Fr.rf⟩⟩
  refine k_iload_n C rfl rfl rfl ?_
  refine k_aload_n C rfl rfl rfl ?_
  refine g_R C rfl rfl rfl T_x rfl R_x_0 ?_
  refine g_I C rfl rfl rfl T_rd rfl (I_rd_1) ?_
  refine k_icmp_le C (t := 17) rfl rfl rfl (fun c12 => ?_) (fun c12 => ?_)
  · skip
    have hn : n = 0 := Int32.le_antisymm c12 (Int32.not_lt.mp c1)
    refine k_aload_n C rfl rfl rfl ?_
    refine g_R C rfl rfl rfl T_x rfl R_x_0 ?_
    refine k_iload_n C rfl rfl rfl ?_
    refine p_I C rfl rfl rfl T_rd (Or.inr rfl) rfl ?_
    refine k_iconst C (x := 1) rfl rfl rfl ?_
    exact k_iret C rfl (Or.inr ⟨rfl, Or.inr rfl⟩) (Nat.le_of_ble_eq_true rfl) (Nat.le_of_ble_eq_true rfl) ⟨_, _, _, rfl, rfl, ⟨by rw [if_pos hn], Fr.rf.i A_rd⟩⟩
  refine k_iconst C (x := 0) rfl rfl rfl ?_
  exact k_iret C rfl (Or.inr ⟨rfl, Or.inl rfl⟩) (Nat.le_of_ble_eq_true rfl) (Nat.le_of_ble_eq_true rfl) ⟨_, _, _, rfl, rfl, ⟨(if_neg (by rintro rfl; first | exact absurd c1 (by decide) | exact absurd c12 (by decide))).symm, Fr.rf⟩⟩

theorem e_useUp0 {d : Nat} {T N : Nat → Nat} {I : IT} {L : LT} {R : RT} {A : Nat → Prop} {rd : Nat} (T_rd : T rd = 5) (I_rd_1 : I rd 1 = 0) (A_rd : A rd) : Ex (d + 1) 60 [.ref rd] (T, N, I, L, R) 0 0 (pI T N R (fun x9 I9 L9 => x9 = 0 ∧ Fr A I L I9 L9)) := by
  refine ⟨_, rfl, Nat.le_of_ble_eq_true rfl, fun V C S => ?_⟩
  show V 0 [(0, .ref rd)] [] (T, N, I, L, R) 0 0
  refine k_aload_n C rfl rfl rfl ?_
  refine g_I C rfl rfl rfl T_rd rfl (I_rd_1) ?_
  refine k_istore_n C (lw := [(1, .int _), (0, _)]) rfl rfl (Nat.le_of_ble_eq_true rfl) rfl ?_
  refine k_aload_n C rfl rfl rfl ?_
  refine k_iconst C (x := 0) rfl rfl rfl ?_
  refine p_I C rfl rfl rfl T_rd (Or.inr rfl) rfl ?_
  refine k_iload_n C rfl rfl rfl ?_
  exact k_iret C rfl (Or.inl rfl) (Nat.le_of_ble_eq_true rfl) (Nat.le_of_ble_eq_true rfl) ⟨_, _, _, rfl, rfl, ⟨rfl, Fr.rf.i A_rd⟩⟩

theorem e_form0 {d : Nat} {T N : Nat → Nat} {I : IT} {L : LT} {R : RT} {A : Nat → Prop} {x rd : Nat} (T_x : T x = 12) (R_x_0 : R x 0 = some rd) (T_rd : T rd = 5) (I_rd_1 : I rd 1 = 0) (A_rd : A rd) : Ex (d + 2) 129 [.ref x] (T, N, I, L, R) 1 6 (pX 0 T N R (fun I9 L9 => Fr A I L I9 L9)) := by
  refine ⟨_, rfl, Nat.le_of_ble_eq_true rfl, fun V C S => ?_⟩
  show V 0 [(0, .ref x)] [] (T, N, I, L, R) 0 0
  refine k_aload_n C rfl rfl rfl ?_
  refine g_R C rfl rfl rfl T_x rfl R_x_0 ?_
  refine c_VI C (e_useUp0 T_rd I_rd_1 A_rd ) rfl rfl rfl rfl rfl ⟨_, rfl, rfl, T_rd, Nat.le_of_ble_eq_true rfl⟩ rfl rfl (Nat.le_of_ble_eq_true rfl) (Nat.le_of_ble_eq_true rfl) (Nat.le_of_ble_eq_true rfl) ?_
  intro x4 I4 L4 h4
  obtain ⟨rfl, f4⟩ := h4
  refine k_istore_n C (lw := [(1, .int _), (0, _)]) rfl rfl (Nat.le_of_ble_eq_true rfl) rfl ?_
  refine k_iload_n C rfl rfl rfl ?_
  refine k_iconst C (x := 1) rfl rfl rfl ?_
  refine k_icmp_lt C (t := 19) rfl rfl rfl (fun c10 => ?_) (fun c10 => ?_)
  · skip
    exact k_throw C rfl rfl rfl rfl rfl rfl (Nat.le_of_ble_eq_true rfl) (Nat.le_of_ble_eq_true rfl) (Nat.le_of_ble_eq_true rfl) ⟨_, _, rfl, rfl, f4⟩
  exact absurd (by decide) c10

theorem e_field_no {d : Nat} {T N : Nat → Nat} {I : IT} {L : LT} {R : RT} {x : Nat} {p : Int32}  (hp : ¬ (p = 11 ∨ p = 13 ∨ p = 17 ∨ p = 19)) : Ex (d + 1) 128 [.ref x, .int p] (T, N, I, L, R) 1 6 (pX 0 T N R (fun I9 L9 => I9 = I ∧ L9 = L)) := by
  refine ⟨_, rfl, Nat.le_of_ble_eq_true rfl, fun V C S => ?_⟩
  show V 0 [(0, .ref x), (1, .int p)] [] (T, N, I, L, R) 0 0
  refine k_iload_n C rfl rfl rfl ?_
  refine k_bipush C (x := 11) rfl rfl rfl ?_
  refine k_icmp_eq C (t := 32) rfl rfl rfl (fun c3 => ?_) (fun c3 => ?_)
  · skip
    exact absurd (Or.inl c3) hp
  refine k_iload_n C rfl rfl rfl ?_
  refine k_bipush C (x := 13) rfl rfl rfl ?_
  refine k_icmp_eq C (t := 32) rfl rfl rfl (fun c9 => ?_) (fun c9 => ?_)
  · skip
    exact absurd (Or.inr (Or.inl c9)) hp
  refine k_iload_n C rfl rfl rfl ?_
  refine k_bipush C (x := 17) rfl rfl rfl ?_
  refine k_icmp_eq C (t := 32) rfl rfl rfl (fun c15 => ?_) (fun c15 => ?_)
  · skip
    exact absurd (Or.inr (Or.inr (Or.inl c15))) hp
  refine k_iload_n C rfl rfl rfl ?_
  refine k_bipush C (x := 19) rfl rfl rfl ?_
  refine k_icmp_eq C (t := 32) rfl rfl rfl (fun c21 => ?_) (fun c21 => ?_)
  · skip
    exact absurd (Or.inr (Or.inr (Or.inr c21))) hp
  exact k_throw C rfl rfl rfl rfl rfl rfl (Nat.le_of_ble_eq_true rfl) (Nat.le_of_ble_eq_true rfl) (Nat.le_of_ble_eq_true rfl) ⟨_, _, rfl, rfl, ⟨rfl, rfl⟩⟩

theorem e_field_yes {d : Nat} {T N : Nat → Nat} {I : IT} {L : LT} {R : RT} {A : Nat → Prop} {x nw : Nat} {p : Int32} (T_x : T x = 12) (R_x_1 : R x 1 = some nw) (T_nw : T nw = 9) (I_nw_1 : I nw 1 = 0) (I_nw_2 : I nw 2 = 0) (A_nw : A nw) (hp : p = 11 ∨ p = 13 ∨ p = 17 ∨ p = 19) : Ex (d + 1) 128 [.ref x, .int p] (T, N, I, L, R) 0 0 (pV T N R (fun I9 L9 => Fr A I L I9 L9)) := by
  refine ⟨_, rfl, Nat.le_of_ble_eq_true rfl, fun V C S => ?_⟩
  show V 0 [(0, .ref x), (1, .int p)] [] (T, N, I, L, R) 0 0
  refine k_iload_n C rfl rfl rfl ?_
  refine k_bipush C (x := 11) rfl rfl rfl ?_
  refine k_icmp_eq C (t := 32) rfl rfl rfl (fun c3 => ?_) (fun c3 => ?_)
  · skip
    refine k_aload_n C rfl rfl rfl ?_
    refine g_R C rfl rfl rfl T_x rfl R_x_1 ?_
    refine g_I C rfl rfl rfl T_nw rfl (I_nw_1) ?_
    refine k_if_gt C (t := 52) rfl rfl rfl (fun c39 => ?_) (fun c39 => ?_)
    · skip
      exact absurd c39 (by decide)
    refine k_aload_n C rfl rfl rfl ?_
    refine g_R C rfl rfl rfl T_x rfl R_x_1 ?_
    refine g_I C rfl rfl rfl T_nw rfl (I_nw_2) ?_
    refine k_if_le C (t := 60) rfl rfl rfl (fun c49 => ?_) (fun c49 => ?_)
    · skip
      refine k_aload_n C rfl rfl rfl ?_
      refine g_R C rfl rfl rfl T_x rfl R_x_1 ?_
      refine k_iload_n C rfl rfl rfl ?_
      refine p_I C rfl rfl rfl T_nw (Or.inr rfl) rfl ?_
      exact k_vret C rfl rfl (Nat.le_of_ble_eq_true rfl) (Nat.le_of_ble_eq_true rfl) ⟨_, _, rfl, rfl, Fr.rf.i A_nw⟩
    exact absurd (by decide) c49
  refine k_iload_n C rfl rfl rfl ?_
  refine k_bipush C (x := 13) rfl rfl rfl ?_
  refine k_icmp_eq C (t := 32) rfl rfl rfl (fun c9 => ?_) (fun c9 => ?_)
  · skip
    refine k_aload_n C rfl rfl rfl ?_
    refine g_R C rfl rfl rfl T_x rfl R_x_1 ?_
    refine g_I C rfl rfl rfl T_nw rfl (I_nw_1) ?_
    refine k_if_gt C (t := 52) rfl rfl rfl (fun c39 => ?_) (fun c39 => ?_)
    · skip
      exact absurd c39 (by decide)
    refine k_aload_n C rfl rfl rfl ?_
    refine g_R C rfl rfl rfl T_x rfl R_x_1 ?_
    refine g_I C rfl rfl rfl T_nw rfl (I_nw_2) ?_
    refine k_if_le C (t := 60) rfl rfl rfl (fun c49 => ?_) (fun c49 => ?_)
    · skip
      refine k_aload_n C rfl rfl rfl ?_
      refine g_R C rfl rfl rfl T_x rfl R_x_1 ?_
      refine k_iload_n C rfl rfl rfl ?_
      refine p_I C rfl rfl rfl T_nw (Or.inr rfl) rfl ?_
      exact k_vret C rfl rfl (Nat.le_of_ble_eq_true rfl) (Nat.le_of_ble_eq_true rfl) ⟨_, _, rfl, rfl, Fr.rf.i A_nw⟩
    exact absurd (by decide) c49
  refine k_iload_n C rfl rfl rfl ?_
  refine k_bipush C (x := 17) rfl rfl rfl ?_
  refine k_icmp_eq C (t := 32) rfl rfl rfl (fun c15 => ?_) (fun c15 => ?_)
  · skip
    refine k_aload_n C rfl rfl rfl ?_
    refine g_R C rfl rfl rfl T_x rfl R_x_1 ?_
    refine g_I C rfl rfl rfl T_nw rfl (I_nw_1) ?_
    refine k_if_gt C (t := 52) rfl rfl rfl (fun c39 => ?_) (fun c39 => ?_)
    · skip
      exact absurd c39 (by decide)
    refine k_aload_n C rfl rfl rfl ?_
    refine g_R C rfl rfl rfl T_x rfl R_x_1 ?_
    refine g_I C rfl rfl rfl T_nw rfl (I_nw_2) ?_
    refine k_if_le C (t := 60) rfl rfl rfl (fun c49 => ?_) (fun c49 => ?_)
    · skip
      refine k_aload_n C rfl rfl rfl ?_
      refine g_R C rfl rfl rfl T_x rfl R_x_1 ?_
      refine k_iload_n C rfl rfl rfl ?_
      refine p_I C rfl rfl rfl T_nw (Or.inr rfl) rfl ?_
      exact k_vret C rfl rfl (Nat.le_of_ble_eq_true rfl) (Nat.le_of_ble_eq_true rfl) ⟨_, _, rfl, rfl, Fr.rf.i A_nw⟩
    exact absurd (by decide) c49
  refine k_iload_n C rfl rfl rfl ?_
  refine k_bipush C (x := 19) rfl rfl rfl ?_
  refine k_icmp_eq C (t := 32) rfl rfl rfl (fun c21 => ?_) (fun c21 => ?_)
  · skip
    refine k_aload_n C rfl rfl rfl ?_
    refine g_R C rfl rfl rfl T_x rfl R_x_1 ?_
    refine g_I C rfl rfl rfl T_nw rfl (I_nw_1) ?_
    refine k_if_gt C (t := 52) rfl rfl rfl (fun c39 => ?_) (fun c39 => ?_)
    · skip
      exact absurd c39 (by decide)
    refine k_aload_n C rfl rfl rfl ?_
    refine g_R C rfl rfl rfl T_x rfl R_x_1 ?_
    refine g_I C rfl rfl rfl T_nw rfl (I_nw_2) ?_
    refine k_if_le C (t := 60) rfl rfl rfl (fun c49 => ?_) (fun c49 => ?_)
    · skip
      refine k_aload_n C rfl rfl rfl ?_
      refine g_R C rfl rfl rfl T_x rfl R_x_1 ?_
      refine k_iload_n C rfl rfl rfl ?_
      refine p_I C rfl rfl rfl T_nw (Or.inr rfl) rfl ?_
      exact k_vret C rfl rfl (Nat.le_of_ble_eq_true rfl) (Nat.le_of_ble_eq_true rfl) ⟨_, _, rfl, rfl, Fr.rf.i A_nw⟩
    exact absurd (by decide) c49
  rcases hp with h | h | h | h
  · exact absurd h c3
  · exact absurd h c9
  · exact absurd h c15
  · exact absurd h c21
