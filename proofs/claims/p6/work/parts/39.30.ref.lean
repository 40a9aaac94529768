/-! the reference on a new object: what throws, and small calls -/
theorem e_in {d : Nat} {T N : Nat → Nat} {I : IT} {L : LT} {R : RT} {v lo hi : Int32}  : Ex (d + 1) 179 [.int v, .int lo, .int hi] (T, N, I, L, R) 0 0 (pI T N R (fun x9 I9 L9 => x9 = (if lo ≤ v ∧ v ≤ hi then (1 : Int32) else 0) ∧ I9 = I ∧ L9 = L)) := by
  refine ⟨_, rfl, Nat.le_of_ble_eq_true rfl, fun V C S => ?_⟩
  show V 0 [(0, .int v), (1, .int lo), (2, .int hi)] [] (T, N, I, L, R) 0 0
  refine k_iload_n C rfl rfl rfl ?_
  refine k_iload_n C rfl rfl rfl ?_
  refine k_icmp_lt C (t := 14) rfl rfl rfl (fun c2 => ?_) (fun c2 => ?_)
  · skip
    refine k_iconst C (x := 0) rfl rfl rfl ?_
    exact k_iret C rfl (Or.inr ⟨rfl, by first | exact Or.inl rfl | exact Or.inr rfl⟩) (Nat.le_of_ble_eq_true rfl) (Nat.le_of_ble_eq_true rfl) ⟨_, _, _, rfl, rfl, ⟨by first | exact (if_pos ⟨Int32.not_lt.mp c2, Int32.not_lt.mp c7⟩).symm | exact (if_neg (fun h => Int32.not_lt.mpr h.2 c7)).symm | exact (if_neg (fun h => Int32.not_lt.mpr h.1 c2)).symm, rfl, rfl⟩⟩
  refine k_iload_n C rfl rfl rfl ?_
  refine k_iload_n C rfl rfl rfl ?_
  refine k_icmp_gt C (t := 14) rfl rfl rfl (fun c7 => ?_) (fun c7 => ?_)
  · skip
    refine k_iconst C (x := 0) rfl rfl rfl ?_
    exact k_iret C rfl (Or.inr ⟨rfl, by first | exact Or.inl rfl | exact Or.inr rfl⟩) (Nat.le_of_ble_eq_true rfl) (Nat.le_of_ble_eq_true rfl) ⟨_, _, _, rfl, rfl, ⟨by first | exact (if_pos ⟨Int32.not_lt.mp c2, Int32.not_lt.mp c7⟩).symm | exact (if_neg (fun h => Int32.not_lt.mpr h.2 c7)).symm | exact (if_neg (fun h => Int32.not_lt.mpr h.1 c2)).symm, rfl, rfl⟩⟩
  refine k_iconst C (x := 1) rfl rfl rfl ?_
  refine k_goto C (pc2 := 15) rfl rfl ?_
  exact k_iret C rfl (Or.inr ⟨rfl, by first | exact Or.inl rfl | exact Or.inr rfl⟩) (Nat.le_of_ble_eq_true rfl) (Nat.le_of_ble_eq_true rfl) ⟨_, _, _, rfl, rfl, ⟨by first | exact (if_pos ⟨Int32.not_lt.mp c2, Int32.not_lt.mp c7⟩).symm | exact (if_neg (fun h => Int32.not_lt.mpr h.2 c7)).symm | exact (if_neg (fun h => Int32.not_lt.mpr h.1 c2)).symm, rfl, rfl⟩⟩

theorem e_throwsIf1 {d : Nat} {T N : Nat → Nat} {I : IT} {L : LT} {R : RT} {m : Nat} {z c : Int32} (T_m : T m = 13) (hz : z = 1) : Ex (d + 1) 178 [.ref m, .int z, .int c] (T, N, I, L, R) 0 0 (pI T N R (fun x9 I9 L9 => x9 = (1) ∧ I9 = (u2 I m 0 c) ∧ L9 = (L))) := by
  refine ⟨_, rfl, Nat.le_of_ble_eq_true rfl, fun V C S => ?_⟩
  show V 0 [(0, .ref m), (1, .int z), (2, .int c)] [] (T, N, I, L, R) 0 0
  refine k_iload_n C rfl rfl rfl ?_
  refine k_if_eq C (t := 9) rfl rfl rfl (fun c1 => ?_) (fun c1 => ?_)
  · skip
    exact absurd (hz ▸ c1) (by decide)
  refine k_aload_n C rfl rfl rfl ?_
  refine k_iload_n C rfl rfl rfl ?_
  refine p_I C rfl rfl rfl T_m (Or.inr rfl) rfl ?_
  refine k_iload_n C rfl rfl rfl ?_
  exact k_iret C rfl (Or.inr ⟨rfl, Or.inr hz⟩) (Nat.le_of_ble_eq_true rfl) (Nat.le_of_ble_eq_true rfl) ⟨_, _, _, rfl, rfl, ⟨hz, rfl, rfl⟩⟩

theorem e_throwsIf0 {d : Nat} {T N : Nat → Nat} {I : IT} {L : LT} {R : RT} {m : Nat} {z c : Int32} (T_m : T m = 13) (hz : z = 0) : Ex (d + 1) 178 [.ref m, .int z, .int c] (T, N, I, L, R) 0 0 (pI T N R (fun x9 I9 L9 => x9 = (0) ∧ I9 = (I) ∧ L9 = (L))) := by
  refine ⟨_, rfl, Nat.le_of_ble_eq_true rfl, fun V C S => ?_⟩
  show V 0 [(0, .ref m), (1, .int z), (2, .int c)] [] (T, N, I, L, R) 0 0
  refine k_iload_n C rfl rfl rfl ?_
  refine k_if_eq C (t := 9) rfl rfl rfl (fun c1 => ?_) (fun c1 => ?_)
  · skip
    refine k_iload_n C rfl rfl rfl ?_
    exact k_iret C rfl (Or.inr ⟨rfl, Or.inl hz⟩) (Nat.le_of_ble_eq_true rfl) (Nat.le_of_ble_eq_true rfl) ⟨_, _, _, rfl, rfl, ⟨hz, rfl, rfl⟩⟩
  exact absurd hz c1

theorem e_noForm1 {d : Nat} {T N : Nat → Nat} {I : IT} {L : LT} {R : RT} {m w : Nat} {n : Int32} (T_m : T m = 13) (R_m_1 : R m 1 = some w) (T_w : T w = 20) (N_w : N w = 4007) (I_w_1 : I w 1 = 0) : Ex (d + 2) 184 [.ref m, .int n] (T, N, I, L, R) 0 0 (pI T N R (fun x9 I9 L9 => x9 = (1) ∧ I9 = I ∧ L9 = L)) := by
  refine ⟨_, rfl, Nat.le_of_ble_eq_true rfl, fun V C S => ?_⟩
  show V 0 [(0, .ref m), (1, .int n)] [] (T, N, I, L, R) 0 0
  refine k_iload_n C rfl rfl rfl ?_
  refine k_iconst C (x := 0) rfl rfl rfl ?_
  refine k_aload_n C rfl rfl rfl ?_
  refine g_R C rfl rfl rfl T_m rfl R_m_1 ?_
  refine k_iconst C (x := 1) rfl rfl rfl ?_
  refine a_I C rfl rfl T_w (vin (n := 1) rfl (by rw [N_w]; exact Nat.le_of_ble_eq_true rfl) (by rw [N_w]; exact Nat.le_of_ble_eq_true rfl)) I_w_1 ?_
  refine k_iconst C (x := 1) rfl rfl rfl ?_
  refine k_isub C rfl rfl ?_
  refine c_SI C e_in rfl rfl rfl rfl rfl rfl rfl (Nat.le_of_ble_eq_true rfl) (Nat.le_of_ble_eq_true rfl) (Nat.le_of_ble_eq_true rfl) ?_
  rintro _ _ _ ⟨rfl, rfl, rfl⟩
  refine k_if_ne C (t := 20) rfl rfl rfl (fun c13 => ?_) (fun c13 => ?_)
  · skip
    refine absurd ?_ c13
    rw [if_neg (fun h => absurd (Int32.le_trans h.1 h.2) (by decide))]
  refine k_iconst C (x := 1) rfl rfl rfl ?_
  refine k_goto C (pc2 := 21) rfl rfl ?_
  exact k_iret C rfl (Or.inr ⟨rfl, Or.inr rfl⟩) (Nat.le_of_ble_eq_true rfl) (Nat.le_of_ble_eq_true rfl) ⟨_, _, _, rfl, rfl, ⟨rfl, rfl, rfl⟩⟩

theorem e_noTable1 {d : Nat} {T N : Nat → Nat} {I : IT} {L : LT} {R : RT} {m w : Nat} {n : Int32} (T_m : T m = 13) (R_m_1 : R m 1 = some w) (T_w : T w = 20) (N_w : N w = 4007) (I_w_2 : I w 2 = 0) : Ex (d + 2) 185 [.ref m, .int n] (T, N, I, L, R) 0 0 (pI T N R (fun x9 I9 L9 => x9 = (1) ∧ I9 = I ∧ L9 = L)) := by
  refine ⟨_, rfl, Nat.le_of_ble_eq_true rfl, fun V C S => ?_⟩
  show V 0 [(0, .ref m), (1, .int n)] [] (T, N, I, L, R) 0 0
  refine k_iload_n C rfl rfl rfl ?_
  refine k_iconst C (x := 0) rfl rfl rfl ?_
  refine k_aload_n C rfl rfl rfl ?_
  refine g_R C rfl rfl rfl T_m rfl R_m_1 ?_
  refine k_iconst C (x := 2) rfl rfl rfl ?_
  refine a_I C rfl rfl T_w (vin (n := 2) rfl (by rw [N_w]; exact Nat.le_of_ble_eq_true rfl) (by rw [N_w]; exact Nat.le_of_ble_eq_true rfl)) I_w_2 ?_
  refine k_iconst C (x := 1) rfl rfl rfl ?_
  refine k_isub C rfl rfl ?_
  refine c_SI C e_in rfl rfl rfl rfl rfl rfl rfl (Nat.le_of_ble_eq_true rfl) (Nat.le_of_ble_eq_true rfl) (Nat.le_of_ble_eq_true rfl) ?_
  rintro _ _ _ ⟨rfl, rfl, rfl⟩
  refine k_if_ne C (t := 20) rfl rfl rfl (fun c13 => ?_) (fun c13 => ?_)
  · skip
    refine absurd ?_ c13
    rw [if_neg (fun h => absurd (Int32.le_trans h.1 h.2) (by decide))]
  refine k_iconst C (x := 1) rfl rfl rfl ?_
  refine k_goto C (pc2 := 21) rfl rfl ?_
  exact k_iret C rfl (Or.inr ⟨rfl, Or.inr rfl⟩) (Nat.le_of_ble_eq_true rfl) (Nat.le_of_ble_eq_true rfl) ⟨_, _, _, rfl, rfl, ⟨rfl, rfl, rfl⟩⟩

theorem e_noSigns1 {d : Nat} {T N : Nat → Nat} {I : IT} {L : LT} {R : RT} {m w : Nat} {n : Int32} (T_m : T m = 13) (R_m_1 : R m 1 = some w) (T_w : T w = 20) (N_w : N w = 4007) (I_w_3 : I w 3 = 0) : Ex (d + 2) 186 [.ref m, .int n] (T, N, I, L, R) 0 0 (pI T N R (fun x9 I9 L9 => x9 = (1) ∧ I9 = I ∧ L9 = L)) := by
  refine ⟨_, rfl, Nat.le_of_ble_eq_true rfl, fun V C S => ?_⟩
  show V 0 [(0, .ref m), (1, .int n)] [] (T, N, I, L, R) 0 0
  refine k_iload_n C rfl rfl rfl ?_
  refine k_iconst C (x := 0) rfl rfl rfl ?_
  refine k_aload_n C rfl rfl rfl ?_
  refine g_R C rfl rfl rfl T_m rfl R_m_1 ?_
  refine k_iconst C (x := 3) rfl rfl rfl ?_
  refine a_I C rfl rfl T_w (vin (n := 3) rfl (by rw [N_w]; exact Nat.le_of_ble_eq_true rfl) (by rw [N_w]; exact Nat.le_of_ble_eq_true rfl)) I_w_3 ?_
  refine k_iconst C (x := 1) rfl rfl rfl ?_
  refine k_isub C rfl rfl ?_
  refine c_SI C e_in rfl rfl rfl rfl rfl rfl rfl (Nat.le_of_ble_eq_true rfl) (Nat.le_of_ble_eq_true rfl) (Nat.le_of_ble_eq_true rfl) ?_
  rintro _ _ _ ⟨rfl, rfl, rfl⟩
  refine k_if_ne C (t := 20) rfl rfl rfl (fun c13 => ?_) (fun c13 => ?_)
  · skip
    refine absurd ?_ c13
    rw [if_neg (fun h => absurd (Int32.le_trans h.1 h.2) (by decide))]
  refine k_iconst C (x := 1) rfl rfl rfl ?_
  refine k_goto C (pc2 := 21) rfl rfl ?_
  exact k_iret C rfl (Or.inr ⟨rfl, Or.inr rfl⟩) (Nat.le_of_ble_eq_true rfl) (Nat.le_of_ble_eq_true rfl) ⟨_, _, _, rfl, rfl, ⟨rfl, rfl, rfl⟩⟩

theorem e_thrown {d : Nat} {T N : Nat → Nat} {I : IT} {L : LT} {R : RT} {m : Nat} (T_m : T m = 13) : Ex (d + 1) 177 [.ref m] (T, N, I, L, R) 0 0 (pI T N R (fun x9 I9 L9 => x9 = (I m 0) ∧ I9 = I ∧ L9 = L)) := by
  refine ⟨_, rfl, Nat.le_of_ble_eq_true rfl, fun V C S => ?_⟩
  show V 0 [(0, .ref m)] [] (T, N, I, L, R) 0 0
  refine k_aload_n C rfl rfl rfl ?_
  refine g_I C rfl rfl rfl T_m rfl (rfl) ?_
  exact k_iret C rfl (Or.inl rfl) (Nat.le_of_ble_eq_true rfl) (Nat.le_of_ble_eq_true rfl) ⟨_, _, _, rfl, rfl, ⟨rfl, rfl, rfl⟩⟩

theorem e_m_look0 {d : Nat} {T N : Nat → Nat} {I : IT} {L : LT} {R : RT} {A : Nat → Prop} {m w : Nat} {n0 n1 : Int32} (T_m : T m = 13) (R_m_1 : R m 1 = some w) (T_w : T w = 20) (N_w : N w = 4007) (A_m : A m) (I_w_1 : I w 1 = 0) : Ex (d + 3) 241 [.ref m, .int n0, .int n1] (T, N, I, L, R) 0 0 (pI T N R (fun x9 I9 L9 => Fr A I L I9 L9 ∧ I9 m 0 = 1)) := by
  refine ⟨_, rfl, Nat.le_of_ble_eq_true rfl, fun V C S => ?_⟩
  show V 0 [(0, .ref m), (1, .int n0), (2, .int n1)] [] (T, N, I, L, R) 0 0
  refine k_aload_n C rfl rfl rfl ?_
  refine k_iconst C (x := 0) rfl rfl rfl ?_
  refine p_I C rfl rfl rfl T_m (Or.inr rfl) rfl ?_
  refine k_aload_n C rfl rfl rfl ?_
  refine k_aload_n C rfl rfl rfl ?_
  refine k_iload_n C rfl rfl rfl ?_
  refine c_VI C (e_noForm1 T_m R_m_1 T_w N_w ((u2_a (t_nq T_w T_m (by decide))).trans (I_w_1)) ) rfl rfl rfl rfl rfl ⟨_, rfl, rfl, T_m, Nat.le_of_ble_eq_true rfl⟩ rfl rfl (Nat.le_of_ble_eq_true rfl) (Nat.le_of_ble_eq_true rfl) (Nat.le_of_ble_eq_true rfl) ?_
  rintro _ _ _ ⟨rfl, rfl, rfl⟩
  refine k_iconst C (x := 1) rfl rfl rfl ?_
  refine c_VI C (e_throwsIf1 T_m rfl) rfl rfl rfl rfl rfl ⟨_, rfl, rfl, T_m, Nat.le_of_ble_eq_true rfl⟩ rfl rfl (Nat.le_of_ble_eq_true rfl) (Nat.le_of_ble_eq_true rfl) (Nat.le_of_ble_eq_true rfl) ?_
  rintro _ _ _ ⟨rfl, rfl, rfl⟩
  refine k_if_eq C (t := 20) rfl rfl rfl (fun c15 => absurd c15 (by decide)) (fun _ => ?_)
  refine k_iconst C (x := 0) rfl rfl rfl ?_
  exact k_iret C rfl (Or.inl rfl) (Nat.le_of_ble_eq_true rfl) (Nat.le_of_ble_eq_true rfl) ⟨_, _, _, rfl, rfl, ⟨(Fr.i (Fr.i Fr.rf A_m) A_m), u2_s⟩⟩

theorem e_m_at0 {d : Nat} {T N : Nat → Nat} {I : IT} {L : LT} {R : RT} {A : Nat → Prop} {m w : Nat} {n0 n1 n2 : Int32} (T_m : T m = 13) (R_m_1 : R m 1 = some w) (T_w : T w = 20) (N_w : N w = 4007) (A_m : A m) (I_w_1 : I w 1 = 0) : Ex (d + 3) 242 [.ref m, .int n0, .int n1, .int n2] (T, N, I, L, R) 0 0 (pI T N R (fun x9 I9 L9 => Fr A I L I9 L9 ∧ I9 m 0 = 1)) := by
  refine ⟨_, rfl, Nat.le_of_ble_eq_true rfl, fun V C S => ?_⟩
  show V 0 [(0, .ref m), (1, .int n0), (2, .int n1), (3, .int n2)] [] (T, N, I, L, R) 0 0
  refine k_aload_n C rfl rfl rfl ?_
  refine k_iconst C (x := 0) rfl rfl rfl ?_
  refine p_I C rfl rfl rfl T_m (Or.inr rfl) rfl ?_
  refine k_aload_n C rfl rfl rfl ?_
  refine k_aload_n C rfl rfl rfl ?_
  refine k_iload_n C rfl rfl rfl ?_
  refine c_VI C (e_noForm1 T_m R_m_1 T_w N_w ((u2_a (t_nq T_w T_m (by decide))).trans (I_w_1)) ) rfl rfl rfl rfl rfl ⟨_, rfl, rfl, T_m, Nat.le_of_ble_eq_true rfl⟩ rfl rfl (Nat.le_of_ble_eq_true rfl) (Nat.le_of_ble_eq_true rfl) (Nat.le_of_ble_eq_true rfl) ?_
  rintro _ _ _ ⟨rfl, rfl, rfl⟩
  refine k_iconst C (x := 1) rfl rfl rfl ?_
  refine c_VI C (e_throwsIf1 T_m rfl) rfl rfl rfl rfl rfl ⟨_, rfl, rfl, T_m, Nat.le_of_ble_eq_true rfl⟩ rfl rfl (Nat.le_of_ble_eq_true rfl) (Nat.le_of_ble_eq_true rfl) (Nat.le_of_ble_eq_true rfl) ?_
  rintro _ _ _ ⟨rfl, rfl, rfl⟩
  refine k_if_eq C (t := 20) rfl rfl rfl (fun c15 => absurd c15 (by decide)) (fun _ => ?_)
  refine k_iconst C (x := 0) rfl rfl rfl ?_
  exact k_iret C rfl (Or.inl rfl) (Nat.le_of_ble_eq_true rfl) (Nat.le_of_ble_eq_true rfl) ⟨_, _, _, rfl, rfl, ⟨(Fr.i (Fr.i Fr.rf A_m) A_m), u2_s⟩⟩

theorem e_m_det0 {d : Nat} {T N : Nat → Nat} {I : IT} {L : LT} {R : RT} {A : Nat → Prop} {m w : Nat} {n0 : Int32} (T_m : T m = 13) (R_m_1 : R m 1 = some w) (T_w : T w = 20) (N_w : N w = 4007) (A_m : A m) (I_w_2 : I w 2 = 0) : Ex (d + 3) 240 [.ref m, .int n0] (T, N, I, L, R) 0 0 (pI T N R (fun x9 I9 L9 => Fr A I L I9 L9 ∧ I9 m 0 = 1)) := by
  refine ⟨_, rfl, Nat.le_of_ble_eq_true rfl, fun V C S => ?_⟩
  show V 0 [(0, .ref m), (1, .int n0)] [] (T, N, I, L, R) 0 0
  refine k_aload_n C rfl rfl rfl ?_
  refine k_iconst C (x := 0) rfl rfl rfl ?_
  refine p_I C rfl rfl rfl T_m (Or.inr rfl) rfl ?_
  refine k_aload_n C rfl rfl rfl ?_
  refine k_aload_n C rfl rfl rfl ?_
  refine k_iload_n C rfl rfl rfl ?_
  refine c_VI C (e_noTable1 T_m R_m_1 T_w N_w ((u2_a (t_nq T_w T_m (by decide))).trans (I_w_2)) ) rfl rfl rfl rfl rfl ⟨_, rfl, rfl, T_m, Nat.le_of_ble_eq_true rfl⟩ rfl rfl (Nat.le_of_ble_eq_true rfl) (Nat.le_of_ble_eq_true rfl) (Nat.le_of_ble_eq_true rfl) ?_
  rintro _ _ _ ⟨rfl, rfl, rfl⟩
  refine k_iconst C (x := 1) rfl rfl rfl ?_
  refine c_VI C (e_throwsIf1 T_m rfl) rfl rfl rfl rfl rfl ⟨_, rfl, rfl, T_m, Nat.le_of_ble_eq_true rfl⟩ rfl rfl (Nat.le_of_ble_eq_true rfl) (Nat.le_of_ble_eq_true rfl) (Nat.le_of_ble_eq_true rfl) ?_
  rintro _ _ _ ⟨rfl, rfl, rfl⟩
  refine k_if_eq C (t := 20) rfl rfl rfl (fun c15 => absurd c15 (by decide)) (fun _ => ?_)
  refine k_iconst C (x := 0) rfl rfl rfl ?_
  exact k_iret C rfl (Or.inl rfl) (Nat.le_of_ble_eq_true rfl) (Nat.le_of_ble_eq_true rfl) ⟨_, _, _, rfl, rfl, ⟨(Fr.i (Fr.i Fr.rf A_m) A_m), u2_s⟩⟩

theorem e_m_told0 {d : Nat} {T N : Nat → Nat} {I : IT} {L : LT} {R : RT} {A : Nat → Prop} {m w : Nat} {n0 n1 : Int32} (T_m : T m = 13) (R_m_1 : R m 1 = some w) (T_w : T w = 20) (N_w : N w = 4007) (A_m : A m) (I_w_2 : I w 2 = 0) : Ex (d + 3) 239 [.ref m, .int n0, .int n1] (T, N, I, L, R) 0 0 (pI T N R (fun x9 I9 L9 => Fr A I L I9 L9 ∧ I9 m 0 = 1)) := by
  refine ⟨_, rfl, Nat.le_of_ble_eq_true rfl, fun V C S => ?_⟩
  show V 0 [(0, .ref m), (1, .int n0), (2, .int n1)] [] (T, N, I, L, R) 0 0
  refine k_aload_n C rfl rfl rfl ?_
  refine k_iconst C (x := 0) rfl rfl rfl ?_
  refine p_I C rfl rfl rfl T_m (Or.inr rfl) rfl ?_
  refine k_aload_n C rfl rfl rfl ?_
  refine k_aload_n C rfl rfl rfl ?_
  refine k_iload_n C rfl rfl rfl ?_
  refine c_VI C (e_noTable1 T_m R_m_1 T_w N_w ((u2_a (t_nq T_w T_m (by decide))).trans (I_w_2)) ) rfl rfl rfl rfl rfl ⟨_, rfl, rfl, T_m, Nat.le_of_ble_eq_true rfl⟩ rfl rfl (Nat.le_of_ble_eq_true rfl) (Nat.le_of_ble_eq_true rfl) (Nat.le_of_ble_eq_true rfl) ?_
  rintro _ _ _ ⟨rfl, rfl, rfl⟩
  refine k_iconst C (x := 1) rfl rfl rfl ?_
  refine c_VI C (e_throwsIf1 T_m rfl) rfl rfl rfl rfl rfl ⟨_, rfl, rfl, T_m, Nat.le_of_ble_eq_true rfl⟩ rfl rfl (Nat.le_of_ble_eq_true rfl) (Nat.le_of_ble_eq_true rfl) (Nat.le_of_ble_eq_true rfl) ?_
  rintro _ _ _ ⟨rfl, rfl, rfl⟩
  refine k_if_eq C (t := 22) rfl rfl rfl (fun c15 => absurd c15 (by decide)) (fun _ => ?_)
  refine k_iconst C (x := 0) rfl rfl rfl ?_
  refine k_goto C (pc2 := 41) rfl rfl ?_
  exact k_iret C rfl (Or.inl rfl) (Nat.le_of_ble_eq_true rfl) (Nat.le_of_ble_eq_true rfl) ⟨_, _, _, rfl, rfl, ⟨(Fr.i (Fr.i Fr.rf A_m) A_m), u2_s⟩⟩

theorem e_m_join0 {d : Nat} {T N : Nat → Nat} {I : IT} {L : LT} {R : RT} {A : Nat → Prop} {m w : Nat} {n0 n1 : Int32} (T_m : T m = 13) (R_m_1 : R m 1 = some w) (T_w : T w = 20) (N_w : N w = 4007) (A_m : A m) (I_w_2 : I w 2 = 0) : Ex (d + 3) 236 [.ref m, .int n0, .int n1] (T, N, I, L, R) 0 0 (pI T N R (fun x9 I9 L9 => Fr A I L I9 L9 ∧ I9 m 0 = 1)) := by
  refine ⟨_, rfl, Nat.le_of_ble_eq_true rfl, fun V C S => ?_⟩
  show V 0 [(0, .ref m), (1, .int n0), (2, .int n1)] [] (T, N, I, L, R) 0 0
  refine k_aload_n C rfl rfl rfl ?_
  refine k_iconst C (x := 0) rfl rfl rfl ?_
  refine p_I C rfl rfl rfl T_m (Or.inr rfl) rfl ?_
  refine k_aload_n C rfl rfl rfl ?_
  refine k_aload_n C rfl rfl rfl ?_
  refine k_iload_n C rfl rfl rfl ?_
  refine c_VI C (e_noTable1 T_m R_m_1 T_w N_w ((u2_a (t_nq T_w T_m (by decide))).trans (I_w_2)) ) rfl rfl rfl rfl rfl ⟨_, rfl, rfl, T_m, Nat.le_of_ble_eq_true rfl⟩ rfl rfl (Nat.le_of_ble_eq_true rfl) (Nat.le_of_ble_eq_true rfl) (Nat.le_of_ble_eq_true rfl) ?_
  rintro _ _ _ ⟨rfl, rfl, rfl⟩
  refine k_if_ne C (t := 22) rfl rfl rfl (fun _ => ?_) (fun c11 => absurd (by decide) c11)
  refine k_iconst C (x := 1) rfl rfl rfl ?_
  refine k_goto C (pc2 := 27) rfl rfl ?_
  refine k_iconst C (x := 1) rfl rfl rfl ?_
  refine c_VI C (e_throwsIf1 T_m rfl) rfl rfl rfl rfl rfl ⟨_, rfl, rfl, T_m, Nat.le_of_ble_eq_true rfl⟩ rfl rfl (Nat.le_of_ble_eq_true rfl) (Nat.le_of_ble_eq_true rfl) (Nat.le_of_ble_eq_true rfl) ?_
  rintro _ _ _ ⟨rfl, rfl, rfl⟩
  refine k_if_ne C (t := 58) rfl rfl rfl (fun _ => ?_) (fun c31 => absurd (by decide) c31)
  refine k_iconst C (x := 0) rfl rfl rfl ?_
  exact k_iret C rfl (Or.inl rfl) (Nat.le_of_ble_eq_true rfl) (Nat.le_of_ble_eq_true rfl) ⟨_, _, _, rfl, rfl, ⟨(Fr.i (Fr.i Fr.rf A_m) A_m), u2_s⟩⟩

theorem e_m_turn0 {d : Nat} {T N : Nat → Nat} {I : IT} {L : LT} {R : RT} {A : Nat → Prop} {m w : Nat} {n0 : Int32} (T_m : T m = 13) (R_m_1 : R m 1 = some w) (T_w : T w = 20) (N_w : N w = 4007) (A_m : A m) (I_w_2 : I w 2 = 0) : Ex (d + 3) 238 [.ref m, .int n0] (T, N, I, L, R) 0 0 (pI T N R (fun x9 I9 L9 => Fr A I L I9 L9 ∧ I9 m 0 = 1)) := by
  refine ⟨_, rfl, Nat.le_of_ble_eq_true rfl, fun V C S => ?_⟩
  show V 0 [(0, .ref m), (1, .int n0)] [] (T, N, I, L, R) 0 0
  refine k_aload_n C rfl rfl rfl ?_
  refine k_iconst C (x := 0) rfl rfl rfl ?_
  refine p_I C rfl rfl rfl T_m (Or.inr rfl) rfl ?_
  refine k_aload_n C rfl rfl rfl ?_
  refine k_aload_n C rfl rfl rfl ?_
  refine k_iload_n C rfl rfl rfl ?_
  refine c_VI C (e_noTable1 T_m R_m_1 T_w N_w ((u2_a (t_nq T_w T_m (by decide))).trans (I_w_2)) ) rfl rfl rfl rfl rfl ⟨_, rfl, rfl, T_m, Nat.le_of_ble_eq_true rfl⟩ rfl rfl (Nat.le_of_ble_eq_true rfl) (Nat.le_of_ble_eq_true rfl) (Nat.le_of_ble_eq_true rfl) ?_
  rintro _ _ _ ⟨rfl, rfl, rfl⟩
  refine k_iconst C (x := 1) rfl rfl rfl ?_
  refine c_VI C (e_throwsIf1 T_m rfl) rfl rfl rfl rfl rfl ⟨_, rfl, rfl, T_m, Nat.le_of_ble_eq_true rfl⟩ rfl rfl (Nat.le_of_ble_eq_true rfl) (Nat.le_of_ble_eq_true rfl) (Nat.le_of_ble_eq_true rfl) ?_
  rintro _ _ _ ⟨rfl, rfl, rfl⟩
  refine k_if_ne C (t := 42) rfl rfl rfl (fun _ => ?_) (fun c15 => absurd (by decide) c15)
  refine k_iconst C (x := 0) rfl rfl rfl ?_
  exact k_iret C rfl (Or.inl rfl) (Nat.le_of_ble_eq_true rfl) (Nat.le_of_ble_eq_true rfl) ⟨_, _, _, rfl, rfl, ⟨(Fr.i (Fr.i Fr.rf A_m) A_m), u2_s⟩⟩

theorem e_m_mix0 {d : Nat} {T N : Nat → Nat} {I : IT} {L : LT} {R : RT} {A : Nat → Prop} {m w : Nat} {n0 n1 : Int32} (T_m : T m = 13) (R_m_1 : R m 1 = some w) (T_w : T w = 20) (N_w : N w = 4007) (A_m : A m) (I_w_1 : I w 1 = 0) (I_w_2 : I w 2 = 0) : Ex (d + 3) 244 [.ref m, .int n0, .int n1] (T, N, I, L, R) 0 0 (pI T N R (fun x9 I9 L9 => Fr A I L I9 L9 ∧ I9 m 0 = 1)) := by
  refine ⟨_, rfl, Nat.le_of_ble_eq_true rfl, fun V C S => ?_⟩
  show V 0 [(0, .ref m), (1, .int n0), (2, .int n1)] [] (T, N, I, L, R) 0 0
  refine k_aload_n C rfl rfl rfl ?_
  refine k_iconst C (x := 0) rfl rfl rfl ?_
  refine p_I C rfl rfl rfl T_m (Or.inr rfl) rfl ?_
  refine k_aload_n C rfl rfl rfl ?_
  refine k_aload_n C rfl rfl rfl ?_
  refine k_iload_n C rfl rfl rfl ?_
  refine c_VI C (e_noForm1 T_m R_m_1 T_w N_w ((u2_a (t_nq T_w T_m (by decide))).trans (I_w_1)) ) rfl rfl rfl rfl rfl ⟨_, rfl, rfl, T_m, Nat.le_of_ble_eq_true rfl⟩ rfl rfl (Nat.le_of_ble_eq_true rfl) (Nat.le_of_ble_eq_true rfl) (Nat.le_of_ble_eq_true rfl) ?_
  rintro _ _ _ ⟨rfl, rfl, rfl⟩
  refine k_if_ne C (t := 22) rfl rfl rfl (fun _ => ?_) (fun c11 => absurd (by decide) c11)
  refine k_iconst C (x := 1) rfl rfl rfl ?_
  refine k_goto C (pc2 := 27) rfl rfl ?_
  refine k_iconst C (x := 1) rfl rfl rfl ?_
  refine c_VI C (e_throwsIf1 T_m rfl) rfl rfl rfl rfl rfl ⟨_, rfl, rfl, T_m, Nat.le_of_ble_eq_true rfl⟩ rfl rfl (Nat.le_of_ble_eq_true rfl) (Nat.le_of_ble_eq_true rfl) (Nat.le_of_ble_eq_true rfl) ?_
  rintro _ _ _ ⟨rfl, rfl, rfl⟩
  refine k_if_eq C (t := 36) rfl rfl rfl (fun c31 => absurd c31 (by decide)) (fun _ => ?_)
  refine k_iconst C (x := 0) rfl rfl rfl ?_
  exact k_iret C rfl (Or.inr ⟨rfl, Or.inl rfl⟩) (Nat.le_of_ble_eq_true rfl) (Nat.le_of_ble_eq_true rfl) ⟨_, _, _, rfl, rfl, ⟨(Fr.i (Fr.i Fr.rf A_m) A_m), u2_s⟩⟩

theorem e_m_value0 {d : Nat} {T N : Nat → Nat} {I : IT} {L : LT} {R : RT} {A : Nat → Prop} {m w : Nat} {n0 n1 n2 : Int32} (T_m : T m = 13) (R_m_1 : R m 1 = some w) (T_w : T w = 20) (N_w : N w = 4007) (A_m : A m) (I_w_1 : I w 1 = 0) (I_w_3 : I w 3 = 0) : Ex (d + 3) 253 [.ref m, .int n0, .int n1, .int n2] (T, N, I, L, R) 0 0 (pI T N R (fun x9 I9 L9 => Fr A I L I9 L9 ∧ I9 m 0 = 1)) := by
  refine ⟨_, rfl, Nat.le_of_ble_eq_true rfl, fun V C S => ?_⟩
  show V 0 [(0, .ref m), (1, .int n0), (2, .int n1), (3, .int n2)] [] (T, N, I, L, R) 0 0
  refine k_aload_n C rfl rfl rfl ?_
  refine k_iconst C (x := 0) rfl rfl rfl ?_
  refine p_I C rfl rfl rfl T_m (Or.inr rfl) rfl ?_
  refine k_aload_n C rfl rfl rfl ?_
  refine k_aload_n C rfl rfl rfl ?_
  refine k_iload_n C rfl rfl rfl ?_
  refine c_VI C (e_noSigns1 T_m R_m_1 T_w N_w ((u2_a (t_nq T_w T_m (by decide))).trans (I_w_3)) ) rfl rfl rfl rfl rfl ⟨_, rfl, rfl, T_m, Nat.le_of_ble_eq_true rfl⟩ rfl rfl (Nat.le_of_ble_eq_true rfl) (Nat.le_of_ble_eq_true rfl) (Nat.le_of_ble_eq_true rfl) ?_
  rintro _ _ _ ⟨rfl, rfl, rfl⟩
  refine k_if_ne C (t := 22) rfl rfl rfl (fun _ => ?_) (fun c11 => absurd (by decide) c11)
  refine k_iconst C (x := 1) rfl rfl rfl ?_
  refine k_goto C (pc2 := 27) rfl rfl ?_
  refine k_iconst C (x := 1) rfl rfl rfl ?_
  refine c_VI C (e_throwsIf1 T_m rfl) rfl rfl rfl rfl rfl ⟨_, rfl, rfl, T_m, Nat.le_of_ble_eq_true rfl⟩ rfl rfl (Nat.le_of_ble_eq_true rfl) (Nat.le_of_ble_eq_true rfl) (Nat.le_of_ble_eq_true rfl) ?_
  rintro _ _ _ ⟨rfl, rfl, rfl⟩
  refine k_if_eq C (t := 36) rfl rfl rfl (fun c31 => absurd c31 (by decide)) (fun _ => ?_)
  refine k_iconst C (x := 0) rfl rfl rfl ?_
  exact k_iret C rfl (Or.inl rfl) (Nat.le_of_ble_eq_true rfl) (Nat.le_of_ble_eq_true rfl) ⟨_, _, _, rfl, rfl, ⟨(Fr.i (Fr.i Fr.rf A_m) A_m), u2_s⟩⟩

theorem e_m_rank0 {d : Nat} {T N : Nat → Nat} {I : IT} {L : LT} {R : RT} {A : Nat → Prop} {m w : Nat} {n0 n1 : Int32} (T_m : T m = 13) (R_m_1 : R m 1 = some w) (T_w : T w = 20) (N_w : N w = 4007) (A_m : A m) (I_w_3 : I w 3 = 0) : Ex (d + 3) 255 [.ref m, .int n0, .int n1] (T, N, I, L, R) 0 0 (pI T N R (fun x9 I9 L9 => Fr A I L I9 L9 ∧ I9 m 0 = 1)) := by
  refine ⟨_, rfl, Nat.le_of_ble_eq_true rfl, fun V C S => ?_⟩
  show V 0 [(0, .ref m), (1, .int n0), (2, .int n1)] [] (T, N, I, L, R) 0 0
  refine k_aload_n C rfl rfl rfl ?_
  refine k_iconst C (x := 0) rfl rfl rfl ?_
  refine p_I C rfl rfl rfl T_m (Or.inr rfl) rfl ?_
  refine k_aload_n C rfl rfl rfl ?_
  refine k_aload_n C rfl rfl rfl ?_
  refine k_iload_n C rfl rfl rfl ?_
  refine c_VI C (e_noSigns1 T_m R_m_1 T_w N_w ((u2_a (t_nq T_w T_m (by decide))).trans (I_w_3)) ) rfl rfl rfl rfl rfl ⟨_, rfl, rfl, T_m, Nat.le_of_ble_eq_true rfl⟩ rfl rfl (Nat.le_of_ble_eq_true rfl) (Nat.le_of_ble_eq_true rfl) (Nat.le_of_ble_eq_true rfl) ?_
  rintro _ _ _ ⟨rfl, rfl, rfl⟩
  refine k_iconst C (x := 1) rfl rfl rfl ?_
  refine c_VI C (e_throwsIf1 T_m rfl) rfl rfl rfl rfl rfl ⟨_, rfl, rfl, T_m, Nat.le_of_ble_eq_true rfl⟩ rfl rfl (Nat.le_of_ble_eq_true rfl) (Nat.le_of_ble_eq_true rfl) (Nat.le_of_ble_eq_true rfl) ?_
  rintro _ _ _ ⟨rfl, rfl, rfl⟩
  refine k_if_eq C (t := 22) rfl rfl rfl (fun c15 => absurd c15 (by decide)) (fun _ => ?_)
  refine k_iconst C (x := 0) rfl rfl rfl ?_
  refine k_goto C (pc2 := 28) rfl rfl ?_
  exact k_iret C rfl (Or.inl rfl) (Nat.le_of_ble_eq_true rfl) (Nat.le_of_ble_eq_true rfl) ⟨_, _, _, rfl, rfl, ⟨(Fr.i (Fr.i Fr.rf A_m) A_m), u2_s⟩⟩

theorem e_m_stays0 {d : Nat} {T N : Nat → Nat} {I : IT} {L : LT} {R : RT} {A : Nat → Prop} {m w : Nat} {n0 n1 n2 : Int32} (T_m : T m = 13) (R_m_1 : R m 1 = some w) (T_w : T w = 20) (N_w : N w = 4007) (A_m : A m) (I_w_1 : I w 1 = 0) (I_w_2 : I w 2 = 0) (I_w_3 : I w 3 = 0) : Ex (d + 3) 256 [.ref m, .int n0, .int n1, .int n2] (T, N, I, L, R) 0 0 (pI T N R (fun x9 I9 L9 => Fr A I L I9 L9 ∧ I9 m 0 = 1)) := by
  refine ⟨_, rfl, Nat.le_of_ble_eq_true rfl, fun V C S => ?_⟩
  show V 0 [(0, .ref m), (1, .int n0), (2, .int n1), (3, .int n2)] [] (T, N, I, L, R) 0 0
  refine k_aload_n C rfl rfl rfl ?_
  refine k_iconst C (x := 0) rfl rfl rfl ?_
  refine p_I C rfl rfl rfl T_m (Or.inr rfl) rfl ?_
  refine k_aload_n C rfl rfl rfl ?_
  refine k_aload_n C rfl rfl rfl ?_
  refine k_iload_n C rfl rfl rfl ?_
  refine c_VI C (e_noSigns1 T_m R_m_1 T_w N_w ((u2_a (t_nq T_w T_m (by decide))).trans (I_w_3)) ) rfl rfl rfl rfl rfl ⟨_, rfl, rfl, T_m, Nat.le_of_ble_eq_true rfl⟩ rfl rfl (Nat.le_of_ble_eq_true rfl) (Nat.le_of_ble_eq_true rfl) (Nat.le_of_ble_eq_true rfl) ?_
  rintro _ _ _ ⟨rfl, rfl, rfl⟩
  refine k_if_ne C (t := 30) rfl rfl rfl (fun _ => ?_) (fun c11 => absurd (by decide) c11)
  refine k_iconst C (x := 1) rfl rfl rfl ?_
  refine k_goto C (pc2 := 35) rfl rfl ?_
  refine k_iconst C (x := 1) rfl rfl rfl ?_
  refine c_VI C (e_throwsIf1 T_m rfl) rfl rfl rfl rfl rfl ⟨_, rfl, rfl, T_m, Nat.le_of_ble_eq_true rfl⟩ rfl rfl (Nat.le_of_ble_eq_true rfl) (Nat.le_of_ble_eq_true rfl) (Nat.le_of_ble_eq_true rfl) ?_
  rintro _ _ _ ⟨rfl, rfl, rfl⟩
  refine k_if_eq C (t := 44) rfl rfl rfl (fun c39 => absurd c39 (by decide)) (fun _ => ?_)
  refine k_iconst C (x := 0) rfl rfl rfl ?_
  exact k_iret C rfl (Or.inr ⟨rfl, Or.inl rfl⟩) (Nat.le_of_ble_eq_true rfl) (Nat.le_of_ble_eq_true rfl) ⟨_, _, _, rfl, rfl, ⟨(Fr.i (Fr.i Fr.rf A_m) A_m), u2_s⟩⟩

theorem e_m_agree0 {d : Nat} {T N : Nat → Nat} {I : IT} {L : LT} {R : RT} {A : Nat → Prop} {m w : Nat} {n0 n1 n2 : Int32} (T_m : T m = 13) (R_m_1 : R m 1 = some w) (T_w : T w = 20) (N_w : N w = 4007) (A_m : A m) (I_w_3 : I w 3 = 0) : Ex (d + 3) 257 [.ref m, .int n0, .int n1, .int n2] (T, N, I, L, R) 0 0 (pI T N R (fun x9 I9 L9 => Fr A I L I9 L9 ∧ I9 m 0 = 1)) := by
  refine ⟨_, rfl, Nat.le_of_ble_eq_true rfl, fun V C S => ?_⟩
  show V 0 [(0, .ref m), (1, .int n0), (2, .int n1), (3, .int n2)] [] (T, N, I, L, R) 0 0
  refine k_aload_n C rfl rfl rfl ?_
  refine k_iconst C (x := 0) rfl rfl rfl ?_
  refine p_I C rfl rfl rfl T_m (Or.inr rfl) rfl ?_
  refine k_aload_n C rfl rfl rfl ?_
  refine k_aload_n C rfl rfl rfl ?_
  refine k_iload_n C rfl rfl rfl ?_
  refine c_VI C (e_noSigns1 T_m R_m_1 T_w N_w ((u2_a (t_nq T_w T_m (by decide))).trans (I_w_3)) ) rfl rfl rfl rfl rfl ⟨_, rfl, rfl, T_m, Nat.le_of_ble_eq_true rfl⟩ rfl rfl (Nat.le_of_ble_eq_true rfl) (Nat.le_of_ble_eq_true rfl) (Nat.le_of_ble_eq_true rfl) ?_
  rintro _ _ _ ⟨rfl, rfl, rfl⟩
  refine k_if_ne C (t := 22) rfl rfl rfl (fun _ => ?_) (fun c11 => absurd (by decide) c11)
  refine k_iconst C (x := 1) rfl rfl rfl ?_
  refine k_goto C (pc2 := 27) rfl rfl ?_
  refine k_iconst C (x := 1) rfl rfl rfl ?_
  refine c_VI C (e_throwsIf1 T_m rfl) rfl rfl rfl rfl rfl ⟨_, rfl, rfl, T_m, Nat.le_of_ble_eq_true rfl⟩ rfl rfl (Nat.le_of_ble_eq_true rfl) (Nat.le_of_ble_eq_true rfl) (Nat.le_of_ble_eq_true rfl) ?_
  rintro _ _ _ ⟨rfl, rfl, rfl⟩
  refine k_if_ne C (t := 57) rfl rfl rfl (fun _ => ?_) (fun c31 => absurd (by decide) c31)
  refine k_iconst C (x := 0) rfl rfl rfl ?_
  exact k_iret C rfl (Or.inl rfl) (Nat.le_of_ble_eq_true rfl) (Nat.le_of_ble_eq_true rfl) ⟨_, _, _, rfl, rfl, ⟨(Fr.i (Fr.i Fr.rf A_m) A_m), u2_s⟩⟩

theorem e_m_root0 {d : Nat} {T N : Nat → Nat} {I : IT} {L : LT} {R : RT} {A : Nat → Prop} {m w : Nat} {n0 n1 : Int32} (T_m : T m = 13) (R_m_1 : R m 1 = some w) (T_w : T w = 20) (N_w : N w = 4007) (A_m : A m) (I_w_1 : I w 1 = 0) : Ex (d + 3) 269 [.ref m, .int n0, .int n1] (T, N, I, L, R) 0 0 (pI T N R (fun x9 I9 L9 => Fr A I L I9 L9 ∧ I9 m 0 = 1)) := by
  refine ⟨_, rfl, Nat.le_of_ble_eq_true rfl, fun V C S => ?_⟩
  show V 0 [(0, .ref m), (1, .int n0), (2, .int n1)] [] (T, N, I, L, R) 0 0
  refine k_aload_n C rfl rfl rfl ?_
  refine k_iconst C (x := 0) rfl rfl rfl ?_
  refine p_I C rfl rfl rfl T_m (Or.inr rfl) rfl ?_
  refine k_aload_n C rfl rfl rfl ?_
  refine k_aload_n C rfl rfl rfl ?_
  refine k_iload_n C rfl rfl rfl ?_
  refine c_VI C (e_noForm1 T_m R_m_1 T_w N_w ((u2_a (t_nq T_w T_m (by decide))).trans (I_w_1)) ) rfl rfl rfl rfl rfl ⟨_, rfl, rfl, T_m, Nat.le_of_ble_eq_true rfl⟩ rfl rfl (Nat.le_of_ble_eq_true rfl) (Nat.le_of_ble_eq_true rfl) (Nat.le_of_ble_eq_true rfl) ?_
  rintro _ _ _ ⟨rfl, rfl, rfl⟩
  refine k_iconst C (x := 1) rfl rfl rfl ?_
  refine c_VI C (e_throwsIf1 T_m rfl) rfl rfl rfl rfl rfl ⟨_, rfl, rfl, T_m, Nat.le_of_ble_eq_true rfl⟩ rfl rfl (Nat.le_of_ble_eq_true rfl) (Nat.le_of_ble_eq_true rfl) (Nat.le_of_ble_eq_true rfl) ?_
  rintro _ _ _ ⟨rfl, rfl, rfl⟩
  refine k_if_ne C (t := 31) rfl rfl rfl (fun _ => ?_) (fun c15 => absurd (by decide) c15)
  refine k_iconst C (x := 0) rfl rfl rfl ?_
  exact k_iret C rfl (Or.inl rfl) (Nat.le_of_ble_eq_true rfl) (Nat.le_of_ble_eq_true rfl) ⟨_, _, _, rfl, rfl, ⟨(Fr.i (Fr.i Fr.rf A_m) A_m), u2_s⟩⟩

theorem e_m_roots0 {d : Nat} {T N : Nat → Nat} {I : IT} {L : LT} {R : RT} {A : Nat → Prop} {m w : Nat} {n0 : Int32} (T_m : T m = 13) (R_m_1 : R m 1 = some w) (T_w : T w = 20) (N_w : N w = 4007) (A_m : A m) (I_w_1 : I w 1 = 0) : Ex (d + 3) 270 [.ref m, .int n0] (T, N, I, L, R) 0 0 (pI T N R (fun x9 I9 L9 => Fr A I L I9 L9 ∧ I9 m 0 = 1)) := by
  refine ⟨_, rfl, Nat.le_of_ble_eq_true rfl, fun V C S => ?_⟩
  show V 0 [(0, .ref m), (1, .int n0)] [] (T, N, I, L, R) 0 0
  refine k_aload_n C rfl rfl rfl ?_
  refine k_iconst C (x := 0) rfl rfl rfl ?_
  refine p_I C rfl rfl rfl T_m (Or.inr rfl) rfl ?_
  refine k_aload_n C rfl rfl rfl ?_
  refine k_aload_n C rfl rfl rfl ?_
  refine k_iload_n C rfl rfl rfl ?_
  refine c_VI C (e_noForm1 T_m R_m_1 T_w N_w ((u2_a (t_nq T_w T_m (by decide))).trans (I_w_1)) ) rfl rfl rfl rfl rfl ⟨_, rfl, rfl, T_m, Nat.le_of_ble_eq_true rfl⟩ rfl rfl (Nat.le_of_ble_eq_true rfl) (Nat.le_of_ble_eq_true rfl) (Nat.le_of_ble_eq_true rfl) ?_
  rintro _ _ _ ⟨rfl, rfl, rfl⟩
  refine k_iconst C (x := 1) rfl rfl rfl ?_
  refine c_VI C (e_throwsIf1 T_m rfl) rfl rfl rfl rfl rfl ⟨_, rfl, rfl, T_m, Nat.le_of_ble_eq_true rfl⟩ rfl rfl (Nat.le_of_ble_eq_true rfl) (Nat.le_of_ble_eq_true rfl) (Nat.le_of_ble_eq_true rfl) ?_
  rintro _ _ _ ⟨rfl, rfl, rfl⟩
  refine k_if_eq C (t := 20) rfl rfl rfl (fun c15 => absurd c15 (by decide)) (fun _ => ?_)
  refine k_iconst C (x := 0) rfl rfl rfl ?_
  exact k_iret C rfl (Or.inl rfl) (Nat.le_of_ble_eq_true rfl) (Nat.le_of_ble_eq_true rfl) ⟨_, _, _, rfl, rfl, ⟨(Fr.i (Fr.i Fr.rf A_m) A_m), u2_s⟩⟩

theorem e_m_empty0 {d : Nat} {T N : Nat → Nat} {I : IT} {L : LT} {R : RT} {A : Nat → Prop} {m w : Nat} {n0 : Int32} (T_m : T m = 13) (R_m_1 : R m 1 = some w) (T_w : T w = 20) (N_w : N w = 4007) (A_m : A m) (I_w_1 : I w 1 = 0) : Ex (d + 3) 271 [.ref m, .int n0] (T, N, I, L, R) 0 0 (pI T N R (fun x9 I9 L9 => Fr A I L I9 L9 ∧ I9 m 0 = 1)) := by
  refine ⟨_, rfl, Nat.le_of_ble_eq_true rfl, fun V C S => ?_⟩
  show V 0 [(0, .ref m), (1, .int n0)] [] (T, N, I, L, R) 0 0
  refine k_aload_n C rfl rfl rfl ?_
  refine k_iconst C (x := 0) rfl rfl rfl ?_
  refine p_I C rfl rfl rfl T_m (Or.inr rfl) rfl ?_
  refine k_aload_n C rfl rfl rfl ?_
  refine k_aload_n C rfl rfl rfl ?_
  refine k_iload_n C rfl rfl rfl ?_
  refine c_VI C (e_noForm1 T_m R_m_1 T_w N_w ((u2_a (t_nq T_w T_m (by decide))).trans (I_w_1)) ) rfl rfl rfl rfl rfl ⟨_, rfl, rfl, T_m, Nat.le_of_ble_eq_true rfl⟩ rfl rfl (Nat.le_of_ble_eq_true rfl) (Nat.le_of_ble_eq_true rfl) (Nat.le_of_ble_eq_true rfl) ?_
  rintro _ _ _ ⟨rfl, rfl, rfl⟩
  refine k_iconst C (x := 1) rfl rfl rfl ?_
  refine c_VI C (e_throwsIf1 T_m rfl) rfl rfl rfl rfl rfl ⟨_, rfl, rfl, T_m, Nat.le_of_ble_eq_true rfl⟩ rfl rfl (Nat.le_of_ble_eq_true rfl) (Nat.le_of_ble_eq_true rfl) (Nat.le_of_ble_eq_true rfl) ?_
  rintro _ _ _ ⟨rfl, rfl, rfl⟩
  refine k_if_eq C (t := 20) rfl rfl rfl (fun c15 => absurd c15 (by decide)) (fun _ => ?_)
  refine k_iconst C (x := 0) rfl rfl rfl ?_
  exact k_iret C rfl (Or.inr ⟨rfl, Or.inl rfl⟩) (Nat.le_of_ble_eq_true rfl) (Nat.le_of_ble_eq_true rfl) ⟨_, _, _, rfl, rfl, ⟨(Fr.i (Fr.i Fr.rf A_m) A_m), u2_s⟩⟩

theorem e_m_same0 {d : Nat} {T N : Nat → Nat} {I : IT} {L : LT} {R : RT} {A : Nat → Prop} {m w : Nat} {n0 n1 : Int32} (T_m : T m = 13) (R_m_1 : R m 1 = some w) (T_w : T w = 20) (N_w : N w = 4007) (A_m : A m) (I_w_1 : I w 1 = 0) : Ex (d + 3) 275 [.ref m, .int n0, .int n1] (T, N, I, L, R) 0 0 (pI T N R (fun x9 I9 L9 => Fr A I L I9 L9 ∧ I9 m 0 = 1)) := by
  refine ⟨_, rfl, Nat.le_of_ble_eq_true rfl, fun V C S => ?_⟩
  show V 0 [(0, .ref m), (1, .int n0), (2, .int n1)] [] (T, N, I, L, R) 0 0
  refine k_aload_n C rfl rfl rfl ?_
  refine k_iconst C (x := 0) rfl rfl rfl ?_
  refine p_I C rfl rfl rfl T_m (Or.inr rfl) rfl ?_
  refine k_aload_n C rfl rfl rfl ?_
  refine k_aload_n C rfl rfl rfl ?_
  refine k_iload_n C rfl rfl rfl ?_
  refine c_VI C (e_noForm1 T_m R_m_1 T_w N_w ((u2_a (t_nq T_w T_m (by decide))).trans (I_w_1)) ) rfl rfl rfl rfl rfl ⟨_, rfl, rfl, T_m, Nat.le_of_ble_eq_true rfl⟩ rfl rfl (Nat.le_of_ble_eq_true rfl) (Nat.le_of_ble_eq_true rfl) (Nat.le_of_ble_eq_true rfl) ?_
  rintro _ _ _ ⟨rfl, rfl, rfl⟩
  refine k_if_ne C (t := 22) rfl rfl rfl (fun _ => ?_) (fun c11 => absurd (by decide) c11)
  refine k_iconst C (x := 1) rfl rfl rfl ?_
  refine k_goto C (pc2 := 27) rfl rfl ?_
  refine k_iconst C (x := 1) rfl rfl rfl ?_
  refine c_VI C (e_throwsIf1 T_m rfl) rfl rfl rfl rfl rfl ⟨_, rfl, rfl, T_m, Nat.le_of_ble_eq_true rfl⟩ rfl rfl (Nat.le_of_ble_eq_true rfl) (Nat.le_of_ble_eq_true rfl) (Nat.le_of_ble_eq_true rfl) ?_
  rintro _ _ _ ⟨rfl, rfl, rfl⟩
  refine k_if_eq C (t := 38) rfl rfl rfl (fun c31 => absurd c31 (by decide)) (fun _ => ?_)
  refine k_iconst C (x := 0) rfl rfl rfl ?_
  refine k_goto C (pc2 := 44) rfl rfl ?_
  exact k_iret C rfl (Or.inl rfl) (Nat.le_of_ble_eq_true rfl) (Nat.le_of_ble_eq_true rfl) ⟨_, _, _, rfl, rfl, ⟨(Fr.i (Fr.i Fr.rf A_m) A_m), u2_s⟩⟩

theorem e_m_keep0 {d : Nat} {T N : Nat → Nat} {I : IT} {L : LT} {R : RT} {A : Nat → Prop} {m w : Nat} {n0 : Int32} (T_m : T m = 13) (R_m_1 : R m 1 = some w) (T_w : T w = 20) (N_w : N w = 4007) (A_m : A m) (I_w_1 : I w 1 = 0) : Ex (d + 3) 278 [.ref m, .int n0] (T, N, I, L, R) 0 0 (pI T N R (fun x9 I9 L9 => Fr A I L I9 L9 ∧ I9 m 0 = 1)) := by
  refine ⟨_, rfl, Nat.le_of_ble_eq_true rfl, fun V C S => ?_⟩
  show V 0 [(0, .ref m), (1, .int n0)] [] (T, N, I, L, R) 0 0
  refine k_aload_n C rfl rfl rfl ?_
  refine k_iconst C (x := 0) rfl rfl rfl ?_
  refine p_I C rfl rfl rfl T_m (Or.inr rfl) rfl ?_
  refine k_aload_n C rfl rfl rfl ?_
  refine k_aload_n C rfl rfl rfl ?_
  refine k_iload_n C rfl rfl rfl ?_
  refine c_VI C (e_noForm1 T_m R_m_1 T_w N_w ((u2_a (t_nq T_w T_m (by decide))).trans (I_w_1)) ) rfl rfl rfl rfl rfl ⟨_, rfl, rfl, T_m, Nat.le_of_ble_eq_true rfl⟩ rfl rfl (Nat.le_of_ble_eq_true rfl) (Nat.le_of_ble_eq_true rfl) (Nat.le_of_ble_eq_true rfl) ?_
  rintro _ _ _ ⟨rfl, rfl, rfl⟩
  refine k_iconst C (x := 1) rfl rfl rfl ?_
  refine c_VI C (e_throwsIf1 T_m rfl) rfl rfl rfl rfl rfl ⟨_, rfl, rfl, T_m, Nat.le_of_ble_eq_true rfl⟩ rfl rfl (Nat.le_of_ble_eq_true rfl) (Nat.le_of_ble_eq_true rfl) (Nat.le_of_ble_eq_true rfl) ?_
  rintro _ _ _ ⟨rfl, rfl, rfl⟩
  refine k_if_eq C (t := 22) rfl rfl rfl (fun c15 => absurd c15 (by decide)) (fun _ => ?_)
  refine k_iconst C (x := 0) rfl rfl rfl ?_
  refine k_goto C (pc2 := 27) rfl rfl ?_
  exact k_iret C rfl (Or.inl rfl) (Nat.le_of_ble_eq_true rfl) (Nat.le_of_ble_eq_true rfl) ⟨_, _, _, rfl, rfl, ⟨(Fr.i (Fr.i Fr.rf A_m) A_m), u2_s⟩⟩

theorem e_m_kind0 {d : Nat} {T N : Nat → Nat} {I : IT} {L : LT} {R : RT} {A : Nat → Prop} {m w : Nat} {n0 : Int32} (T_m : T m = 13) (R_m_1 : R m 1 = some w) (T_w : T w = 20) (N_w : N w = 4007) (A_m : A m) (I_w_1 : I w 1 = 0) : Ex (d + 3) 280 [.ref m, .int n0] (T, N, I, L, R) 0 0 (pI T N R (fun x9 I9 L9 => Fr A I L I9 L9 ∧ I9 m 0 = 1)) := by
  refine ⟨_, rfl, Nat.le_of_ble_eq_true rfl, fun V C S => ?_⟩
  show V 0 [(0, .ref m), (1, .int n0)] [] (T, N, I, L, R) 0 0
  refine k_aload_n C rfl rfl rfl ?_
  refine k_iconst C (x := 0) rfl rfl rfl ?_
  refine p_I C rfl rfl rfl T_m (Or.inr rfl) rfl ?_
  refine k_aload_n C rfl rfl rfl ?_
  refine k_aload_n C rfl rfl rfl ?_
  refine k_iload_n C rfl rfl rfl ?_
  refine c_VI C (e_noForm1 T_m R_m_1 T_w N_w ((u2_a (t_nq T_w T_m (by decide))).trans (I_w_1)) ) rfl rfl rfl rfl rfl ⟨_, rfl, rfl, T_m, Nat.le_of_ble_eq_true rfl⟩ rfl rfl (Nat.le_of_ble_eq_true rfl) (Nat.le_of_ble_eq_true rfl) (Nat.le_of_ble_eq_true rfl) ?_
  rintro _ _ _ ⟨rfl, rfl, rfl⟩
  refine k_iconst C (x := 1) rfl rfl rfl ?_
  refine c_VI C (e_throwsIf1 T_m rfl) rfl rfl rfl rfl rfl ⟨_, rfl, rfl, T_m, Nat.le_of_ble_eq_true rfl⟩ rfl rfl (Nat.le_of_ble_eq_true rfl) (Nat.le_of_ble_eq_true rfl) (Nat.le_of_ble_eq_true rfl) ?_
  rintro _ _ _ ⟨rfl, rfl, rfl⟩
  refine k_if_eq C (t := 20) rfl rfl rfl (fun c15 => absurd c15 (by decide)) (fun _ => ?_)
  refine k_iconst C (x := 0) rfl rfl rfl ?_
  exact k_iret C rfl (Or.inl rfl) (Nat.le_of_ble_eq_true rfl) (Nat.le_of_ble_eq_true rfl) ⟨_, _, _, rfl, rfl, ⟨(Fr.i (Fr.i Fr.rf A_m) A_m), u2_s⟩⟩

theorem e_m_orbit0 {d : Nat} {T N : Nat → Nat} {I : IT} {L : LT} {R : RT} {A : Nat → Prop} {m w : Nat} {n0 : Int32} (T_m : T m = 13) (R_m_1 : R m 1 = some w) (T_w : T w = 20) (N_w : N w = 4007) (A_m : A m) (I_w_1 : I w 1 = 0) : Ex (d + 3) 279 [.ref m, .int n0] (T, N, I, L, R) 0 0 (pI T N R (fun x9 I9 L9 => Fr A I L I9 L9 ∧ I9 m 0 = 1)) := by
  refine ⟨_, rfl, Nat.le_of_ble_eq_true rfl, fun V C S => ?_⟩
  show V 0 [(0, .ref m), (1, .int n0)] [] (T, N, I, L, R) 0 0
  refine k_aload_n C rfl rfl rfl ?_
  refine k_iconst C (x := 0) rfl rfl rfl ?_
  refine p_I C rfl rfl rfl T_m (Or.inr rfl) rfl ?_
  refine k_aload_n C rfl rfl rfl ?_
  refine k_aload_n C rfl rfl rfl ?_
  refine k_iload_n C rfl rfl rfl ?_
  refine c_VI C (e_noForm1 T_m R_m_1 T_w N_w ((u2_a (t_nq T_w T_m (by decide))).trans (I_w_1)) ) rfl rfl rfl rfl rfl ⟨_, rfl, rfl, T_m, Nat.le_of_ble_eq_true rfl⟩ rfl rfl (Nat.le_of_ble_eq_true rfl) (Nat.le_of_ble_eq_true rfl) (Nat.le_of_ble_eq_true rfl) ?_
  rintro _ _ _ ⟨rfl, rfl, rfl⟩
  refine k_iconst C (x := 1) rfl rfl rfl ?_
  refine c_VI C (e_throwsIf1 T_m rfl) rfl rfl rfl rfl rfl ⟨_, rfl, rfl, T_m, Nat.le_of_ble_eq_true rfl⟩ rfl rfl (Nat.le_of_ble_eq_true rfl) (Nat.le_of_ble_eq_true rfl) (Nat.le_of_ble_eq_true rfl) ?_
  rintro _ _ _ ⟨rfl, rfl, rfl⟩
  refine k_if_eq C (t := 22) rfl rfl rfl (fun c15 => absurd c15 (by decide)) (fun _ => ?_)
  refine k_iconst C (x := 0) rfl rfl rfl ?_
  refine k_goto C (pc2 := 32) rfl rfl ?_
  exact k_iret C rfl (Or.inl rfl) (Nat.le_of_ble_eq_true rfl) (Nat.le_of_ble_eq_true rfl) ⟨_, _, _, rfl, rfl, ⟨(Fr.i (Fr.i Fr.rf A_m) A_m), u2_s⟩⟩

theorem e_m_powers0 {d : Nat} {T N : Nat → Nat} {I : IT} {L : LT} {R : RT} {A : Nat → Prop} {m w : Nat} {n0 n1 : Int32} (T_m : T m = 13) (R_m_1 : R m 1 = some w) (T_w : T w = 20) (N_w : N w = 4007) (A_m : A m) (I_w_1 : I w 1 = 0) : Ex (d + 3) 287 [.ref m, .int n0, .int n1] (T, N, I, L, R) 0 0 (pI T N R (fun x9 I9 L9 => Fr A I L I9 L9 ∧ I9 m 0 = 1)) := by
  refine ⟨_, rfl, Nat.le_of_ble_eq_true rfl, fun V C S => ?_⟩
  show V 0 [(0, .ref m), (1, .int n0), (2, .int n1)] [] (T, N, I, L, R) 0 0
  refine k_aload_n C rfl rfl rfl ?_
  refine k_iconst C (x := 0) rfl rfl rfl ?_
  refine p_I C rfl rfl rfl T_m (Or.inr rfl) rfl ?_
  refine k_aload_n C rfl rfl rfl ?_
  refine k_aload_n C rfl rfl rfl ?_
  refine k_iload_n C rfl rfl rfl ?_
  refine c_VI C (e_noForm1 T_m R_m_1 T_w N_w ((u2_a (t_nq T_w T_m (by decide))).trans (I_w_1)) ) rfl rfl rfl rfl rfl ⟨_, rfl, rfl, T_m, Nat.le_of_ble_eq_true rfl⟩ rfl rfl (Nat.le_of_ble_eq_true rfl) (Nat.le_of_ble_eq_true rfl) (Nat.le_of_ble_eq_true rfl) ?_
  rintro _ _ _ ⟨rfl, rfl, rfl⟩
  refine k_iconst C (x := 1) rfl rfl rfl ?_
  refine c_VI C (e_throwsIf1 T_m rfl) rfl rfl rfl rfl rfl ⟨_, rfl, rfl, T_m, Nat.le_of_ble_eq_true rfl⟩ rfl rfl (Nat.le_of_ble_eq_true rfl) (Nat.le_of_ble_eq_true rfl) (Nat.le_of_ble_eq_true rfl) ?_
  rintro _ _ _ ⟨rfl, rfl, rfl⟩
  refine k_if_ne C (t := 44) rfl rfl rfl (fun _ => ?_) (fun c15 => absurd (by decide) c15)
  refine k_iconst C (x := 0) rfl rfl rfl ?_
  exact k_iret C rfl (Or.inl rfl) (Nat.le_of_ble_eq_true rfl) (Nat.le_of_ble_eq_true rfl) ⟨_, _, _, rfl, rfl, ⟨(Fr.i (Fr.i Fr.rf A_m) A_m), u2_s⟩⟩

theorem e_m_common0 {d : Nat} {T N : Nat → Nat} {I : IT} {L : LT} {R : RT} {A : Nat → Prop} {m w : Nat} {n0 n1 n2 : Int32} (T_m : T m = 13) (R_m_1 : R m 1 = some w) (T_w : T w = 20) (N_w : N w = 4007) (A_m : A m) (I_w_1 : I w 1 = 0) : Ex (d + 3) 292 [.ref m, .int n0, .int n1, .int n2] (T, N, I, L, R) 0 0 (pI T N R (fun x9 I9 L9 => Fr A I L I9 L9 ∧ I9 m 0 = 1)) := by
  refine ⟨_, rfl, Nat.le_of_ble_eq_true rfl, fun V C S => ?_⟩
  show V 0 [(0, .ref m), (1, .int n0), (2, .int n1), (3, .int n2)] [] (T, N, I, L, R) 0 0
  refine k_aload_n C rfl rfl rfl ?_
  refine k_iconst C (x := 0) rfl rfl rfl ?_
  refine p_I C rfl rfl rfl T_m (Or.inr rfl) rfl ?_
  refine k_aload_n C rfl rfl rfl ?_
  refine k_aload_n C rfl rfl rfl ?_
  refine k_iload_n C rfl rfl rfl ?_
  refine c_VI C (e_noForm1 T_m R_m_1 T_w N_w ((u2_a (t_nq T_w T_m (by decide))).trans (I_w_1)) ) rfl rfl rfl rfl rfl ⟨_, rfl, rfl, T_m, Nat.le_of_ble_eq_true rfl⟩ rfl rfl (Nat.le_of_ble_eq_true rfl) (Nat.le_of_ble_eq_true rfl) (Nat.le_of_ble_eq_true rfl) ?_
  rintro _ _ _ ⟨rfl, rfl, rfl⟩
  refine k_if_ne C (t := 22) rfl rfl rfl (fun _ => ?_) (fun c11 => absurd (by decide) c11)
  refine k_iconst C (x := 1) rfl rfl rfl ?_
  refine k_goto C (pc2 := 27) rfl rfl ?_
  refine k_iconst C (x := 1) rfl rfl rfl ?_
  refine c_VI C (e_throwsIf1 T_m rfl) rfl rfl rfl rfl rfl ⟨_, rfl, rfl, T_m, Nat.le_of_ble_eq_true rfl⟩ rfl rfl (Nat.le_of_ble_eq_true rfl) (Nat.le_of_ble_eq_true rfl) (Nat.le_of_ble_eq_true rfl) ?_
  rintro _ _ _ ⟨rfl, rfl, rfl⟩
  refine k_if_eq C (t := 36) rfl rfl rfl (fun c31 => absurd c31 (by decide)) (fun _ => ?_)
  refine k_iconst C (x := 0) rfl rfl rfl ?_
  exact k_iret C rfl (Or.inl rfl) (Nat.le_of_ble_eq_true rfl) (Nat.le_of_ble_eq_true rfl) ⟨_, _, _, rfl, rfl, ⟨(Fr.i (Fr.i Fr.rf A_m) A_m), u2_s⟩⟩

theorem e_m_quotient0 {d : Nat} {T N : Nat → Nat} {I : IT} {L : LT} {R : RT} {A : Nat → Prop} {m w : Nat} {n0 n1 n2 : Int32} (T_m : T m = 13) (R_m_1 : R m 1 = some w) (T_w : T w = 20) (N_w : N w = 4007) (A_m : A m) (I_w_1 : I w 1 = 0) : Ex (d + 3) 294 [.ref m, .int n0, .int n1, .int n2] (T, N, I, L, R) 0 0 (pI T N R (fun x9 I9 L9 => Fr A I L I9 L9 ∧ I9 m 0 = 1)) := by
  refine ⟨_, rfl, Nat.le_of_ble_eq_true rfl, fun V C S => ?_⟩
  show V 0 [(0, .ref m), (1, .int n0), (2, .int n1), (3, .int n2)] [] (T, N, I, L, R) 0 0
  refine k_aload_n C rfl rfl rfl ?_
  refine k_iconst C (x := 0) rfl rfl rfl ?_
  refine p_I C rfl rfl rfl T_m (Or.inr rfl) rfl ?_
  refine k_aload_n C rfl rfl rfl ?_
  refine k_aload_n C rfl rfl rfl ?_
  refine k_iload_n C rfl rfl rfl ?_
  refine c_VI C (e_noForm1 T_m R_m_1 T_w N_w ((u2_a (t_nq T_w T_m (by decide))).trans (I_w_1)) ) rfl rfl rfl rfl rfl ⟨_, rfl, rfl, T_m, Nat.le_of_ble_eq_true rfl⟩ rfl rfl (Nat.le_of_ble_eq_true rfl) (Nat.le_of_ble_eq_true rfl) (Nat.le_of_ble_eq_true rfl) ?_
  rintro _ _ _ ⟨rfl, rfl, rfl⟩
  refine k_if_ne C (t := 22) rfl rfl rfl (fun _ => ?_) (fun c11 => absurd (by decide) c11)
  refine k_iconst C (x := 1) rfl rfl rfl ?_
  refine k_goto C (pc2 := 27) rfl rfl ?_
  refine k_iconst C (x := 1) rfl rfl rfl ?_
  refine c_VI C (e_throwsIf1 T_m rfl) rfl rfl rfl rfl rfl ⟨_, rfl, rfl, T_m, Nat.le_of_ble_eq_true rfl⟩ rfl rfl (Nat.le_of_ble_eq_true rfl) (Nat.le_of_ble_eq_true rfl) (Nat.le_of_ble_eq_true rfl) ?_
  rintro _ _ _ ⟨rfl, rfl, rfl⟩
  refine k_if_eq C (t := 36) rfl rfl rfl (fun c31 => absurd c31 (by decide)) (fun _ => ?_)
  refine k_iconst C (x := 0) rfl rfl rfl ?_
  exact k_iret C rfl (Or.inl rfl) (Nat.le_of_ble_eq_true rfl) (Nat.le_of_ble_eq_true rfl) ⟨_, _, _, rfl, rfl, ⟨(Fr.i (Fr.i Fr.rf A_m) A_m), u2_s⟩⟩

theorem e_m_plain0 {d : Nat} {T N : Nat → Nat} {I : IT} {L : LT} {R : RT} {A : Nat → Prop} {m w : Nat} {n0 : Int32} (T_m : T m = 13) (R_m_1 : R m 1 = some w) (T_w : T w = 20) (N_w : N w = 4007) (A_m : A m) (I_w_1 : I w 1 = 0) : Ex (d + 3) 295 [.ref m, .int n0] (T, N, I, L, R) 0 0 (pI T N R (fun x9 I9 L9 => Fr A I L I9 L9 ∧ I9 m 0 = 1)) := by
  refine ⟨_, rfl, Nat.le_of_ble_eq_true rfl, fun V C S => ?_⟩
  show V 0 [(0, .ref m), (1, .int n0)] [] (T, N, I, L, R) 0 0
  refine k_aload_n C rfl rfl rfl ?_
  refine k_iconst C (x := 0) rfl rfl rfl ?_
  refine p_I C rfl rfl rfl T_m (Or.inr rfl) rfl ?_
  refine k_aload_n C rfl rfl rfl ?_
  refine k_aload_n C rfl rfl rfl ?_
  refine k_iload_n C rfl rfl rfl ?_
  refine c_VI C (e_noForm1 T_m R_m_1 T_w N_w ((u2_a (t_nq T_w T_m (by decide))).trans (I_w_1)) ) rfl rfl rfl rfl rfl ⟨_, rfl, rfl, T_m, Nat.le_of_ble_eq_true rfl⟩ rfl rfl (Nat.le_of_ble_eq_true rfl) (Nat.le_of_ble_eq_true rfl) (Nat.le_of_ble_eq_true rfl) ?_
  rintro _ _ _ ⟨rfl, rfl, rfl⟩
  refine k_iconst C (x := 1) rfl rfl rfl ?_
  refine c_VI C (e_throwsIf1 T_m rfl) rfl rfl rfl rfl rfl ⟨_, rfl, rfl, T_m, Nat.le_of_ble_eq_true rfl⟩ rfl rfl (Nat.le_of_ble_eq_true rfl) (Nat.le_of_ble_eq_true rfl) (Nat.le_of_ble_eq_true rfl) ?_
  rintro _ _ _ ⟨rfl, rfl, rfl⟩
  refine k_if_eq C (t := 20) rfl rfl rfl (fun c15 => absurd c15 (by decide)) (fun _ => ?_)
  refine k_iconst C (x := 0) rfl rfl rfl ?_
  exact k_iret C rfl (Or.inr ⟨rfl, Or.inl rfl⟩) (Nat.le_of_ble_eq_true rfl) (Nat.le_of_ble_eq_true rfl) ⟨_, _, _, rfl, rfl, ⟨(Fr.i (Fr.i Fr.rf A_m) A_m), u2_s⟩⟩

theorem e_m_overlap0 {d : Nat} {T N : Nat → Nat} {I : IT} {L : LT} {R : RT} {A : Nat → Prop} {m w : Nat} {n0 n1 n2 n3 : Int32} (T_m : T m = 13) (R_m_1 : R m 1 = some w) (T_w : T w = 20) (N_w : N w = 4007) (A_m : A m) (I_w_1 : I w 1 = 0) : Ex (d + 3) 296 [.ref m, .int n0, .int n1, .int n2, .int n3] (T, N, I, L, R) 0 0 (pI T N R (fun x9 I9 L9 => Fr A I L I9 L9 ∧ I9 m 0 = 1)) := by
  refine ⟨_, rfl, Nat.le_of_ble_eq_true rfl, fun V C S => ?_⟩
  show V 0 [(0, .ref m), (1, .int n0), (2, .int n1), (3, .int n2), (4, .int n3)] [] (T, N, I, L, R) 0 0
  refine k_aload_n C rfl rfl rfl ?_
  refine k_iconst C (x := 0) rfl rfl rfl ?_
  refine p_I C rfl rfl rfl T_m (Or.inr rfl) rfl ?_
  refine k_aload_n C rfl rfl rfl ?_
  refine k_aload_n C rfl rfl rfl ?_
  refine k_iload_n C rfl rfl rfl ?_
  refine c_VI C (e_noForm1 T_m R_m_1 T_w N_w ((u2_a (t_nq T_w T_m (by decide))).trans (I_w_1)) ) rfl rfl rfl rfl rfl ⟨_, rfl, rfl, T_m, Nat.le_of_ble_eq_true rfl⟩ rfl rfl (Nat.le_of_ble_eq_true rfl) (Nat.le_of_ble_eq_true rfl) (Nat.le_of_ble_eq_true rfl) ?_
  rintro _ _ _ ⟨rfl, rfl, rfl⟩
  refine k_if_ne C (t := 22) rfl rfl rfl (fun _ => ?_) (fun c11 => absurd (by decide) c11)
  refine k_iconst C (x := 1) rfl rfl rfl ?_
  refine k_goto C (pc2 := 27) rfl rfl ?_
  refine k_iconst C (x := 1) rfl rfl rfl ?_
  refine c_VI C (e_throwsIf1 T_m rfl) rfl rfl rfl rfl rfl ⟨_, rfl, rfl, T_m, Nat.le_of_ble_eq_true rfl⟩ rfl rfl (Nat.le_of_ble_eq_true rfl) (Nat.le_of_ble_eq_true rfl) (Nat.le_of_ble_eq_true rfl) ?_
  rintro _ _ _ ⟨rfl, rfl, rfl⟩
  refine k_if_ne C (t := 68) rfl rfl rfl (fun _ => ?_) (fun c31 => absurd (by decide) c31)
  refine k_iconst C (x := 0) rfl rfl rfl ?_
  exact k_iret C rfl (Or.inl rfl) (Nat.le_of_ble_eq_true rfl) (Nat.le_of_ble_eq_true rfl) ⟨_, _, _, rfl, rfl, ⟨(Fr.i (Fr.i Fr.rf A_m) A_m), u2_s⟩⟩

theorem e_m_undo0 {d : Nat} {T N : Nat → Nat} {I : IT} {L : LT} {R : RT} {A : Nat → Prop} {m w : Nat} (T_m : T m = 13) (R_m_1 : R m 1 = some w) (T_w : T w = 20) (N_w : N w = 4007) (A_m : A m) (I_w_4 : I w 4 = 0) : Ex (d + 1) 246 [.ref m] (T, N, I, L, R) 0 0 (pI T N R (fun x9 I9 L9 => x9 = -1 ∧ Fr A I L I9 L9 ∧ I9 m 0 = 0)) := by
  refine ⟨_, rfl, Nat.le_of_ble_eq_true rfl, fun V C S => ?_⟩
  show V 0 [(0, .ref m)] [] (T, N, I, L, R) 0 0
  refine k_aload_n C rfl rfl rfl ?_
  refine k_iconst C (x := 0) rfl rfl rfl ?_
  refine p_I C rfl rfl rfl T_m (Or.inr rfl) rfl ?_
  refine k_aload_n C rfl rfl rfl ?_
  refine g_R C rfl rfl rfl T_m rfl R_m_1 ?_
  refine k_iconst C (x := 4) rfl rfl rfl ?_
  refine a_I C rfl rfl T_w (vin (n := 4) rfl (by rw [N_w]; exact Nat.le_of_ble_eq_true rfl) (by rw [N_w]; exact Nat.le_of_ble_eq_true rfl)) ((u2_a (t_nq T_w T_m (by decide))).trans I_w_4) ?_
  refine k_if_ne C (t := 16) rfl rfl rfl (fun c11 => ?_) (fun c11 => ?_)
  · skip
    exact absurd rfl c11
  refine k_iconst C (x := -1) rfl rfl rfl ?_
  exact k_iret C rfl (Or.inl rfl) (Nat.le_of_ble_eq_true rfl) (Nat.le_of_ble_eq_true rfl) ⟨_, _, _, rfl, rfl, ⟨rfl, (Fr.i Fr.rf A_m), u2_s⟩⟩

theorem e_m_redo0 {d : Nat} {T N : Nat → Nat} {I : IT} {L : LT} {R : RT} {A : Nat → Prop} {m w : Nat} (T_m : T m = 13) (R_m_1 : R m 1 = some w) (T_w : T w = 20) (N_w : N w = 4007) (A_m : A m) (I_w_5 : I w 5 = 0) : Ex (d + 1) 247 [.ref m] (T, N, I, L, R) 0 0 (pI T N R (fun x9 I9 L9 => x9 = -1 ∧ Fr A I L I9 L9 ∧ I9 m 0 = 0)) := by
  refine ⟨_, rfl, Nat.le_of_ble_eq_true rfl, fun V C S => ?_⟩
  show V 0 [(0, .ref m)] [] (T, N, I, L, R) 0 0
  refine k_aload_n C rfl rfl rfl ?_
  refine k_iconst C (x := 0) rfl rfl rfl ?_
  refine p_I C rfl rfl rfl T_m (Or.inr rfl) rfl ?_
  refine k_aload_n C rfl rfl rfl ?_
  refine g_R C rfl rfl rfl T_m rfl R_m_1 ?_
  refine k_iconst C (x := 5) rfl rfl rfl ?_
  refine a_I C rfl rfl T_w (vin (n := 5) rfl (by rw [N_w]; exact Nat.le_of_ble_eq_true rfl) (by rw [N_w]; exact Nat.le_of_ble_eq_true rfl)) ((u2_a (t_nq T_w T_m (by decide))).trans I_w_5) ?_
  refine k_if_ne C (t := 16) rfl rfl rfl (fun c11 => ?_) (fun c11 => ?_)
  · skip
    exact absurd rfl c11
  refine k_iconst C (x := -1) rfl rfl rfl ?_
  exact k_iret C rfl (Or.inl rfl) (Nat.le_of_ble_eq_true rfl) (Nat.le_of_ble_eq_true rfl) ⟨_, _, _, rfl, rfl, ⟨rfl, (Fr.i Fr.rf A_m), u2_s⟩⟩

theorem e_m_fault0 {d : Nat} {T N : Nat → Nat} {I : IT} {L : LT} {R : RT} {A : Nat → Prop} {m : Nat} (T_m : T m = 13) (A_m : A m) (I_m_17 : I m 17 = -1) : Ex (d + 1) 223 [.ref m] (T, N, I, L, R) 0 0 (pI T N R (fun x9 I9 L9 => x9 = -1 ∧ Fr A I L I9 L9 ∧ I9 m 0 = 0)) := by
  refine ⟨_, rfl, Nat.le_of_ble_eq_true rfl, fun V C S => ?_⟩
  show V 0 [(0, .ref m)] [] (T, N, I, L, R) 0 0
  refine k_aload_n C rfl rfl rfl ?_
  refine k_iconst C (x := 0) rfl rfl rfl ?_
  refine p_I C rfl rfl rfl T_m (Or.inr rfl) rfl ?_
  refine k_aload_n C rfl rfl rfl ?_
  refine g_I C rfl rfl rfl T_m rfl ((u2_k (by decide)).trans (I_m_17)) ?_
  exact k_iret C rfl (Or.inl rfl) (Nat.le_of_ble_eq_true rfl) (Nat.le_of_ble_eq_true rfl) ⟨_, _, _, rfl, rfl, ⟨rfl, (Fr.i Fr.rf A_m), u2_s⟩⟩

theorem e_m_end0 {d : Nat} {T N : Nat → Nat} {I : IT} {L : LT} {R : RT} {A : Nat → Prop} {m : Nat} {n : Int32} (T_m : T m = 13) (A_m : A m) (I_m_11 : I m 11 = 0) : Ex (d + 1) 217 [.ref m, .int n] (T, N, I, L, R) 0 0 (pI T N R (fun x9 I9 L9 => x9 = (if n = 0 then 1 else 0) ∧ Fr A I L I9 L9 ∧ I9 m 0 = 0)) := by
  refine ⟨_, rfl, Nat.le_of_ble_eq_true rfl, fun V C S => ?_⟩
  show V 0 [(0, .ref m), (1, .int n)] [] (T, N, I, L, R) 0 0
  refine k_aload_n C rfl rfl rfl ?_
  refine k_iconst C (x := 0) rfl rfl rfl ?_
  refine p_I C rfl rfl rfl T_m (Or.inr rfl) rfl ?_
  refine k_iload_n C rfl rfl rfl ?_
  refine k_if_lt C (t := 17) rfl rfl rfl (fun c6 => ?_) (fun c6 => ?_)
  · skip
    refine k_iconst C (x := 0) rfl rfl rfl ?_
    exact k_iret C rfl (Or.inr ⟨rfl, Or.inl rfl⟩) (Nat.le_of_ble_eq_true rfl) (Nat.le_of_ble_eq_true rfl) ⟨_, _, _, rfl, rfl, ⟨(if_neg (by rintro rfl; first | exact absurd c6 (by decide) | exact absurd c14 (by decide))).symm, (Fr.i Fr.rf A_m), u2_s⟩⟩
  refine k_iload_n C rfl rfl rfl ?_
  refine k_aload_n C rfl rfl rfl ?_
  refine g_I C rfl rfl rfl T_m rfl ((u2_k (by decide)).trans (I_m_11)) ?_
  refine k_icmp_le C (t := 19) rfl rfl rfl (fun c14 => ?_) (fun c14 => ?_)
  · skip
    have hn : n = 0 := Int32.le_antisymm c14 (Int32.not_lt.mp c6)
    refine k_aload_n C rfl rfl rfl ?_
    refine k_iload_n C rfl rfl rfl ?_
    refine p_I C rfl rfl rfl T_m (Or.inr rfl) rfl ?_
    refine k_iconst C (x := 1) rfl rfl rfl ?_
    exact k_iret C rfl (Or.inr ⟨rfl, Or.inr rfl⟩) (Nat.le_of_ble_eq_true rfl) (Nat.le_of_ble_eq_true rfl) ⟨_, _, _, rfl, rfl, ⟨by rw [if_pos hn], (Fr.i (Fr.i Fr.rf A_m) A_m), (u2_k (by decide)).trans (u2_s)⟩⟩
  refine k_iconst C (x := 0) rfl rfl rfl ?_
  exact k_iret C rfl (Or.inr ⟨rfl, Or.inl rfl⟩) (Nat.le_of_ble_eq_true rfl) (Nat.le_of_ble_eq_true rfl) ⟨_, _, _, rfl, rfl, ⟨(if_neg (by rintro rfl; first | exact absurd c6 (by decide) | exact absurd c14 (by decide))).symm, (Fr.i Fr.rf A_m), u2_s⟩⟩

theorem e_m_field_no {d : Nat} {T N : Nat → Nat} {I : IT} {L : LT} {R : RT} {A : Nat → Prop} {m : Nat} {p : Int32} (T_m : T m = 13) (A_m : A m) (hp : ¬ (p = 11 ∨ p = 13 ∨ p = 17 ∨ p = 19)) : Ex (d + 2) 232 [.ref m, .int p] (T, N, I, L, R) 0 0 (pV T N R (fun I9 L9 => Fr A I L I9 L9 ∧ I9 m 0 = 1)) := by
  refine ⟨_, rfl, Nat.le_of_ble_eq_true rfl, fun V C S => ?_⟩
  show V 0 [(0, .ref m), (1, .int p)] [] (T, N, I, L, R) 0 0
  refine k_aload_n C rfl rfl rfl ?_
  refine k_iconst C (x := 0) rfl rfl rfl ?_
  refine p_I C rfl rfl rfl T_m (Or.inr rfl) rfl ?_
  refine k_aload_n C rfl rfl rfl ?_
  refine k_iload_n C rfl rfl rfl ?_
  refine k_bipush C (x := 11) rfl rfl rfl ?_
  refine k_icmp_eq C (t := 34) rfl rfl rfl (fun c9 => ?_) (fun c9 => ?_)
  · skip
    exact absurd (Or.inl c9) hp
  refine k_iload_n C rfl rfl rfl ?_
  refine k_bipush C (x := 13) rfl rfl rfl ?_
  refine k_icmp_eq C (t := 34) rfl rfl rfl (fun c15 => ?_) (fun c15 => ?_)
  · skip
    exact absurd (Or.inr (Or.inl c15)) hp
  refine k_iload_n C rfl rfl rfl ?_
  refine k_bipush C (x := 17) rfl rfl rfl ?_
  refine k_icmp_eq C (t := 34) rfl rfl rfl (fun c21 => ?_) (fun c21 => ?_)
  · skip
    exact absurd (Or.inr (Or.inr (Or.inl c21))) hp
  refine k_iload_n C rfl rfl rfl ?_
  refine k_bipush C (x := 19) rfl rfl rfl ?_
  refine k_icmp_eq C (t := 34) rfl rfl rfl (fun c27 => ?_) (fun c27 => ?_)
  · skip
    exact absurd (Or.inr (Or.inr (Or.inr c27))) hp
  refine k_iconst C (x := 1) rfl rfl rfl ?_
  refine k_goto C (pc2 := 35) rfl rfl ?_
  refine k_iconst C (x := 1) rfl rfl rfl ?_
  refine c_VI C (e_throwsIf1 T_m rfl) rfl rfl rfl rfl rfl ⟨_, rfl, rfl, T_m, Nat.le_of_ble_eq_true rfl⟩ rfl rfl (Nat.le_of_ble_eq_true rfl) (Nat.le_of_ble_eq_true rfl) (Nat.le_of_ble_eq_true rfl) ?_
  rintro _ _ _ ⟨rfl, rfl, rfl⟩
  refine k_if_ne C (t := 71) rfl rfl rfl (fun _ => ?_) (fun c39 => absurd (by decide) c39)
  exact k_vret C rfl rfl (Nat.le_of_ble_eq_true rfl) (Nat.le_of_ble_eq_true rfl) ⟨_, _, rfl, rfl, ⟨(Fr.i (Fr.i Fr.rf A_m) A_m), u2_s⟩⟩

theorem e_m_field_yes {d : Nat} {T N : Nat → Nat} {I : IT} {L : LT} {R : RT} {A : Nat → Prop} {m w : Nat} {p : Int32} (T_m : T m = 13) (R_m_1 : R m 1 = some w) (T_w : T w = 20) (N_w : N w = 4007) (A_m : A m) (A_w : A w) (I_w_1 : I w 1 = 0) (I_w_2 : I w 2 = 0) (hp : p = 11 ∨ p = 13 ∨ p = 17 ∨ p = 19) : Ex (d + 2) 232 [.ref m, .int p] (T, N, I, L, R) 0 0 (pV T N R (fun I9 L9 => Fr A I L I9 L9 ∧ I9 m 0 = 0)) := by
  refine ⟨_, rfl, Nat.le_of_ble_eq_true rfl, fun V C S => ?_⟩
  show V 0 [(0, .ref m), (1, .int p)] [] (T, N, I, L, R) 0 0
  refine k_aload_n C rfl rfl rfl ?_
  refine k_iconst C (x := 0) rfl rfl rfl ?_
  refine p_I C rfl rfl rfl T_m (Or.inr rfl) rfl ?_
  refine k_aload_n C rfl rfl rfl ?_
  refine k_iload_n C rfl rfl rfl ?_
  refine k_bipush C (x := 11) rfl rfl rfl ?_
  refine k_icmp_eq C (t := 34) rfl rfl rfl (fun c9 => ?_) (fun c9 => ?_)
  · skip
    refine k_iconst C (x := 0) rfl rfl rfl ?_
    refine k_iconst C (x := 1) rfl rfl rfl ?_
    refine c_VI C (e_throwsIf0 T_m rfl) rfl rfl rfl rfl rfl ⟨_, rfl, rfl, T_m, Nat.le_of_ble_eq_true rfl⟩ rfl rfl (Nat.le_of_ble_eq_true rfl) (Nat.le_of_ble_eq_true rfl) (Nat.le_of_ble_eq_true rfl) ?_
    rintro _ _ _ ⟨rfl, rfl, rfl⟩
    refine k_if_ne C (t := 71) rfl rfl rfl (fun c39 => absurd c39 (by decide)) (fun _ => ?_)
    refine k_aload_n C rfl rfl rfl ?_
    refine k_aload_n C rfl rfl rfl ?_
    refine g_R C rfl rfl rfl T_m rfl R_m_1 ?_
    refine k_iconst C (x := 1) rfl rfl rfl ?_
    refine a_I C rfl rfl T_w (vin (n := 1) rfl (by rw [N_w]; exact Nat.le_of_ble_eq_true rfl) (by rw [N_w]; exact Nat.le_of_ble_eq_true rfl)) ((u2_a (t_nq T_w T_m (by decide))).trans I_w_1) ?_
    refine k_aload_n C rfl rfl rfl ?_
    refine g_R C rfl rfl rfl T_m rfl R_m_1 ?_
    refine k_iconst C (x := 2) rfl rfl rfl ?_
    refine a_I C rfl rfl T_w (vin (n := 2) rfl (by rw [N_w]; exact Nat.le_of_ble_eq_true rfl) (by rw [N_w]; exact Nat.le_of_ble_eq_true rfl)) ((u2_a (t_nq T_w T_m (by decide))).trans I_w_2) ?_
    refine k_iadd C rfl rfl ?_
    refine k_if_le C (t := 63) rfl rfl rfl (fun c56 => ?_) (fun c56 => ?_)
    · skip
      refine k_iconst C (x := 0) rfl rfl rfl ?_
      refine k_iconst C (x := 2) rfl rfl rfl ?_
      refine c_VI C (e_throwsIf0 T_m rfl) rfl rfl rfl rfl rfl ⟨_, rfl, rfl, T_m, Nat.le_of_ble_eq_true rfl⟩ rfl rfl (Nat.le_of_ble_eq_true rfl) (Nat.le_of_ble_eq_true rfl) (Nat.le_of_ble_eq_true rfl) ?_
      rintro _ _ _ ⟨rfl, rfl, rfl⟩
      refine k_if_eq C (t := 72) rfl rfl rfl (fun _ => ?_) (fun c68 => absurd (by decide) c68)
      refine k_aload_n C rfl rfl rfl ?_
      refine g_R C rfl rfl rfl T_m rfl R_m_1 ?_
      refine k_iconst C (x := 0) rfl rfl rfl ?_
      refine k_iload_n C rfl rfl rfl ?_
      refine s_I C rfl rfl T_w (vin (n := 0) rfl (by rw [N_w]; exact Nat.le_of_ble_eq_true rfl) (by rw [N_w]; exact Nat.le_of_ble_eq_true rfl)) rfl ?_
      exact k_vret C rfl rfl (Nat.le_of_ble_eq_true rfl) (Nat.le_of_ble_eq_true rfl) ⟨_, _, rfl, rfl, ⟨(Fr.i (Fr.i Fr.rf A_m) A_w), (u2_a (t_nq T_m T_w (by decide))).trans (u2_s)⟩⟩
    exact absurd (by decide) c56
  refine k_iload_n C rfl rfl rfl ?_
  refine k_bipush C (x := 13) rfl rfl rfl ?_
  refine k_icmp_eq C (t := 34) rfl rfl rfl (fun c15 => ?_) (fun c15 => ?_)
  · skip
    refine k_iconst C (x := 0) rfl rfl rfl ?_
    refine k_iconst C (x := 1) rfl rfl rfl ?_
    refine c_VI C (e_throwsIf0 T_m rfl) rfl rfl rfl rfl rfl ⟨_, rfl, rfl, T_m, Nat.le_of_ble_eq_true rfl⟩ rfl rfl (Nat.le_of_ble_eq_true rfl) (Nat.le_of_ble_eq_true rfl) (Nat.le_of_ble_eq_true rfl) ?_
    rintro _ _ _ ⟨rfl, rfl, rfl⟩
    refine k_if_ne C (t := 71) rfl rfl rfl (fun c39 => absurd c39 (by decide)) (fun _ => ?_)
    refine k_aload_n C rfl rfl rfl ?_
    refine k_aload_n C rfl rfl rfl ?_
    refine g_R C rfl rfl rfl T_m rfl R_m_1 ?_
    refine k_iconst C (x := 1) rfl rfl rfl ?_
    refine a_I C rfl rfl T_w (vin (n := 1) rfl (by rw [N_w]; exact Nat.le_of_ble_eq_true rfl) (by rw [N_w]; exact Nat.le_of_ble_eq_true rfl)) ((u2_a (t_nq T_w T_m (by decide))).trans I_w_1) ?_
    refine k_aload_n C rfl rfl rfl ?_
    refine g_R C rfl rfl rfl T_m rfl R_m_1 ?_
    refine k_iconst C (x := 2) rfl rfl rfl ?_
    refine a_I C rfl rfl T_w (vin (n := 2) rfl (by rw [N_w]; exact Nat.le_of_ble_eq_true rfl) (by rw [N_w]; exact Nat.le_of_ble_eq_true rfl)) ((u2_a (t_nq T_w T_m (by decide))).trans I_w_2) ?_
    refine k_iadd C rfl rfl ?_
    refine k_if_le C (t := 63) rfl rfl rfl (fun c56 => ?_) (fun c56 => ?_)
    · skip
      refine k_iconst C (x := 0) rfl rfl rfl ?_
      refine k_iconst C (x := 2) rfl rfl rfl ?_
      refine c_VI C (e_throwsIf0 T_m rfl) rfl rfl rfl rfl rfl ⟨_, rfl, rfl, T_m, Nat.le_of_ble_eq_true rfl⟩ rfl rfl (Nat.le_of_ble_eq_true rfl) (Nat.le_of_ble_eq_true rfl) (Nat.le_of_ble_eq_true rfl) ?_
      rintro _ _ _ ⟨rfl, rfl, rfl⟩
      refine k_if_eq C (t := 72) rfl rfl rfl (fun _ => ?_) (fun c68 => absurd (by decide) c68)
      refine k_aload_n C rfl rfl rfl ?_
      refine g_R C rfl rfl rfl T_m rfl R_m_1 ?_
      refine k_iconst C (x := 0) rfl rfl rfl ?_
      refine k_iload_n C rfl rfl rfl ?_
      refine s_I C rfl rfl T_w (vin (n := 0) rfl (by rw [N_w]; exact Nat.le_of_ble_eq_true rfl) (by rw [N_w]; exact Nat.le_of_ble_eq_true rfl)) rfl ?_
      exact k_vret C rfl rfl (Nat.le_of_ble_eq_true rfl) (Nat.le_of_ble_eq_true rfl) ⟨_, _, rfl, rfl, ⟨(Fr.i (Fr.i Fr.rf A_m) A_w), (u2_a (t_nq T_m T_w (by decide))).trans (u2_s)⟩⟩
    exact absurd (by decide) c56
  refine k_iload_n C rfl rfl rfl ?_
  refine k_bipush C (x := 17) rfl rfl rfl ?_
  refine k_icmp_eq C (t := 34) rfl rfl rfl (fun c21 => ?_) (fun c21 => ?_)
  · skip
    refine k_iconst C (x := 0) rfl rfl rfl ?_
    refine k_iconst C (x := 1) rfl rfl rfl ?_
    refine c_VI C (e_throwsIf0 T_m rfl) rfl rfl rfl rfl rfl ⟨_, rfl, rfl, T_m, Nat.le_of_ble_eq_true rfl⟩ rfl rfl (Nat.le_of_ble_eq_true rfl) (Nat.le_of_ble_eq_true rfl) (Nat.le_of_ble_eq_true rfl) ?_
    rintro _ _ _ ⟨rfl, rfl, rfl⟩
    refine k_if_ne C (t := 71) rfl rfl rfl (fun c39 => absurd c39 (by decide)) (fun _ => ?_)
    refine k_aload_n C rfl rfl rfl ?_
    refine k_aload_n C rfl rfl rfl ?_
    refine g_R C rfl rfl rfl T_m rfl R_m_1 ?_
    refine k_iconst C (x := 1) rfl rfl rfl ?_
    refine a_I C rfl rfl T_w (vin (n := 1) rfl (by rw [N_w]; exact Nat.le_of_ble_eq_true rfl) (by rw [N_w]; exact Nat.le_of_ble_eq_true rfl)) ((u2_a (t_nq T_w T_m (by decide))).trans I_w_1) ?_
    refine k_aload_n C rfl rfl rfl ?_
    refine g_R C rfl rfl rfl T_m rfl R_m_1 ?_
    refine k_iconst C (x := 2) rfl rfl rfl ?_
    refine a_I C rfl rfl T_w (vin (n := 2) rfl (by rw [N_w]; exact Nat.le_of_ble_eq_true rfl) (by rw [N_w]; exact Nat.le_of_ble_eq_true rfl)) ((u2_a (t_nq T_w T_m (by decide))).trans I_w_2) ?_
    refine k_iadd C rfl rfl ?_
    refine k_if_le C (t := 63) rfl rfl rfl (fun c56 => ?_) (fun c56 => ?_)
    · skip
      refine k_iconst C (x := 0) rfl rfl rfl ?_
      refine k_iconst C (x := 2) rfl rfl rfl ?_
      refine c_VI C (e_throwsIf0 T_m rfl) rfl rfl rfl rfl rfl ⟨_, rfl, rfl, T_m, Nat.le_of_ble_eq_true rfl⟩ rfl rfl (Nat.le_of_ble_eq_true rfl) (Nat.le_of_ble_eq_true rfl) (Nat.le_of_ble_eq_true rfl) ?_
      rintro _ _ _ ⟨rfl, rfl, rfl⟩
      refine k_if_eq C (t := 72) rfl rfl rfl (fun _ => ?_) (fun c68 => absurd (by decide) c68)
      refine k_aload_n C rfl rfl rfl ?_
      refine g_R C rfl rfl rfl T_m rfl R_m_1 ?_
      refine k_iconst C (x := 0) rfl rfl rfl ?_
      refine k_iload_n C rfl rfl rfl ?_
      refine s_I C rfl rfl T_w (vin (n := 0) rfl (by rw [N_w]; exact Nat.le_of_ble_eq_true rfl) (by rw [N_w]; exact Nat.le_of_ble_eq_true rfl)) rfl ?_
      exact k_vret C rfl rfl (Nat.le_of_ble_eq_true rfl) (Nat.le_of_ble_eq_true rfl) ⟨_, _, rfl, rfl, ⟨(Fr.i (Fr.i Fr.rf A_m) A_w), (u2_a (t_nq T_m T_w (by decide))).trans (u2_s)⟩⟩
    exact absurd (by decide) c56
  refine k_iload_n C rfl rfl rfl ?_
  refine k_bipush C (x := 19) rfl rfl rfl ?_
  refine k_icmp_eq C (t := 34) rfl rfl rfl (fun c27 => ?_) (fun c27 => ?_)
  · skip
    refine k_iconst C (x := 0) rfl rfl rfl ?_
    refine k_iconst C (x := 1) rfl rfl rfl ?_
    refine c_VI C (e_throwsIf0 T_m rfl) rfl rfl rfl rfl rfl ⟨_, rfl, rfl, T_m, Nat.le_of_ble_eq_true rfl⟩ rfl rfl (Nat.le_of_ble_eq_true rfl) (Nat.le_of_ble_eq_true rfl) (Nat.le_of_ble_eq_true rfl) ?_
    rintro _ _ _ ⟨rfl, rfl, rfl⟩
    refine k_if_ne C (t := 71) rfl rfl rfl (fun c39 => absurd c39 (by decide)) (fun _ => ?_)
    refine k_aload_n C rfl rfl rfl ?_
    refine k_aload_n C rfl rfl rfl ?_
    refine g_R C rfl rfl rfl T_m rfl R_m_1 ?_
    refine k_iconst C (x := 1) rfl rfl rfl ?_
    refine a_I C rfl rfl T_w (vin (n := 1) rfl (by rw [N_w]; exact Nat.le_of_ble_eq_true rfl) (by rw [N_w]; exact Nat.le_of_ble_eq_true rfl)) ((u2_a (t_nq T_w T_m (by decide))).trans I_w_1) ?_
    refine k_aload_n C rfl rfl rfl ?_
    refine g_R C rfl rfl rfl T_m rfl R_m_1 ?_
    refine k_iconst C (x := 2) rfl rfl rfl ?_
    refine a_I C rfl rfl T_w (vin (n := 2) rfl (by rw [N_w]; exact Nat.le_of_ble_eq_true rfl) (by rw [N_w]; exact Nat.le_of_ble_eq_true rfl)) ((u2_a (t_nq T_w T_m (by decide))).trans I_w_2) ?_
    refine k_iadd C rfl rfl ?_
    refine k_if_le C (t := 63) rfl rfl rfl (fun c56 => ?_) (fun c56 => ?_)
    · skip
      refine k_iconst C (x := 0) rfl rfl rfl ?_
      refine k_iconst C (x := 2) rfl rfl rfl ?_
      refine c_VI C (e_throwsIf0 T_m rfl) rfl rfl rfl rfl rfl ⟨_, rfl, rfl, T_m, Nat.le_of_ble_eq_true rfl⟩ rfl rfl (Nat.le_of_ble_eq_true rfl) (Nat.le_of_ble_eq_true rfl) (Nat.le_of_ble_eq_true rfl) ?_
      rintro _ _ _ ⟨rfl, rfl, rfl⟩
      refine k_if_eq C (t := 72) rfl rfl rfl (fun _ => ?_) (fun c68 => absurd (by decide) c68)
      refine k_aload_n C rfl rfl rfl ?_
      refine g_R C rfl rfl rfl T_m rfl R_m_1 ?_
      refine k_iconst C (x := 0) rfl rfl rfl ?_
      refine k_iload_n C rfl rfl rfl ?_
      refine s_I C rfl rfl T_w (vin (n := 0) rfl (by rw [N_w]; exact Nat.le_of_ble_eq_true rfl) (by rw [N_w]; exact Nat.le_of_ble_eq_true rfl)) rfl ?_
      exact k_vret C rfl rfl (Nat.le_of_ble_eq_true rfl) (Nat.le_of_ble_eq_true rfl) ⟨_, _, rfl, rfl, ⟨(Fr.i (Fr.i Fr.rf A_m) A_w), (u2_a (t_nq T_m T_w (by decide))).trans (u2_s)⟩⟩
    exact absurd (by decide) c56
  rcases hp with h | h | h | h
  · exact absurd h c9
  · exact absurd h c15
  · exact absurd h c21
  · exact absurd h c27

theorem e_uses0 {d : Nat} {T N : Nat → Nat} {I : IT} {L : LT} {R : RT} {m : Nat} (T_m : T m = 13) (I_m_11 : I m 11 = 0) : Ex (d + 1) 230 [.ref m] (T, N, I, L, R) 0 0 (pV T N R (fun I9 L9 => I9 = (u2 (u2 (u2 (u2 I m 0 0) m 13 0) m 11 0) m 12 0) ∧ L9 = (L))) := by
  refine ⟨_, rfl, Nat.le_of_ble_eq_true rfl, fun V C S => ?_⟩
  show V 0 [(0, .ref m)] [] (T, N, I, L, R) 0 0
  refine k_aload_n C rfl rfl rfl ?_
  refine k_iconst C (x := 0) rfl rfl rfl ?_
  refine p_I C rfl rfl rfl T_m (Or.inr rfl) rfl ?_
  refine k_aload_n C rfl rfl rfl ?_
  refine k_aload_n C rfl rfl rfl ?_
  refine g_I C rfl rfl rfl T_m rfl ((u2_k (by decide)).trans (I_m_11)) ?_
  refine p_I C rfl rfl rfl T_m (Or.inr rfl) rfl ?_
  refine k_aload_n C rfl rfl rfl ?_
  refine k_iconst C (x := 0) rfl rfl rfl ?_
  refine p_I C rfl rfl rfl T_m (Or.inr rfl) rfl ?_
  refine k_aload_n C rfl rfl rfl ?_
  refine k_iconst C (x := 0) rfl rfl rfl ?_
  refine p_I C rfl rfl rfl T_m (Or.inr rfl) rfl ?_
  exact k_vret C rfl rfl (Nat.le_of_ble_eq_true rfl) (Nat.le_of_ble_eq_true rfl) ⟨_, _, rfl, rfl, ⟨rfl, rfl⟩⟩

theorem e_m_form0 {d : Nat} {T N : Nat → Nat} {I : IT} {L : LT} {R : RT} {A : Nat → Prop} {m : Nat} (T_m : T m = 13) (A_m : A m) (I_m_11 : I m 11 = 0) : Ex (d + 2) 233 [.ref m] (T, N, I, L, R) 0 0 (pI T N R (fun x9 I9 L9 => Fr A I L I9 L9 ∧ I9 m 0 = 1)) := by
  refine ⟨_, rfl, Nat.le_of_ble_eq_true rfl, fun V C S => ?_⟩
  show V 0 [(0, .ref m)] [] (T, N, I, L, R) 0 0
  refine k_aload_n C rfl rfl rfl ?_
  refine c_VV C (e_uses0 T_m (I_m_11) ) rfl rfl rfl rfl rfl ⟨_, rfl, rfl, T_m, Nat.le_of_ble_eq_true rfl⟩ rfl rfl (Nat.le_of_ble_eq_true rfl) (Nat.le_of_ble_eq_true rfl) (Nat.le_of_ble_eq_true rfl) ?_
  rintro _ _ ⟨rfl, rfl⟩
  refine k_aload_n C rfl rfl rfl ?_
  refine k_aload_n C rfl rfl rfl ?_
  refine g_I C rfl rfl rfl T_m rfl ((u2_k (by decide)).trans ((u2_k (by decide)).trans (u2_s))) ?_
  refine k_iconst C (x := 1) rfl rfl rfl ?_
  refine k_bipush C (x := 9) rfl rfl rfl ?_
  refine c_SI C e_in rfl rfl rfl rfl rfl rfl rfl (Nat.le_of_ble_eq_true rfl) (Nat.le_of_ble_eq_true rfl) (Nat.le_of_ble_eq_true rfl) ?_
  rintro _ _ _ ⟨rfl, rfl, rfl⟩
  refine k_if_ne C (t := 22) rfl rfl rfl (fun c15 => ?_) (fun c15 => ?_)
  · skip
    exact absurd (by decide) c15
  refine k_iconst C (x := 1) rfl rfl rfl ?_
  refine k_goto C (pc2 := 23) rfl rfl ?_
  refine k_iconst C (x := 1) rfl rfl rfl ?_
  refine c_VI C (e_throwsIf1 T_m rfl) rfl rfl rfl rfl rfl ⟨_, rfl, rfl, T_m, Nat.le_of_ble_eq_true rfl⟩ rfl rfl (Nat.le_of_ble_eq_true rfl) (Nat.le_of_ble_eq_true rfl) (Nat.le_of_ble_eq_true rfl) ?_
  rintro _ _ _ ⟨rfl, rfl, rfl⟩
  refine k_if_ne C (t := 54) rfl rfl rfl (fun _ => ?_) (fun c27 => absurd (by decide) c27)
  refine k_iconst C (x := 0) rfl rfl rfl ?_
  exact k_iret C rfl (Or.inl rfl) (Nat.le_of_ble_eq_true rfl) (Nat.le_of_ble_eq_true rfl) ⟨_, _, _, rfl, rfl, ⟨(Fr.i (Fr.i (Fr.i (Fr.i (Fr.i Fr.rf A_m) A_m) A_m) A_m) A_m), u2_s⟩⟩
