-- 39.30.ref.lean.txt
section
/-! the reference on a new object: what throws, and small calls -/
theorem e_in {d : Nat} {T N : Nat → Nat} {I : IT} {L : LT} {R : RT} {v lo hi : Int32}  : Ex (d + 1) 179 [.int v, .int lo, .int hi] (T, N, I, L, R) 0 0 (pI T N R (fun x9 I9 L9 => x9 = (if lo ≤ v ∧ v ≤ hi then (1 : Int32) else 0) ∧ I9 = I ∧ L9 = L)) := by
  refine ⟨_, rfl, Nat.le_of_ble_eq_true rfl, fun V C S => ?_⟩
  show V 0 [(0, .int v), (1, .int lo), (2, .int hi)] [] (T, N, I, L, R) 0 0
  refine k_iload_n C rfl rfl rfl ?_
  refine k_iload_n C rfl rfl rfl ?_
  refine k_icmp_lt C (t := 14) rfl rfl rfl (fun c2 => ?_) (fun c2 => ?_)
  · skip
    refine k_iconst C (x := 0) rfl rfl rfl ?_
    exact k_iret C rfl (Or.inr ⟨rfl, by first | exact Or.inl rfl | exact Or.inr rfl⟩) (Nat.le_of_ble_eq_true rfl) (Nat.le_of_ble_eq_true rfl) ⟨_, _, _, rfl, rfl, ⟨by first | exact (if_pos ⟨Int32.not_lt.mp c2, Int32.not_lt.mp c7⟩).symm | exact (if_neg (fun h => Int32.not_lt.mpr h.2 c7)).symm | exact (if_neg (fun h => Int32.not_lt.mpr h.1 c2)).symm, rfl, rfl⟩⟩
  refine k_iload_n C rfl rfl rfl ?_
  refine k_iload_n C rfl rfl rfl ?_
  refine k_icmp_gt C (t := 14) rfl rfl rfl (fun c7 => ?_) (fun c7 => ?_)
  · skip
    refine k_iconst C (x := 0) rfl rfl rfl ?_
    exact k_iret C rfl (Or.inr ⟨rfl, by first | exact Or.inl rfl | exact Or.inr rfl⟩) (Nat.le_of_ble_eq_true rfl) (Nat.le_of_ble_eq_true rfl) ⟨_, _, _, rfl, rfl, ⟨by first | exact (if_pos ⟨Int32.not_lt.mp c2, Int32.not_lt.mp c7⟩).symm | exact (if_neg (fun h => Int32.not_lt.mpr h.2 c7)).symm | exact (if_neg (fun h => Int32.not_lt.mpr h.1 c2)).symm, rfl, rfl⟩⟩
  refine k_iconst C (x := 1) rfl rfl rfl ?_
  refine k_goto C (pc2 := 15) rfl rfl ?_
  exact k_iret C rfl (Or.inr ⟨rfl, by first | exact Or.inl rfl | exact Or.inr rfl⟩) (Nat.le_of_ble_eq_true rfl) (Nat.le_of_ble_eq_true rfl) ⟨_, _, _, rfl, rfl, ⟨by first | exact (if_pos ⟨Int32.not_lt.mp c2, Int32.not_lt.mp c7⟩).symm | exact (if_neg (fun h => Int32.not_lt.mpr h.2 c7)).symm | exact (if_neg (fun h => Int32.not_lt.mpr h.1 c2)).symm, rfl, rfl⟩⟩

theorem e_throwsIf1 {d : Nat} {T N : Nat → Nat} {I : IT} {L : LT} {R : RT} {m : Nat} {z c : Int32} (T_m : T m = 13) (hz : z = 1) : Ex (d + 1) 178 [.ref m, .int z, .int c] (T, N, I, L, R) 0 0 (pI T N R (fun x9 I9 L9 => x9 = (1) ∧ I9 = (u2 I m 0 c) ∧ L9 = (L))) := by
  refine ⟨_, rfl, Nat.le_of_ble_eq_true rfl, fun V C S => ?_⟩
  show V 0 [(0, .ref m), (1, .int z), (2, .int c)] [] (T, N, I, L, R) 0 0
  refine k_iload_n C rfl rfl rfl ?_
  refine k_if_eq C (t := 9) rfl rfl rfl (fun c1 => ?_) (fun c1 => ?_)
  · skip
    exact absurd (hz ▸ c1) (by decide)
  refine k_aload_n C rfl rfl rfl ?_
  refine k_iload_n C rfl rfl rfl ?_
  refine p_I C rfl rfl rfl T_m (Or.inr rfl) rfl ?_
  refine k_iload_n C rfl rfl rfl ?_
  exact k_iret C rfl (Or.inr ⟨rfl, Or.inr hz⟩) (Nat.le_of_ble_eq_true rfl) (Nat.le_of_ble_eq_true rfl) ⟨_, _, _, rfl, rfl, ⟨hz, rfl, rfl⟩⟩

theorem e_throwsIf0 {d : Nat} {T N : Nat → Nat} {I : IT} {L : LT} {R : RT} {m : Nat} {z c : Int32} (T_m : T m = 13) (hz : z = 0) : Ex (d + 1) 178 [.ref m, .int z, .int c] (T, N, I, L, R) 0 0 (pI T N R (fun x9 I9 L9 => x9 = (0) ∧ I9 = (I) ∧ L9 = (L))) := by
  refine ⟨_, rfl, Nat.le_of_ble_eq_true rfl, fun V C S => ?_⟩
  show V 0 [(0, .ref m), (1, .int z), (2, .int c)] [] (T, N, I, L, R) 0 0
  refine k_iload_n C rfl rfl rfl ?_
  refine k_if_eq C (t := 9) rfl rfl rfl (fun c1 => ?_) (fun c1 => ?_)
  · skip
    refine k_iload_n C rfl rfl rfl ?_
    exact k_iret C rfl (Or.inr ⟨rfl, Or.inl hz⟩) (Nat.le_of_ble_eq_true rfl) (Nat.le_of_ble_eq_true rfl) ⟨_, _, _, rfl, rfl, ⟨hz, rfl, rfl⟩⟩
  exact absurd hz c1

theorem e_noForm1 {d : Nat} {T N : Nat → Nat} {I : IT} {L : LT} {R : RT} {m w : Nat} {n : Int32} (T_m : T m = 13) (R_m_1 : R m 1 = some w) (T_w : T w = 20) (N_w : N w = 4007) (I_w_1 : I w 1 = 0) : Ex (d + 2) 184 [.ref m, .int n] (T, N, I, L, R) 0 0 (pI T N R (fun x9 I9 L9 => x9 = (1) ∧ I9 = I ∧ L9 = L)) := by
  refine ⟨_, rfl, Nat.le_of_ble_eq_true rfl, fun V C S => ?_⟩
  show V 0 [(0, .ref m), (1, .int n)] [] (T, N, I, L, R) 0 0
  refine k_iload_n C rfl rfl rfl ?_
  refine k_iconst C (x := 0) rfl rfl rfl ?_
  refine k_aload_n C rfl rfl rfl ?_
  refine g_R C rfl rfl rfl T_m rfl R_m_1 ?_
  refine k_iconst C (x := 1) rfl rfl rfl ?_
  refine a_I C rfl rfl T_w (vin (n := 1) rfl (by rw [N_w]; exact Nat.le_of_ble_eq_true rfl) (by rw [N_w]; exact Nat.le_of_ble_eq_true rfl)) I_w_1 ?_
  refine k_iconst C (x := 1) rfl rfl rfl ?_
  refine k_isub C rfl rfl ?_
  refine c_SI C e_in rfl rfl rfl rfl rfl rfl rfl (Nat.le_of_ble_eq_true rfl) (Nat.le_of_ble_eq_true rfl) (Nat.le_of_ble_eq_true rfl) ?_
  rintro _ _ _ ⟨rfl, rfl, rfl⟩
  refine k_if_ne C (t := 20) rfl rfl rfl (fun c13 => ?_) (fun c13 => ?_)
  · skip
    refine absurd ?_ c13
    rw [if_neg (fun h => absurd (Int32.le_trans h.1 h.2) (by decide))]
  refine k_iconst C (x := 1) rfl rfl rfl ?_
  refine k_goto C (pc2 := 21) rfl rfl ?_
  exact k_iret C rfl (Or.inr ⟨rfl, Or.inr rfl⟩) (Nat.le_of_ble_eq_true rfl) (Nat.le_of_ble_eq_true rfl) ⟨_, _, _, rfl, rfl, ⟨rfl, rfl, rfl⟩⟩

theorem e_noTable1 {d : Nat} {T N : Nat → Nat} {I : IT} {L : LT} {R : RT} {m w : Nat} {n : Int32} (T_m : T m = 13) (R_m_1 : R m 1 = some w) (T_w : T w = 20) (N_w : N w = 4007) (I_w_2 : I w 2 = 0) : Ex (d + 2) 185 [.ref m, .int n] (T, N, I, L, R) 0 0 (pI T N R (fun x9 I9 L9 => x9 = (1) ∧ I9 = I ∧ L9 = L)) := by
  refine ⟨_, rfl, Nat.le_of_ble_eq_true rfl, fun V C S => ?_⟩
  show V 0 [(0, .ref m), (1, .int n)] [] (T, N, I, L, R) 0 0
  refine k_iload_n C rfl rfl rfl ?_
  refine k_iconst C (x := 0) rfl rfl rfl ?_
  refine k_aload_n C rfl rfl rfl ?_
  refine g_R C rfl rfl rfl T_m rfl R_m_1 ?_
  refine k_iconst C (x := 2) rfl rfl rfl ?_
  refine a_I C rfl rfl T_w (vin (n := 2) rfl (by rw [N_w]; exact Nat.le_of_ble_eq_true rfl) (by rw [N_w]; exact Nat.le_of_ble_eq_true rfl)) I_w_2 ?_
  refine k_iconst C (x := 1) rfl rfl rfl ?_
  refine k_isub C rfl rfl ?_
  refine c_SI C e_in rfl rfl rfl rfl rfl rfl rfl (Nat.le_of_ble_eq_true rfl) (Nat.le_of_ble_eq_true rfl) (Nat.le_of_ble_eq_true rfl) ?_
  rintro _ _ _ ⟨rfl, rfl, rfl⟩
  refine k_if_ne C (t := 20) rfl rfl rfl (fun c13 => ?_) (fun c13 => ?_)
  · skip
    refine absurd ?_ c13
    rw [if_neg (fun h => absurd (Int32.le_trans h.1 h.2) (by decide))]
  refine k_iconst C (x := 1) rfl rfl rfl ?_
  refine k_goto C (pc2 := 21) rfl rfl ?_
  exact k_iret C rfl (Or.inr ⟨rfl, Or.inr rfl⟩) (Nat.le_of_ble_eq_true rfl) (Nat.le_of_ble_eq_true rfl) ⟨_, _, _, rfl, rfl, ⟨rfl, rfl, rfl⟩⟩

theorem e_noSigns1 {d : Nat} {T N : Nat → Nat} {I : IT} {L : LT} {R : RT} {m w : Nat} {n : Int32} (T_m : T m = 13) (R_m_1 : R m 1 = some w) (T_w : T w = 20) (N_w : N w = 4007) (I_w_3 : I w 3 = 0) : Ex (d + 2) 186 [.ref m, .int n] (T, N, I, L, R) 0 0 (pI T N R (fun x9 I9 L9 => x9 = (1) ∧ I9 = I ∧ L9 = L)) := by
  refine ⟨_, rfl, Nat.le_of_ble_eq_true rfl, fun V C S => ?_⟩
  show V 0 [(0, .ref m), (1, .int n)] [] (T, N, I, L, R) 0 0
  refine k_iload_n C rfl rfl rfl ?_
  refine k_iconst C (x := 0) rfl rfl rfl ?_
  refine k_aload_n C rfl rfl rfl ?_
  refine g_R C rfl rfl rfl T_m rfl R_m_1 ?_
  refine k_iconst C (x := 3) rfl rfl rfl ?_
  refine a_I C rfl rfl T_w (vin (n := 3) rfl (by rw [N_w]; exact Nat.le_of_ble_eq_true rfl) (by rw [N_w]; exact Nat.le_of_ble_eq_true rfl)) I_w_3 ?_
  refine k_iconst C (x := 1) rfl rfl rfl ?_
  refine k_isub C rfl rfl ?_
  refine c_SI C e_in rfl rfl rfl rfl rfl rfl rfl (Nat.le_of_ble_eq_true rfl) (Nat.le_of_ble_eq_true rfl) (Nat.le_of_ble_eq_true rfl) ?_
  rintro _ _ _ ⟨rfl, rfl, rfl⟩
  refine k_if_ne C (t := 20) rfl rfl rfl (fun c13 => ?_) (fun c13 => ?_)
  · skip
    refine absurd ?_ c13
    rw [if_neg (fun h => absurd (Int32.le_trans h.1 h.2) (by decide))]
  refine k_iconst C (x := 1) rfl rfl rfl ?_
  refine k_goto C (pc2 := 21) rfl rfl ?_
  exact k_iret C rfl (Or.inr ⟨rfl, Or.inr rfl⟩) (Nat.le_of_ble_eq_true rfl) (Nat.le_of_ble_eq_true rfl) ⟨_, _, _, rfl, rfl, ⟨rfl, rfl, rfl⟩⟩

theorem e_thrown {d : Nat} {T N : Nat → Nat} {I : IT} {L : LT} {R : RT} {m : Nat} (T_m : T m = 13) : Ex (d + 1) 177 [.ref m] (T, N, I, L, R) 0 0 (pI T N R (fun x9 I9 L9 => x9 = (I m 0) ∧ I9 = I ∧ L9 = L)) := by
  refine ⟨_, rfl, Nat.le_of_ble_eq_true rfl, fun V C S => ?_⟩
  show V 0 [(0, .ref m)] [] (T, N, I, L, R) 0 0
  refine k_aload_n C rfl rfl rfl ?_
  refine g_I C rfl rfl rfl T_m rfl (rfl) ?_
  exact k_iret C rfl (Or.inl rfl) (Nat.le_of_ble_eq_true rfl) (Nat.le_of_ble_eq_true rfl) ⟨_, _, _, rfl, rfl, ⟨rfl, rfl, rfl⟩⟩

theorem e_m_look0 {d : Nat} {T N : Nat → Nat} {I : IT} {L : LT} {R : RT} {A : Nat → Prop} {m w : Nat} {n0 n1 : Int32} (T_m : T m = 13) (R_m_1 : R m 1 = some w) (T_w : T w = 20) (N_w : N w = 4007) (A_m : A m) (I_w_1 : I w 1 = 0) : Ex (d + 3) 241 [.ref m, .int n0, .int n1] (T, N, I, L, R) 0 0 (pI T N R (fun x9 I9 L9 => Fr A I L I9 L9 ∧ I9 m 0 = 1)) := by
  refine ⟨_, rfl, Nat.le_of_ble_eq_true rfl, fun V C S => ?_⟩
  show V 0 [(0, .ref m), (1, .int n0), (2, .int n1)] [] (T, N, I, L, R) 0 0
  refine k_aload_n C rfl rfl rfl ?_
  refine k_iconst C (x := 0) rfl rfl rfl ?_
  refine p_I C rfl rfl rfl T_m (Or.inr rfl) rfl ?_
  refine k_aload_n C rfl rfl rfl ?_
  refine k_aload_n C rfl rfl rfl ?_
  refine k_iload_n C rfl rfl rfl ?_
  refine c_VI C (e_noForm1 T_m R_m_1 T_w N_w ((u2_a (t_nq T_w T_m (by decide))).trans (I_w_1)) ) rfl rfl rfl rfl rfl ⟨_, rfl, rfl, T_m, Nat.le_of_ble_eq_true rfl⟩ rfl rfl (Nat.le_of_ble_eq_true rfl) (Nat.le_of_ble_eq_true rfl) (Nat.le_of_ble_eq_true rfl) ?_
  rintro _ _ _ ⟨rfl, rfl, rfl⟩
  refine k_iconst C (x := 1) rfl rfl rfl ?_
  refine c_VI C (e_throwsIf1 T_m rfl) rfl rfl rfl rfl rfl ⟨_, rfl, rfl, T_m, Nat.le_of_ble_eq_true rfl⟩ rfl rfl (Nat.le_of_ble_eq_true rfl) (Nat.le_of_ble_eq_true rfl) (Nat.le_of_ble_eq_true rfl) ?_
  rintro _ _ _ ⟨rfl, rfl, rfl⟩
  refine k_if_eq C (t := 20) rfl rfl rfl (fun c15 => absurd c15 (by decide)) (fun _ => ?_)
  refine k_iconst C (x := 0) rfl rfl rfl ?_
  exact k_iret C rfl (Or.inl rfl) (Nat.le_of_ble_eq_true rfl) (Nat.le_of_ble_eq_true rfl) ⟨_, _, _, rfl, rfl, ⟨(Fr.i (Fr.i Fr.rf A_m) A_m), u2_s⟩⟩

theorem e_m_at0 {d : Nat} {T N : Nat → Nat} {I : IT} {L : LT} {R : RT} {A : Nat → Prop} {m w : Nat} {n0 n1 n2 : Int32} (T_m : T m = 13) (R_m_1 : R m 1 = some w) (T_w : T w = 20) (N_w : N w = 4007) (A_m : A m) (I_w_1 : I w 1 = 0) : Ex (d + 3) 242 [.ref m, .int n0, .int n1, .int n2] (T, N, I, L, R) 0 0 (pI T N R (fun x9 I9 L9 => Fr A I L I9 L9 ∧ I9 m 0 = 1)) := by
  refine ⟨_, rfl, Nat.le_of_ble_eq_true rfl, fun V C S => ?_⟩
  show V 0 [(0, .ref m), (1, .int n0), (2, .int n1), (3, .int n2)] [] (T, N, I, L, R) 0 0
  refine k_aload_n C rfl rfl rfl ?_
  refine k_iconst C (x := 0) rfl rfl rfl ?_
  refine p_I C rfl rfl rfl T_m (Or.inr rfl) rfl ?_
  refine k_aload_n C rfl rfl rfl ?_
  refine k_aload_n C rfl rfl rfl ?_
  refine k_iload_n C rfl rfl rfl ?_
  refine c_VI C (e_noForm1 T_m R_m_1 T_w N_w ((u2_a (t_nq T_w T_m (by decide))).trans (I_w_1)) ) rfl rfl rfl rfl rfl ⟨_, rfl, rfl, T_m, Nat.le_of_ble_eq_true rfl⟩ rfl rfl (Nat.le_of_ble_eq_true rfl) (Nat.le_of_ble_eq_true rfl) (Nat.le_of_ble_eq_true rfl) ?_
  rintro _ _ _ ⟨rfl, rfl, rfl⟩
  refine k_iconst C (x := 1) rfl rfl rfl ?_
  refine c_VI C (e_throwsIf1 T_m rfl) rfl rfl rfl rfl rfl ⟨_, rfl, rfl, T_m, Nat.le_of_ble_eq_true rfl⟩ rfl rfl (Nat.le_of_ble_eq_true rfl) (Nat.le_of_ble_eq_true rfl) (Nat.le_of_ble_eq_true rfl) ?_
  rintro _ _ _ ⟨rfl, rfl, rfl⟩
  refine k_if_eq C (t := 20) rfl rfl rfl (fun c15 => absurd c15 (by decide)) (fun _ => ?_)
  refine k_iconst C (x := 0) rfl rfl rfl ?_
  exact k_iret C rfl (Or.inl rfl) (Nat.le_of_ble_eq_true rfl) (Nat.le_of_ble_eq_true rfl) ⟨_, _, _, rfl, rfl, ⟨(Fr.i (Fr.i Fr.rf A_m) A_m), u2_s⟩⟩

theorem e_m_det0 {d : Nat} {T N : Nat → Nat} {I : IT} {L : LT} {R : RT} {A : Nat → Prop} {m w : Nat} {n0 : Int32} (T_m : T m = 13) (R_m_1 : R m 1 = some w) (T_w : T w = 20) (N_w : N w = 4007) (A_m : A m) (I_w_2 : I w 2 = 0) : Ex (d + 3) 240 [.ref m, .int n0] (T, N, I, L, R) 0 0 (pI T N R (fun x9 I9 L9 => Fr A I L I9 L9 ∧ I9 m 0 = 1)) := by
  refine ⟨_, rfl, Nat.le_of_ble_eq_true rfl, fun V C S => ?_⟩
  show V 0 [(0, .ref m), (1, .int n0)] [] (T, N, I, L, R) 0 0
  refine k_aload_n C rfl rfl rfl ?_
  refine k_iconst C (x := 0) rfl rfl rfl ?_
  refine p_I C rfl rfl rfl T_m (Or.inr rfl) rfl ?_
  refine k_aload_n C rfl rfl rfl ?_
  refine k_aload_n C rfl rfl rfl ?_
  refine k_iload_n C rfl rfl rfl ?_
  refine c_VI C (e_noTable1 T_m R_m_1 T_w N_w ((u2_a (t_nq T_w T_m (by decide))).trans (I_w_2)) ) rfl rfl rfl rfl rfl ⟨_, rfl, rfl, T_m, Nat.le_of_ble_eq_true rfl⟩ rfl rfl (Nat.le_of_ble_eq_true rfl) (Nat.le_of_ble_eq_true rfl) (Nat.le_of_ble_eq_true rfl) ?_
  rintro _ _ _ ⟨rfl, rfl, rfl⟩
  refine k_iconst C (x := 1) rfl rfl rfl ?_
  refine c_VI C (e_throwsIf1 T_m rfl) rfl rfl rfl rfl rfl ⟨_, rfl, rfl, T_m, Nat.le_of_ble_eq_true rfl⟩ rfl rfl (Nat.le_of_ble_eq_true rfl) (Nat.le_of_ble_eq_true rfl) (Nat.le_of_ble_eq_true rfl) ?_
  rintro _ _ _ ⟨rfl, rfl, rfl⟩
  refine k_if_eq C (t := 20) rfl rfl rfl (fun c15 => absurd c15 (by decide)) (fun _ => ?_)
  refine k_iconst C (x := 0) rfl rfl rfl ?_
  exact k_iret C rfl (Or.inl rfl) (Nat.le_of_ble_eq_true rfl) (Nat.le_of_ble_eq_true rfl) ⟨_, _, _, rfl, rfl, ⟨(Fr.i (Fr.i Fr.rf A_m) A_m), u2_s⟩⟩

theorem e_m_told0 {d : Nat} {T N : Nat → Nat} {I : IT} {L : LT} {R : RT} {A : Nat → Prop} {m w : Nat} {n0 n1 : Int32} (T_m : T m = 13) (R_m_1 : R m 1 = some w) (T_w : T w = 20) (N_w : N w = 4007) (A_m : A m) (I_w_2 : I w 2 = 0) : Ex (d + 3) 239 [.ref m, .int n0, .int n1] (T, N, I, L, R) 0 0 (pI T N R (fun x9 I9 L9 => Fr A I L I9 L9 ∧ I9 m 0 = 1)) := by
  refine ⟨_, rfl, Nat.le_of_ble_eq_true rfl, fun V C S => ?_⟩
  show V 0 [(0, .ref m), (1, .int n0), (2, .int n1)] [] (T, N, I, L, R) 0 0
  refine k_aload_n C rfl rfl rfl ?_
  refine k_iconst C (x := 0) rfl rfl rfl ?_
  refine p_I C rfl rfl rfl T_m (Or.inr rfl) rfl ?_
  refine k_aload_n C rfl rfl rfl ?_
  refine k_aload_n C rfl rfl rfl ?_
  refine k_iload_n C rfl rfl rfl ?_
  refine c_VI C (e_noTable1 T_m R_m_1 T_w N_w ((u2_a (t_nq T_w T_m (by decide))).trans (I_w_2)) ) rfl rfl rfl rfl rfl ⟨_, rfl, rfl, T_m, Nat.le_of_ble_eq_true rfl⟩ rfl rfl (Nat.le_of_ble_eq_true rfl) (Nat.le_of_ble_eq_true rfl) (Nat.le_of_ble_eq_true rfl) ?_
  rintro _ _ _ ⟨rfl, rfl, rfl⟩
  refine k_iconst C (x := 1) rfl rfl rfl ?_
  refine c_VI C (e_throwsIf1 T_m rfl) rfl rfl rfl rfl rfl ⟨_, rfl, rfl, T_m, Nat.le_of_ble_eq_true rfl⟩ rfl rfl (Nat.le_of_ble_eq_true rfl) (Nat.le_of_ble_eq_true rfl) (Nat.le_of_ble_eq_true rfl) ?_
  rintro _ _ _ ⟨rfl, rfl, rfl⟩
  refine k_if_eq C (t := 22) rfl rfl rfl (fun c15 => absurd c15 (by decide)) (fun _ => ?_)
  refine k_iconst C (x := 0) rfl rfl rfl ?_
  refine k_goto C (pc2 := 41) rfl rfl ?_
  exact k_iret C rfl (Or.inl rfl) (Nat.le_of_ble_eq_true rfl) (Nat.le_of_ble_eq_true rfl) ⟨_, _, _, rfl, rfl, ⟨(Fr.i (Fr.i Fr.rf A_m) A_m), u2_s⟩⟩

theorem e_m_join0 {d : Nat} {T N : Nat → Nat} {I : IT} {L : LT} {R : RT} {A : Nat → Prop} {m w : Nat} {n0 n1 : Int32} (T_m : T m = 13) (R_m_1 : R m 1 = some w) (T_w : T w = 20) (N_w : N w = 4007) (A_m : A m) (I_w_2 : I w 2 = 0) : Ex (d + 3) 236 [.ref m, .int n0, .int n1] (T, N, I, L, R) 0 0 (pI T N R (fun x9 I9 L9 => Fr A I L I9 L9 ∧ I9 m 0 = 1)) := by
  refine ⟨_, rfl, Nat.le_of_ble_eq_true rfl, fun V C S => ?_⟩
  show V 0 [(0, .ref m), (1, .int n0), (2, .int n1)] [] (T, N, I, L, R) 0 0
  refine k_aload_n C rfl rfl rfl ?_
  refine k_iconst C (x := 0) rfl rfl rfl ?_
  refine p_I C rfl rfl rfl T_m (Or.inr rfl) rfl ?_
  refine k_aload_n C rfl rfl rfl ?_
  refine k_aload_n C rfl rfl rfl ?_
  refine k_iload_n C rfl rfl rfl ?_
  refine c_VI C (e_noTable1 T_m R_m_1 T_w N_w ((u2_a (t_nq T_w T_m (by decide))).trans (I_w_2)) ) rfl rfl rfl rfl rfl ⟨_, rfl, rfl, T_m, Nat.le_of_ble_eq_true rfl⟩ rfl rfl (Nat.le_of_ble_eq_true rfl) (Nat.le_of_ble_eq_true rfl) (Nat.le_of_ble_eq_true rfl) ?_
  rintro _ _ _ ⟨rfl, rfl, rfl⟩
  refine k_if_ne C (t := 22) rfl rfl rfl (fun _ => ?_) (fun c11 => absurd (by decide) c11)
  refine k_iconst C (x := 1) rfl rfl rfl ?_
  refine k_goto C (pc2 := 27) rfl rfl ?_
  refine k_iconst C (x := 1) rfl rfl rfl ?_
  refine c_VI C (e_throwsIf1 T_m rfl) rfl rfl rfl rfl rfl ⟨_, rfl, rfl, T_m, Nat.le_of_ble_eq_true rfl⟩ rfl rfl (Nat.le_of_ble_eq_true rfl) (Nat.le_of_ble_eq_true rfl) (Nat.le_of_ble_eq_true rfl) ?_
  rintro _ _ _ ⟨rfl, rfl, rfl⟩
  refine k_if_ne C (t := 58) rfl rfl rfl (fun _ => ?_) (fun c31 => absurd (by decide) c31)
  refine k_iconst C (x := 0) rfl rfl rfl ?_
  exact k_iret C rfl (Or.inl rfl) (Nat.le_of_ble_eq_true rfl) (Nat.le_of_ble_eq_true rfl) ⟨_, _, _, rfl, rfl, ⟨(Fr.i (Fr.i Fr.rf A_m) A_m), u2_s⟩⟩

theorem e_m_turn0 {d : Nat} {T N : Nat → Nat} {I : IT} {L : LT} {R : RT} {A : Nat → Prop} {m w : Nat} {n0 : Int32} (T_m : T m = 13) (R_m_1 : R m 1 = some w) (T_w : T w = 20) (N_w : N w = 4007) (A_m : A m) (I_w_2 : I w 2 = 0) : Ex (d + 3) 238 [.ref m, .int n0] (T, N, I, L, R) 0 0 (pI T N R (fun x9 I9 L9 => Fr A I L I9 L9 ∧ I9 m 0 = 1)) := by
  refine ⟨_, rfl, Nat.le_of_ble_eq_true rfl, fun V C S => ?_⟩
  show V 0 [(0, .ref m), (1, .int n0)] [] (T, N, I, L, R) 0 0
  refine k_aload_n C rfl rfl rfl ?_
  refine k_iconst C (x := 0) rfl rfl rfl ?_
  refine p_I C rfl rfl rfl T_m (Or.inr rfl) rfl ?_
  refine k_aload_n C rfl rfl rfl ?_
  refine k_aload_n C rfl rfl rfl ?_
  refine k_iload_n C rfl rfl rfl ?_
  refine c_VI C (e_noTable1 T_m R_m_1 T_w N_w ((u2_a (t_nq T_w T_m (by decide))).trans (I_w_2)) ) rfl rfl rfl rfl rfl ⟨_, rfl, rfl, T_m, Nat.le_of_ble_eq_true rfl⟩ rfl rfl (Nat.le_of_ble_eq_true rfl) (Nat.le_of_ble_eq_true rfl) (Nat.le_of_ble_eq_true rfl) ?_
  rintro _ _ _ ⟨rfl, rfl, rfl⟩
  refine k_iconst C (x := 1) rfl rfl rfl ?_
  refine c_VI C (e_throwsIf1 T_m rfl) rfl rfl rfl rfl rfl ⟨_, rfl, rfl, T_m, Nat.le_of_ble_eq_true rfl⟩ rfl rfl (Nat.le_of_ble_eq_true rfl) (Nat.le_of_ble_eq_true rfl) (Nat.le_of_ble_eq_true rfl) ?_
  rintro _ _ _ ⟨rfl, rfl, rfl⟩
  refine k_if_ne C (t := 42) rfl rfl rfl (fun _ => ?_) (fun c15 => absurd (by decide) c15)
  refine k_iconst C (x := 0) rfl rfl rfl ?_
  exact k_iret C rfl (Or.inl rfl) (Nat.le_of_ble_eq_true rfl) (Nat.le_of_ble_eq_true rfl) ⟨_, _, _, rfl, rfl, ⟨(Fr.i (Fr.i Fr.rf A_m) A_m), u2_s⟩⟩

theorem e_m_mix0 {d : Nat} {T N : Nat → Nat} {I : IT} {L : LT} {R : RT} {A : Nat → Prop} {m w : Nat} {n0 n1 : Int32} (T_m : T m = 13) (R_m_1 : R m 1 = some w) (T_w : T w = 20) (N_w : N w = 4007) (A_m : A m) (I_w_1 : I w 1 = 0) (I_w_2 : I w 2 = 0) : Ex (d + 3) 244 [.ref m, .int n0, .int n1] (T, N, I, L, R) 0 0 (pI T N R (fun x9 I9 L9 => Fr A I L I9 L9 ∧ I9 m 0 = 1)) := by
  refine ⟨_, rfl, Nat.le_of_ble_eq_true rfl, fun V C S => ?_⟩
  show V 0 [(0, .ref m), (1, .int n0), (2, .int n1)] [] (T, N, I, L, R) 0 0
  refine k_aload_n C rfl rfl rfl ?_
  refine k_iconst C (x := 0) rfl rfl rfl ?_
  refine p_I C rfl rfl rfl T_m (Or.inr rfl) rfl ?_
  refine k_aload_n C rfl rfl rfl ?_
  refine k_aload_n C rfl rfl rfl ?_
  refine k_iload_n C rfl rfl rfl ?_
  refine c_VI C (e_noForm1 T_m R_m_1 T_w N_w ((u2_a (t_nq T_w T_m (by decide))).trans (I_w_1)) ) rfl rfl rfl rfl rfl ⟨_, rfl, rfl, T_m, Nat.le_of_ble_eq_true rfl⟩ rfl rfl (Nat.le_of_ble_eq_true rfl) (Nat.le_of_ble_eq_true rfl) (Nat.le_of_ble_eq_true rfl) ?_
  rintro _ _ _ ⟨rfl, rfl, rfl⟩
  refine k_if_ne C (t := 22) rfl rfl rfl (fun _ => ?_) (fun c11 => absurd (by decide) c11)
  refine k_iconst C (x := 1) rfl rfl rfl ?_
  refine k_goto C (pc2 := 27) rfl rfl ?_
  refine k_iconst C (x := 1) rfl rfl rfl ?_
  refine c_VI C (e_throwsIf1 T_m rfl) rfl rfl rfl rfl rfl ⟨_, rfl, rfl, T_m, Nat.le_of_ble_eq_true rfl⟩ rfl rfl (Nat.le_of_ble_eq_true rfl) (Nat.le_of_ble_eq_true rfl) (Nat.le_of_ble_eq_true rfl) ?_
  rintro _ _ _ ⟨rfl, rfl, rfl⟩
  refine k_if_eq C (t := 36) rfl rfl rfl (fun c31 => absurd c31 (by decide)) (fun _ => ?_)
  refine k_iconst C (x := 0) rfl rfl rfl ?_
  exact k_iret C rfl (Or.inr ⟨rfl, Or.inl rfl⟩) (Nat.le_of_ble_eq_true rfl) (Nat.le_of_ble_eq_true rfl) ⟨_, _, _, rfl, rfl, ⟨(Fr.i (Fr.i Fr.rf A_m) A_m), u2_s⟩⟩

theorem e_m_value0 {d : Nat} {T N : Nat → Nat} {I : IT} {L : LT} {R : RT} {A : Nat → Prop} {m w : Nat} {n0 n1 n2 : Int32} (T_m : T m = 13) (R_m_1 : R m 1 = some w) (T_w : T w = 20) (N_w : N w = 4007) (A_m : A m) (I_w_1 : I w 1 = 0) (I_w_3 : I w 3 = 0) : Ex (d + 3) 253 [.ref m, .int n0, .int n1, .int n2] (T, N, I, L, R) 0 0 (pI T N R (fun x9 I9 L9 => Fr A I L I9 L9 ∧ I9 m 0 = 1)) := by
  refine ⟨_, rfl, Nat.le_of_ble_eq_true rfl, fun V C S => ?_⟩
  show V 0 [(0, .ref m), (1, .int n0), (2, .int n1), (3, .int n2)] [] (T, N, I, L, R) 0 0
  refine k_aload_n C rfl rfl rfl ?_
  refine k_iconst C (x := 0) rfl rfl rfl ?_
  refine p_I C rfl rfl rfl T_m (Or.inr rfl) rfl ?_
  refine k_aload_n C rfl rfl rfl ?_
  refine k_aload_n C rfl rfl rfl ?_
  refine k_iload_n C rfl rfl rfl ?_
  refine c_VI C (e_noSigns1 T_m R_m_1 T_w N_w ((u2_a (t_nq T_w T_m (by decide))).trans (I_w_3)) ) rfl rfl rfl rfl rfl ⟨_, rfl, rfl, T_m, Nat.le_of_ble_eq_true rfl⟩ rfl rfl (Nat.le_of_ble_eq_true rfl) (Nat.le_of_ble_eq_true rfl) (Nat.le_of_ble_eq_true rfl) ?_
  rintro _ _ _ ⟨rfl, rfl, rfl⟩
  refine k_if_ne C (t := 22) rfl rfl rfl (fun _ => ?_) (fun c11 => absurd (by decide) c11)
  refine k_iconst C (x := 1) rfl rfl rfl ?_
  refine k_goto C (pc2 := 27) rfl rfl ?_
  refine k_iconst C (x := 1) rfl rfl rfl ?_
  refine c_VI C (e_throwsIf1 T_m rfl) rfl rfl rfl rfl rfl ⟨_, rfl, rfl, T_m, Nat.le_of_ble_eq_true rfl⟩ rfl rfl (Nat.le_of_ble_eq_true rfl) (Nat.le_of_ble_eq_true rfl) (Nat.le_of_ble_eq_true rfl) ?_
  rintro _ _ _ ⟨rfl, rfl, rfl⟩
  refine k_if_eq C (t := 36) rfl rfl rfl (fun c31 => absurd c31 (by decide)) (fun _ => ?_)
  refine k_iconst C (x := 0) rfl rfl rfl ?_
  exact k_iret C rfl (Or.inl rfl) (Nat.le_of_ble_eq_true rfl) (Nat.le_of_ble_eq_true rfl) ⟨_, _, _, rfl, rfl, ⟨(Fr.i (Fr.i Fr.rf A_m) A_m), u2_s⟩⟩

theorem e_m_rank0 {d : Nat} {T N : Nat → Nat} {I : IT} {L : LT} {R : RT} {A : Nat → Prop} {m w : Nat} {n0 n1 : Int32} (T_m : T m = 13) (R_m_1 : R m 1 = some w) (T_w : T w = 20) (N_w : N w = 4007) (A_m : A m) (I_w_3 : I w 3 = 0) : Ex (d + 3) 255 [.ref m, .int n0, .int n1] (T, N, I, L, R) 0 0 (pI T N R (fun x9 I9 L9 => Fr A I L I9 L9 ∧ I9 m 0 = 1)) := by
  refine ⟨_, rfl, Nat.le_of_ble_eq_true rfl, fun V C S => ?_⟩
  show V 0 [(0, .ref m), (1, .int n0), (2, .int n1)] [] (T, N, I, L, R) 0 0
  refine k_aload_n C rfl rfl rfl ?_
  refine k_iconst C (x := 0) rfl rfl rfl ?_
  refine p_I C rfl rfl rfl T_m (Or.inr rfl) rfl ?_
  refine k_aload_n C rfl rfl rfl ?_
  refine k_aload_n C rfl rfl rfl ?_
  refine k_iload_n C rfl rfl rfl ?_
  refine c_VI C (e_noSigns1 T_m R_m_1 T_w N_w ((u2_a (t_nq T_w T_m (by decide))).trans (I_w_3)) ) rfl rfl rfl rfl rfl ⟨_, rfl, rfl, T_m, Nat.le_of_ble_eq_true rfl⟩ rfl rfl (Nat.le_of_ble_eq_true rfl) (Nat.le_of_ble_eq_true rfl) (Nat.le_of_ble_eq_true rfl) ?_
  rintro _ _ _ ⟨rfl, rfl, rfl⟩
  refine k_iconst C (x := 1) rfl rfl rfl ?_
  refine c_VI C (e_throwsIf1 T_m rfl) rfl rfl rfl rfl rfl ⟨_, rfl, rfl, T_m, Nat.le_of_ble_eq_true rfl⟩ rfl rfl (Nat.le_of_ble_eq_true rfl) (Nat.le_of_ble_eq_true rfl) (Nat.le_of_ble_eq_true rfl) ?_
  rintro _ _ _ ⟨rfl, rfl, rfl⟩
  refine k_if_eq C (t := 22) rfl rfl rfl (fun c15 => absurd c15 (by decide)) (fun _ => ?_)
  refine k_iconst C (x := 0) rfl rfl rfl ?_
  refine k_goto C (pc2 := 28) rfl rfl ?_
  exact k_iret C rfl (Or.inl rfl) (Nat.le_of_ble_eq_true rfl) (Nat.le_of_ble_eq_true rfl) ⟨_, _, _, rfl, rfl, ⟨(Fr.i (Fr.i Fr.rf A_m) A_m), u2_s⟩⟩

theorem e_m_stays0 {d : Nat} {T N : Nat → Nat} {I : IT} {L : LT} {R : RT} {A : Nat → Prop} {m w : Nat} {n0 n1 n2 : Int32} (T_m : T m = 13) (R_m_1 : R m 1 = some w) (T_w : T w = 20) (N_w : N w = 4007) (A_m : A m) (I_w_1 : I w 1 = 0) (I_w_2 : I w 2 = 0) (I_w_3 : I w 3 = 0) : Ex (d + 3) 256 [.ref m, .int n0, .int n1, .int n2] (T, N, I, L, R) 0 0 (pI T N R (fun x9 I9 L9 => Fr A I L I9 L9 ∧ I9 m 0 = 1)) := by
  refine ⟨_, rfl, Nat.le_of_ble_eq_true rfl, fun V C S => ?_⟩
  show V 0 [(0, .ref m), (1, .int n0), (2, .int n1), (3, .int n2)] [] (T, N, I, L, R) 0 0
  refine k_aload_n C rfl rfl rfl ?_
  refine k_iconst C (x := 0) rfl rfl rfl ?_
  refine p_I C rfl rfl rfl T_m (Or.inr rfl) rfl ?_
  refine k_aload_n C rfl rfl rfl ?_
  refine k_aload_n C rfl rfl rfl ?_
  refine k_iload_n C rfl rfl rfl ?_
  refine c_VI C (e_noSigns1 T_m R_m_1 T_w N_w ((u2_a (t_nq T_w T_m (by decide))).trans (I_w_3)) ) rfl rfl rfl rfl rfl ⟨_, rfl, rfl, T_m, Nat.le_of_ble_eq_true rfl⟩ rfl rfl (Nat.le_of_ble_eq_true rfl) (Nat.le_of_ble_eq_true rfl) (Nat.le_of_ble_eq_true rfl) ?_
  rintro _ _ _ ⟨rfl, rfl, rfl⟩
  refine k_if_ne C (t := 30) rfl rfl rfl (fun _ => ?_) (fun c11 => absurd (by decide) c11)
  refine k_iconst C (x := 1) rfl rfl rfl ?_
  refine k_goto C (pc2 := 35) rfl rfl ?_
  refine k_iconst C (x := 1) rfl rfl rfl ?_
  refine c_VI C (e_throwsIf1 T_m rfl) rfl rfl rfl rfl rfl ⟨_, rfl, rfl, T_m, Nat.le_of_ble_eq_true rfl⟩ rfl rfl (Nat.le_of_ble_eq_true rfl) (Nat.le_of_ble_eq_true rfl) (Nat.le_of_ble_eq_true rfl) ?_
  rintro _ _ _ ⟨rfl, rfl, rfl⟩
  refine k_if_eq C (t := 44) rfl rfl rfl (fun c39 => absurd c39 (by decide)) (fun _ => ?_)
  refine k_iconst C (x := 0) rfl rfl rfl ?_
  exact k_iret C rfl (Or.inr ⟨rfl, Or.inl rfl⟩) (Nat.le_of_ble_eq_true rfl) (Nat.le_of_ble_eq_true rfl) ⟨_, _, _, rfl, rfl, ⟨(Fr.i (Fr.i Fr.rf A_m) A_m), u2_s⟩⟩

theorem e_m_agree0 {d : Nat} {T N : Nat → Nat} {I : IT} {L : LT} {R : RT} {A : Nat → Prop} {m w : Nat} {n0 n1 n2 : Int32} (T_m : T m = 13) (R_m_1 : R m 1 = some w) (T_w : T w = 20) (N_w : N w = 4007) (A_m : A m) (I_w_3 : I w 3 = 0) : Ex (d + 3) 257 [.ref m, .int n0, .int n1, .int n2] (T, N, I, L, R) 0 0 (pI T N R (fun x9 I9 L9 => Fr A I L I9 L9 ∧ I9 m 0 = 1)) := by
  refine ⟨_, rfl, Nat.le_of_ble_eq_true rfl, fun V C S => ?_⟩
  show V 0 [(0, .ref m), (1, .int n0), (2, .int n1), (3, .int n2)] [] (T, N, I, L, R) 0 0
  refine k_aload_n C rfl rfl rfl ?_
  refine k_iconst C (x := 0) rfl rfl rfl ?_
  refine p_I C rfl rfl rfl T_m (Or.inr rfl) rfl ?_
  refine k_aload_n C rfl rfl rfl ?_
  refine k_aload_n C rfl rfl rfl ?_
  refine k_iload_n C rfl rfl rfl ?_
  refine c_VI C (e_noSigns1 T_m R_m_1 T_w N_w ((u2_a (t_nq T_w T_m (by decide))).trans (I_w_3)) ) rfl rfl rfl rfl rfl ⟨_, rfl, rfl, T_m, Nat.le_of_ble_eq_true rfl⟩ rfl rfl (Nat.le_of_ble_eq_true rfl) (Nat.le_of_ble_eq_true rfl) (Nat.le_of_ble_eq_true rfl) ?_
  rintro _ _ _ ⟨rfl, rfl, rfl⟩
  refine k_if_ne C (t := 22) rfl rfl rfl (fun _ => ?_) (fun c11 => absurd (by decide) c11)
  refine k_iconst C (x := 1) rfl rfl rfl ?_
  refine k_goto C (pc2 := 27) rfl rfl ?_
  refine k_iconst C (x := 1) rfl rfl rfl ?_
  refine c_VI C (e_throwsIf1 T_m rfl) rfl rfl rfl rfl rfl ⟨_, rfl, rfl, T_m, Nat.le_of_ble_eq_true rfl⟩ rfl rfl (Nat.le_of_ble_eq_true rfl) (Nat.le_of_ble_eq_true rfl) (Nat.le_of_ble_eq_true rfl) ?_
  rintro _ _ _ ⟨rfl, rfl, rfl⟩
  refine k_if_ne C (t := 57) rfl rfl rfl (fun _ => ?_) (fun c31 => absurd (by decide) c31)
  refine k_iconst C (x := 0) rfl rfl rfl ?_
  exact k_iret C rfl (Or.inl rfl) (Nat.le_of_ble_eq_true rfl) (Nat.le_of_ble_eq_true rfl) ⟨_, _, _, rfl, rfl, ⟨(Fr.i (Fr.i Fr.rf A_m) A_m), u2_s⟩⟩

theorem e_m_root0 {d : Nat} {T N : Nat → Nat} {I : IT} {L : LT} {R : RT} {A : Nat → Prop} {m w : Nat} {n0 n1 : Int32} (T_m : T m = 13) (R_m_1 : R m 1 = some w) (T_w : T w = 20) (N_w : N w = 4007) (A_m : A m) (I_w_1 : I w 1 = 0) : Ex (d + 3) 269 [.ref m, .int n0, .int n1] (T, N, I, L, R) 0 0 (pI T N R (fun x9 I9 L9 => Fr A I L I9 L9 ∧ I9 m 0 = 1)) := by
  refine ⟨_, rfl, Nat.le_of_ble_eq_true rfl, fun V C S => ?_⟩
  show V 0 [(0, .ref m), (1, .int n0), (2, .int n1)] [] (T, N, I, L, R) 0 0
  refine k_aload_n C rfl rfl rfl ?_
  refine k_iconst C (x := 0) rfl rfl rfl ?_
  refine p_I C rfl rfl rfl T_m (Or.inr rfl) rfl ?_
  refine k_aload_n C rfl rfl rfl ?_
  refine k_aload_n C rfl rfl rfl ?_
  refine k_iload_n C rfl rfl rfl ?_
  refine c_VI C (e_noForm1 T_m R_m_1 T_w N_w ((u2_a (t_nq T_w T_m (by decide))).trans (I_w_1)) ) rfl rfl rfl rfl rfl ⟨_, rfl, rfl, T_m, Nat.le_of_ble_eq_true rfl⟩ rfl rfl (Nat.le_of_ble_eq_true rfl) (Nat.le_of_ble_eq_true rfl) (Nat.le_of_ble_eq_true rfl) ?_
  rintro _ _ _ ⟨rfl, rfl, rfl⟩
  refine k_iconst C (x := 1) rfl rfl rfl ?_
  refine c_VI C (e_throwsIf1 T_m rfl) rfl rfl rfl rfl rfl ⟨_, rfl, rfl, T_m, Nat.le_of_ble_eq_true rfl⟩ rfl rfl (Nat.le_of_ble_eq_true rfl) (Nat.le_of_ble_eq_true rfl) (Nat.le_of_ble_eq_true rfl) ?_
  rintro _ _ _ ⟨rfl, rfl, rfl⟩
  refine k_if_ne C (t := 31) rfl rfl rfl (fun _ => ?_) (fun c15 => absurd (by decide) c15)
  refine k_iconst C (x := 0) rfl rfl rfl ?_
  exact k_iret C rfl (Or.inl rfl) (Nat.le_of_ble_eq_true rfl) (Nat.le_of_ble_eq_true rfl) ⟨_, _, _, rfl, rfl, ⟨(Fr.i (Fr.i Fr.rf A_m) A_m), u2_s⟩⟩

theorem e_m_roots0 {d : Nat} {T N : Nat → Nat} {I : IT} {L : LT} {R : RT} {A : Nat → Prop} {m w : Nat} {n0 : Int32} (T_m : T m = 13) (R_m_1 : R m 1 = some w) (T_w : T w = 20) (N_w : N w = 4007) (A_m : A m) (I_w_1 : I w 1 = 0) : Ex (d + 3) 270 [.ref m, .int n0] (T, N, I, L, R) 0 0 (pI T N R (fun x9 I9 L9 => Fr A I L I9 L9 ∧ I9 m 0 = 1)) := by
  refine ⟨_, rfl, Nat.le_of_ble_eq_true rfl, fun V C S => ?_⟩
  show V 0 [(0, .ref m), (1, .int n0)] [] (T, N, I, L, R) 0 0
  refine k_aload_n C rfl rfl rfl ?_
  refine k_iconst C (x := 0) rfl rfl rfl ?_
  refine p_I C rfl rfl rfl T_m (Or.inr rfl) rfl ?_
  refine k_aload_n C rfl rfl rfl ?_
  refine k_aload_n C rfl rfl rfl ?_
  refine k_iload_n C rfl rfl rfl ?_
  refine c_VI C (e_noForm1 T_m R_m_1 T_w N_w ((u2_a (t_nq T_w T_m (by decide))).trans (I_w_1)) ) rfl rfl rfl rfl rfl ⟨_, rfl, rfl, T_m, Nat.le_of_ble_eq_true rfl⟩ rfl rfl (Nat.le_of_ble_eq_true rfl) (Nat.le_of_ble_eq_true rfl) (Nat.le_of_ble_eq_true rfl) ?_
  rintro _ _ _ ⟨rfl, rfl, rfl⟩
  refine k_iconst C (x := 1) rfl rfl rfl ?_
  refine c_VI C (e_throwsIf1 T_m rfl) rfl rfl rfl rfl rfl ⟨_, rfl, rfl, T_m, Nat.le_of_ble_eq_true rfl⟩ rfl rfl (Nat.le_of_ble_eq_true rfl) (Nat.le_of_ble_eq_true rfl) (Nat.le_of_ble_eq_true rfl) ?_
  rintro _ _ _ ⟨rfl, rfl, rfl⟩
  refine k_if_eq C (t := 20) rfl rfl rfl (fun c15 => absurd c15 (by decide)) (fun _ => ?_)
  refine k_iconst C (x := 0) rfl rfl rfl ?_
  exact k_iret C rfl (Or.inl rfl) (Nat.le_of_ble_eq_true rfl) (Nat.le_of_ble_eq_true rfl) ⟨_, _, _, rfl, rfl, ⟨(Fr.i (Fr.i Fr.rf A_m) A_m), u2_s⟩⟩

theorem e_m_empty0 {d : Nat} {T N : Nat → Nat} {I : IT} {L : LT} {R : RT} {A : Nat → Prop} {m w : Nat} {n0 : Int32} (T_m : T m = 13) (R_m_1 : R m 1 = some w) (T_w : T w = 20) (N_w : N w = 4007) (A_m : A m) (I_w_1 : I w 1 = 0) : Ex (d + 3) 271 [.ref m, .int n0] (T, N, I, L, R) 0 0 (pI T N R (fun x9 I9 L9 => Fr A I L I9 L9 ∧ I9 m 0 = 1)) := by
  refine ⟨_, rfl, Nat.le_of_ble_eq_true rfl, fun V C S => ?_⟩
  show V 0 [(0, .ref m), (1, .int n0)] [] (T, N, I, L, R) 0 0
  refine k_aload_n C rfl rfl rfl ?_
  refine k_iconst C (x := 0) rfl rfl rfl ?_
  refine p_I C rfl rfl rfl T_m (Or.inr rfl) rfl ?_
  refine k_aload_n C rfl rfl rfl ?_
  refine k_aload_n C rfl rfl rfl ?_
  refine k_iload_n C rfl rfl rfl ?_
  refine c_VI C (e_noForm1 T_m R_m_1 T_w N_w ((u2_a (t_nq T_w T_m (by decide))).trans (I_w_1)) ) rfl rfl rfl rfl rfl ⟨_, rfl, rfl, T_m, Nat.le_of_ble_eq_true rfl⟩ rfl rfl (Nat.le_of_ble_eq_true rfl) (Nat.le_of_ble_eq_true rfl) (Nat.le_of_ble_eq_true rfl) ?_
  rintro _ _ _ ⟨rfl, rfl, rfl⟩
  refine k_iconst C (x := 1) rfl rfl rfl ?_
  refine c_VI C (e_throwsIf1 T_m rfl) rfl rfl rfl rfl rfl ⟨_, rfl, rfl, T_m, Nat.le_of_ble_eq_true rfl⟩ rfl rfl (Nat.le_of_ble_eq_true rfl) (Nat.le_of_ble_eq_true rfl) (Nat.le_of_ble_eq_true rfl) ?_
  rintro _ _ _ ⟨rfl, rfl, rfl⟩
  refine k_if_eq C (t := 20) rfl rfl rfl (fun c15 => absurd c15 (by decide)) (fun _ => ?_)
  refine k_iconst C (x := 0) rfl rfl rfl ?_
  exact k_iret C rfl (Or.inr ⟨rfl, Or.inl rfl⟩) (Nat.le_of_ble_eq_true rfl) (Nat.le_of_ble_eq_true rfl) ⟨_, _, _, rfl, rfl, ⟨(Fr.i (Fr.i Fr.rf A_m) A_m), u2_s⟩⟩

theorem e_m_same0 {d : Nat} {T N : Nat → Nat} {I : IT} {L : LT} {R : RT} {A : Nat → Prop} {m w : Nat} {n0 n1 : Int32} (T_m : T m = 13) (R_m_1 : R m 1 = some w) (T_w : T w = 20) (N_w : N w = 4007) (A_m : A m) (I_w_1 : I w 1 = 0) : Ex (d + 3) 275 [.ref m, .int n0, .int n1] (T, N, I, L, R) 0 0 (pI T N R (fun x9 I9 L9 => Fr A I L I9 L9 ∧ I9 m 0 = 1)) := by
  refine ⟨_, rfl, Nat.le_of_ble_eq_true rfl, fun V C S => ?_⟩
  show V 0 [(0, .ref m), (1, .int n0), (2, .int n1)] [] (T, N, I, L, R) 0 0
  refine k_aload_n C rfl rfl rfl ?_
  refine k_iconst C (x := 0) rfl rfl rfl ?_
  refine p_I C rfl rfl rfl T_m (Or.inr rfl) rfl ?_
  refine k_aload_n C rfl rfl rfl ?_
  refine k_aload_n C rfl rfl rfl ?_
  refine k_iload_n C rfl rfl rfl ?_
  refine c_VI C (e_noForm1 T_m R_m_1 T_w N_w ((u2_a (t_nq T_w T_m (by decide))).trans (I_w_1)) ) rfl rfl rfl rfl rfl ⟨_, rfl, rfl, T_m, Nat.le_of_ble_eq_true rfl⟩ rfl rfl (Nat.le_of_ble_eq_true rfl) (Nat.le_of_ble_eq_true rfl) (Nat.le_of_ble_eq_true rfl) ?_
  rintro _ _ _ ⟨rfl, rfl, rfl⟩
  refine k_if_ne C (t := 22) rfl rfl rfl (fun _ => ?_) (fun c11 => absurd (by decide) c11)
  refine k_iconst C (x := 1) rfl rfl rfl ?_
  refine k_goto C (pc2 := 27) rfl rfl ?_
  refine k_iconst C (x := 1) rfl rfl rfl ?_
  refine c_VI C (e_throwsIf1 T_m rfl) rfl rfl rfl rfl rfl ⟨_, rfl, rfl, T_m, Nat.le_of_ble_eq_true rfl⟩ rfl rfl (Nat.le_of_ble_eq_true rfl) (Nat.le_of_ble_eq_true rfl) (Nat.le_of_ble_eq_true rfl) ?_
  rintro _ _ _ ⟨rfl, rfl, rfl⟩
  refine k_if_eq C (t := 38) rfl rfl rfl (fun c31 => absurd c31 (by decide)) (fun _ => ?_)
  refine k_iconst C (x := 0) rfl rfl rfl ?_
  refine k_goto C (pc2 := 44) rfl rfl ?_
  exact k_iret C rfl (Or.inl rfl) (Nat.le_of_ble_eq_true rfl) (Nat.le_of_ble_eq_true rfl) ⟨_, _, _, rfl, rfl, ⟨(Fr.i (Fr.i Fr.rf A_m) A_m), u2_s⟩⟩

theorem e_m_keep0 {d : Nat} {T N : Nat → Nat} {I : IT} {L : LT} {R : RT} {A : Nat → Prop} {m w : Nat} {n0 : Int32} (T_m : T m = 13) (R_m_1 : R m 1 = some w) (T_w : T w = 20) (N_w : N w = 4007) (A_m : A m) (I_w_1 : I w 1 = 0) : Ex (d + 3) 278 [.ref m, .int n0] (T, N, I, L, R) 0 0 (pI T N R (fun x9 I9 L9 => Fr A I L I9 L9 ∧ I9 m 0 = 1)) := by
  refine ⟨_, rfl, Nat.le_of_ble_eq_true rfl, fun V C S => ?_⟩
  show V 0 [(0, .ref m), (1, .int n0)] [] (T, N, I, L, R) 0 0
  refine k_aload_n C rfl rfl rfl ?_
  refine k_iconst C (x := 0) rfl rfl rfl ?_
  refine p_I C rfl rfl rfl T_m (Or.inr rfl) rfl ?_
  refine k_aload_n C rfl rfl rfl ?_
  refine k_aload_n C rfl rfl rfl ?_
  refine k_iload_n C rfl rfl rfl ?_
  refine c_VI C (e_noForm1 T_m R_m_1 T_w N_w ((u2_a (t_nq T_w T_m (by decide))).trans (I_w_1)) ) rfl rfl rfl rfl rfl ⟨_, rfl, rfl, T_m, Nat.le_of_ble_eq_true rfl⟩ rfl rfl (Nat.le_of_ble_eq_true rfl) (Nat.le_of_ble_eq_true rfl) (Nat.le_of_ble_eq_true rfl) ?_
  rintro _ _ _ ⟨rfl, rfl, rfl⟩
  refine k_iconst C (x := 1) rfl rfl rfl ?_
  refine c_VI C (e_throwsIf1 T_m rfl) rfl rfl rfl rfl rfl ⟨_, rfl, rfl, T_m, Nat.le_of_ble_eq_true rfl⟩ rfl rfl (Nat.le_of_ble_eq_true rfl) (Nat.le_of_ble_eq_true rfl) (Nat.le_of_ble_eq_true rfl) ?_
  rintro _ _ _ ⟨rfl, rfl, rfl⟩
  refine k_if_eq C (t := 22) rfl rfl rfl (fun c15 => absurd c15 (by decide)) (fun _ => ?_)
  refine k_iconst C (x := 0) rfl rfl rfl ?_
  refine k_goto C (pc2 := 27) rfl rfl ?_
  exact k_iret C rfl (Or.inl rfl) (Nat.le_of_ble_eq_true rfl) (Nat.le_of_ble_eq_true rfl) ⟨_, _, _, rfl, rfl, ⟨(Fr.i (Fr.i Fr.rf A_m) A_m), u2_s⟩⟩

theorem e_m_kind0 {d : Nat} {T N : Nat → Nat} {I : IT} {L : LT} {R : RT} {A : Nat → Prop} {m w : Nat} {n0 : Int32} (T_m : T m = 13) (R_m_1 : R m 1 = some w) (T_w : T w = 20) (N_w : N w = 4007) (A_m : A m) (I_w_1 : I w 1 = 0) : Ex (d + 3) 280 [.ref m, .int n0] (T, N, I, L, R) 0 0 (pI T N R (fun x9 I9 L9 => Fr A I L I9 L9 ∧ I9 m 0 = 1)) := by
  refine ⟨_, rfl, Nat.le_of_ble_eq_true rfl, fun V C S => ?_⟩
  show V 0 [(0, .ref m), (1, .int n0)] [] (T, N, I, L, R) 0 0
  refine k_aload_n C rfl rfl rfl ?_
  refine k_iconst C (x := 0) rfl rfl rfl ?_
  refine p_I C rfl rfl rfl T_m (Or.inr rfl) rfl ?_
  refine k_aload_n C rfl rfl rfl ?_
  refine k_aload_n C rfl rfl rfl ?_
  refine k_iload_n C rfl rfl rfl ?_
  refine c_VI C (e_noForm1 T_m R_m_1 T_w N_w ((u2_a (t_nq T_w T_m (by decide))).trans (I_w_1)) ) rfl rfl rfl rfl rfl ⟨_, rfl, rfl, T_m, Nat.le_of_ble_eq_true rfl⟩ rfl rfl (Nat.le_of_ble_eq_true rfl) (Nat.le_of_ble_eq_true rfl) (Nat.le_of_ble_eq_true rfl) ?_
  rintro _ _ _ ⟨rfl, rfl, rfl⟩
  refine k_iconst C (x := 1) rfl rfl rfl ?_
  refine c_VI C (e_throwsIf1 T_m rfl) rfl rfl rfl rfl rfl ⟨_, rfl, rfl, T_m, Nat.le_of_ble_eq_true rfl⟩ rfl rfl (Nat.le_of_ble_eq_true rfl) (Nat.le_of_ble_eq_true rfl) (Nat.le_of_ble_eq_true rfl) ?_
  rintro _ _ _ ⟨rfl, rfl, rfl⟩
  refine k_if_eq C (t := 20) rfl rfl rfl (fun c15 => absurd c15 (by decide)) (fun _ => ?_)
  refine k_iconst C (x := 0) rfl rfl rfl ?_
  exact k_iret C rfl (Or.inl rfl) (Nat.le_of_ble_eq_true rfl) (Nat.le_of_ble_eq_true rfl) ⟨_, _, _, rfl, rfl, ⟨(Fr.i (Fr.i Fr.rf A_m) A_m), u2_s⟩⟩

theorem e_m_orbit0 {d : Nat} {T N : Nat → Nat} {I : IT} {L : LT} {R : RT} {A : Nat → Prop} {m w : Nat} {n0 : Int32} (T_m : T m = 13) (R_m_1 : R m 1 = some w) (T_w : T w = 20) (N_w : N w = 4007) (A_m : A m) (I_w_1 : I w 1 = 0) : Ex (d + 3) 279 [.ref m, .int n0] (T, N, I, L, R) 0 0 (pI T N R (fun x9 I9 L9 => Fr A I L I9 L9 ∧ I9 m 0 = 1)) := by
  refine ⟨_, rfl, Nat.le_of_ble_eq_true rfl, fun V C S => ?_⟩
  show V 0 [(0, .ref m), (1, .int n0)] [] (T, N, I, L, R) 0 0
  refine k_aload_n C rfl rfl rfl ?_
  refine k_iconst C (x := 0) rfl rfl rfl ?_
  refine p_I C rfl rfl rfl T_m (Or.inr rfl) rfl ?_
  refine k_aload_n C rfl rfl rfl ?_
  refine k_aload_n C rfl rfl rfl ?_
  refine k_iload_n C rfl rfl rfl ?_
  refine c_VI C (e_noForm1 T_m R_m_1 T_w N_w ((u2_a (t_nq T_w T_m (by decide))).trans (I_w_1)) ) rfl rfl rfl rfl rfl ⟨_, rfl, rfl, T_m, Nat.le_of_ble_eq_true rfl⟩ rfl rfl (Nat.le_of_ble_eq_true rfl) (Nat.le_of_ble_eq_true rfl) (Nat.le_of_ble_eq_true rfl) ?_
  rintro _ _ _ ⟨rfl, rfl, rfl⟩
  refine k_iconst C (x := 1) rfl rfl rfl ?_
  refine c_VI C (e_throwsIf1 T_m rfl) rfl rfl rfl rfl rfl ⟨_, rfl, rfl, T_m, Nat.le_of_ble_eq_true rfl⟩ rfl rfl (Nat.le_of_ble_eq_true rfl) (Nat.le_of_ble_eq_true rfl) (Nat.le_of_ble_eq_true rfl) ?_
  rintro _ _ _ ⟨rfl, rfl, rfl⟩
  refine k_if_eq C (t := 22) rfl rfl rfl (fun c15 => absurd c15 (by decide)) (fun _ => ?_)
  refine k_iconst C (x := 0) rfl rfl rfl ?_
  refine k_goto C (pc2 := 32) rfl rfl ?_
  exact k_iret C rfl (Or.inl rfl) (Nat.le_of_ble_eq_true rfl) (Nat.le_of_ble_eq_true rfl) ⟨_, _, _, rfl, rfl, ⟨(Fr.i (Fr.i Fr.rf A_m) A_m), u2_s⟩⟩

theorem e_m_powers0 {d : Nat} {T N : Nat → Nat} {I : IT} {L : LT} {R : RT} {A : Nat → Prop} {m w : Nat} {n0 n1 : Int32} (T_m : T m = 13) (R_m_1 : R m 1 = some w) (T_w : T w = 20) (N_w : N w = 4007) (A_m : A m) (I_w_1 : I w 1 = 0) : Ex (d + 3) 287 [.ref m, .int n0, .int n1] (T, N, I, L, R) 0 0 (pI T N R (fun x9 I9 L9 => Fr A I L I9 L9 ∧ I9 m 0 = 1)) := by
  refine ⟨_, rfl, Nat.le_of_ble_eq_true rfl, fun V C S => ?_⟩
  show V 0 [(0, .ref m), (1, .int n0), (2, .int n1)] [] (T, N, I, L, R) 0 0
  refine k_aload_n C rfl rfl rfl ?_
  refine k_iconst C (x := 0) rfl rfl rfl ?_
  refine p_I C rfl rfl rfl T_m (Or.inr rfl) rfl ?_
  refine k_aload_n C rfl rfl rfl ?_
  refine k_aload_n C rfl rfl rfl ?_
  refine k_iload_n C rfl rfl rfl ?_
  refine c_VI C (e_noForm1 T_m R_m_1 T_w N_w ((u2_a (t_nq T_w T_m (by decide))).trans (I_w_1)) ) rfl rfl rfl rfl rfl ⟨_, rfl, rfl, T_m, Nat.le_of_ble_eq_true rfl⟩ rfl rfl (Nat.le_of_ble_eq_true rfl) (Nat.le_of_ble_eq_true rfl) (Nat.le_of_ble_eq_true rfl) ?_
  rintro _ _ _ ⟨rfl, rfl, rfl⟩
  refine k_iconst C (x := 1) rfl rfl rfl ?_
  refine c_VI C (e_throwsIf1 T_m rfl) rfl rfl rfl rfl rfl ⟨_, rfl, rfl, T_m, Nat.le_of_ble_eq_true rfl⟩ rfl rfl (Nat.le_of_ble_eq_true rfl) (Nat.le_of_ble_eq_true rfl) (Nat.le_of_ble_eq_true rfl) ?_
  rintro _ _ _ ⟨rfl, rfl, rfl⟩
  refine k_if_ne C (t := 44) rfl rfl rfl (fun _ => ?_) (fun c15 => absurd (by decide) c15)
  refine k_iconst C (x := 0) rfl rfl rfl ?_
  exact k_iret C rfl (Or.inl rfl) (Nat.le_of_ble_eq_true rfl) (Nat.le_of_ble_eq_true rfl) ⟨_, _, _, rfl, rfl, ⟨(Fr.i (Fr.i Fr.rf A_m) A_m), u2_s⟩⟩

theorem e_m_common0 {d : Nat} {T N : Nat → Nat} {I : IT} {L : LT} {R : RT} {A : Nat → Prop} {m w : Nat} {n0 n1 n2 : Int32} (T_m : T m = 13) (R_m_1 : R m 1 = some w) (T_w : T w = 20) (N_w : N w = 4007) (A_m : A m) (I_w_1 : I w 1 = 0) : Ex (d + 3) 292 [.ref m, .int n0, .int n1, .int n2] (T, N, I, L, R) 0 0 (pI T N R (fun x9 I9 L9 => Fr A I L I9 L9 ∧ I9 m 0 = 1)) := by
  refine ⟨_, rfl, Nat.le_of_ble_eq_true rfl, fun V C S => ?_⟩
  show V 0 [(0, .ref m), (1, .int n0), (2, .int n1), (3, .int n2)] [] (T, N, I, L, R) 0 0
  refine k_aload_n C rfl rfl rfl ?_
  refine k_iconst C (x := 0) rfl rfl rfl ?_
  refine p_I C rfl rfl rfl T_m (Or.inr rfl) rfl ?_
  refine k_aload_n C rfl rfl rfl ?_
  refine k_aload_n C rfl rfl rfl ?_
  refine k_iload_n C rfl rfl rfl ?_
  refine c_VI C (e_noForm1 T_m R_m_1 T_w N_w ((u2_a (t_nq T_w T_m (by decide))).trans (I_w_1)) ) rfl rfl rfl rfl rfl ⟨_, rfl, rfl, T_m, Nat.le_of_ble_eq_true rfl⟩ rfl rfl (Nat.le_of_ble_eq_true rfl) (Nat.le_of_ble_eq_true rfl) (Nat.le_of_ble_eq_true rfl) ?_
  rintro _ _ _ ⟨rfl, rfl, rfl⟩
  refine k_if_ne C (t := 22) rfl rfl rfl (fun _ => ?_) (fun c11 => absurd (by decide) c11)
  refine k_iconst C (x := 1) rfl rfl rfl ?_
  refine k_goto C (pc2 := 27) rfl rfl ?_
  refine k_iconst C (x := 1) rfl rfl rfl ?_
  refine c_VI C (e_throwsIf1 T_m rfl) rfl rfl rfl rfl rfl ⟨_, rfl, rfl, T_m, Nat.le_of_ble_eq_true rfl⟩ rfl rfl (Nat.le_of_ble_eq_true rfl) (Nat.le_of_ble_eq_true rfl) (Nat.le_of_ble_eq_true rfl) ?_
  rintro _ _ _ ⟨rfl, rfl, rfl⟩
  refine k_if_eq C (t := 36) rfl rfl rfl (fun c31 => absurd c31 (by decide)) (fun _ => ?_)
  refine k_iconst C (x := 0) rfl rfl rfl ?_
  exact k_iret C rfl (Or.inl rfl) (Nat.le_of_ble_eq_true rfl) (Nat.le_of_ble_eq_true rfl) ⟨_, _, _, rfl, rfl, ⟨(Fr.i (Fr.i Fr.rf A_m) A_m), u2_s⟩⟩

theorem e_m_quotient0 {d : Nat} {T N : Nat → Nat} {I : IT} {L : LT} {R : RT} {A : Nat → Prop} {m w : Nat} {n0 n1 n2 : Int32} (T_m : T m = 13) (R_m_1 : R m 1 = some w) (T_w : T w = 20) (N_w : N w = 4007) (A_m : A m) (I_w_1 : I w 1 = 0) : Ex (d + 3) 294 [.ref m, .int n0, .int n1, .int n2] (T, N, I, L, R) 0 0 (pI T N R (fun x9 I9 L9 => Fr A I L I9 L9 ∧ I9 m 0 = 1)) := by
  refine ⟨_, rfl, Nat.le_of_ble_eq_true rfl, fun V C S => ?_⟩
  show V 0 [(0, .ref m), (1, .int n0), (2, .int n1), (3, .int n2)] [] (T, N, I, L, R) 0 0
  refine k_aload_n C rfl rfl rfl ?_
  refine k_iconst C (x := 0) rfl rfl rfl ?_
  refine p_I C rfl rfl rfl T_m (Or.inr rfl) rfl ?_
  refine k_aload_n C rfl rfl rfl ?_
  refine k_aload_n C rfl rfl rfl ?_
  refine k_iload_n C rfl rfl rfl ?_
  refine c_VI C (e_noForm1 T_m R_m_1 T_w N_w ((u2_a (t_nq T_w T_m (by decide))).trans (I_w_1)) ) rfl rfl rfl rfl rfl ⟨_, rfl, rfl, T_m, Nat.le_of_ble_eq_true rfl⟩ rfl rfl (Nat.le_of_ble_eq_true rfl) (Nat.le_of_ble_eq_true rfl) (Nat.le_of_ble_eq_true rfl) ?_
  rintro _ _ _ ⟨rfl, rfl, rfl⟩
  refine k_if_ne C (t := 22) rfl rfl rfl (fun _ => ?_) (fun c11 => absurd (by decide) c11)
  refine k_iconst C (x := 1) rfl rfl rfl ?_
  refine k_goto C (pc2 := 27) rfl rfl ?_
  refine k_iconst C (x := 1) rfl rfl rfl ?_
  refine c_VI C (e_throwsIf1 T_m rfl) rfl rfl rfl rfl rfl ⟨_, rfl, rfl, T_m, Nat.le_of_ble_eq_true rfl⟩ rfl rfl (Nat.le_of_ble_eq_true rfl) (Nat.le_of_ble_eq_true rfl) (Nat.le_of_ble_eq_true rfl) ?_
  rintro _ _ _ ⟨rfl, rfl, rfl⟩
  refine k_if_eq C (t := 36) rfl rfl rfl (fun c31 => absurd c31 (by decide)) (fun _ => ?_)
  refine k_iconst C (x := 0) rfl rfl rfl ?_
  exact k_iret C rfl (Or.inl rfl) (Nat.le_of_ble_eq_true rfl) (Nat.le_of_ble_eq_true rfl) ⟨_, _, _, rfl, rfl, ⟨(Fr.i (Fr.i Fr.rf A_m) A_m), u2_s⟩⟩

theorem e_m_plain0 {d : Nat} {T N : Nat → Nat} {I : IT} {L : LT} {R : RT} {A : Nat → Prop} {m w : Nat} {n0 : Int32} (T_m : T m = 13) (R_m_1 : R m 1 = some w) (T_w : T w = 20) (N_w : N w = 4007) (A_m : A m) (I_w_1 : I w 1 = 0) : Ex (d + 3) 295 [.ref m, .int n0] (T, N, I, L, R) 0 0 (pI T N R (fun x9 I9 L9 => Fr A I L I9 L9 ∧ I9 m 0 = 1)) := by
  refine ⟨_, rfl, Nat.le_of_ble_eq_true rfl, fun V C S => ?_⟩
  show V 0 [(0, .ref m), (1, .int n0)] [] (T, N, I, L, R) 0 0
  refine k_aload_n C rfl rfl rfl ?_
  refine k_iconst C (x := 0) rfl rfl rfl ?_
  refine p_I C rfl rfl rfl T_m (Or.inr rfl) rfl ?_
  refine k_aload_n C rfl rfl rfl ?_
  refine k_aload_n C rfl rfl rfl ?_
  refine k_iload_n C rfl rfl rfl ?_
  refine c_VI C (e_noForm1 T_m R_m_1 T_w N_w ((u2_a (t_nq T_w T_m (by decide))).trans (I_w_1)) ) rfl rfl rfl rfl rfl ⟨_, rfl, rfl, T_m, Nat.le_of_ble_eq_true rfl⟩ rfl rfl (Nat.le_of_ble_eq_true rfl) (Nat.le_of_ble_eq_true rfl) (Nat.le_of_ble_eq_true rfl) ?_
  rintro _ _ _ ⟨rfl, rfl, rfl⟩
  refine k_iconst C (x := 1) rfl rfl rfl ?_
  refine c_VI C (e_throwsIf1 T_m rfl) rfl rfl rfl rfl rfl ⟨_, rfl, rfl, T_m, Nat.le_of_ble_eq_true rfl⟩ rfl rfl (Nat.le_of_ble_eq_true rfl) (Nat.le_of_ble_eq_true rfl) (Nat.le_of_ble_eq_true rfl) ?_
  rintro _ _ _ ⟨rfl, rfl, rfl⟩
  refine k_if_eq C (t := 20) rfl rfl rfl (fun c15 => absurd c15 (by decide)) (fun _ => ?_)
  refine k_iconst C (x := 0) rfl rfl rfl ?_
  exact k_iret C rfl (Or.inr ⟨rfl, Or.inl rfl⟩) (Nat.le_of_ble_eq_true rfl) (Nat.le_of_ble_eq_true rfl) ⟨_, _, _, rfl, rfl, ⟨(Fr.i (Fr.i Fr.rf A_m) A_m), u2_s⟩⟩

theorem e_m_overlap0 {d : Nat} {T N : Nat → Nat} {I : IT} {L : LT} {R : RT} {A : Nat → Prop} {m w : Nat} {n0 n1 n2 n3 : Int32} (T_m : T m = 13) (R_m_1 : R m 1 = some w) (T_w : T w = 20) (N_w : N w = 4007) (A_m : A m) (I_w_1 : I w 1 = 0) : Ex (d + 3) 296 [.ref m, .int n0, .int n1, .int n2, .int n3] (T, N, I, L, R) 0 0 (pI T N R (fun x9 I9 L9 => Fr A I L I9 L9 ∧ I9 m 0 = 1)) := by
  refine ⟨_, rfl, Nat.le_of_ble_eq_true rfl, fun V C S => ?_⟩
  show V 0 [(0, .ref m), (1, .int n0), (2, .int n1), (3, .int n2), (4, .int n3)] [] (T, N, I, L, R) 0 0
  refine k_aload_n C rfl rfl rfl ?_
  refine k_iconst C (x := 0) rfl rfl rfl ?_
  refine p_I C rfl rfl rfl T_m (Or.inr rfl) rfl ?_
  refine k_aload_n C rfl rfl rfl ?_
  refine k_aload_n C rfl rfl rfl ?_
  refine k_iload_n C rfl rfl rfl ?_
  refine c_VI C (e_noForm1 T_m R_m_1 T_w N_w ((u2_a (t_nq T_w T_m (by decide))).trans (I_w_1)) ) rfl rfl rfl rfl rfl ⟨_, rfl, rfl, T_m, Nat.le_of_ble_eq_true rfl⟩ rfl rfl (Nat.le_of_ble_eq_true rfl) (Nat.le_of_ble_eq_true rfl) (Nat.le_of_ble_eq_true rfl) ?_
  rintro _ _ _ ⟨rfl, rfl, rfl⟩
  refine k_if_ne C (t := 22) rfl rfl rfl (fun _ => ?_) (fun c11 => absurd (by decide) c11)
  refine k_iconst C (x := 1) rfl rfl rfl ?_
  refine k_goto C (pc2 := 27) rfl rfl ?_
  refine k_iconst C (x := 1) rfl rfl rfl ?_
  refine c_VI C (e_throwsIf1 T_m rfl) rfl rfl rfl rfl rfl ⟨_, rfl, rfl, T_m, Nat.le_of_ble_eq_true rfl⟩ rfl rfl (Nat.le_of_ble_eq_true rfl) (Nat.le_of_ble_eq_true rfl) (Nat.le_of_ble_eq_true rfl) ?_
  rintro _ _ _ ⟨rfl, rfl, rfl⟩
  refine k_if_ne C (t := 68) rfl rfl rfl (fun _ => ?_) (fun c31 => absurd (by decide) c31)
  refine k_iconst C (x := 0) rfl rfl rfl ?_
  exact k_iret C rfl (Or.inl rfl) (Nat.le_of_ble_eq_true rfl) (Nat.le_of_ble_eq_true rfl) ⟨_, _, _, rfl, rfl, ⟨(Fr.i (Fr.i Fr.rf A_m) A_m), u2_s⟩⟩

theorem e_m_undo0 {d : Nat} {T N : Nat → Nat} {I : IT} {L : LT} {R : RT} {A : Nat → Prop} {m w : Nat} (T_m : T m = 13) (R_m_1 : R m 1 = some w) (T_w : T w = 20) (N_w : N w = 4007) (A_m : A m) (I_w_4 : I w 4 = 0) : Ex (d + 1) 246 [.ref m] (T, N, I, L, R) 0 0 (pI T N R (fun x9 I9 L9 => x9 = -1 ∧ Fr A I L I9 L9 ∧ I9 m 0 = 0)) := by
  refine ⟨_, rfl, Nat.le_of_ble_eq_true rfl, fun V C S => ?_⟩
  show V 0 [(0, .ref m)] [] (T, N, I, L, R) 0 0
  refine k_aload_n C rfl rfl rfl ?_
  refine k_iconst C (x := 0) rfl rfl rfl ?_
  refine p_I C rfl rfl rfl T_m (Or.inr rfl) rfl ?_
  refine k_aload_n C rfl rfl rfl ?_
  refine g_R C rfl rfl rfl T_m rfl R_m_1 ?_
  refine k_iconst C (x := 4) rfl rfl rfl ?_
  refine a_I C rfl rfl T_w (vin (n := 4) rfl (by rw [N_w]; exact Nat.le_of_ble_eq_true rfl) (by rw [N_w]; exact Nat.le_of_ble_eq_true rfl)) ((u2_a (t_nq T_w T_m (by decide))).trans I_w_4) ?_
  refine k_if_ne C (t := 16) rfl rfl rfl (fun c11 => ?_) (fun c11 => ?_)
  · skip
    exact absurd rfl c11
  refine k_iconst C (x := -1) rfl rfl rfl ?_
  exact k_iret C rfl (Or.inl rfl) (Nat.le_of_ble_eq_true rfl) (Nat.le_of_ble_eq_true rfl) ⟨_, _, _, rfl, rfl, ⟨rfl, (Fr.i Fr.rf A_m), u2_s⟩⟩

theorem e_m_redo0 {d : Nat} {T N : Nat → Nat} {I : IT} {L : LT} {R : RT} {A : Nat → Prop} {m w : Nat} (T_m : T m = 13) (R_m_1 : R m 1 = some w) (T_w : T w = 20) (N_w : N w = 4007) (A_m : A m) (I_w_5 : I w 5 = 0) : Ex (d + 1) 247 [.ref m] (T, N, I, L, R) 0 0 (pI T N R (fun x9 I9 L9 => x9 = -1 ∧ Fr A I L I9 L9 ∧ I9 m 0 = 0)) := by
  refine ⟨_, rfl, Nat.le_of_ble_eq_true rfl, fun V C S => ?_⟩
  show V 0 [(0, .ref m)] [] (T, N, I, L, R) 0 0
  refine k_aload_n C rfl rfl rfl ?_
  refine k_iconst C (x := 0) rfl rfl rfl ?_
  refine p_I C rfl rfl rfl T_m (Or.inr rfl) rfl ?_
  refine k_aload_n C rfl rfl rfl ?_
  refine g_R C rfl rfl rfl T_m rfl R_m_1 ?_
  refine k_iconst C (x := 5) rfl rfl rfl ?_
  refine a_I C rfl rfl T_w (vin (n := 5) rfl (by rw [N_w]; exact Nat.le_of_ble_eq_true rfl) (by rw [N_w]; exact Nat.le_of_ble_eq_true rfl)) ((u2_a (t_nq T_w T_m (by decide))).trans I_w_5) ?_
  refine k_if_ne C (t := 16) rfl rfl rfl (fun c11 => ?_) (fun c11 => ?_)
  · skip
    exact absurd rfl c11
  refine k_iconst C (x := -1) rfl rfl rfl ?_
  exact k_iret C rfl (Or.inl rfl) (Nat.le_of_ble_eq_true rfl) (Nat.le_of_ble_eq_true rfl) ⟨_, _, _, rfl, rfl, ⟨rfl, (Fr.i Fr.rf A_m), u2_s⟩⟩

theorem e_m_fault0 {d : Nat} {T N : Nat → Nat} {I : IT} {L : LT} {R : RT} {A : Nat → Prop} {m : Nat} (T_m : T m = 13) (A_m : A m) (I_m_17 : I m 17 = -1) : Ex (d + 1) 223 [.ref m] (T, N, I, L, R) 0 0 (pI T N R (fun x9 I9 L9 => x9 = -1 ∧ Fr A I L I9 L9 ∧ I9 m 0 = 0)) := by
  refine ⟨_, rfl, Nat.le_of_ble_eq_true rfl, fun V C S => ?_⟩
  show V 0 [(0, .ref m)] [] (T, N, I, L, R) 0 0
  refine k_aload_n C rfl rfl rfl ?_
  refine k_iconst C (x := 0) rfl rfl rfl ?_
  refine p_I C rfl rfl rfl T_m (Or.inr rfl) rfl ?_
  refine k_aload_n C rfl rfl rfl ?_
  refine g_I C rfl rfl rfl T_m rfl ((u2_k (by decide)).trans (I_m_17)) ?_
  exact k_iret C rfl (Or.inl rfl) (Nat.le_of_ble_eq_true rfl) (Nat.le_of_ble_eq_true rfl) ⟨_, _, _, rfl, rfl, ⟨rfl, (Fr.i Fr.rf A_m), u2_s⟩⟩

theorem e_m_end0 {d : Nat} {T N : Nat → Nat} {I : IT} {L : LT} {R : RT} {A : Nat → Prop} {m : Nat} {n : Int32} (T_m : T m = 13) (A_m : A m) (I_m_11 : I m 11 = 0) : Ex (d + 1) 217 [.ref m, .int n] (T, N, I, L, R) 0 0 (pI T N R (fun x9 I9 L9 => x9 = (if n = 0 then 1 else 0) ∧ Fr A I L I9 L9 ∧ I9 m 0 = 0)) := by
  refine ⟨_, rfl, Nat.le_of_ble_eq_true rfl, fun V C S => ?_⟩
  show V 0 [(0, .ref m), (1, .int n)] [] (T, N, I, L, R) 0 0
  refine k_aload_n C rfl rfl rfl ?_
  refine k_iconst C (x := 0) rfl rfl rfl ?_
  refine p_I C rfl rfl rfl T_m (Or.inr rfl) rfl ?_
  refine k_iload_n C rfl rfl rfl ?_
  refine k_if_lt C (t := 17) rfl rfl rfl (fun c6 => ?_) (fun c6 => ?_)
  · skip
    refine k_iconst C (x := 0) rfl rfl rfl ?_
    exact k_iret C rfl (Or.inr ⟨rfl, Or.inl rfl⟩) (Nat.le_of_ble_eq_true rfl) (Nat.le_of_ble_eq_true rfl) ⟨_, _, _, rfl, rfl, ⟨(if_neg (by rintro rfl; first | exact absurd c6 (by decide) | exact absurd c14 (by decide))).symm, (Fr.i Fr.rf A_m), u2_s⟩⟩
  refine k_iload_n C rfl rfl rfl ?_
  refine k_aload_n C rfl rfl rfl ?_
  refine g_I C rfl rfl rfl T_m rfl ((u2_k (by decide)).trans (I_m_11)) ?_
  refine k_icmp_le C (t := 19) rfl rfl rfl (fun c14 => ?_) (fun c14 => ?_)
  · skip
    have hn : n = 0 := Int32.le_antisymm c14 (Int32.not_lt.mp c6)
    refine k_aload_n C rfl rfl rfl ?_
    refine k_iload_n C rfl rfl rfl ?_
    refine p_I C rfl rfl rfl T_m (Or.inr rfl) rfl ?_
    refine k_iconst C (x := 1) rfl rfl rfl ?_
    exact k_iret C rfl (Or.inr ⟨rfl, Or.inr rfl⟩) (Nat.le_of_ble_eq_true rfl) (Nat.le_of_ble_eq_true rfl) ⟨_, _, _, rfl, rfl, ⟨by rw [if_pos hn], (Fr.i (Fr.i Fr.rf A_m) A_m), (u2_k (by decide)).trans (u2_s)⟩⟩
  refine k_iconst C (x := 0) rfl rfl rfl ?_
  exact k_iret C rfl (Or.inr ⟨rfl, Or.inl rfl⟩) (Nat.le_of_ble_eq_true rfl) (Nat.le_of_ble_eq_true rfl) ⟨_, _, _, rfl, rfl, ⟨(if_neg (by rintro rfl; first | exact absurd c6 (by decide) | exact absurd c14 (by decide))).symm, (Fr.i Fr.rf A_m), u2_s⟩⟩

theorem e_m_field_no {d : Nat} {T N : Nat → Nat} {I : IT} {L : LT} {R : RT} {A : Nat → Prop} {m : Nat} {p : Int32} (T_m : T m = 13) (A_m : A m) (hp : ¬ (p = 11 ∨ p = 13 ∨ p = 17 ∨ p = 19)) : Ex (d + 2) 232 [.ref m, .int p] (T, N, I, L, R) 0 0 (pV T N R (fun I9 L9 => Fr A I L I9 L9 ∧ I9 m 0 = 1)) := by
  refine ⟨_, rfl, Nat.le_of_ble_eq_true rfl, fun V C S => ?_⟩
  show V 0 [(0, .ref m), (1, .int p)] [] (T, N, I, L, R) 0 0
  refine k_aload_n C rfl rfl rfl ?_
  refine k_iconst C (x := 0) rfl rfl rfl ?_
  refine p_I C rfl rfl rfl T_m (Or.inr rfl) rfl ?_
  refine k_aload_n C rfl rfl rfl ?_
  refine k_iload_n C rfl rfl rfl ?_
  refine k_bipush C (x := 11) rfl rfl rfl ?_
  refine k_icmp_eq C (t := 34) rfl rfl rfl (fun c9 => ?_) (fun c9 => ?_)
  · skip
    exact absurd (Or.inl c9) hp
  refine k_iload_n C rfl rfl rfl ?_
  refine k_bipush C (x := 13) rfl rfl rfl ?_
  refine k_icmp_eq C (t := 34) rfl rfl rfl (fun c15 => ?_) (fun c15 => ?_)
  · skip
    exact absurd (Or.inr (Or.inl c15)) hp
  refine k_iload_n C rfl rfl rfl ?_
  refine k_bipush C (x := 17) rfl rfl rfl ?_
  refine k_icmp_eq C (t := 34) rfl rfl rfl (fun c21 => ?_) (fun c21 => ?_)
  · skip
    exact absurd (Or.inr (Or.inr (Or.inl c21))) hp
  refine k_iload_n C rfl rfl rfl ?_
  refine k_bipush C (x := 19) rfl rfl rfl ?_
  refine k_icmp_eq C (t := 34) rfl rfl rfl (fun c27 => ?_) (fun c27 => ?_)
  · skip
    exact absurd (Or.inr (Or.inr (Or.inr c27))) hp
  refine k_iconst C (x := 1) rfl rfl rfl ?_
  refine k_goto C (pc2 := 35) rfl rfl ?_
  refine k_iconst C (x := 1) rfl rfl rfl ?_
  refine c_VI C (e_throwsIf1 T_m rfl) rfl rfl rfl rfl rfl ⟨_, rfl, rfl, T_m, Nat.le_of_ble_eq_true rfl⟩ rfl rfl (Nat.le_of_ble_eq_true rfl) (Nat.le_of_ble_eq_true rfl) (Nat.le_of_ble_eq_true rfl) ?_
  rintro _ _ _ ⟨rfl, rfl, rfl⟩
  refine k_if_ne C (t := 71) rfl rfl rfl (fun _ => ?_) (fun c39 => absurd (by decide) c39)
  exact k_vret C rfl rfl (Nat.le_of_ble_eq_true rfl) (Nat.le_of_ble_eq_true rfl) ⟨_, _, rfl, rfl, ⟨(Fr.i (Fr.i Fr.rf A_m) A_m), u2_s⟩⟩

theorem e_m_field_yes {d : Nat} {T N : Nat → Nat} {I : IT} {L : LT} {R : RT} {A : Nat → Prop} {m w : Nat} {p : Int32} (T_m : T m = 13) (R_m_1 : R m 1 = some w) (T_w : T w = 20) (N_w : N w = 4007) (A_m : A m) (A_w : A w) (I_w_1 : I w 1 = 0) (I_w_2 : I w 2 = 0) (hp : p = 11 ∨ p = 13 ∨ p = 17 ∨ p = 19) : Ex (d + 2) 232 [.ref m, .int p] (T, N, I, L, R) 0 0 (pV T N R (fun I9 L9 => Fr A I L I9 L9 ∧ I9 m 0 = 0)) := by
  refine ⟨_, rfl, Nat.le_of_ble_eq_true rfl, fun V C S => ?_⟩
  show V 0 [(0, .ref m), (1, .int p)] [] (T, N, I, L, R) 0 0
  refine k_aload_n C rfl rfl rfl ?_
  refine k_iconst C (x := 0) rfl rfl rfl ?_
  refine p_I C rfl rfl rfl T_m (Or.inr rfl) rfl ?_
  refine k_aload_n C rfl rfl rfl ?_
  refine k_iload_n C rfl rfl rfl ?_
  refine k_bipush C (x := 11) rfl rfl rfl ?_
  refine k_icmp_eq C (t := 34) rfl rfl rfl (fun c9 => ?_) (fun c9 => ?_)
  · skip
    refine k_iconst C (x := 0) rfl rfl rfl ?_
    refine k_iconst C (x := 1) rfl rfl rfl ?_
    refine c_VI C (e_throwsIf0 T_m rfl) rfl rfl rfl rfl rfl ⟨_, rfl, rfl, T_m, Nat.le_of_ble_eq_true rfl⟩ rfl rfl (Nat.le_of_ble_eq_true rfl) (Nat.le_of_ble_eq_true rfl) (Nat.le_of_ble_eq_true rfl) ?_
    rintro _ _ _ ⟨rfl, rfl, rfl⟩
    refine k_if_ne C (t := 71) rfl rfl rfl (fun c39 => absurd c39 (by decide)) (fun _ => ?_)
    refine k_aload_n C rfl rfl rfl ?_
    refine k_aload_n C rfl rfl rfl ?_
    refine g_R C rfl rfl rfl T_m rfl R_m_1 ?_
    refine k_iconst C (x := 1) rfl rfl rfl ?_
    refine a_I C rfl rfl T_w (vin (n := 1) rfl (by rw [N_w]; exact Nat.le_of_ble_eq_true rfl) (by rw [N_w]; exact Nat.le_of_ble_eq_true rfl)) ((u2_a (t_nq T_w T_m (by decide))).trans I_w_1) ?_
    refine k_aload_n C rfl rfl rfl ?_
    refine g_R C rfl rfl rfl T_m rfl R_m_1 ?_
    refine k_iconst C (x := 2) rfl rfl rfl ?_
    refine a_I C rfl rfl T_w (vin (n := 2) rfl (by rw [N_w]; exact Nat.le_of_ble_eq_true rfl) (by rw [N_w]; exact Nat.le_of_ble_eq_true rfl)) ((u2_a (t_nq T_w T_m (by decide))).trans I_w_2) ?_
    refine k_iadd C rfl rfl ?_
    refine k_if_le C (t := 63) rfl rfl rfl (fun c56 => ?_) (fun c56 => ?_)
    · skip
      refine k_iconst C (x := 0) rfl rfl rfl ?_
      refine k_iconst C (x := 2) rfl rfl rfl ?_
      refine c_VI C (e_throwsIf0 T_m rfl) rfl rfl rfl rfl rfl ⟨_, rfl, rfl, T_m, Nat.le_of_ble_eq_true rfl⟩ rfl rfl (Nat.le_of_ble_eq_true rfl) (Nat.le_of_ble_eq_true rfl) (Nat.le_of_ble_eq_true rfl) ?_
      rintro _ _ _ ⟨rfl, rfl, rfl⟩
      refine k_if_eq C (t := 72) rfl rfl rfl (fun _ => ?_) (fun c68 => absurd (by decide) c68)
      refine k_aload_n C rfl rfl rfl ?_
      refine g_R C rfl rfl rfl T_m rfl R_m_1 ?_
      refine k_iconst C (x := 0) rfl rfl rfl ?_
      refine k_iload_n C rfl rfl rfl ?_
      refine s_I C rfl rfl T_w (vin (n := 0) rfl (by rw [N_w]; exact Nat.le_of_ble_eq_true rfl) (by rw [N_w]; exact Nat.le_of_ble_eq_true rfl)) rfl ?_
      exact k_vret C rfl rfl (Nat.le_of_ble_eq_true rfl) (Nat.le_of_ble_eq_true rfl) ⟨_, _, rfl, rfl, ⟨(Fr.i (Fr.i Fr.rf A_m) A_w), (u2_a (t_nq T_m T_w (by decide))).trans (u2_s)⟩⟩
    exact absurd (by decide) c56
  refine k_iload_n C rfl rfl rfl ?_
  refine k_bipush C (x := 13) rfl rfl rfl ?_
  refine k_icmp_eq C (t := 34) rfl rfl rfl (fun c15 => ?_) (fun c15 => ?_)
  · skip
    refine k_iconst C (x := 0) rfl rfl rfl ?_
    refine k_iconst C (x := 1) rfl rfl rfl ?_
    refine c_VI C (e_throwsIf0 T_m rfl) rfl rfl rfl rfl rfl ⟨_, rfl, rfl, T_m, Nat.le_of_ble_eq_true rfl⟩ rfl rfl (Nat.le_of_ble_eq_true rfl) (Nat.le_of_ble_eq_true rfl) (Nat.le_of_ble_eq_true rfl) ?_
    rintro _ _ _ ⟨rfl, rfl, rfl⟩
    refine k_if_ne C (t := 71) rfl rfl rfl (fun c39 => absurd c39 (by decide)) (fun _ => ?_)
    refine k_aload_n C rfl rfl rfl ?_
    refine k_aload_n C rfl rfl rfl ?_
    refine g_R C rfl rfl rfl T_m rfl R_m_1 ?_
    refine k_iconst C (x := 1) rfl rfl rfl ?_
    refine a_I C rfl rfl T_w (vin (n := 1) rfl (by rw [N_w]; exact Nat.le_of_ble_eq_true rfl) (by rw [N_w]; exact Nat.le_of_ble_eq_true rfl)) ((u2_a (t_nq T_w T_m (by decide))).trans I_w_1) ?_
    refine k_aload_n C rfl rfl rfl ?_
    refine g_R C rfl rfl rfl T_m rfl R_m_1 ?_
    refine k_iconst C (x := 2) rfl rfl rfl ?_
    refine a_I C rfl rfl T_w (vin (n := 2) rfl (by rw [N_w]; exact Nat.le_of_ble_eq_true rfl) (by rw [N_w]; exact Nat.le_of_ble_eq_true rfl)) ((u2_a (t_nq T_w T_m (by decide))).trans I_w_2) ?_
    refine k_iadd C rfl rfl ?_
    refine k_if_le C (t := 63) rfl rfl rfl (fun c56 => ?_) (fun c56 => ?_)
    · skip
      refine k_iconst C (x := 0) rfl rfl rfl ?_
      refine k_iconst C (x := 2) rfl rfl rfl ?_
      refine c_VI C (e_throwsIf0 T_m rfl) rfl rfl rfl rfl rfl ⟨_, rfl, rfl, T_m, Nat.le_of_ble_eq_true rfl⟩ rfl rfl (Nat.le_of_ble_eq_true rfl) (Nat.le_of_ble_eq_true rfl) (Nat.le_of_ble_eq_true rfl) ?_
      rintro _ _ _ ⟨rfl, rfl, rfl⟩
      refine k_if_eq C (t := 72) rfl rfl rfl (fun _ => ?_) (fun c68 => absurd (by decide) c68)
      refine k_aload_n C rfl rfl rfl ?_
      refine g_R C rfl rfl rfl T_m rfl R_m_1 ?_
      refine k_iconst C (x := 0) rfl rfl rfl ?_
      refine k_iload_n C rfl rfl rfl ?_
      refine s_I C rfl rfl T_w (vin (n := 0) rfl (by rw [N_w]; exact Nat.le_of_ble_eq_true rfl) (by rw [N_w]; exact Nat.le_of_ble_eq_true rfl)) rfl ?_
      exact k_vret C rfl rfl (Nat.le_of_ble_eq_true rfl) (Nat.le_of_ble_eq_true rfl) ⟨_, _, rfl, rfl, ⟨(Fr.i (Fr.i Fr.rf A_m) A_w), (u2_a (t_nq T_m T_w (by decide))).trans (u2_s)⟩⟩
    exact absurd (by decide) c56
  refine k_iload_n C rfl rfl rfl ?_
  refine k_bipush C (x := 17) rfl rfl rfl ?_
  refine k_icmp_eq C (t := 34) rfl rfl rfl (fun c21 => ?_) (fun c21 => ?_)
  · skip
    refine k_iconst C (x := 0) rfl rfl rfl ?_
    refine k_iconst C (x := 1) rfl rfl rfl ?_
    refine c_VI C (e_throwsIf0 T_m rfl) rfl rfl rfl rfl rfl ⟨_, rfl, rfl, T_m, Nat.le_of_ble_eq_true rfl⟩ rfl rfl (Nat.le_of_ble_eq_true rfl) (Nat.le_of_ble_eq_true rfl) (Nat.le_of_ble_eq_true rfl) ?_
    rintro _ _ _ ⟨rfl, rfl, rfl⟩
    refine k_if_ne C (t := 71) rfl rfl rfl (fun c39 => absurd c39 (by decide)) (fun _ => ?_)
    refine k_aload_n C rfl rfl rfl ?_
    refine k_aload_n C rfl rfl rfl ?_
    refine g_R C rfl rfl rfl T_m rfl R_m_1 ?_
    refine k_iconst C (x := 1) rfl rfl rfl ?_
    refine a_I C rfl rfl T_w (vin (n := 1) rfl (by rw [N_w]; exact Nat.le_of_ble_eq_true rfl) (by rw [N_w]; exact Nat.le_of_ble_eq_true rfl)) ((u2_a (t_nq T_w T_m (by decide))).trans I_w_1) ?_
    refine k_aload_n C rfl rfl rfl ?_
    refine g_R C rfl rfl rfl T_m rfl R_m_1 ?_
    refine k_iconst C (x := 2) rfl rfl rfl ?_
    refine a_I C rfl rfl T_w (vin (n := 2) rfl (by rw [N_w]; exact Nat.le_of_ble_eq_true rfl) (by rw [N_w]; exact Nat.le_of_ble_eq_true rfl)) ((u2_a (t_nq T_w T_m (by decide))).trans I_w_2) ?_
    refine k_iadd C rfl rfl ?_
    refine k_if_le C (t := 63) rfl rfl rfl (fun c56 => ?_) (fun c56 => ?_)
    · skip
      refine k_iconst C (x := 0) rfl rfl rfl ?_
      refine k_iconst C (x := 2) rfl rfl rfl ?_
      refine c_VI C (e_throwsIf0 T_m rfl) rfl rfl rfl rfl rfl ⟨_, rfl, rfl, T_m, Nat.le_of_ble_eq_true rfl⟩ rfl rfl (Nat.le_of_ble_eq_true rfl) (Nat.le_of_ble_eq_true rfl) (Nat.le_of_ble_eq_true rfl) ?_
      rintro _ _ _ ⟨rfl, rfl, rfl⟩
      refine k_if_eq C (t := 72) rfl rfl rfl (fun _ => ?_) (fun c68 => absurd (by decide) c68)
      refine k_aload_n C rfl rfl rfl ?_
      refine g_R C rfl rfl rfl T_m rfl R_m_1 ?_
      refine k_iconst C (x := 0) rfl rfl rfl ?_
      refine k_iload_n C rfl rfl rfl ?_
      refine s_I C rfl rfl T_w (vin (n := 0) rfl (by rw [N_w]; exact Nat.le_of_ble_eq_true rfl) (by rw [N_w]; exact Nat.le_of_ble_eq_true rfl)) rfl ?_
      exact k_vret C rfl rfl (Nat.le_of_ble_eq_true rfl) (Nat.le_of_ble_eq_true rfl) ⟨_, _, rfl, rfl, ⟨(Fr.i (Fr.i Fr.rf A_m) A_w), (u2_a (t_nq T_m T_w (by decide))).trans (u2_s)⟩⟩
    exact absurd (by decide) c56
  refine k_iload_n C rfl rfl rfl ?_
  refine k_bipush C (x := 19) rfl rfl rfl ?_
  refine k_icmp_eq C (t := 34) rfl rfl rfl (fun c27 => ?_) (fun c27 => ?_)
  · skip
    refine k_iconst C (x := 0) rfl rfl rfl ?_
    refine k_iconst C (x := 1) rfl rfl rfl ?_
    refine c_VI C (e_throwsIf0 T_m rfl) rfl rfl rfl rfl rfl ⟨_, rfl, rfl, T_m, Nat.le_of_ble_eq_true rfl⟩ rfl rfl (Nat.le_of_ble_eq_true rfl) (Nat.le_of_ble_eq_true rfl) (Nat.le_of_ble_eq_true rfl) ?_
    rintro _ _ _ ⟨rfl, rfl, rfl⟩
    refine k_if_ne C (t := 71) rfl rfl rfl (fun c39 => absurd c39 (by decide)) (fun _ => ?_)
    refine k_aload_n C rfl rfl rfl ?_
    refine k_aload_n C rfl rfl rfl ?_
    refine g_R C rfl rfl rfl T_m rfl R_m_1 ?_
    refine k_iconst C (x := 1) rfl rfl rfl ?_
    refine a_I C rfl rfl T_w (vin (n := 1) rfl (by rw [N_w]; exact Nat.le_of_ble_eq_true rfl) (by rw [N_w]; exact Nat.le_of_ble_eq_true rfl)) ((u2_a (t_nq T_w T_m (by decide))).trans I_w_1) ?_
    refine k_aload_n C rfl rfl rfl ?_
    refine g_R C rfl rfl rfl T_m rfl R_m_1 ?_
    refine k_iconst C (x := 2) rfl rfl rfl ?_
    refine a_I C rfl rfl T_w (vin (n := 2) rfl (by rw [N_w]; exact Nat.le_of_ble_eq_true rfl) (by rw [N_w]; exact Nat.le_of_ble_eq_true rfl)) ((u2_a (t_nq T_w T_m (by decide))).trans I_w_2) ?_
    refine k_iadd C rfl rfl ?_
    refine k_if_le C (t := 63) rfl rfl rfl (fun c56 => ?_) (fun c56 => ?_)
    · skip
      refine k_iconst C (x := 0) rfl rfl rfl ?_
      refine k_iconst C (x := 2) rfl rfl rfl ?_
      refine c_VI C (e_throwsIf0 T_m rfl) rfl rfl rfl rfl rfl ⟨_, rfl, rfl, T_m, Nat.le_of_ble_eq_true rfl⟩ rfl rfl (Nat.le_of_ble_eq_true rfl) (Nat.le_of_ble_eq_true rfl) (Nat.le_of_ble_eq_true rfl) ?_
      rintro _ _ _ ⟨rfl, rfl, rfl⟩
      refine k_if_eq C (t := 72) rfl rfl rfl (fun _ => ?_) (fun c68 => absurd (by decide) c68)
      refine k_aload_n C rfl rfl rfl ?_
      refine g_R C rfl rfl rfl T_m rfl R_m_1 ?_
      refine k_iconst C (x := 0) rfl rfl rfl ?_
      refine k_iload_n C rfl rfl rfl ?_
      refine s_I C rfl rfl T_w (vin (n := 0) rfl (by rw [N_w]; exact Nat.le_of_ble_eq_true rfl) (by rw [N_w]; exact Nat.le_of_ble_eq_true rfl)) rfl ?_
      exact k_vret C rfl rfl (Nat.le_of_ble_eq_true rfl) (Nat.le_of_ble_eq_true rfl) ⟨_, _, rfl, rfl, ⟨(Fr.i (Fr.i Fr.rf A_m) A_w), (u2_a (t_nq T_m T_w (by decide))).trans (u2_s)⟩⟩
    exact absurd (by decide) c56
  rcases hp with h | h | h | h
  · exact absurd h c9
  · exact absurd h c15
  · exact absurd h c21
  · exact absurd h c27

theorem e_uses0 {d : Nat} {T N : Nat → Nat} {I : IT} {L : LT} {R : RT} {m : Nat} (T_m : T m = 13) (I_m_11 : I m 11 = 0) : Ex (d + 1) 230 [.ref m] (T, N, I, L, R) 0 0 (pV T N R (fun I9 L9 => I9 = (u2 (u2 (u2 (u2 I m 0 0) m 13 0) m 11 0) m 12 0) ∧ L9 = (L))) := by
  refine ⟨_, rfl, Nat.le_of_ble_eq_true rfl, fun V C S => ?_⟩
  show V 0 [(0, .ref m)] [] (T, N, I, L, R) 0 0
  refine k_aload_n C rfl rfl rfl ?_
  refine k_iconst C (x := 0) rfl rfl rfl ?_
  refine p_I C rfl rfl rfl T_m (Or.inr rfl) rfl ?_
  refine k_aload_n C rfl rfl rfl ?_
  refine k_aload_n C rfl rfl rfl ?_
  refine g_I C rfl rfl rfl T_m rfl ((u2_k (by decide)).trans (I_m_11)) ?_
  refine p_I C rfl rfl rfl T_m (Or.inr rfl) rfl ?_
  refine k_aload_n C rfl rfl rfl ?_
  refine k_iconst C (x := 0) rfl rfl rfl ?_
  refine p_I C rfl rfl rfl T_m (Or.inr rfl) rfl ?_
  refine k_aload_n C rfl rfl rfl ?_
  refine k_iconst C (x := 0) rfl rfl rfl ?_
  refine p_I C rfl rfl rfl T_m (Or.inr rfl) rfl ?_
  exact k_vret C rfl rfl (Nat.le_of_ble_eq_true rfl) (Nat.le_of_ble_eq_true rfl) ⟨_, _, rfl, rfl, ⟨rfl, rfl⟩⟩

theorem e_m_form0 {d : Nat} {T N : Nat → Nat} {I : IT} {L : LT} {R : RT} {A : Nat → Prop} {m : Nat} (T_m : T m = 13) (A_m : A m) (I_m_11 : I m 11 = 0) : Ex (d + 2) 233 [.ref m] (T, N, I, L, R) 0 0 (pI T N R (fun x9 I9 L9 => Fr A I L I9 L9 ∧ I9 m 0 = 1)) := by
  refine ⟨_, rfl, Nat.le_of_ble_eq_true rfl, fun V C S => ?_⟩
  show V 0 [(0, .ref m)] [] (T, N, I, L, R) 0 0
  refine k_aload_n C rfl rfl rfl ?_
  refine c_VV C (e_uses0 T_m (I_m_11) ) rfl rfl rfl rfl rfl ⟨_, rfl, rfl, T_m, Nat.le_of_ble_eq_true rfl⟩ rfl rfl (Nat.le_of_ble_eq_true rfl) (Nat.le_of_ble_eq_true rfl) (Nat.le_of_ble_eq_true rfl) ?_
  rintro _ _ ⟨rfl, rfl⟩
  refine k_aload_n C rfl rfl rfl ?_
  refine k_aload_n C rfl rfl rfl ?_
  refine g_I C rfl rfl rfl T_m rfl ((u2_k (by decide)).trans ((u2_k (by decide)).trans (u2_s))) ?_
  refine k_iconst C (x := 1) rfl rfl rfl ?_
  refine k_bipush C (x := 9) rfl rfl rfl ?_
  refine c_SI C e_in rfl rfl rfl rfl rfl rfl rfl (Nat.le_of_ble_eq_true rfl) (Nat.le_of_ble_eq_true rfl) (Nat.le_of_ble_eq_true rfl) ?_
  rintro _ _ _ ⟨rfl, rfl, rfl⟩
  refine k_if_ne C (t := 22) rfl rfl rfl (fun c15 => ?_) (fun c15 => ?_)
  · skip
    exact absurd (by decide) c15
  refine k_iconst C (x := 1) rfl rfl rfl ?_
  refine k_goto C (pc2 := 23) rfl rfl ?_
  refine k_iconst C (x := 1) rfl rfl rfl ?_
  refine c_VI C (e_throwsIf1 T_m rfl) rfl rfl rfl rfl rfl ⟨_, rfl, rfl, T_m, Nat.le_of_ble_eq_true rfl⟩ rfl rfl (Nat.le_of_ble_eq_true rfl) (Nat.le_of_ble_eq_true rfl) (Nat.le_of_ble_eq_true rfl) ?_
  rintro _ _ _ ⟨rfl, rfl, rfl⟩
  refine k_if_ne C (t := 54) rfl rfl rfl (fun _ => ?_) (fun c27 => absurd (by decide) c27)
  refine k_iconst C (x := 0) rfl rfl rfl ?_
  exact k_iret C rfl (Or.inl rfl) (Nat.le_of_ble_eq_true rfl) (Nat.le_of_ble_eq_true rfl) ⟨_, _, _, rfl, rfl, ⟨(Fr.i (Fr.i (Fr.i (Fr.i (Fr.i Fr.rf A_m) A_m) A_m) A_m) A_m), u2_s⟩⟩
end
-- 39.31.ref.lean.txt
section
/-! the reference: an empty text, tables, the stock -/
theorem e_m_isAt0 {d : Nat} {T N : Nat → Nat} {I : IT} {L : LT} {R : RT} {m : Nat} {a b : Int32} (T_m : T m = 13) (I_m_12 : I m 12 = 0) (I_m_13 : I m 13 = 0) : Ex (d + 1) 218 [.ref m, .int a, .int b] (T, N, I, L, R) 0 0 (pI T N R (fun x9 I9 L9 => x9 = (0) ∧ I9 = I ∧ L9 = L)) := by
  refine ⟨_, rfl, Nat.le_of_ble_eq_true rfl, fun V C S => ?_⟩
  show V 0 [(0, .ref m), (1, .int a), (2, .int b)] [] (T, N, I, L, R) 0 0
  refine k_aload_n C rfl rfl rfl ?_
  refine g_I C rfl rfl rfl T_m rfl (I_m_12) ?_
  refine k_aload_n C rfl rfl rfl ?_
  refine g_I C rfl rfl rfl T_m rfl (I_m_13) ?_
  refine k_icmp_ge C (t := 41) rfl rfl rfl (fun _ => ?_) (fun c8 => absurd (by decide) c8)
  refine k_iconst C (x := 0) rfl rfl rfl ?_
  exact k_iret C rfl (Or.inr ⟨rfl, Or.inl rfl⟩) (Nat.le_of_ble_eq_true rfl) (Nat.le_of_ble_eq_true rfl) ⟨_, _, _, rfl, rfl, ⟨rfl, rfl, rfl⟩⟩

theorem e_m_blanks0 {d : Nat} {T N : Nat → Nat} {I : IT} {L : LT} {R : RT} {m : Nat} (T_m : T m = 13) (I_m_12 : I m 12 = 0) (I_m_13 : I m 13 = 0) : Ex (d + 2) 219 [.ref m] (T, N, I, L, R) 0 0 (pV T N R (fun I9 L9 => I9 = (u2 I m 14 0) ∧ L9 = (L))) := by
  refine ⟨_, rfl, Nat.le_of_ble_eq_true rfl, fun V C S => ?_⟩
  show V 0 [(0, .ref m)] [] (T, N, I, L, R) 0 0
  refine k_aload_n C rfl rfl rfl ?_
  refine k_bipush C (x := 32) rfl rfl rfl ?_
  refine k_bipush C (x := 32) rfl rfl rfl ?_
  refine c_VI C (e_m_isAt0 T_m (I_m_12) (I_m_13) ) rfl rfl rfl rfl rfl ⟨_, rfl, rfl, T_m, Nat.le_of_ble_eq_true rfl⟩ rfl rfl (Nat.le_of_ble_eq_true rfl) (Nat.le_of_ble_eq_true rfl) (Nat.le_of_ble_eq_true rfl) ?_
  rintro _ _ _ ⟨hx7, hI8, hL9⟩
  have hx7 := hx7.symm; subst hx7
  have hI8 := hI8.symm; subst hI8; have hL9 := hL9.symm; subst hL9
  refine k_if_eq C (t := 24) rfl rfl rfl (fun _ => ?_) (fun c8 => absurd (by decide) c8)
  refine k_aload_n C rfl rfl rfl ?_
  refine k_aload_n C rfl rfl rfl ?_
  refine g_I C rfl rfl rfl T_m rfl (I_m_12) ?_
  refine p_I C rfl rfl rfl T_m (Or.inr rfl) rfl ?_
  exact k_vret C rfl rfl (Nat.le_of_ble_eq_true rfl) (Nat.le_of_ble_eq_true rfl) ⟨_, _, rfl, rfl, ⟨rfl, rfl⟩⟩

theorem e_m_has0 {d : Nat} {T N : Nat → Nat} {I : IT} {L : LT} {R : RT} {m : Nat} {a : Int32} (T_m : T m = 13) (I_m_12 : I m 12 = 0) (I_m_13 : I m 13 = 0) : Ex (d + 3) 220 [.ref m, .int a] (T, N, I, L, R) 0 0 (pI T N R (fun x9 I9 L9 => x9 = (0) ∧ I9 = (u2 I m 14 0) ∧ L9 = (L))) := by
  refine ⟨_, rfl, Nat.le_of_ble_eq_true rfl, fun V C S => ?_⟩
  show V 0 [(0, .ref m), (1, .int a)] [] (T, N, I, L, R) 0 0
  refine k_aload_n C rfl rfl rfl ?_
  refine c_VV C (e_m_blanks0 T_m (I_m_12) (I_m_13) ) rfl rfl rfl rfl rfl ⟨_, rfl, rfl, T_m, Nat.le_of_ble_eq_true rfl⟩ rfl rfl (Nat.le_of_ble_eq_true rfl) (Nat.le_of_ble_eq_true rfl) (Nat.le_of_ble_eq_true rfl) ?_
  rintro _ _ ⟨hI8, hL9⟩
  have hI8 := hI8.symm; subst hI8; have hL9 := hL9.symm; subst hL9
  refine k_aload_n C rfl rfl rfl ?_
  refine k_iload_n C rfl rfl rfl ?_
  refine k_iload_n C rfl rfl rfl ?_
  refine c_VI C (e_m_isAt0 T_m ((u2_k (by decide)).trans (I_m_12)) ((u2_k (by decide)).trans (I_m_13)) ) rfl rfl rfl rfl rfl ⟨_, rfl, rfl, T_m, Nat.le_of_ble_eq_true rfl⟩ rfl rfl (Nat.le_of_ble_eq_true rfl) (Nat.le_of_ble_eq_true rfl) (Nat.le_of_ble_eq_true rfl) ?_
  rintro _ _ _ ⟨hx7, hI8, hL9⟩
  have hx7 := hx7.symm; subst hx7
  have hI8 := hI8.symm; subst hI8; have hL9 := hL9.symm; subst hL9
  refine k_if_ne C (t := 15) rfl rfl rfl (fun c10 => absurd c10 (by decide)) (fun _ => ?_)
  refine k_iconst C (x := 0) rfl rfl rfl ?_
  exact k_iret C rfl (Or.inr ⟨rfl, Or.inl rfl⟩) (Nat.le_of_ble_eq_true rfl) (Nat.le_of_ble_eq_true rfl) ⟨_, _, _, rfl, rfl, ⟨rfl, rfl, rfl⟩⟩

theorem e_m_readUnit0 {d : Nat} {T N : Nat → Nat} {I : IT} {L : LT} {R : RT} {m : Nat} (T_m : T m = 13) (I_m_12 : I m 12 = 0) (I_m_13 : I m 13 = 0) : Ex (d + 4) 229 [.ref m] (T, N, I, L, R) 0 0 (pI T N R (fun x9 I9 L9 => x9 = (0) ∧ I9 = (u2 (u2 (u2 (u2 I m 14 0) m 14 0) m 14 0) m 14 0) ∧ L9 = (L))) := by
  refine ⟨_, rfl, Nat.le_of_ble_eq_true rfl, fun V C S => ?_⟩
  show V 0 [(0, .ref m)] [] (T, N, I, L, R) 0 0
  refine k_aload_n C rfl rfl rfl ?_
  refine k_bipush C (x := 45) rfl rfl rfl ?_
  refine c_VI C (e_m_has0 T_m (I_m_12) (I_m_13) ) rfl rfl rfl rfl rfl ⟨_, rfl, rfl, T_m, Nat.le_of_ble_eq_true rfl⟩ rfl rfl (Nat.le_of_ble_eq_true rfl) (Nat.le_of_ble_eq_true rfl) (Nat.le_of_ble_eq_true rfl) ?_
  rintro _ _ _ ⟨hx7, hI8, hL9⟩
  have hx7 := hx7.symm; subst hx7
  have hI8 := hI8.symm; subst hI8; have hL9 := hL9.symm; subst hL9
  refine k_if_eq C (t := 42) rfl rfl rfl (fun _ => ?_) (fun c6 => absurd (by decide) c6)
  refine k_aload_n C rfl rfl rfl ?_
  refine k_bipush C (x := 40) rfl rfl rfl ?_
  refine c_VI C (e_m_has0 T_m ((u2_k (by decide)).trans (I_m_12)) ((u2_k (by decide)).trans (I_m_13)) ) rfl rfl rfl rfl rfl ⟨_, rfl, rfl, T_m, Nat.le_of_ble_eq_true rfl⟩ rfl rfl (Nat.le_of_ble_eq_true rfl) (Nat.le_of_ble_eq_true rfl) (Nat.le_of_ble_eq_true rfl) ?_
  rintro _ _ _ ⟨hx7, hI8, hL9⟩
  have hx7 := hx7.symm; subst hx7
  have hI8 := hI8.symm; subst hI8; have hL9 := hL9.symm; subst hL9
  refine k_if_eq C (t := 84) rfl rfl rfl (fun _ => ?_) (fun c48 => absurd (by decide) c48)
  refine k_aload_n C rfl rfl rfl ?_
  refine k_bipush C (x := 91) rfl rfl rfl ?_
  refine c_VI C (e_m_has0 T_m ((u2_k (by decide)).trans ((u2_k (by decide)).trans (I_m_12))) ((u2_k (by decide)).trans ((u2_k (by decide)).trans (I_m_13))) ) rfl rfl rfl rfl rfl ⟨_, rfl, rfl, T_m, Nat.le_of_ble_eq_true rfl⟩ rfl rfl (Nat.le_of_ble_eq_true rfl) (Nat.le_of_ble_eq_true rfl) (Nat.le_of_ble_eq_true rfl) ?_
  rintro _ _ _ ⟨hx7, hI8, hL9⟩
  have hx7 := hx7.symm; subst hx7
  have hI8 := hI8.symm; subst hI8; have hL9 := hL9.symm; subst hL9
  refine k_if_eq C (t := 98) rfl rfl rfl (fun _ => ?_) (fun c90 => absurd (by decide) c90)
  refine k_aload_n C rfl rfl rfl ?_
  refine c_VV C (e_m_blanks0 T_m ((u2_k (by decide)).trans ((u2_k (by decide)).trans ((u2_k (by decide)).trans (I_m_12)))) ((u2_k (by decide)).trans ((u2_k (by decide)).trans ((u2_k (by decide)).trans (I_m_13)))) ) rfl rfl rfl rfl rfl ⟨_, rfl, rfl, T_m, Nat.le_of_ble_eq_true rfl⟩ rfl rfl (Nat.le_of_ble_eq_true rfl) (Nat.le_of_ble_eq_true rfl) (Nat.le_of_ble_eq_true rfl) ?_
  rintro _ _ ⟨hI8, hL9⟩
  have hI8 := hI8.symm; subst hI8; have hL9 := hL9.symm; subst hL9
  refine k_aload_n C rfl rfl rfl ?_
  refine k_bipush C (x := 48) rfl rfl rfl ?_
  refine k_bipush C (x := 57) rfl rfl rfl ?_
  refine c_VI C (e_m_isAt0 T_m ((u2_k (by decide)).trans ((u2_k (by decide)).trans ((u2_k (by decide)).trans ((u2_k (by decide)).trans (I_m_12))))) ((u2_k (by decide)).trans ((u2_k (by decide)).trans ((u2_k (by decide)).trans ((u2_k (by decide)).trans (I_m_13))))) ) rfl rfl rfl rfl rfl ⟨_, rfl, rfl, T_m, Nat.le_of_ble_eq_true rfl⟩ rfl rfl (Nat.le_of_ble_eq_true rfl) (Nat.le_of_ble_eq_true rfl) (Nat.le_of_ble_eq_true rfl) ?_
  rintro _ _ _ ⟨hx7, hI8, hL9⟩
  have hx7 := hx7.symm; subst hx7
  have hI8 := hI8.symm; subst hI8; have hL9 := hL9.symm; subst hL9
  refine k_if_eq C (t := 161) rfl rfl rfl (fun _ => ?_) (fun c110 => absurd (by decide) c110)
  refine k_aload_n C rfl rfl rfl ?_
  refine k_bipush C (x := 97) rfl rfl rfl ?_
  refine k_bipush C (x := 122) rfl rfl rfl ?_
  refine c_VI C (e_m_isAt0 T_m ((u2_k (by decide)).trans ((u2_k (by decide)).trans ((u2_k (by decide)).trans ((u2_k (by decide)).trans (I_m_12))))) ((u2_k (by decide)).trans ((u2_k (by decide)).trans ((u2_k (by decide)).trans ((u2_k (by decide)).trans (I_m_13))))) ) rfl rfl rfl rfl rfl ⟨_, rfl, rfl, T_m, Nat.le_of_ble_eq_true rfl⟩ rfl rfl (Nat.le_of_ble_eq_true rfl) (Nat.le_of_ble_eq_true rfl) (Nat.le_of_ble_eq_true rfl) ?_
  rintro _ _ _ ⟨hx7, hI8, hL9⟩
  have hx7 := hx7.symm; subst hx7
  have hI8 := hI8.symm; subst hI8; have hL9 := hL9.symm; subst hL9
  refine k_if_eq C (t := 185) rfl rfl rfl (fun _ => ?_) (fun c169 => absurd (by decide) c169)
  refine k_aload_n C rfl rfl rfl ?_
  refine g_I C rfl rfl rfl T_m rfl ((u2_k (by decide)).trans ((u2_k (by decide)).trans ((u2_k (by decide)).trans ((u2_k (by decide)).trans (I_m_12))))) ?_
  refine k_aload_n C rfl rfl rfl ?_
  refine g_I C rfl rfl rfl T_m rfl (u2_s) ?_
  refine k_isub C rfl rfl ?_
  refine k_iconst C (x := 1) rfl rfl rfl ?_
  refine k_icmp_ne C (t := 221) rfl rfl rfl (fun _ => ?_) (fun c195 => absurd (by decide) c195)
  refine k_iconst C (x := 0) rfl rfl rfl ?_
  exact k_iret C rfl (Or.inr ⟨rfl, Or.inl rfl⟩) (Nat.le_of_ble_eq_true rfl) (Nat.le_of_ble_eq_true rfl) ⟨_, _, _, rfl, rfl, ⟨rfl, rfl, rfl⟩⟩

theorem e_m_readProduct0 {d : Nat} {T N : Nat → Nat} {I : IT} {L : LT} {R : RT} {m : Nat} (T_m : T m = 13) (I_m_12 : I m 12 = 0) (I_m_13 : I m 13 = 0) : Ex (d + 5) 227 [.ref m] (T, N, I, L, R) 0 0 (pI T N R (fun x9 I9 L9 => x9 = (0) ∧ I9 = (u2 (u2 (u2 (u2 I m 14 0) m 14 0) m 14 0) m 14 0) ∧ L9 = (L))) := by
  refine ⟨_, rfl, Nat.le_of_ble_eq_true rfl, fun V C S => ?_⟩
  show V 0 [(0, .ref m)] [] (T, N, I, L, R) 0 0
  refine k_aload_n C rfl rfl rfl ?_
  refine c_VI C (e_m_readUnit0 T_m (I_m_12) (I_m_13) ) rfl rfl rfl rfl rfl ⟨_, rfl, rfl, T_m, Nat.le_of_ble_eq_true rfl⟩ rfl rfl (Nat.le_of_ble_eq_true rfl) (Nat.le_of_ble_eq_true rfl) (Nat.le_of_ble_eq_true rfl) ?_
  rintro _ _ _ ⟨hx7, hI8, hL9⟩
  have hx7 := hx7.symm; subst hx7
  have hI8 := hI8.symm; subst hI8; have hL9 := hL9.symm; subst hL9
  refine k_if_ne C (t := 9) rfl rfl rfl (fun c4 => absurd c4 (by decide)) (fun _ => ?_)
  refine k_iconst C (x := 0) rfl rfl rfl ?_
  exact k_iret C rfl (Or.inr ⟨rfl, Or.inl rfl⟩) (Nat.le_of_ble_eq_true rfl) (Nat.le_of_ble_eq_true rfl) ⟨_, _, _, rfl, rfl, ⟨rfl, rfl, rfl⟩⟩

theorem e_m_readSum0 {d : Nat} {T N : Nat → Nat} {I : IT} {L : LT} {R : RT} {m : Nat} (T_m : T m = 13) (I_m_12 : I m 12 = 0) (I_m_13 : I m 13 = 0) : Ex (d + 6) 228 [.ref m] (T, N, I, L, R) 0 0 (pI T N R (fun x9 I9 L9 => x9 = (0) ∧ I9 = (u2 (u2 (u2 (u2 I m 14 0) m 14 0) m 14 0) m 14 0) ∧ L9 = (L))) := by
  refine ⟨_, rfl, Nat.le_of_ble_eq_true rfl, fun V C S => ?_⟩
  show V 0 [(0, .ref m)] [] (T, N, I, L, R) 0 0
  refine k_aload_n C rfl rfl rfl ?_
  refine c_VI C (e_m_readProduct0 T_m (I_m_12) (I_m_13) ) rfl rfl rfl rfl rfl ⟨_, rfl, rfl, T_m, Nat.le_of_ble_eq_true rfl⟩ rfl rfl (Nat.le_of_ble_eq_true rfl) (Nat.le_of_ble_eq_true rfl) (Nat.le_of_ble_eq_true rfl) ?_
  rintro _ _ _ ⟨hx7, hI8, hL9⟩
  have hx7 := hx7.symm; subst hx7
  have hI8 := hI8.symm; subst hI8; have hL9 := hL9.symm; subst hL9
  refine k_if_ne C (t := 9) rfl rfl rfl (fun c4 => absurd c4 (by decide)) (fun _ => ?_)
  refine k_iconst C (x := 0) rfl rfl rfl ?_
  exact k_iret C rfl (Or.inr ⟨rfl, Or.inl rfl⟩) (Nat.le_of_ble_eq_true rfl) (Nat.le_of_ble_eq_true rfl) ⟨_, _, _, rfl, rfl, ⟨rfl, rfl, rfl⟩⟩

theorem e_uses1 {d : Nat} {T N : Nat → Nat} {I : IT} {L : LT} {R : RT} {m : Nat} (T_m : T m = 13) (I_m_11 : I m 11 = 0) : Ex (d + 1) 230 [.ref m] (T, N, I, L, R) 0 0 (pV T N R (fun I9 L9 => I9 = (u2 (u2 (u2 (u2 I m 0 0) m 13 0) m 11 0) m 12 0) ∧ L9 = (L))) := by
  refine ⟨_, rfl, Nat.le_of_ble_eq_true rfl, fun V C S => ?_⟩
  show V 0 [(0, .ref m)] [] (T, N, I, L, R) 0 0
  refine k_aload_n C rfl rfl rfl ?_
  refine k_iconst C (x := 0) rfl rfl rfl ?_
  refine p_I C rfl rfl rfl T_m (Or.inr rfl) rfl ?_
  refine k_aload_n C rfl rfl rfl ?_
  refine k_aload_n C rfl rfl rfl ?_
  refine g_I C rfl rfl rfl T_m rfl ((u2_k (by decide)).trans (I_m_11)) ?_
  refine p_I C rfl rfl rfl T_m (Or.inr rfl) rfl ?_
  refine k_aload_n C rfl rfl rfl ?_
  refine k_iconst C (x := 0) rfl rfl rfl ?_
  refine p_I C rfl rfl rfl T_m (Or.inr rfl) rfl ?_
  refine k_aload_n C rfl rfl rfl ?_
  refine k_iconst C (x := 0) rfl rfl rfl ?_
  refine p_I C rfl rfl rfl T_m (Or.inr rfl) rfl ?_
  exact k_vret C rfl rfl (Nat.le_of_ble_eq_true rfl) (Nat.le_of_ble_eq_true rfl) ⟨_, _, rfl, rfl, ⟨rfl, rfl⟩⟩

theorem e_m_signs0 {d : Nat} {T N : Nat → Nat} {I : IT} {L : LT} {R : RT} {A : Nat → Prop} {m : Nat} (T_m : T m = 13) (A_m : A m) (I_m_11 : I m 11 = 0) : Ex (d + 7) 231 [.ref m] (T, N, I, L, R) 0 0 (pI T N R (fun x9 I9 L9 => Fr A I L I9 L9 ∧ I9 m 0 = 1)) := by
  refine ⟨_, rfl, Nat.le_of_ble_eq_true rfl, fun V C S => ?_⟩
  show V 0 [(0, .ref m)] [] (T, N, I, L, R) 0 0
  refine k_aload_n C rfl rfl rfl ?_
  refine c_VV C (e_uses1 T_m (I_m_11) ) rfl rfl rfl rfl rfl ⟨_, rfl, rfl, T_m, Nat.le_of_ble_eq_true rfl⟩ rfl rfl (Nat.le_of_ble_eq_true rfl) (Nat.le_of_ble_eq_true rfl) (Nat.le_of_ble_eq_true rfl) ?_
  rintro _ _ ⟨hI8, hL9⟩
  have hI8 := hI8.symm; subst hI8; have hL9 := hL9.symm; subst hL9
  refine k_aload_n C rfl rfl rfl ?_
  refine k_iconst C (x := 0) rfl rfl rfl ?_
  refine p_I C rfl rfl rfl T_m (Or.inr rfl) rfl ?_
  refine k_aload_n C rfl rfl rfl ?_
  refine k_iconst C (x := 0) rfl rfl rfl ?_
  refine p_I C rfl rfl rfl T_m (Or.inr rfl) rfl ?_
  refine k_aload_n C rfl rfl rfl ?_
  refine k_iconst C (x := 0) rfl rfl rfl ?_
  refine p_I C rfl rfl rfl T_m (Or.inr rfl) rfl ?_
  refine k_aload_n C rfl rfl rfl ?_
  refine c_VI C (e_m_readSum0 T_m ((u2_k (by decide)).trans ((u2_k (by decide)).trans ((u2_k (by decide)).trans (u2_s)))) ((u2_k (by decide)).trans ((u2_k (by decide)).trans ((u2_k (by decide)).trans ((u2_k (by decide)).trans ((u2_k (by decide)).trans (u2_s)))))) ) rfl rfl rfl rfl rfl ⟨_, rfl, rfl, T_m, Nat.le_of_ble_eq_true rfl⟩ rfl rfl (Nat.le_of_ble_eq_true rfl) (Nat.le_of_ble_eq_true rfl) (Nat.le_of_ble_eq_true rfl) ?_
  rintro _ _ _ ⟨hx7, hI8, hL9⟩
  have hx7 := hx7.symm; subst hx7
  have hI8 := hI8.symm; subst hI8; have hL9 := hL9.symm; subst hL9
  refine k_istore_n C (lw := [(1, .int _), (0, _)]) rfl rfl (Nat.le_of_ble_eq_true rfl) rfl ?_
  refine k_iload_n C rfl rfl rfl ?_
  refine k_if_eq C (t := 49) rfl rfl rfl (fun _ => ?_) (fun c25 => absurd (by decide) c25)
  refine k_aload_n C rfl rfl rfl ?_
  refine k_iload_n C rfl rfl rfl ?_
  refine k_if_eq C (t := 58) rfl rfl rfl (fun _ => ?_) (fun c51 => absurd (by decide) c51)
  refine k_aload_n C rfl rfl rfl ?_
  refine g_I C rfl rfl rfl T_m rfl (u2_s) ?_
  refine p_I C rfl rfl rfl T_m (Or.inr rfl) rfl ?_
  refine k_aload_n C rfl rfl rfl ?_
  refine k_iload_n C rfl rfl rfl ?_
  refine k_if_ne C (t := 74) rfl rfl rfl (fun c67 => absurd c67 (by decide)) (fun _ => ?_)
  refine k_iconst C (x := 1) rfl rfl rfl ?_
  refine k_goto C (pc2 := 75) rfl rfl ?_
  refine k_iconst C (x := 1) rfl rfl rfl ?_
  refine c_VI C (e_throwsIf1 T_m rfl) rfl rfl rfl rfl rfl ⟨_, rfl, rfl, T_m, Nat.le_of_ble_eq_true rfl⟩ rfl rfl (Nat.le_of_ble_eq_true rfl) (Nat.le_of_ble_eq_true rfl) (Nat.le_of_ble_eq_true rfl) ?_
  rintro _ _ _ ⟨hx7, hI8, hL9⟩
  have hx7 := hx7.symm; subst hx7
  have hI8 := hI8.symm; subst hI8; have hL9 := hL9.symm; subst hL9
  refine k_if_ne C (t := 106) rfl rfl rfl (fun _ => ?_) (fun c79 => absurd (by decide) c79)
  refine k_iconst C (x := 0) rfl rfl rfl ?_
  exact k_iret C rfl (Or.inl rfl) (Nat.le_of_ble_eq_true rfl) (Nat.le_of_ble_eq_true rfl) ⟨_, _, _, rfl, rfl, ⟨(Fr.i (Fr.i (Fr.i (Fr.i (Fr.i (Fr.i (Fr.i (Fr.i (Fr.i (Fr.i (Fr.i (Fr.i (Fr.i Fr.rf A_m) A_m) A_m) A_m) A_m) A_m) A_m) A_m) A_m) A_m) A_m) A_m) A_m), u2_s⟩⟩

theorem e_m_p {d : Nat} {T N : Nat → Nat} {I : IT} {L : LT} {R : RT} {m w : Nat}{p : Int32} (T_m : T m = 13) (R_m_1 : R m 1 = some w) (T_w : T w = 20) (N_w : N w = 4007) (I_w_0 : I w 0 = p) : Ex (d + 1) 183 [.ref m] (T, N, I, L, R) 0 0 (pI T N R (fun x9 I9 L9 => x9 = (p) ∧ I9 = I ∧ L9 = L)) := by
  refine ⟨_, rfl, Nat.le_of_ble_eq_true rfl, fun V C S => ?_⟩
  show V 0 [(0, .ref m)] [] (T, N, I, L, R) 0 0
  refine k_aload_n C rfl rfl rfl ?_
  refine g_R C rfl rfl rfl T_m rfl R_m_1 ?_
  refine k_iconst C (x := 0) rfl rfl rfl ?_
  refine a_I C rfl rfl T_w (vin (n := 0) rfl (by rw [N_w]; exact Nat.le_of_ble_eq_true rfl) (by rw [N_w]; exact Nat.le_of_ble_eq_true rfl)) I_w_0 ?_
  exact k_iret C rfl (Or.inl rfl) (Nat.le_of_ble_eq_true rfl) (Nat.le_of_ble_eq_true rfl) ⟨_, _, _, rfl, rfl, ⟨rfl, rfl, rfl⟩⟩

theorem e_m_mod {d : Nat} {T N : Nat → Nat} {I : IT} {L : LT} {R : RT} {m w : Nat} {v : Int64}{p : Int32} (T_m : T m = 13) (R_m_1 : R m 1 = some w) (T_w : T w = 20) (N_w : N w = 4007) (I_w_0 : I w 0 = p) (hp1 : 2 ≤ p.toInt) (hp2 : p.toInt ≤ 19) : Ex (d + 2) 192 [.ref m, .long v] (T, N, I, L, R) 0 0 (pI T N R (fun x9 I9 L9 => I9 = I ∧ L9 = L ∧ (x9.toInt = v.toInt % p.toInt))) := by
  refine ⟨_, rfl, Nat.le_of_ble_eq_true rfl, fun V C S => ?_⟩
  show V 0 [(0, .ref m), (1, .long v)] [] (T, N, I, L, R) 0 0
  refine k_lload_n C rfl rfl rfl ?_
  refine k_aload_n C rfl rfl rfl ?_
  refine c_VI C (e_m_p T_m R_m_1 T_w N_w (I_w_0) ) rfl rfl rfl rfl rfl ⟨_, rfl, rfl, T_m, Nat.le_of_ble_eq_true rfl⟩ rfl rfl (Nat.le_of_ble_eq_true rfl) (Nat.le_of_ble_eq_true rfl) (Nat.le_of_ble_eq_true rfl) ?_
  rintro _ _ _ ⟨hx7, hI8, hL9⟩
  have hx7 := hx7.symm; subst hx7
  have hI8 := hI8.symm; subst hI8; have hL9 := hL9.symm; subst hL9
  refine k_i2l C rfl rfl ?_
  refine c_SL C (e_fmL  (by rw [i2l_eq]; omega)) rfl rfl rfl rfl rfl rfl rfl (Nat.le_of_ble_eq_true rfl) (Nat.le_of_ble_eq_true rfl) (Nat.le_of_ble_eq_true rfl) ?_
  rintro x6 _ _ ⟨hI8, hL9, h6⟩
  have hI8 := hI8.symm; subst hI8; have hL9 := hL9.symm; subst hL9
  refine k_l2i C rfl rfl ?_
  exact k_iret C rfl (Or.inl rfl) (Nat.le_of_ble_eq_true rfl) (Nat.le_of_ble_eq_true rfl) ⟨_, _, _, rfl, rfl, ⟨rfl, rfl, by rw [i2l_eq] at h6; have := md_lt h6 hp1; rw [l2i_eq (by omega), h6]⟩⟩

theorem e_m_times {d : Nat} {T N : Nat → Nat} {I : IT} {L : LT} {R : RT} {m w : Nat} {u v : Int32}{p : Int32} (T_m : T m = 13) (R_m_1 : R m 1 = some w) (T_w : T w = 20) (N_w : N w = 4007) (I_w_0 : I w 0 = p) (hp1 : 2 ≤ p.toInt) (hp2 : p.toInt ≤ 19) (u1 : 0 ≤ u.toInt ∧ u.toInt ≤ 18) (v1 : 0 ≤ v.toInt ∧ v.toInt ≤ 18) : Ex (d + 2) 193 [.ref m, .int u, .int v] (T, N, I, L, R) 0 0 (pI T N R (fun x9 I9 L9 => I9 = I ∧ L9 = L ∧ (x9.toInt = u.toInt * v.toInt % p.toInt))) := by
  refine ⟨_, rfl, Nat.le_of_ble_eq_true rfl, fun V C S => ?_⟩
  show V 0 [(0, .ref m), (1, .int u), (2, .int v)] [] (T, N, I, L, R) 0 0
  refine k_iload_n C rfl rfl rfl ?_
  refine k_iload_n C rfl rfl rfl ?_
  refine k_imul C rfl rfl ?_
  refine k_aload_n C rfl rfl rfl ?_
  refine c_VI C (e_m_p T_m R_m_1 T_w N_w (I_w_0) ) rfl rfl rfl rfl rfl ⟨_, rfl, rfl, T_m, Nat.le_of_ble_eq_true rfl⟩ rfl rfl (Nat.le_of_ble_eq_true rfl) (Nat.le_of_ble_eq_true rfl) (Nat.le_of_ble_eq_true rfl) ?_
  rintro _ _ _ ⟨hx7, hI8, hL9⟩
  have hx7 := hx7.symm; subst hx7
  have hI8 := hI8.symm; subst hI8; have hL9 := hL9.symm; subst hL9
  refine k_irem C rfl rfl (i_ne0 (by omega)) ?_
  exact k_iret C rfl (Or.inl rfl) (Nat.le_of_ble_eq_true rfl) (Nat.le_of_ble_eq_true rfl) ⟨_, _, _, rfl, rfl, ⟨rfl, rfl, by
      have b := mul_bd u1 v1
      have e := ii_mul (x := u) (y := v) (by omega)
      rw [i_rem (by omega), e, Int.tmod_eq_emod_of_nonneg b.1]⟩⟩

theorem e_m_less {d : Nat} {T N : Nat → Nat} {I : IT} {L : LT} {R : RT} {m w : Nat} {u v : Int32}{p : Int32} (T_m : T m = 13) (R_m_1 : R m 1 = some w) (T_w : T w = 20) (N_w : N w = 4007) (I_w_0 : I w 0 = p) (hp1 : 2 ≤ p.toInt) (hp2 : p.toInt ≤ 19) (u1 : 0 ≤ u.toInt ∧ u.toInt < p.toInt) (v1 : 0 ≤ v.toInt ∧ v.toInt < p.toInt) : Ex (d + 2) 195 [.ref m, .int u, .int v] (T, N, I, L, R) 0 0 (pI T N R (fun x9 I9 L9 => I9 = I ∧ L9 = L ∧ (x9.toInt = (u.toInt - v.toInt) % p.toInt))) := by
  refine ⟨_, rfl, Nat.le_of_ble_eq_true rfl, fun V C S => ?_⟩
  show V 0 [(0, .ref m), (1, .int u), (2, .int v)] [] (T, N, I, L, R) 0 0
  refine k_iload_n C rfl rfl rfl ?_
  refine k_iload_n C rfl rfl rfl ?_
  refine k_isub C rfl rfl ?_
  refine k_aload_n C rfl rfl rfl ?_
  refine c_VI C (e_m_p T_m R_m_1 T_w N_w (I_w_0) ) rfl rfl rfl rfl rfl ⟨_, rfl, rfl, T_m, Nat.le_of_ble_eq_true rfl⟩ rfl rfl (Nat.le_of_ble_eq_true rfl) (Nat.le_of_ble_eq_true rfl) (Nat.le_of_ble_eq_true rfl) ?_
  rintro _ _ _ ⟨hx7, hI8, hL9⟩
  have hx7 := hx7.symm; subst hx7
  have hI8 := hI8.symm; subst hI8; have hL9 := hL9.symm; subst hL9
  refine k_iadd C rfl rfl ?_
  refine k_aload_n C rfl rfl rfl ?_
  refine c_VI C (e_m_p T_m R_m_1 T_w N_w (I_w_0) ) rfl rfl rfl rfl rfl ⟨_, rfl, rfl, T_m, Nat.le_of_ble_eq_true rfl⟩ rfl rfl (Nat.le_of_ble_eq_true rfl) (Nat.le_of_ble_eq_true rfl) (Nat.le_of_ble_eq_true rfl) ?_
  rintro _ _ _ ⟨hx7, hI8, hL9⟩
  have hx7 := hx7.symm; subst hx7
  have hI8 := hI8.symm; subst hI8; have hL9 := hL9.symm; subst hL9
  refine k_irem C rfl rfl (i_ne0 (by omega)) ?_
  exact k_iret C rfl (Or.inl rfl) (Nat.le_of_ble_eq_true rfl) (Nat.le_of_ble_eq_true rfl) ⟨_, _, _, rfl, rfl, ⟨rfl, rfl, by
      have e1 := ii_sub (x := u) (y := v) (by omega)
      have e2 := ii_add (x := u - v) (y := p) (by rw [e1]; omega)
      rw [i_rem (by omega), e2, e1, Int.tmod_eq_emod_of_nonneg (by omega), Int.add_emod_right]⟩⟩

theorem e_m_detNow {d : Nat} {T N : Nat → Nat} {I : IT} {L : LT} {R : RT} {m w : Nat}{p a b c e : Int32} (T_m : T m = 13) (R_m_1 : R m 1 = some w) (T_w : T w = 20) (N_w : N w = 4007) (I_w_0 : I w 0 = p) (I_m_6 : I m 6 = a) (I_m_7 : I m 7 = b) (I_m_8 : I m 8 = c) (I_m_9 : I m 9 = e) (hp1 : 2 ≤ p.toInt) (hp2 : p.toInt ≤ 19) (a1 : 0 ≤ a.toInt ∧ a.toInt < p.toInt) (b1 : 0 ≤ b.toInt ∧ b.toInt < p.toInt) (c1 : 0 ≤ c.toInt ∧ c.toInt < p.toInt) (e1 : 0 ≤ e.toInt ∧ e.toInt < p.toInt) : Ex (d + 3) 212 [.ref m] (T, N, I, L, R) 0 0 (pI T N R (fun x9 I9 L9 => I9 = I ∧ L9 = L ∧ (x9.toInt = (a.toInt * e.toInt % p.toInt - b.toInt * c.toInt % p.toInt) % p.toInt))) := by
  refine ⟨_, rfl, Nat.le_of_ble_eq_true rfl, fun V C S => ?_⟩
  show V 0 [(0, .ref m)] [] (T, N, I, L, R) 0 0
  refine k_aload_n C rfl rfl rfl ?_
  refine k_aload_n C rfl rfl rfl ?_
  refine k_aload_n C rfl rfl rfl ?_
  refine g_I C rfl rfl rfl T_m rfl (I_m_6) ?_
  refine k_aload_n C rfl rfl rfl ?_
  refine g_I C rfl rfl rfl T_m rfl (I_m_9) ?_
  refine c_VI C (e_m_times T_m R_m_1 T_w N_w (I_w_0) hp1 hp2 (by omega) (by omega)) rfl rfl rfl rfl rfl ⟨_, rfl, rfl, T_m, Nat.le_of_ble_eq_true rfl⟩ rfl rfl (Nat.le_of_ble_eq_true rfl) (Nat.le_of_ble_eq_true rfl) (Nat.le_of_ble_eq_true rfl) ?_
  rintro x10 _ _ ⟨hI8, hL9, h10⟩
  have hI8 := hI8.symm; subst hI8; have hL9 := hL9.symm; subst hL9
  refine k_aload_n C rfl rfl rfl ?_
  refine k_aload_n C rfl rfl rfl ?_
  refine g_I C rfl rfl rfl T_m rfl (I_m_7) ?_
  refine k_aload_n C rfl rfl rfl ?_
  refine g_I C rfl rfl rfl T_m rfl (I_m_8) ?_
  refine c_VI C (e_m_times T_m R_m_1 T_w N_w (I_w_0) hp1 hp2 (by omega) (by omega)) rfl rfl rfl rfl rfl ⟨_, rfl, rfl, T_m, Nat.le_of_ble_eq_true rfl⟩ rfl rfl (Nat.le_of_ble_eq_true rfl) (Nat.le_of_ble_eq_true rfl) (Nat.le_of_ble_eq_true rfl) ?_
  rintro x22 _ _ ⟨hI8, hL9, h22⟩
  have hI8 := hI8.symm; subst hI8; have hL9 := hL9.symm; subst hL9
  refine c_VI C (e_m_less T_m R_m_1 T_w N_w (I_w_0) hp1 hp2 (md_lt h10 hp1) (md_lt h22 hp1)) rfl rfl rfl rfl rfl ⟨_, rfl, rfl, T_m, Nat.le_of_ble_eq_true rfl⟩ rfl rfl (Nat.le_of_ble_eq_true rfl) (Nat.le_of_ble_eq_true rfl) (Nat.le_of_ble_eq_true rfl) ?_
  rintro x25 _ _ ⟨hI8, hL9, h25⟩
  have hI8 := hI8.symm; subst hI8; have hL9 := hL9.symm; subst hL9
  exact k_iret C rfl (Or.inl rfl) (Nat.le_of_ble_eq_true rfl) (Nat.le_of_ble_eq_true rfl) ⟨_, _, _, rfl, rfl, ⟨rfl, rfl, by rw [h25, h10, h22]⟩⟩

theorem e_m_takesTable {d : Nat} {T N : Nat → Nat} {I : IT} {L : LT} {R : RT} {m : Nat} {a b c e : Int32} (T_m : T m = 13) : Ex (d + 1) 210 [.ref m, .int a, .int b, .int c, .int e] (T, N, I, L, R) 0 0 (pV T N R (fun I9 L9 => I9 = (u2 (u2 (u2 (u2 I m 6 a) m 7 b) m 8 c) m 9 e) ∧ L9 = (L))) := by
  refine ⟨_, rfl, Nat.le_of_ble_eq_true rfl, fun V C S => ?_⟩
  show V 0 [(0, .ref m), (1, .int a), (2, .int b), (3, .int c), (4, .int e)] [] (T, N, I, L, R) 0 0
  refine k_aload_n C rfl rfl rfl ?_
  refine k_iload_n C rfl rfl rfl ?_
  refine p_I C rfl rfl rfl T_m (Or.inr rfl) rfl ?_
  refine k_aload_n C rfl rfl rfl ?_
  refine k_iload_n C rfl rfl rfl ?_
  refine p_I C rfl rfl rfl T_m (Or.inr rfl) rfl ?_
  refine k_aload_n C rfl rfl rfl ?_
  refine k_iload_n C rfl rfl rfl ?_
  refine p_I C rfl rfl rfl T_m (Or.inr rfl) rfl ?_
  refine k_aload_n C rfl rfl rfl ?_
  refine k_iload C rfl rfl rfl ?_
  refine p_I C rfl rfl rfl T_m (Or.inr rfl) rfl ?_
  exact k_vret C rfl rfl (Nat.le_of_ble_eq_true rfl) (Nat.le_of_ble_eq_true rfl) ⟨_, _, rfl, rfl, ⟨rfl, rfl⟩⟩

theorem dt_eq (p a b c e : Int) : ((a % p) * (e % p) % p - (b % p) * (c % p) % p) % p = dt p a b c e := by
  unfold dt; rw [← Int.sub_emod]
theorem e_m_table_no {d : Nat} {T N : Nat → Nat} {I : IT} {L : LT} {R : RT} {A : Nat → Prop} {m w : Nat} {n0 n1 n2 n3 : Int32}{p : Int32} (T_m : T m = 13) (R_m_1 : R m 1 = some w) (T_w : T w = 20) (N_w : N w = 4007) (I_w_0 : I w 0 = p) (A_m : A m) (hp1 : 2 ≤ p.toInt) (hp2 : p.toInt ≤ 19) (h0 : dt p.toInt n0.toInt n1.toInt n2.toInt n3.toInt = 0) : Ex (d + 4) 235 [.ref m, .int n0, .int n1, .int n2, .int n3] (T, N, I, L, R) 0 0 (pI T N R (fun x9 I9 L9 => Fr A I L I9 L9 ∧ I9 m 0 = 1)) := by
  refine ⟨_, rfl, Nat.le_of_ble_eq_true rfl, fun V C S => ?_⟩
  show V 0 [(0, .ref m), (1, .int n0), (2, .int n1), (3, .int n2), (4, .int n3)] [] (T, N, I, L, R) 0 0
  refine k_aload_n C rfl rfl rfl ?_
  refine k_iconst C (x := 0) rfl rfl rfl ?_
  refine p_I C rfl rfl rfl T_m (Or.inr rfl) rfl ?_
  refine k_aload_n C rfl rfl rfl ?_
  refine k_aload_n C rfl rfl rfl ?_
  refine k_iload_n C rfl rfl rfl ?_
  refine k_i2l C rfl rfl ?_
  refine c_VI C (e_m_mod T_m R_m_1 T_w N_w ((u2_a (t_nq T_w T_m (by decide))).trans I_w_0) hp1 hp2) rfl rfl rfl rfl rfl ⟨_, rfl, rfl, T_m, Nat.le_of_ble_eq_true rfl⟩ rfl rfl (Nat.le_of_ble_eq_true rfl) (Nat.le_of_ble_eq_true rfl) (Nat.le_of_ble_eq_true rfl) ?_
  rintro x9 _ _ ⟨hI8, hL9, h9⟩
  have hI8 := hI8.symm; subst hI8; have hL9 := hL9.symm; subst hL9
  refine k_aload_n C rfl rfl rfl ?_
  refine k_iload_n C rfl rfl rfl ?_
  refine k_i2l C rfl rfl ?_
  refine c_VI C (e_m_mod T_m R_m_1 T_w N_w ((u2_a (t_nq T_w T_m (by decide))).trans I_w_0) hp1 hp2) rfl rfl rfl rfl rfl ⟨_, rfl, rfl, T_m, Nat.le_of_ble_eq_true rfl⟩ rfl rfl (Nat.le_of_ble_eq_true rfl) (Nat.le_of_ble_eq_true rfl) (Nat.le_of_ble_eq_true rfl) ?_
  rintro x15 _ _ ⟨hI8, hL9, h15⟩
  have hI8 := hI8.symm; subst hI8; have hL9 := hL9.symm; subst hL9
  refine k_aload_n C rfl rfl rfl ?_
  refine k_iload_n C rfl rfl rfl ?_
  refine k_i2l C rfl rfl ?_
  refine c_VI C (e_m_mod T_m R_m_1 T_w N_w ((u2_a (t_nq T_w T_m (by decide))).trans I_w_0) hp1 hp2) rfl rfl rfl rfl rfl ⟨_, rfl, rfl, T_m, Nat.le_of_ble_eq_true rfl⟩ rfl rfl (Nat.le_of_ble_eq_true rfl) (Nat.le_of_ble_eq_true rfl) (Nat.le_of_ble_eq_true rfl) ?_
  rintro x21 _ _ ⟨hI8, hL9, h21⟩
  have hI8 := hI8.symm; subst hI8; have hL9 := hL9.symm; subst hL9
  refine k_aload_n C rfl rfl rfl ?_
  refine k_iload C rfl rfl rfl ?_
  refine k_i2l C rfl rfl ?_
  refine c_VI C (e_m_mod T_m R_m_1 T_w N_w ((u2_a (t_nq T_w T_m (by decide))).trans I_w_0) hp1 hp2) rfl rfl rfl rfl rfl ⟨_, rfl, rfl, T_m, Nat.le_of_ble_eq_true rfl⟩ rfl rfl (Nat.le_of_ble_eq_true rfl) (Nat.le_of_ble_eq_true rfl) (Nat.le_of_ble_eq_true rfl) ?_
  rintro x28 _ _ ⟨hI8, hL9, h28⟩
  have hI8 := hI8.symm; subst hI8; have hL9 := hL9.symm; subst hL9
  refine c_VV C (e_m_takesTable T_m ) rfl rfl rfl rfl rfl ⟨_, rfl, rfl, T_m, Nat.le_of_ble_eq_true rfl⟩ rfl rfl (Nat.le_of_ble_eq_true rfl) (Nat.le_of_ble_eq_true rfl) (Nat.le_of_ble_eq_true rfl) ?_
  rintro _ _ ⟨hI8, hL9⟩
  have hI8 := hI8.symm; subst hI8; have hL9 := hL9.symm; subst hL9
  rw [i2l_eq] at h9 h15 h21 h28
  have b9 := md_lt h9 hp1
  have b15 := md_lt h15 hp1
  have b21 := md_lt h21 hp1
  have b28 := md_lt h28 hp1
  refine k_aload_n C rfl rfl rfl ?_
  refine k_aload_n C rfl rfl rfl ?_
  refine c_VI C (e_m_detNow T_m R_m_1 T_w N_w ((u2_a (t_nq T_w T_m (by decide))).trans ((u2_a (t_nq T_w T_m (by decide))).trans ((u2_a (t_nq T_w T_m (by decide))).trans ((u2_a (t_nq T_w T_m (by decide))).trans ((u2_a (t_nq T_w T_m (by decide))).trans I_w_0))))) ((u2_k (by decide)).trans ((u2_k (by decide)).trans ((u2_k (by decide)).trans u2_s))) ((u2_k (by decide)).trans ((u2_k (by decide)).trans u2_s)) ((u2_k (by decide)).trans u2_s) u2_s hp1 hp2 b9 b15 b21 b28) rfl rfl rfl rfl rfl ⟨_, rfl, rfl, T_m, Nat.le_of_ble_eq_true rfl⟩ rfl rfl (Nat.le_of_ble_eq_true rfl) (Nat.le_of_ble_eq_true rfl) (Nat.le_of_ble_eq_true rfl) ?_
  rintro x36 _ _ ⟨hI8, hL9, h36⟩
  have hI8 := hI8.symm; subst hI8; have hL9 := hL9.symm; subst hL9
  have g36 : x36.toInt = dt p.toInt n0.toInt n1.toInt n2.toInt n3.toInt := by rw [h36, h9, h15, h21, h28]; exact dt_eq _ _ _ _ _
  refine k_if_ne C (t := 46) rfl rfl rfl (fun c39 => ?_) (fun c39 => ?_)
  · skip
    exact absurd (Int32.toInt_inj.mp (by rw [g36, h0]; rfl)) c39
  refine k_iconst C (x := 1) rfl rfl rfl ?_
  refine k_goto C (pc2 := 47) rfl rfl ?_
  refine k_iconst C (x := 1) rfl rfl rfl ?_
  refine c_VI C (e_throwsIf1 T_m rfl) rfl rfl rfl rfl rfl ⟨_, rfl, rfl, T_m, Nat.le_of_ble_eq_true rfl⟩ rfl rfl (Nat.le_of_ble_eq_true rfl) (Nat.le_of_ble_eq_true rfl) (Nat.le_of_ble_eq_true rfl) ?_
  rintro _ _ _ ⟨hx7, hI8, hL9⟩
  have hx7 := hx7.symm; subst hx7
  have hI8 := hI8.symm; subst hI8; have hL9 := hL9.symm; subst hL9
  refine k_if_ne C (t := 78) rfl rfl rfl (fun _ => ?_) (fun c51 => absurd (by decide) c51)
  refine k_iconst C (x := 0) rfl rfl rfl ?_
  refine k_goto C (pc2 := 86) rfl rfl ?_
  exact k_iret C rfl (Or.inl rfl) (Nat.le_of_ble_eq_true rfl) (Nat.le_of_ble_eq_true rfl) ⟨_, _, _, rfl, rfl, ⟨(Fr.i (Fr.i (Fr.i (Fr.i (Fr.i (Fr.i Fr.rf A_m) A_m) A_m) A_m) A_m) A_m), u2_s⟩⟩

theorem e_m_lays0 {d : Nat} {T N : Nat → Nat} {I : IT} {L : LT} {R : RT} {A : Nat → Prop} {m w : Nat} (T_m : T m = 13) (R_m_1 : R m 1 = some w) (T_w : T w = 20) (N_w : N w = 4007) (I_w_2 : I w 2 = 0) (A_w : A w) : Ex (d + 1) 234 [.ref m] (T, N, I, L, R) 0 0 (pI T N R (fun x9 I9 L9 => x9 = 0 ∧ Fr A I L I9 L9 ∧ I9 m = I m)) := by
  refine ⟨_, rfl, Nat.le_of_ble_eq_true rfl, fun V C S => ?_⟩
  show V 0 [(0, .ref m)] [] (T, N, I, L, R) 0 0
  refine k_sipush C (x := 166) rfl rfl rfl ?_
  refine k_iconst C (x := 4) rfl rfl rfl ?_
  refine k_aload_n C rfl rfl rfl ?_
  refine g_R C rfl rfl rfl T_m rfl R_m_1 ?_
  refine k_iconst C (x := 2) rfl rfl rfl ?_
  refine a_I C rfl rfl T_w (vin (n := 2) rfl (by rw [N_w]; exact Nat.le_of_ble_eq_true rfl) (by rw [N_w]; exact Nat.le_of_ble_eq_true rfl)) I_w_2 ?_
  refine k_imul C rfl rfl ?_
  refine k_iadd C rfl rfl ?_
  refine k_istore_n C (lw := [(1, .int _), (0, _)]) rfl rfl (Nat.le_of_ble_eq_true rfl) rfl ?_
  refine k_aload_n C rfl rfl rfl ?_
  refine g_R C rfl rfl rfl T_m rfl R_m_1 ?_
  refine k_iload_n C rfl rfl rfl ?_
  refine k_aload_n C rfl rfl rfl ?_
  refine g_I C rfl rfl rfl T_m rfl (rfl) ?_
  refine s_I C rfl rfl T_w (vin (n := 166) rfl (by rw [N_w]; exact Nat.le_of_ble_eq_true rfl) (by rw [N_w]; exact Nat.le_of_ble_eq_true rfl)) rfl ?_
  refine k_aload_n C rfl rfl rfl ?_
  refine g_R C rfl rfl rfl T_m rfl R_m_1 ?_
  refine k_iload_n C rfl rfl rfl ?_
  refine k_iconst C (x := 1) rfl rfl rfl ?_
  refine k_iadd C rfl rfl ?_
  refine k_aload_n C rfl rfl rfl ?_
  refine g_I C rfl rfl rfl T_m rfl ((u2_a (t_nq T_m T_w (by decide))).trans (rfl)) ?_
  refine s_I C rfl rfl T_w (vin (n := 167) rfl (by rw [N_w]; exact Nat.le_of_ble_eq_true rfl) (by rw [N_w]; exact Nat.le_of_ble_eq_true rfl)) rfl ?_
  refine k_aload_n C rfl rfl rfl ?_
  refine g_R C rfl rfl rfl T_m rfl R_m_1 ?_
  refine k_iload_n C rfl rfl rfl ?_
  refine k_iconst C (x := 2) rfl rfl rfl ?_
  refine k_iadd C rfl rfl ?_
  refine k_aload_n C rfl rfl rfl ?_
  refine g_I C rfl rfl rfl T_m rfl ((u2_a (t_nq T_m T_w (by decide))).trans ((u2_a (t_nq T_m T_w (by decide))).trans (rfl))) ?_
  refine s_I C rfl rfl T_w (vin (n := 168) rfl (by rw [N_w]; exact Nat.le_of_ble_eq_true rfl) (by rw [N_w]; exact Nat.le_of_ble_eq_true rfl)) rfl ?_
  refine k_aload_n C rfl rfl rfl ?_
  refine g_R C rfl rfl rfl T_m rfl R_m_1 ?_
  refine k_iload_n C rfl rfl rfl ?_
  refine k_iconst C (x := 3) rfl rfl rfl ?_
  refine k_iadd C rfl rfl ?_
  refine k_aload_n C rfl rfl rfl ?_
  refine g_I C rfl rfl rfl T_m rfl ((u2_a (t_nq T_m T_w (by decide))).trans ((u2_a (t_nq T_m T_w (by decide))).trans ((u2_a (t_nq T_m T_w (by decide))).trans (rfl)))) ?_
  refine s_I C rfl rfl T_w (vin (n := 169) rfl (by rw [N_w]; exact Nat.le_of_ble_eq_true rfl) (by rw [N_w]; exact Nat.le_of_ble_eq_true rfl)) rfl ?_
  refine k_aload_n C rfl rfl rfl ?_
  refine g_R C rfl rfl rfl T_m rfl R_m_1 ?_
  refine k_iconst C (x := 2) rfl rfl rfl ?_
  refine k_dup2 C rfl rfl rfl rfl ?_
  refine a_I C rfl rfl T_w (vin (n := 2) rfl (by rw [N_w]; exact Nat.le_of_ble_eq_true rfl) (by rw [N_w]; exact Nat.le_of_ble_eq_true rfl)) ((u2_k (by decide)).trans ((u2_k (by decide)).trans ((u2_k (by decide)).trans ((u2_k (by decide)).trans I_w_2)))) ?_
  refine k_iconst C (x := 1) rfl rfl rfl ?_
  refine k_iadd C rfl rfl ?_
  refine s_I C rfl rfl T_w (vin (n := 2) rfl (by rw [N_w]; exact Nat.le_of_ble_eq_true rfl) (by rw [N_w]; exact Nat.le_of_ble_eq_true rfl)) rfl ?_
  refine k_aload_n C rfl rfl rfl ?_
  refine g_R C rfl rfl rfl T_m rfl R_m_1 ?_
  refine k_iconst C (x := 2) rfl rfl rfl ?_
  refine a_I C rfl rfl T_w (vin (n := 2) rfl (by rw [N_w]; exact Nat.le_of_ble_eq_true rfl) (by rw [N_w]; exact Nat.le_of_ble_eq_true rfl)) u2_s ?_
  refine k_iconst C (x := 1) rfl rfl rfl ?_
  refine k_isub C rfl rfl ?_
  exact k_iret C rfl (Or.inl rfl) (Nat.le_of_ble_eq_true rfl) (Nat.le_of_ble_eq_true rfl) ⟨_, _, _, rfl, rfl, ⟨by decide, (Fr.i (Fr.i (Fr.i (Fr.i (Fr.i Fr.rf A_w) A_w) A_w) A_w) A_w), (u2_r (t_nq T_m T_w (by decide))).trans ((u2_r (t_nq T_m T_w (by decide))).trans ((u2_r (t_nq T_m T_w (by decide))).trans ((u2_r (t_nq T_m T_w (by decide))).trans (u2_r (t_nq T_m T_w (by decide))))))⟩⟩

theorem e_m_table_yes {d : Nat} {T N : Nat → Nat} {I : IT} {L : LT} {R : RT} {A : Nat → Prop} {m w : Nat} {n0 n1 n2 n3 : Int32}{p : Int32} (T_m : T m = 13) (R_m_1 : R m 1 = some w) (T_w : T w = 20) (N_w : N w = 4007) (I_w_0 : I w 0 = p) (A_m : A m) (A_w : A w) (I_w_2 : I w 2 = 0) (hp1 : 2 ≤ p.toInt) (hp2 : p.toInt ≤ 19) (h0 : dt p.toInt n0.toInt n1.toInt n2.toInt n3.toInt ≠ 0) : Ex (d + 4) 235 [.ref m, .int n0, .int n1, .int n2, .int n3] (T, N, I, L, R) 0 0 (pI T N R (fun x9 I9 L9 => x9 = 0 ∧ Fr A I L I9 L9 ∧ I9 m 0 = 0)) := by
  refine ⟨_, rfl, Nat.le_of_ble_eq_true rfl, fun V C S => ?_⟩
  show V 0 [(0, .ref m), (1, .int n0), (2, .int n1), (3, .int n2), (4, .int n3)] [] (T, N, I, L, R) 0 0
  refine k_aload_n C rfl rfl rfl ?_
  refine k_iconst C (x := 0) rfl rfl rfl ?_
  refine p_I C rfl rfl rfl T_m (Or.inr rfl) rfl ?_
  refine k_aload_n C rfl rfl rfl ?_
  refine k_aload_n C rfl rfl rfl ?_
  refine k_iload_n C rfl rfl rfl ?_
  refine k_i2l C rfl rfl ?_
  refine c_VI C (e_m_mod T_m R_m_1 T_w N_w ((u2_a (t_nq T_w T_m (by decide))).trans I_w_0) hp1 hp2) rfl rfl rfl rfl rfl ⟨_, rfl, rfl, T_m, Nat.le_of_ble_eq_true rfl⟩ rfl rfl (Nat.le_of_ble_eq_true rfl) (Nat.le_of_ble_eq_true rfl) (Nat.le_of_ble_eq_true rfl) ?_
  rintro x9 _ _ ⟨hI8, hL9, h9⟩
  have hI8 := hI8.symm; subst hI8; have hL9 := hL9.symm; subst hL9
  refine k_aload_n C rfl rfl rfl ?_
  refine k_iload_n C rfl rfl rfl ?_
  refine k_i2l C rfl rfl ?_
  refine c_VI C (e_m_mod T_m R_m_1 T_w N_w ((u2_a (t_nq T_w T_m (by decide))).trans I_w_0) hp1 hp2) rfl rfl rfl rfl rfl ⟨_, rfl, rfl, T_m, Nat.le_of_ble_eq_true rfl⟩ rfl rfl (Nat.le_of_ble_eq_true rfl) (Nat.le_of_ble_eq_true rfl) (Nat.le_of_ble_eq_true rfl) ?_
  rintro x15 _ _ ⟨hI8, hL9, h15⟩
  have hI8 := hI8.symm; subst hI8; have hL9 := hL9.symm; subst hL9
  refine k_aload_n C rfl rfl rfl ?_
  refine k_iload_n C rfl rfl rfl ?_
  refine k_i2l C rfl rfl ?_
  refine c_VI C (e_m_mod T_m R_m_1 T_w N_w ((u2_a (t_nq T_w T_m (by decide))).trans I_w_0) hp1 hp2) rfl rfl rfl rfl rfl ⟨_, rfl, rfl, T_m, Nat.le_of_ble_eq_true rfl⟩ rfl rfl (Nat.le_of_ble_eq_true rfl) (Nat.le_of_ble_eq_true rfl) (Nat.le_of_ble_eq_true rfl) ?_
  rintro x21 _ _ ⟨hI8, hL9, h21⟩
  have hI8 := hI8.symm; subst hI8; have hL9 := hL9.symm; subst hL9
  refine k_aload_n C rfl rfl rfl ?_
  refine k_iload C rfl rfl rfl ?_
  refine k_i2l C rfl rfl ?_
  refine c_VI C (e_m_mod T_m R_m_1 T_w N_w ((u2_a (t_nq T_w T_m (by decide))).trans I_w_0) hp1 hp2) rfl rfl rfl rfl rfl ⟨_, rfl, rfl, T_m, Nat.le_of_ble_eq_true rfl⟩ rfl rfl (Nat.le_of_ble_eq_true rfl) (Nat.le_of_ble_eq_true rfl) (Nat.le_of_ble_eq_true rfl) ?_
  rintro x28 _ _ ⟨hI8, hL9, h28⟩
  have hI8 := hI8.symm; subst hI8; have hL9 := hL9.symm; subst hL9
  refine c_VV C (e_m_takesTable T_m ) rfl rfl rfl rfl rfl ⟨_, rfl, rfl, T_m, Nat.le_of_ble_eq_true rfl⟩ rfl rfl (Nat.le_of_ble_eq_true rfl) (Nat.le_of_ble_eq_true rfl) (Nat.le_of_ble_eq_true rfl) ?_
  rintro _ _ ⟨hI8, hL9⟩
  have hI8 := hI8.symm; subst hI8; have hL9 := hL9.symm; subst hL9
  rw [i2l_eq] at h9 h15 h21 h28
  have b9 := md_lt h9 hp1
  have b15 := md_lt h15 hp1
  have b21 := md_lt h21 hp1
  have b28 := md_lt h28 hp1
  refine k_aload_n C rfl rfl rfl ?_
  refine k_aload_n C rfl rfl rfl ?_
  refine c_VI C (e_m_detNow T_m R_m_1 T_w N_w ((u2_a (t_nq T_w T_m (by decide))).trans ((u2_a (t_nq T_w T_m (by decide))).trans ((u2_a (t_nq T_w T_m (by decide))).trans ((u2_a (t_nq T_w T_m (by decide))).trans ((u2_a (t_nq T_w T_m (by decide))).trans I_w_0))))) ((u2_k (by decide)).trans ((u2_k (by decide)).trans ((u2_k (by decide)).trans u2_s))) ((u2_k (by decide)).trans ((u2_k (by decide)).trans u2_s)) ((u2_k (by decide)).trans u2_s) u2_s hp1 hp2 b9 b15 b21 b28) rfl rfl rfl rfl rfl ⟨_, rfl, rfl, T_m, Nat.le_of_ble_eq_true rfl⟩ rfl rfl (Nat.le_of_ble_eq_true rfl) (Nat.le_of_ble_eq_true rfl) (Nat.le_of_ble_eq_true rfl) ?_
  rintro x36 _ _ ⟨hI8, hL9, h36⟩
  have hI8 := hI8.symm; subst hI8; have hL9 := hL9.symm; subst hL9
  have g36 : x36.toInt = dt p.toInt n0.toInt n1.toInt n2.toInt n3.toInt := by rw [h36, h9, h15, h21, h28]; exact dt_eq _ _ _ _ _
  refine k_if_ne C (t := 46) rfl rfl rfl (fun c39 => ?_) (fun c39 => ?_)
  · skip
    refine k_iconst C (x := 0) rfl rfl rfl ?_
    refine k_iconst C (x := 1) rfl rfl rfl ?_
    refine c_VI C (e_throwsIf0 T_m rfl) rfl rfl rfl rfl rfl ⟨_, rfl, rfl, T_m, Nat.le_of_ble_eq_true rfl⟩ rfl rfl (Nat.le_of_ble_eq_true rfl) (Nat.le_of_ble_eq_true rfl) (Nat.le_of_ble_eq_true rfl) ?_
    rintro _ _ _ ⟨hx7, hI8, hL9⟩
    have hx7 := hx7.symm; subst hx7
    have hI8 := hI8.symm; subst hI8; have hL9 := hL9.symm; subst hL9
    refine k_if_ne C (t := 78) rfl rfl rfl (fun c51 => absurd c51 (by decide)) (fun _ => ?_)
    refine k_aload_n C rfl rfl rfl ?_
    refine k_aload_n C rfl rfl rfl ?_
    refine g_R C rfl rfl rfl T_m rfl R_m_1 ?_
    refine k_iconst C (x := 2) rfl rfl rfl ?_
    refine a_I C rfl rfl T_w (vin (n := 2) rfl (by rw [N_w]; exact Nat.le_of_ble_eq_true rfl) (by rw [N_w]; exact Nat.le_of_ble_eq_true rfl)) ((u2_a (t_nq T_w T_m (by decide))).trans ((u2_a (t_nq T_w T_m (by decide))).trans ((u2_a (t_nq T_w T_m (by decide))).trans ((u2_a (t_nq T_w T_m (by decide))).trans ((u2_a (t_nq T_w T_m (by decide))).trans I_w_2))))) ?_
    refine k_bipush C (x := 8) rfl rfl rfl ?_
    refine k_icmp_ne C (t := 70) rfl rfl rfl (fun c63 => ?_) (fun c63 => ?_)
    · skip
      refine k_iconst C (x := 0) rfl rfl rfl ?_
      refine k_iconst C (x := 2) rfl rfl rfl ?_
      refine c_VI C (e_throwsIf0 T_m rfl) rfl rfl rfl rfl rfl ⟨_, rfl, rfl, T_m, Nat.le_of_ble_eq_true rfl⟩ rfl rfl (Nat.le_of_ble_eq_true rfl) (Nat.le_of_ble_eq_true rfl) (Nat.le_of_ble_eq_true rfl) ?_
      rintro _ _ _ ⟨hx7, hI8, hL9⟩
      have hx7 := hx7.symm; subst hx7
      have hI8 := hI8.symm; subst hI8; have hL9 := hL9.symm; subst hL9
      refine k_if_eq C (t := 82) rfl rfl rfl (fun _ => ?_) (fun c75 => absurd (by decide) c75)
      refine k_aload_n C rfl rfl rfl ?_
      refine c_VI C (e_m_lays0 T_m R_m_1 T_w N_w ((u2_a (t_nq T_w T_m (by decide))).trans ((u2_a (t_nq T_w T_m (by decide))).trans ((u2_a (t_nq T_w T_m (by decide))).trans ((u2_a (t_nq T_w T_m (by decide))).trans ((u2_a (t_nq T_w T_m (by decide))).trans I_w_2))))) A_w ) rfl rfl rfl rfl rfl ⟨_, rfl, rfl, T_m, Nat.le_of_ble_eq_true rfl⟩ rfl rfl (Nat.le_of_ble_eq_true rfl) (Nat.le_of_ble_eq_true rfl) (Nat.le_of_ble_eq_true rfl) ?_
      intro x83 I83 L83 h83
      exact k_iret C rfl (Or.inl rfl) (Nat.le_of_ble_eq_true rfl) (Nat.le_of_ble_eq_true rfl) ⟨_, _, _, rfl, rfl, ⟨h83.1, Fr.tr (Fr.i (Fr.i (Fr.i (Fr.i (Fr.i Fr.rf A_m) A_m) A_m) A_m) A_m) h83.2.1, (congrFun h83.2.2 0).trans ((u2_k (by decide)).trans ((u2_k (by decide)).trans ((u2_k (by decide)).trans ((u2_k (by decide)).trans u2_s))))⟩⟩
    exact absurd (by decide) c63
  have c39 : x36 = 0 := Decidable.not_not.mp c39
  exact absurd (by rw [← g36, c39]; rfl) h0

theorem e_m_back0 {d : Nat} {T N : Nat → Nat} {I : IT} {L : LT} {R : RT} {A : Nat → Prop} {m : Nat} (T_m : T m = 13) (A_m : A m) (I_m_3 : I m 3 = 0) : Ex (d + 1) 182 [.ref m] (T, N, I, L, R) 0 0 (pI T N R (fun x9 I9 L9 => x9 = 0 ∧ Fr A I L I9 L9 ∧ I9 m 0 = 0)) := by
  refine ⟨_, rfl, Nat.le_of_ble_eq_true rfl, fun V C S => ?_⟩
  show V 0 [(0, .ref m)] [] (T, N, I, L, R) 0 0
  refine k_aload_n C rfl rfl rfl ?_
  refine k_iconst C (x := 0) rfl rfl rfl ?_
  refine p_I C rfl rfl rfl T_m (Or.inr rfl) rfl ?_
  refine k_aload_n C rfl rfl rfl ?_
  refine g_I C rfl rfl rfl T_m rfl ((u2_k (by decide)).trans (I_m_3)) ?_
  refine k_if_ne C (t := 14) rfl rfl rfl (fun c9 => absurd c9 (by decide)) (fun _ => ?_)
  refine k_iconst C (x := 0) rfl rfl rfl ?_
  exact k_iret C rfl (Or.inr ⟨rfl, Or.inl rfl⟩) (Nat.le_of_ble_eq_true rfl) (Nat.le_of_ble_eq_true rfl) ⟨_, _, _, rfl, rfl, ⟨rfl, (Fr.i Fr.rf A_m), u2_s⟩⟩

theorem e_m_stock0 {d : Nat} {T N : Nat → Nat} {I : IT} {L : LT} {R : RT} {A : Nat → Prop} {m w : Nat} {n : Int32} (T_m : T m = 13) (R_m_1 : R m 1 = some w) (T_w : T w = 20) (N_w : N w = 4007) (A_m : A m) (I_w_0 : I w 0 = 11) (I_w_1 : I w 1 = 0) (I_w_2 : I w 2 = 0) (I_w_3 : I w 3 = 0) (I_w_4 : I w 4 = 0) (I_w_5 : I w 5 = 0) : Ex (d + 2) 313 [.ref m, .int n] (T, N, I, L, R) 0 0 (pI T N R (fun x9 I9 L9 => x9 = stk n.toInt ∧ Fr A I L I9 L9 ∧ I9 m 0 = 0)) := by
  refine ⟨_, rfl, Nat.le_of_ble_eq_true rfl, fun V C S => ?_⟩
  show V 0 [(0, .ref m), (1, .int n)] [] (T, N, I, L, R) 0 0
  refine k_aload_n C rfl rfl rfl ?_
  refine k_iconst C (x := 0) rfl rfl rfl ?_
  refine p_I C rfl rfl rfl T_m (Or.inr rfl) rfl ?_
  refine k_iconst C (x := 0) rfl rfl rfl ?_
  refine k_istore_n C (lw := [(2, .int _), (0, _), (1, .int _)]) rfl rfl (Nat.le_of_ble_eq_true rfl) rfl ?_
  refine k_iload_n C rfl rfl rfl ?_
  refine k_table C rfl (by decide) (fun h => ?_) (fun h1 h2 => ?_)
  · show V 136 [(2, .int 0), (0, .ref m), (1, .int n)] [] _ _ _
    refine k_iconst C (x := -1) rfl rfl rfl ?_
    exact k_iret C rfl (Or.inl rfl) (Nat.le_of_ble_eq_true rfl) (Nat.le_of_ble_eq_true rfl) ⟨_, _, _, rfl, rfl, ⟨by rw [stk, if_neg (by omega), if_neg (by omega)], Fr.i Fr.rf A_m, u2_s⟩⟩
  · have h3 : n.toInt = 0 ∨ n.toInt = 1 ∨ n.toInt = 2 ∨ n.toInt = 3 ∨ n.toInt = 4 ∨ n.toInt = 5 ∨ n.toInt = 6 := by omega
    rcases h3 with e | e | e | e | e | e | e <;> rw [e]
    · refine ⟨44, rfl, by decide, ?_⟩
      show V 52 [(2, .int 0), (0, .ref m), (1, .int n)] [] _ _ _
      refine k_aload_n C rfl rfl rfl ?_
      refine c_VI C (e_m_p T_m R_m_1 T_w N_w ((u2_a (t_nq T_w T_m (by decide))).trans I_w_0) ) rfl rfl rfl rfl rfl ⟨_, rfl, rfl, T_m, Nat.le_of_ble_eq_true rfl⟩ rfl rfl (Nat.le_of_ble_eq_true rfl) (Nat.le_of_ble_eq_true rfl) (Nat.le_of_ble_eq_true rfl) ?_
      rintro _ _ _ ⟨hx7, hI8, hL9⟩
      have hx7 := hx7.symm; subst hx7
      have hI8 := hI8.symm; subst hI8; have hL9 := hL9.symm; subst hL9
      exact k_iret C rfl (Or.inl rfl) (Nat.le_of_ble_eq_true rfl) (Nat.le_of_ble_eq_true rfl) ⟨_, _, _, rfl, rfl, ⟨by rw [e]; rfl, Fr.i Fr.rf A_m, u2_s⟩⟩
    · refine ⟨49, rfl, by decide, ?_⟩
      show V 57 [(2, .int 0), (0, .ref m), (1, .int n)] [] _ _ _
      refine k_aload_n C rfl rfl rfl ?_
      refine g_R C rfl rfl rfl T_m rfl R_m_1 ?_
      refine k_iconst C (x := 1) rfl rfl rfl ?_
      refine a_I C rfl rfl T_w (vin (n := 1) rfl (by rw [N_w]; exact Nat.le_of_ble_eq_true rfl) (by rw [N_w]; exact Nat.le_of_ble_eq_true rfl)) ((u2_a (t_nq T_w T_m (by decide))).trans I_w_1) ?_
      exact k_iret C rfl (Or.inl rfl) (Nat.le_of_ble_eq_true rfl) (Nat.le_of_ble_eq_true rfl) ⟨_, _, _, rfl, rfl, ⟨by rw [e]; rfl, Fr.i Fr.rf A_m, u2_s⟩⟩
    · refine ⟨56, rfl, by decide, ?_⟩
      show V 64 [(2, .int 0), (0, .ref m), (1, .int n)] [] _ _ _
      refine k_aload_n C rfl rfl rfl ?_
      refine g_R C rfl rfl rfl T_m rfl R_m_1 ?_
      refine k_iconst C (x := 2) rfl rfl rfl ?_
      refine a_I C rfl rfl T_w (vin (n := 2) rfl (by rw [N_w]; exact Nat.le_of_ble_eq_true rfl) (by rw [N_w]; exact Nat.le_of_ble_eq_true rfl)) ((u2_a (t_nq T_w T_m (by decide))).trans I_w_2) ?_
      exact k_iret C rfl (Or.inl rfl) (Nat.le_of_ble_eq_true rfl) (Nat.le_of_ble_eq_true rfl) ⟨_, _, _, rfl, rfl, ⟨by rw [e]; rfl, Fr.i Fr.rf A_m, u2_s⟩⟩
    · refine ⟨63, rfl, by decide, ?_⟩
      show V 71 [(2, .int 0), (0, .ref m), (1, .int n)] [] _ _ _
      refine k_aload_n C rfl rfl rfl ?_
      refine g_R C rfl rfl rfl T_m rfl R_m_1 ?_
      refine k_iconst C (x := 3) rfl rfl rfl ?_
      refine a_I C rfl rfl T_w (vin (n := 3) rfl (by rw [N_w]; exact Nat.le_of_ble_eq_true rfl) (by rw [N_w]; exact Nat.le_of_ble_eq_true rfl)) ((u2_a (t_nq T_w T_m (by decide))).trans I_w_3) ?_
      exact k_iret C rfl (Or.inl rfl) (Nat.le_of_ble_eq_true rfl) (Nat.le_of_ble_eq_true rfl) ⟨_, _, _, rfl, rfl, ⟨by rw [e]; rfl, Fr.i Fr.rf A_m, u2_s⟩⟩
    · refine ⟨70, rfl, by decide, ?_⟩
      show V 78 [(2, .int 0), (0, .ref m), (1, .int n)] [] _ _ _
      refine k_aload_n C rfl rfl rfl ?_
      refine g_R C rfl rfl rfl T_m rfl R_m_1 ?_
      refine k_iconst C (x := 4) rfl rfl rfl ?_
      refine a_I C rfl rfl T_w (vin (n := 4) rfl (by rw [N_w]; exact Nat.le_of_ble_eq_true rfl) (by rw [N_w]; exact Nat.le_of_ble_eq_true rfl)) ((u2_a (t_nq T_w T_m (by decide))).trans I_w_4) ?_
      exact k_iret C rfl (Or.inl rfl) (Nat.le_of_ble_eq_true rfl) (Nat.le_of_ble_eq_true rfl) ⟨_, _, _, rfl, rfl, ⟨by rw [e]; rfl, Fr.i Fr.rf A_m, u2_s⟩⟩
    · refine ⟨77, rfl, by decide, ?_⟩
      show V 85 [(2, .int 0), (0, .ref m), (1, .int n)] [] _ _ _
      refine k_aload_n C rfl rfl rfl ?_
      refine g_R C rfl rfl rfl T_m rfl R_m_1 ?_
      refine k_iconst C (x := 5) rfl rfl rfl ?_
      refine a_I C rfl rfl T_w (vin (n := 5) rfl (by rw [N_w]; exact Nat.le_of_ble_eq_true rfl) (by rw [N_w]; exact Nat.le_of_ble_eq_true rfl)) ((u2_a (t_nq T_w T_m (by decide))).trans I_w_5) ?_
      exact k_iret C rfl (Or.inl rfl) (Nat.le_of_ble_eq_true rfl) (Nat.le_of_ble_eq_true rfl) ⟨_, _, _, rfl, rfl, ⟨by rw [e]; rfl, Fr.i Fr.rf A_m, u2_s⟩⟩
    · refine ⟨84, rfl, by decide, ?_⟩
      show V 92 [(2, .int 0), (0, .ref m), (1, .int n)] [] _ _ _
      refine k_iconst C (x := 0) rfl rfl rfl ?_
      refine k_istore_n C (lw := [(3, .int _), (2, .int _), (0, _), (1, .int _)]) rfl rfl (Nat.le_of_ble_eq_true rfl) rfl ?_
      refine k_iload_n C rfl rfl rfl ?_
      refine k_aload_n C rfl rfl rfl ?_
      refine g_R C rfl rfl rfl T_m rfl R_m_1 ?_
      refine k_iconst C (x := 1) rfl rfl rfl ?_
      refine a_I C rfl rfl T_w (vin (n := 1) rfl (by rw [N_w]; exact Nat.le_of_ble_eq_true rfl) (by rw [N_w]; exact Nat.le_of_ble_eq_true rfl)) ((u2_a (t_nq T_w T_m (by decide))).trans I_w_1) ?_
      refine k_icmp_ge C (t := 134) rfl rfl rfl (fun c101 => ?_) (fun c101 => ?_)
      · skip
        refine k_iload_n C rfl rfl rfl ?_
        exact k_iret C rfl (Or.inl rfl) (Nat.le_of_ble_eq_true rfl) (Nat.le_of_ble_eq_true rfl) ⟨_, _, _, rfl, rfl, ⟨by rw [e]; rfl, Fr.i Fr.rf A_m, u2_s⟩⟩
      exact absurd (by decide) c101
end
-- 39.32.ref.lean.txt
section
/-! the reference: the tape, the image, span and basis without signs -/
theorem n_div4 {k : Nat} (h : k < 1000) : Int32.ofNat k / 4 = Int32.ofNat (k / 4) := by
  apply Int32.toInt_inj.mp
  have e4 : (4 : Int32).toInt = 4 := rfl
  rw [Int32.toInt_div_of_ne_right _ _ (by decide), n_int (by omega), n_int (by omega), e4, Int.tdiv_eq_ediv_of_nonneg (by omega)]
  omega
theorem e_m_feed0 {d : Nat} {T N : Nat → Nat} {I : IT} {L : LT} {R : RT} {A : Nat → Prop} {m fv tp : Nat} {n0 n1 n2 n3 n4 : Int32} (T_m : T m = 13) (A_m : A m) (R_m_18 : R m 18 = some fv) (T_fv : T fv = 20) (N_fv : N fv = 5) (A_fv : A fv) (R_m_10 : R m 10 = some tp) (T_tp : T tp = 22) (N_tp : N tp = 400) (A_tp : A tp) (I_m_11 : I m 11 = 0) : Ex (d + 1) 216 [.ref m, .int n0, .int n1, .int n2, .int n3, .int n4] (T, N, I, L, R) 0 0 (pI T N R (fun x9 I9 L9 => x9 = 20 ∧ Fr A I L I9 L9 ∧ I9 m 0 = 0)) := by
  refine ⟨_, rfl, Nat.le_of_ble_eq_true rfl, fun V C S => ?_⟩
  show V 0 [(0, .ref m), (1, .int n0), (2, .int n1), (3, .int n2), (4, .int n3), (5, .int n4)] [] (T, N, I, L, R) 0 0
  have fin : ∀ (I1 : IT), Fr A I L I1 L → I1 m 11 = 0 → I1 m 0 = 0 → ∀ x6 : Int32, V 106 [(6, .int x6), (0, .ref m), (1, .int n0), (2, .int n1), (3, .int n2), (4, .int n3), (5, .int n4)] [] (T, N, I1, L, R) 0 0 := by
    intro I1 hF h0 h00 x6
    refine k_aload_n C rfl rfl rfl ?_
    refine k_dup C rfl rfl rfl ?_
    refine g_I C rfl rfl rfl T_m rfl h0 ?_
    refine k_bipush C (x := 20) rfl rfl rfl ?_
    refine k_iadd C rfl rfl ?_
    refine p_I C rfl rfl rfl T_m (Or.inr rfl) rfl ?_
    refine k_aload_n C rfl rfl rfl ?_
    refine g_I C rfl rfl rfl T_m rfl u2_s ?_
    exact k_iret C rfl (Or.inl rfl) (Nat.le_of_ble_eq_true rfl) (Nat.le_of_ble_eq_true rfl) ⟨_, _, _, rfl, rfl, by decide, Fr.i hF A_m, (u2_k (by decide)).trans h00⟩
  have loop : ∀ (K : ∀ (I1 : IT), Fr A I L I1 L → I1 m 11 = 0 → I1 m 0 = 0 → ∀ x6 : Int32, V 106 [(6, .int x6), (0, .ref m), (1, .int n0), (2, .int n1), (3, .int n2), (4, .int n3), (5, .int n4)] [] (T, N, I1, L, R) 0 0) (s k : Nat) (I1 : IT), s = 20 - k → k ≤ 20 → Fr A I L I1 L → I1 m 11 = 0 → I1 m 0 = 0 → V 60 [(6, .int (Int32.ofNat k)), (0, .ref m), (1, .int n0), (2, .int n1), (3, .int n2), (4, .int n3), (5, .int n4)] [] (T, N, I1, L, R) 0 0 := by
    intro K s
    induction s using Nat.strongRecOn with
    | _ s ih =>
      intro k I1 hs hk20 hF h0 h00
      refine k_iload C rfl rfl rfl ?_
      refine k_bipush C (x := 20) rfl rfl rfl ?_
      refine k_icmp_ge C (t := 106) rfl rfl rfl (fun c64 => ?_) (fun c64 => ?_)
      · skip
        exact K I1 hF (by rw [h0]) h00 (Int32.ofNat k)
      have hk : k < 20 := Nat.lt_of_not_le (fun h => c64 ((n_le (a := 20) (b := k) (by omega) (by omega)).mpr h))
      refine k_aload_n C rfl rfl rfl ?_
      refine g_R C rfl rfl rfl T_m rfl R_m_10 ?_
      refine k_aload_n C rfl rfl rfl ?_
      refine g_I C rfl rfl rfl T_m rfl (h0) ?_
      refine k_iload C rfl rfl rfl ?_
      refine k_iadd C rfl rfl ?_
      refine k_aload_n C rfl rfl rfl ?_
      refine g_R C rfl rfl rfl T_m rfl R_m_18 ?_
      refine k_iload C rfl rfl rfl ?_
      refine k_iconst C (x := 4) rfl rfl rfl ?_
      refine k_idiv C rfl rfl (by decide) ?_
      rw [n_div4 (by omega)]
      refine a_I C rfl rfl T_fv (vin rfl (by rw [N_fv]; omega) (by rw [N_fv]; exact Nat.le_of_ble_eq_true rfl)) rfl ?_
      refine k_bipush C (x := 24) rfl rfl rfl ?_
      refine k_bipush C (x := 8) rfl rfl rfl ?_
      refine k_iload C rfl rfl rfl ?_
      refine k_iconst C (x := 4) rfl rfl rfl ?_
      refine k_irem C rfl rfl (by decide) ?_
      refine k_imul C rfl rfl ?_
      refine k_isub C rfl rfl ?_
      refine k_ishr C rfl rfl ?_
      refine k_i2b C rfl rfl ?_
      refine s_B C rfl rfl T_tp (vin (n := k) (by rw [Int32.zero_add]) (by rw [N_tp]; omega) (by rw [N_tp]; exact Nat.le_of_ble_eq_true rfl)) rfl ?_
      refine k_inc1 C (lw := [(6, .int _), (0, _), (1, .int _), (2, .int _), (3, .int _), (4, .int _), (5, .int _)]) rfl rfl rfl (Nat.le_of_ble_eq_true rfl) rfl ?_
      refine k_goto C (pc2 := 60) rfl rfl ?_
      rw [n_s]
      exact ih (20 - (k + 1)) (by omega) (k + 1) _ rfl hk (Fr.i hF A_tp) ((u2_a (t_nq T_m T_tp (by decide))).trans h0) ((u2_a (t_nq T_m T_tp (by decide))).trans h00)
  refine k_aload_n C rfl rfl rfl ?_
  refine k_iconst C (x := 0) rfl rfl rfl ?_
  refine p_I C rfl rfl rfl T_m (Or.inr rfl) rfl ?_
  refine k_aload_n C rfl rfl rfl ?_
  refine g_I C rfl rfl rfl T_m rfl ((u2_k (by decide)).trans (I_m_11)) ?_
  refine k_bipush C (x := 20) rfl rfl rfl ?_
  refine k_iadd C rfl rfl ?_
  refine k_sipush C (x := 400) rfl rfl rfl ?_
  refine k_icmp_le C (t := 20) rfl rfl rfl (fun _ => ?_) (fun c15 => absurd (by decide) c15)
  refine k_aload_n C rfl rfl rfl ?_
  refine g_R C rfl rfl rfl T_m rfl R_m_18 ?_
  refine k_iconst C (x := 0) rfl rfl rfl ?_
  refine k_iload_n C rfl rfl rfl ?_
  refine s_I C rfl rfl T_fv (vin (n := 0) rfl (by rw [N_fv]; exact Nat.le_of_ble_eq_true rfl) (by rw [N_fv]; exact Nat.le_of_ble_eq_true rfl)) rfl ?_
  refine k_aload_n C rfl rfl rfl ?_
  refine g_R C rfl rfl rfl T_m rfl R_m_18 ?_
  refine k_iconst C (x := 1) rfl rfl rfl ?_
  refine k_iload_n C rfl rfl rfl ?_
  refine s_I C rfl rfl T_fv (vin (n := 1) rfl (by rw [N_fv]; exact Nat.le_of_ble_eq_true rfl) (by rw [N_fv]; exact Nat.le_of_ble_eq_true rfl)) rfl ?_
  refine k_aload_n C rfl rfl rfl ?_
  refine g_R C rfl rfl rfl T_m rfl R_m_18 ?_
  refine k_iconst C (x := 2) rfl rfl rfl ?_
  refine k_iload_n C rfl rfl rfl ?_
  refine s_I C rfl rfl T_fv (vin (n := 2) rfl (by rw [N_fv]; exact Nat.le_of_ble_eq_true rfl) (by rw [N_fv]; exact Nat.le_of_ble_eq_true rfl)) rfl ?_
  refine k_aload_n C rfl rfl rfl ?_
  refine g_R C rfl rfl rfl T_m rfl R_m_18 ?_
  refine k_iconst C (x := 3) rfl rfl rfl ?_
  refine k_iload C rfl rfl rfl ?_
  refine s_I C rfl rfl T_fv (vin (n := 3) rfl (by rw [N_fv]; exact Nat.le_of_ble_eq_true rfl) (by rw [N_fv]; exact Nat.le_of_ble_eq_true rfl)) rfl ?_
  refine k_aload_n C rfl rfl rfl ?_
  refine g_R C rfl rfl rfl T_m rfl R_m_18 ?_
  refine k_iconst C (x := 4) rfl rfl rfl ?_
  refine k_iload C rfl rfl rfl ?_
  refine s_I C rfl rfl T_fv (vin (n := 4) rfl (by rw [N_fv]; exact Nat.le_of_ble_eq_true rfl) (by rw [N_fv]; exact Nat.le_of_ble_eq_true rfl)) rfl ?_
  refine k_iconst C (x := 0) rfl rfl rfl ?_
  refine k_istore C (lw := [(6, .int _), (0, _), (1, .int _), (2, .int _), (3, .int _), (4, .int _), (5, .int _)]) rfl rfl (Nat.le_of_ble_eq_true rfl) rfl ?_
  exact loop fin 20 0 _ rfl (Nat.zero_le _) (Fr.i (Fr.i (Fr.i (Fr.i (Fr.i (Fr.i Fr.rf A_m) A_fv) A_fv) A_fv) A_fv) A_fv) ((u2_a (t_nq T_m T_fv (by decide))).trans ((u2_a (t_nq T_m T_fv (by decide))).trans ((u2_a (t_nq T_m T_fv (by decide))).trans ((u2_a (t_nq T_m T_fv (by decide))).trans ((u2_a (t_nq T_m T_fv (by decide))).trans ((u2_k (by decide)).trans I_m_11)))))) ((u2_a (t_nq T_m T_fv (by decide))).trans ((u2_a (t_nq T_m T_fv (by decide))).trans ((u2_a (t_nq T_m T_fv (by decide))).trans ((u2_a (t_nq T_m T_fv (by decide))).trans ((u2_a (t_nq T_m T_fv (by decide))).trans (u2_s))))))

theorem e_m_image0 {d : Nat} {T N : Nat → Nat} {I : IT} {L : LT} {R : RT} {A : Nat → Prop} {m w im : Nat} (T_m : T m = 13) (R_m_1 : R m 1 = some w) (T_w : T w = 20) (N_w : N w = 4007) (A_m : A m) (R_m_2 : R m 2 = some im) (T_im : T im = 20) (N_im : N im = 3606) (A_im : A im) : Ex (d + 1) 181 [.ref m] (T, N, I, L, R) 0 0 (pV T N R (fun I9 L9 => Fr A I L I9 L9 ∧ I9 m 0 = 0)) := by
  refine ⟨_, rfl, Nat.le_of_ble_eq_true rfl, fun V C S => ?_⟩
  show V 0 [(0, .ref m)] [] (T, N, I, L, R) 0 0
  refine k_aload_n C rfl rfl rfl ?_
  refine k_iconst C (x := 0) rfl rfl rfl ?_
  refine p_I C rfl rfl rfl T_m (Or.inr rfl) rfl ?_
  refine k_iconst C (x := 0) rfl rfl rfl ?_
  refine k_istore_n C (lw := [(1, .int _), (0, _)]) rfl rfl (Nat.le_of_ble_eq_true rfl) rfl ?_
  have loop : ∀ (s k : Nat) (I1 : IT), s = 3606 - k → k ≤ 3606 → Fr A I L I1 L → I1 m 0 = 0 → V 7 [(1, .int (Int32.ofNat k)), (0, .ref m)] [] (T, N, I1, L, R) 0 0 := by
    intro s
    induction s using Nat.strongRecOn with
    | _ s ih =>
      intro k I1 hs hk20 hF h00
      refine k_iload_n C rfl rfl rfl ?_
      refine k_sipush C (x := 3606) rfl rfl rfl ?_
      refine k_icmp_ge C (t := 32) rfl rfl rfl (fun c11 => ?_) (fun c11 => ?_)
      · skip
        refine k_aload_n C rfl rfl rfl ?_
        refine k_iconst C (x := 1) rfl rfl rfl ?_
        refine p_Z C rfl rfl rfl T_m (Or.inr rfl) rfl (Or.inr rfl) ?_
        exact k_vret C rfl rfl (Nat.le_of_ble_eq_true rfl) (Nat.le_of_ble_eq_true rfl) ⟨_, _, rfl, rfl, Fr.i hF A_m, (u2_k (by decide)).trans h00⟩
      have hk : k < 3606 := Nat.lt_of_not_le (fun h => c11 ((n_le (a := 3606) (b := k) (by omega) (by omega)).mpr h))
      refine k_aload_n C rfl rfl rfl ?_
      refine g_R C rfl rfl rfl T_m rfl R_m_2 ?_
      refine k_iload_n C rfl rfl rfl ?_
      refine k_aload_n C rfl rfl rfl ?_
      refine g_R C rfl rfl rfl T_m rfl R_m_1 ?_
      refine k_iload_n C rfl rfl rfl ?_
      refine a_I C rfl rfl T_w (vin rfl (by rw [N_w]; omega) (by rw [N_w]; exact Nat.le_of_ble_eq_true rfl)) rfl ?_
      refine s_I C rfl rfl T_im (vin rfl (by rw [N_im]; exact hk) (by rw [N_im]; exact Nat.le_of_ble_eq_true rfl)) rfl ?_
      refine k_inc1 C (lw := [(1, .int _), (0, _)]) rfl rfl rfl (Nat.le_of_ble_eq_true rfl) rfl ?_
      refine k_goto C (pc2 := 7) rfl rfl ?_
      rw [n_s]
      exact ih (3606 - (k + 1)) (by omega) (k + 1) _ rfl hk (Fr.i hF A_im) ((u2_a (t_nq T_m T_im (by decide))).trans h00)
  exact loop 3606 0 _ rfl (Nat.zero_le _) (Fr.i Fr.rf A_m) u2_s


theorem e_m_draws0 {d : Nat} {T N : Nat → Nat} {I : IT} {L : LT} {R : RT} {m w dn : Nat} {fd seed : Int32}{p : Int32} (T_m : T m = 13) (R_m_1 : R m 1 = some w) (T_w : T w = 20) (N_w : N w = 4007) (R_m_23 : R m 23 = some dn) (T_dn : T dn = 20) (N_dn : N dn = 108) (I_w_0 : I w 0 = p) (hp1 : 2 ≤ p.toInt) (hp2 : p.toInt ≤ 19) {n : Nat} (hfd : fd = Int32.ofNat n) (hn : n ≤ 8) (hwd : w ≠ dn) : Ex (d + 2) 260 [.ref m, .int fd, .int seed] (T, N, I, L, R) 0 0 (pV T N R (fun I9 L9 => Fr (fun z => z = dn) I L I9 L9)) := by
  refine ⟨_, rfl, Nat.le_of_ble_eq_true rfl, fun V C S => ?_⟩
  show V 0 [(0, .ref m), (1, .int fd), (2, .int seed)] [] (T, N, I, L, R) 0 0
  subst hfd
  refine k_iload_n C rfl rfl rfl ?_
  refine k_istore_n C (lw := [(3, .int _), (0, _), (1, .int _), (2, .int _)]) rfl rfl (Nat.le_of_ble_eq_true rfl) rfl ?_
  refine k_iconst C (x := 0) rfl rfl rfl ?_
  refine k_istore C (lw := [(4, .int _), (3, .int _), (0, _), (1, .int _), (2, .int _)]) rfl rfl (Nat.le_of_ble_eq_true rfl) rfl ?_
  have loop : ∀ (s k : Nat) (I1 : IT) (last : Int32), s = 12 * (n + 1) - k → k ≤ 12 * (n + 1) → Fr (fun z => z = dn) I L I1 L → V 5 [(4, .int (Int32.ofNat k)), (3, .int last), (0, .ref m), (1, .int (Int32.ofNat n)), (2, .int seed)] [] (T, N, I1, L, R) 0 0 := by
    intro s
    induction s using Nat.strongRecOn with
    | _ s ih =>
      intro k I1 last hs hk20 hF
      refine k_iload C rfl rfl rfl ?_
      refine k_bipush C (x := 12) rfl rfl rfl ?_
      refine k_iload_n C rfl rfl rfl ?_
      refine k_iconst C (x := 1) rfl rfl rfl ?_
      refine k_iadd C rfl rfl ?_
      
      refine k_imul C rfl rfl ?_
      rw [show (12 : Int32) * (Int32.ofNat n + 1) = Int32.ofNat (12 * (n + 1)) from by rw [n_s]; exact n_mul]
      refine k_icmp_ge C (t := 52) rfl rfl rfl (fun c13 => ?_) (fun c13 => ?_)
      · skip
        exact k_vret C rfl rfl (Nat.le_of_ble_eq_true rfl) (Nat.le_of_ble_eq_true rfl) ⟨_, _, rfl, rfl, hF⟩
      have hk : k < 12 * (n + 1) := Nat.lt_of_not_le (fun h => c13 ((n_le (by omega) (by omega)).mpr h))
      refine k_ldc_w C rfl rfl rfl ?_
      refine k_iload_n C rfl rfl rfl ?_
      refine k_imul C rfl rfl ?_
      refine k_sipush C (x := 12345) rfl rfl rfl ?_
      refine k_iadd C rfl rfl ?_
      refine k_istore_n C (lw := [(3, .int _), (4, .int _), (0, _), (1, .int _), (2, .int _)]) rfl rfl (Nat.le_of_ble_eq_true rfl) rfl ?_
      refine k_aload_n C rfl rfl rfl ?_
      refine g_R C rfl rfl rfl T_m rfl R_m_23 ?_
      refine k_iload C rfl rfl rfl ?_
      refine k_iload_n C rfl rfl rfl ?_
      refine k_bipush C (x := 16) rfl rfl rfl ?_
      refine k_ishr C rfl rfl ?_
      refine k_sipush C (x := 32767) rfl rfl rfl ?_
      refine k_iand C rfl rfl ?_
      refine k_aload_n C rfl rfl rfl ?_
      refine c_VI C (e_m_p T_m R_m_1 T_w N_w ((congrFun (hF w (fun e => hwd e)).1 0).trans I_w_0) ) rfl rfl rfl rfl rfl ⟨_, rfl, rfl, T_m, Nat.le_of_ble_eq_true rfl⟩ rfl rfl (Nat.le_of_ble_eq_true rfl) (Nat.le_of_ble_eq_true rfl) (Nat.le_of_ble_eq_true rfl) ?_
      rintro _ _ _ ⟨hx7, hI8, hL9⟩
      have hx7 := hx7.symm; subst hx7
      have hI8 := hI8.symm; subst hI8; have hL9 := hL9.symm; subst hL9
      refine k_irem C rfl rfl (i_ne0 (by omega)) ?_
      refine s_I C rfl rfl T_dn (vin rfl (by rw [N_dn]; omega) (by rw [N_dn]; exact Nat.le_of_ble_eq_true rfl)) rfl ?_
      refine k_sub S [(4, .int (Int32.ofNat k)), (3, .int _), (0, .ref m), (1, .int (Int32.ofNat n)), (2, .int seed)] (List.forall_mem_cons.mpr ⟨List.mem_of_getElem? (i := 1) rfl, List.forall_mem_cons.mpr ⟨List.mem_of_getElem? (i := 0) rfl, List.forall_mem_cons.mpr ⟨List.mem_of_getElem? (i := 2) rfl, List.forall_mem_cons.mpr ⟨List.mem_of_getElem? (i := 3) rfl, List.forall_mem_cons.mpr ⟨List.mem_of_getElem? (i := 4) rfl, fun _ h => nomatch h⟩⟩⟩⟩⟩) ?_
      refine k_inc1 C (lw := [(4, .int _), (3, .int _), (0, _), (1, .int _), (2, .int _)]) rfl rfl rfl (Nat.le_of_ble_eq_true rfl) rfl ?_
      refine k_goto C (pc2 := 5) rfl rfl ?_
      rw [n_s]
      exact ih (12 * (n + 1) - (k + 1)) (by omega) (k + 1) _ _ rfl hk (Fr.i hF rfl)
  exact loop (12 * (n + 1)) 0 _ _ rfl (Nat.zero_le _) Fr.rf


theorem e_m_basisOf0 {d : Nat} {T N : Nat → Nat} {I : IT} {L : LT} {R : RT} {m w dn : Nat} {set fd seed : Int32}{p : Int32} (T_m : T m = 13) (R_m_1 : R m 1 = some w) (T_w : T w = 20) (N_w : N w = 4007) (R_m_23 : R m 23 = some dn) (T_dn : T dn = 20) (N_dn : N dn = 108) (I_w_0 : I w 0 = p) (I_w_3 : I w 3 = 0) (hp1 : 2 ≤ p.toInt) (hp2 : p.toInt ≤ 19) {n : Nat} (hfd : fd = Int32.ofNat n) (hn : n ≤ 8) (hwd : w ≠ dn) : Ex (d + 3) 264 [.ref m, .int set, .int fd, .int seed] (T, N, I, L, R) 0 0 (pI T N R (fun x9 I9 L9 => x9 = 0 ∧ Fr (fun z => z = dn) I L I9 L9)) := by
  refine ⟨_, rfl, Nat.le_of_ble_eq_true rfl, fun V C S => ?_⟩
  show V 0 [(0, .ref m), (1, .int set), (2, .int fd), (3, .int seed)] [] (T, N, I, L, R) 0 0
  refine k_aload_n C rfl rfl rfl ?_
  refine k_iload_n C rfl rfl rfl ?_
  refine k_iload_n C rfl rfl rfl ?_
  refine c_VV C (e_m_draws0 T_m R_m_1 T_w N_w R_m_23 T_dn N_dn (I_w_0) hp1 hp2 hfd hn hwd) rfl rfl rfl rfl rfl ⟨_, rfl, rfl, T_m, Nat.le_of_ble_eq_true rfl⟩ rfl rfl (Nat.le_of_ble_eq_true rfl) (Nat.le_of_ble_eq_true rfl) (Nat.le_of_ble_eq_true rfl) ?_
  intro I3 L3 h3
  refine k_iconst C (x := 0) rfl rfl rfl ?_
  refine k_istore C (lw := [(4, .int _), (0, _), (1, .int _), (2, .int _), (3, .int _)]) rfl rfl (Nat.le_of_ble_eq_true rfl) rfl ?_
  refine k_iconst C (x := 0) rfl rfl rfl ?_
  refine k_istore C (lw := [(5, .int _), (4, .int _), (0, _), (1, .int _), (2, .int _), (3, .int _)]) rfl rfl (Nat.le_of_ble_eq_true rfl) rfl ?_
  refine k_iconst C (x := -1) rfl rfl rfl ?_
  refine k_istore C (lw := [(6, .int _), (5, .int _), (4, .int _), (0, _), (1, .int _), (2, .int _), (3, .int _)]) rfl rfl (Nat.le_of_ble_eq_true rfl) rfl ?_
  refine k_iconst C (x := 0) rfl rfl rfl ?_
  refine k_istore C (lw := [(7, .int _), (6, .int _), (5, .int _), (4, .int _), (0, _), (1, .int _), (2, .int _), (3, .int _)]) rfl rfl (Nat.le_of_ble_eq_true rfl) rfl ?_
  refine k_iload C rfl rfl rfl ?_
  refine k_aload_n C rfl rfl rfl ?_
  refine g_R C rfl rfl rfl T_m rfl R_m_1 ?_
  refine k_iconst C (x := 3) rfl rfl rfl ?_
  refine a_I C rfl rfl T_w (vin (n := 3) rfl (by rw [N_w]; exact Nat.le_of_ble_eq_true rfl) (by rw [N_w]; exact Nat.le_of_ble_eq_true rfl)) ((congrFun (h3 w (fun e => hwd e)).1 3).trans I_w_3) ?_
  refine k_icmp_ge C (t := 105) rfl rfl rfl (fun c26 => ?_) (fun c26 => ?_)
  · skip
    refine k_iload C rfl rfl rfl ?_
    exact k_iret C rfl (Or.inl rfl) (Nat.le_of_ble_eq_true rfl) (Nat.le_of_ble_eq_true rfl) ⟨_, _, _, rfl, rfl, ⟨rfl, h3⟩⟩
  exact absurd (by decide) c26

theorem e_m_span_no {d : Nat} {T N : Nat → Nat} {I : IT} {L : LT} {R : RT} {A : Nat → Prop} {m : Nat} {set fd seed : Int32} (T_m : T m = 13) (A_m : A m) (h : ¬ (1 ≤ fd ∧ fd ≤ 8)) : Ex (d + 2) 265 [.ref m, .int set, .int fd, .int seed] (T, N, I, L, R) 0 0 (pI T N R (fun x9 I9 L9 => Fr A I L I9 L9 ∧ I9 m 0 = 1)) := by
  refine ⟨_, rfl, Nat.le_of_ble_eq_true rfl, fun V C S => ?_⟩
  show V 0 [(0, .ref m), (1, .int set), (2, .int fd), (3, .int seed)] [] (T, N, I, L, R) 0 0
  refine k_aload_n C rfl rfl rfl ?_
  refine k_iconst C (x := 0) rfl rfl rfl ?_
  refine p_I C rfl rfl rfl T_m (Or.inr rfl) rfl ?_
  refine k_aload_n C rfl rfl rfl ?_
  refine k_iload_n C rfl rfl rfl ?_
  refine k_iconst C (x := 1) rfl rfl rfl ?_
  refine k_bipush C (x := 8) rfl rfl rfl ?_
  refine c_SI C e_in rfl rfl rfl rfl rfl rfl rfl (Nat.le_of_ble_eq_true rfl) (Nat.le_of_ble_eq_true rfl) (Nat.le_of_ble_eq_true rfl) ?_
  rintro _ _ _ ⟨hx7, hI8, hL9⟩
  have hx7 := hx7.symm; subst hx7
  have hI8 := hI8.symm; subst hI8; have hL9 := hL9.symm; subst hL9
  refine k_if_ne C (t := 20) rfl rfl rfl (fun c13 => ?_) (fun c13 => ?_)
  · skip
    exact absurd (if_neg h) c13
  refine k_iconst C (x := 1) rfl rfl rfl ?_
  refine k_goto C (pc2 := 21) rfl rfl ?_
  refine k_iconst C (x := 1) rfl rfl rfl ?_
  refine c_VI C (e_throwsIf1 T_m rfl) rfl rfl rfl rfl rfl ⟨_, rfl, rfl, T_m, Nat.le_of_ble_eq_true rfl⟩ rfl rfl (Nat.le_of_ble_eq_true rfl) (Nat.le_of_ble_eq_true rfl) (Nat.le_of_ble_eq_true rfl) ?_
  rintro _ _ _ ⟨hx7, hI8, hL9⟩
  have hx7 := hx7.symm; subst hx7
  have hI8 := hI8.symm; subst hI8; have hL9 := hL9.symm; subst hL9
  refine k_if_eq C (t := 30) rfl rfl rfl (fun c25 => absurd c25 (by decide)) (fun _ => ?_)
  refine k_iconst C (x := 0) rfl rfl rfl ?_
  exact k_iret C rfl (Or.inl rfl) (Nat.le_of_ble_eq_true rfl) (Nat.le_of_ble_eq_true rfl) ⟨_, _, _, rfl, rfl, ⟨(Fr.i (Fr.i Fr.rf A_m) A_m), u2_s⟩⟩

theorem e_m_span_yes {d : Nat} {T N : Nat → Nat} {I : IT} {L : LT} {R : RT} {A : Nat → Prop} {m w dn : Nat} {set fd seed : Int32}{p : Int32} (T_m : T m = 13) (R_m_1 : R m 1 = some w) (T_w : T w = 20) (N_w : N w = 4007) (R_m_23 : R m 23 = some dn) (T_dn : T dn = 20) (N_dn : N dn = 108) (I_w_0 : I w 0 = p) (I_w_3 : I w 3 = 0) (A_m : A m) (A_dn : A dn) (hp1 : 2 ≤ p.toInt) (hp2 : p.toInt ≤ 19) {n : Nat} (hfd : fd = Int32.ofNat n) (hn : n ≤ 8) (hwd : w ≠ dn) (h : 1 ≤ fd ∧ fd ≤ 8) : Ex (d + 4) 265 [.ref m, .int set, .int fd, .int seed] (T, N, I, L, R) 0 0 (pI T N R (fun x9 I9 L9 => x9 = 0 ∧ Fr A I L I9 L9 ∧ I9 m 0 = 0)) := by
  refine ⟨_, rfl, Nat.le_of_ble_eq_true rfl, fun V C S => ?_⟩
  show V 0 [(0, .ref m), (1, .int set), (2, .int fd), (3, .int seed)] [] (T, N, I, L, R) 0 0
  refine k_aload_n C rfl rfl rfl ?_
  refine k_iconst C (x := 0) rfl rfl rfl ?_
  refine p_I C rfl rfl rfl T_m (Or.inr rfl) rfl ?_
  refine k_aload_n C rfl rfl rfl ?_
  refine k_iload_n C rfl rfl rfl ?_
  refine k_iconst C (x := 1) rfl rfl rfl ?_
  refine k_bipush C (x := 8) rfl rfl rfl ?_
  refine c_SI C e_in rfl rfl rfl rfl rfl rfl rfl (Nat.le_of_ble_eq_true rfl) (Nat.le_of_ble_eq_true rfl) (Nat.le_of_ble_eq_true rfl) ?_
  rintro _ _ _ ⟨hx7, hI8, hL9⟩
  have hx7 := hx7.symm; subst hx7
  have hI8 := hI8.symm; subst hI8; have hL9 := hL9.symm; subst hL9
  refine k_if_ne C (t := 20) rfl rfl rfl (fun c13 => ?_) (fun c13 => ?_)
  · skip
    refine k_iconst C (x := 0) rfl rfl rfl ?_
    refine k_iconst C (x := 1) rfl rfl rfl ?_
    refine c_VI C (e_throwsIf0 T_m rfl) rfl rfl rfl rfl rfl ⟨_, rfl, rfl, T_m, Nat.le_of_ble_eq_true rfl⟩ rfl rfl (Nat.le_of_ble_eq_true rfl) (Nat.le_of_ble_eq_true rfl) (Nat.le_of_ble_eq_true rfl) ?_
    rintro _ _ _ ⟨hx7, hI8, hL9⟩
    have hx7 := hx7.symm; subst hx7
    have hI8 := hI8.symm; subst hI8; have hL9 := hL9.symm; subst hL9
    refine k_if_eq C (t := 30) rfl rfl rfl (fun _ => ?_) (fun c25 => absurd (by decide) c25)
    refine k_aload_n C rfl rfl rfl ?_
    refine k_iload_n C rfl rfl rfl ?_
    refine k_iload_n C rfl rfl rfl ?_
    refine k_iload_n C rfl rfl rfl ?_
    refine c_VI C (e_m_basisOf0 T_m R_m_1 T_w N_w R_m_23 T_dn N_dn ((u2_a (t_nq T_w T_m (by decide))).trans (I_w_0)) ((u2_a (t_nq T_w T_m (by decide))).trans (I_w_3)) hp1 hp2 hfd hn hwd) rfl rfl rfl rfl rfl ⟨_, rfl, rfl, T_m, Nat.le_of_ble_eq_true rfl⟩ rfl rfl (Nat.le_of_ble_eq_true rfl) (Nat.le_of_ble_eq_true rfl) (Nat.le_of_ble_eq_true rfl) ?_
    intro x34 I34 L34 h34
    obtain ⟨rfl, f34⟩ := h34
    refine k_istore C (lw := [(4, .int _), (0, _), (1, .int _), (2, .int _), (3, .int _)]) rfl rfl (Nat.le_of_ble_eq_true rfl) rfl ?_
    refine k_iload C rfl rfl rfl ?_
    refine k_if_ge C (t := 48) rfl rfl rfl (fun _ => ?_) (fun c41 => absurd (by decide) c41)
    refine k_iload C rfl rfl rfl ?_
    refine c_SI C e_bitCount0 rfl rfl rfl rfl rfl rfl rfl (Nat.le_of_ble_eq_true rfl) (Nat.le_of_ble_eq_true rfl) (Nat.le_of_ble_eq_true rfl) ?_
    rintro _ _ _ ⟨hx7, hI8, hL9⟩
    have hx7 := hx7.symm; subst hx7
    have hI8 := hI8.symm; subst hI8; have hL9 := hL9.symm; subst hL9
    exact k_iret C rfl (Or.inl rfl) (Nat.le_of_ble_eq_true rfl) (Nat.le_of_ble_eq_true rfl) ⟨_, _, _, rfl, rfl, ⟨rfl, Fr.tr (Fr.i Fr.rf A_m) (f34.mono (fun z hz => hz ▸ A_dn)), (congrFun (f34 m (t_nq T_m T_dn (by decide))).1 0).trans u2_s⟩⟩
  exact absurd (fun e => absurd ((if_pos h).symm.trans e) (by decide)) c13

theorem e_m_basis_no {d : Nat} {T N : Nat → Nat} {I : IT} {L : LT} {R : RT} {A : Nat → Prop} {m : Nat} {set fd seed : Int32} (T_m : T m = 13) (A_m : A m) (h : ¬ (1 ≤ fd ∧ fd ≤ 8)) : Ex (d + 2) 266 [.ref m, .int set, .int fd, .int seed] (T, N, I, L, R) 0 0 (pI T N R (fun x9 I9 L9 => Fr A I L I9 L9 ∧ I9 m 0 = 1)) := by
  refine ⟨_, rfl, Nat.le_of_ble_eq_true rfl, fun V C S => ?_⟩
  show V 0 [(0, .ref m), (1, .int set), (2, .int fd), (3, .int seed)] [] (T, N, I, L, R) 0 0
  refine k_aload_n C rfl rfl rfl ?_
  refine k_iconst C (x := 0) rfl rfl rfl ?_
  refine p_I C rfl rfl rfl T_m (Or.inr rfl) rfl ?_
  refine k_aload_n C rfl rfl rfl ?_
  refine k_iload_n C rfl rfl rfl ?_
  refine k_iconst C (x := 1) rfl rfl rfl ?_
  refine k_bipush C (x := 8) rfl rfl rfl ?_
  refine c_SI C e_in rfl rfl rfl rfl rfl rfl rfl (Nat.le_of_ble_eq_true rfl) (Nat.le_of_ble_eq_true rfl) (Nat.le_of_ble_eq_true rfl) ?_
  rintro _ _ _ ⟨hx7, hI8, hL9⟩
  have hx7 := hx7.symm; subst hx7
  have hI8 := hI8.symm; subst hI8; have hL9 := hL9.symm; subst hL9
  refine k_if_ne C (t := 20) rfl rfl rfl (fun c13 => ?_) (fun c13 => ?_)
  · skip
    exact absurd (if_neg h) c13
  refine k_iconst C (x := 1) rfl rfl rfl ?_
  refine k_goto C (pc2 := 21) rfl rfl ?_
  refine k_iconst C (x := 1) rfl rfl rfl ?_
  refine c_VI C (e_throwsIf1 T_m rfl) rfl rfl rfl rfl rfl ⟨_, rfl, rfl, T_m, Nat.le_of_ble_eq_true rfl⟩ rfl rfl (Nat.le_of_ble_eq_true rfl) (Nat.le_of_ble_eq_true rfl) (Nat.le_of_ble_eq_true rfl) ?_
  rintro _ _ _ ⟨hx7, hI8, hL9⟩
  have hx7 := hx7.symm; subst hx7
  have hI8 := hI8.symm; subst hI8; have hL9 := hL9.symm; subst hL9
  refine k_if_eq C (t := 32) rfl rfl rfl (fun c25 => absurd c25 (by decide)) (fun _ => ?_)
  refine k_iconst C (x := 0) rfl rfl rfl ?_
  refine k_goto C (pc2 := 39) rfl rfl ?_
  exact k_iret C rfl (Or.inl rfl) (Nat.le_of_ble_eq_true rfl) (Nat.le_of_ble_eq_true rfl) ⟨_, _, _, rfl, rfl, ⟨(Fr.i (Fr.i Fr.rf A_m) A_m), u2_s⟩⟩

theorem e_m_basis_yes {d : Nat} {T N : Nat → Nat} {I : IT} {L : LT} {R : RT} {A : Nat → Prop} {m w dn : Nat} {set fd seed : Int32}{p : Int32} (T_m : T m = 13) (R_m_1 : R m 1 = some w) (T_w : T w = 20) (N_w : N w = 4007) (R_m_23 : R m 23 = some dn) (T_dn : T dn = 20) (N_dn : N dn = 108) (I_w_0 : I w 0 = p) (I_w_3 : I w 3 = 0) (A_m : A m) (A_dn : A dn) (hp1 : 2 ≤ p.toInt) (hp2 : p.toInt ≤ 19) {n : Nat} (hfd : fd = Int32.ofNat n) (hn : n ≤ 8) (hwd : w ≠ dn) (h : 1 ≤ fd ∧ fd ≤ 8) : Ex (d + 4) 266 [.ref m, .int set, .int fd, .int seed] (T, N, I, L, R) 0 0 (pI T N R (fun x9 I9 L9 => x9 = 0 ∧ Fr A I L I9 L9 ∧ I9 m 0 = 0)) := by
  refine ⟨_, rfl, Nat.le_of_ble_eq_true rfl, fun V C S => ?_⟩
  show V 0 [(0, .ref m), (1, .int set), (2, .int fd), (3, .int seed)] [] (T, N, I, L, R) 0 0
  refine k_aload_n C rfl rfl rfl ?_
  refine k_iconst C (x := 0) rfl rfl rfl ?_
  refine p_I C rfl rfl rfl T_m (Or.inr rfl) rfl ?_
  refine k_aload_n C rfl rfl rfl ?_
  refine k_iload_n C rfl rfl rfl ?_
  refine k_iconst C (x := 1) rfl rfl rfl ?_
  refine k_bipush C (x := 8) rfl rfl rfl ?_
  refine c_SI C e_in rfl rfl rfl rfl rfl rfl rfl (Nat.le_of_ble_eq_true rfl) (Nat.le_of_ble_eq_true rfl) (Nat.le_of_ble_eq_true rfl) ?_
  rintro _ _ _ ⟨hx7, hI8, hL9⟩
  have hx7 := hx7.symm; subst hx7
  have hI8 := hI8.symm; subst hI8; have hL9 := hL9.symm; subst hL9
  refine k_if_ne C (t := 20) rfl rfl rfl (fun c13 => ?_) (fun c13 => ?_)
  · skip
    refine k_iconst C (x := 0) rfl rfl rfl ?_
    refine k_iconst C (x := 1) rfl rfl rfl ?_
    refine c_VI C (e_throwsIf0 T_m rfl) rfl rfl rfl rfl rfl ⟨_, rfl, rfl, T_m, Nat.le_of_ble_eq_true rfl⟩ rfl rfl (Nat.le_of_ble_eq_true rfl) (Nat.le_of_ble_eq_true rfl) (Nat.le_of_ble_eq_true rfl) ?_
    rintro _ _ _ ⟨hx7, hI8, hL9⟩
    have hx7 := hx7.symm; subst hx7
    have hI8 := hI8.symm; subst hI8; have hL9 := hL9.symm; subst hL9
    refine k_if_eq C (t := 32) rfl rfl rfl (fun _ => ?_) (fun c25 => absurd (by decide) c25)
    refine k_aload_n C rfl rfl rfl ?_
    refine k_iload_n C rfl rfl rfl ?_
    refine k_iload_n C rfl rfl rfl ?_
    refine k_iload_n C rfl rfl rfl ?_
    refine c_VI C (e_m_basisOf0 T_m R_m_1 T_w N_w R_m_23 T_dn N_dn ((u2_a (t_nq T_w T_m (by decide))).trans (I_w_0)) ((u2_a (t_nq T_w T_m (by decide))).trans (I_w_3)) hp1 hp2 hfd hn hwd) rfl rfl rfl rfl rfl ⟨_, rfl, rfl, T_m, Nat.le_of_ble_eq_true rfl⟩ rfl rfl (Nat.le_of_ble_eq_true rfl) (Nat.le_of_ble_eq_true rfl) (Nat.le_of_ble_eq_true rfl) ?_
    intro x36 I36 L36 h36
    obtain ⟨rfl, f36⟩ := h36
    exact k_iret C rfl (Or.inl rfl) (Nat.le_of_ble_eq_true rfl) (Nat.le_of_ble_eq_true rfl) ⟨_, _, _, rfl, rfl, ⟨rfl, Fr.tr (Fr.i Fr.rf A_m) (f36.mono (fun z hz => hz ▸ A_dn)), (congrFun (f36 m (t_nq T_m T_dn (by decide))).1 0).trans u2_s⟩⟩
  exact absurd (fun e => absurd ((if_pos h).symm.trans e) (by decide)) c13
end
-- 39.33.cnt.lean.txt
section
/-! COUNT, the calls -/
/-! fields of the reference that stay -/
def IKm (m : Nat) (I I' : IT) : Prop := ∀ k, k ≠ 0 → k < 35 → I' m k = I m k
theorem IKm.rf {m : Nat} {I : IT} : IKm m I I := fun _ _ _ => rfl
theorem IKm.i {m : Nat} {I I1 : IT} {x : Int32} (h : IKm m I I1) : IKm m I (u2 I1 m 0 x) := fun k h0 hk => (u2_k h0).trans (h k h0 hk)
def IK3 (m : Nat) (I I' : IT) : Prop := ∀ k, k < 35 → I' m k = I m k
theorem IK3.h {m : Nat} {I I1 : IT} {a b c : Int32} (h : IK3 m I I1) : IK3 m I (u2 (u2 (u2 I1 m 35 a) m 36 b) m 37 c) := fun k hk => by rw [u2_k (by omega), u2_k (by omega), u2_k (by omega)]; exact h k hk
theorem IKm.s {m : Nat} {I I1 : IT} {x : Int32} (h : IK3 m (u2 I m 0 x) I1) : IKm m I I1 := fun k h0 hk => (h k hk).trans (u2_k h0)
def okCnt (r e m : Int32) : Prop := (0 ≤ r ∧ r ≤ 12) ∧ (1 ≤ e ∧ e ≤ 8) ∧ (0 ≤ m ∧ m ≤ 96)
theorem n_sub_lt {a b : Nat} (h : a < b) (hb : b < 1000000) : Int32.ofNat a - Int32.ofNat b < 0 := by
  have e0 : (0 : Int32).toInt = 0 := rfl
  rw [i_lt, ii_sub (by rw [n_int (by omega), n_int (by omega)]; omega), n_int (by omega), n_int (by omega), e0]; omega
theorem inY {p : Prop} {D : Decidable p} (c : ¬ (if p then (1 : Int32) else 0) = 0) : p := Decidable.byContradiction (fun h => c (if_neg h))
theorem inN {p : Prop} {D : Decidable p} (h : p) : ¬ (if p then (1 : Int32) else 0) = 0 := by rw [if_pos h]; decide
theorem e_count_no {d : Nat} {T N : Nat → Nat} {I : IT} {L : LT} {R : RT} {x : Nat} {rI eI mI : Int32} (T_x : T x = 12) (h : ¬ okCnt rI eI mI) : Ex (d + 1) 151 [.ref x, .int rI, .int eI, .int mI] (T, N, I, L, R) 1 6 (pX 0 T N R (fun I9 L9 => I9 = I ∧ L9 = L)) := by
  refine ⟨_, rfl, Nat.le_of_ble_eq_true rfl, fun V C S => ?_⟩
  show V 0 [(0, .ref x), (1, .int rI), (2, .int eI), (3, .int mI)] [] (T, N, I, L, R) 0 0
  refine k_iload_n C rfl rfl rfl ?_
  refine k_if_lt C (t := 31) rfl rfl rfl (fun c1 => ?_) (fun c1 => ?_)
  · skip
    exact k_throw C rfl rfl rfl rfl rfl rfl (Nat.le_of_ble_eq_true rfl) (Nat.le_of_ble_eq_true rfl) (Nat.le_of_ble_eq_true rfl) ⟨_, _, rfl, rfl, ⟨rfl, rfl⟩⟩
  refine k_iload_n C rfl rfl rfl ?_
  refine k_bipush C (x := 12) rfl rfl rfl ?_
  refine k_icmp_gt C (t := 31) rfl rfl rfl (fun c7 => ?_) (fun c7 => ?_)
  · skip
    exact k_throw C rfl rfl rfl rfl rfl rfl (Nat.le_of_ble_eq_true rfl) (Nat.le_of_ble_eq_true rfl) (Nat.le_of_ble_eq_true rfl) ⟨_, _, rfl, rfl, ⟨rfl, rfl⟩⟩
  refine k_iload_n C rfl rfl rfl ?_
  refine k_iconst C (x := 1) rfl rfl rfl ?_
  refine k_icmp_lt C (t := 31) rfl rfl rfl (fun c12 => ?_) (fun c12 => ?_)
  · skip
    exact k_throw C rfl rfl rfl rfl rfl rfl (Nat.le_of_ble_eq_true rfl) (Nat.le_of_ble_eq_true rfl) (Nat.le_of_ble_eq_true rfl) ⟨_, _, rfl, rfl, ⟨rfl, rfl⟩⟩
  refine k_iload_n C rfl rfl rfl ?_
  refine k_bipush C (x := 8) rfl rfl rfl ?_
  refine k_icmp_gt C (t := 31) rfl rfl rfl (fun c18 => ?_) (fun c18 => ?_)
  · skip
    exact k_throw C rfl rfl rfl rfl rfl rfl (Nat.le_of_ble_eq_true rfl) (Nat.le_of_ble_eq_true rfl) (Nat.le_of_ble_eq_true rfl) ⟨_, _, rfl, rfl, ⟨rfl, rfl⟩⟩
  refine k_iload_n C rfl rfl rfl ?_
  refine k_if_lt C (t := 31) rfl rfl rfl (fun c22 => ?_) (fun c22 => ?_)
  · skip
    exact k_throw C rfl rfl rfl rfl rfl rfl (Nat.le_of_ble_eq_true rfl) (Nat.le_of_ble_eq_true rfl) (Nat.le_of_ble_eq_true rfl) ⟨_, _, rfl, rfl, ⟨rfl, rfl⟩⟩
  refine k_iload_n C rfl rfl rfl ?_
  refine k_bipush C (x := 96) rfl rfl rfl ?_
  refine k_icmp_le C (t := 39) rfl rfl rfl (fun c28 => ?_) (fun c28 => ?_)
  · skip
    exact absurd ⟨⟨Int32.not_lt.mp c1, Int32.not_lt.mp c7⟩, ⟨Int32.not_lt.mp c12, Int32.not_lt.mp c18⟩, Int32.not_lt.mp c22, c28⟩ h
  exact k_throw C rfl rfl rfl rfl rfl rfl (Nat.le_of_ble_eq_true rfl) (Nat.le_of_ble_eq_true rfl) (Nat.le_of_ble_eq_true rfl) ⟨_, _, rfl, rfl, ⟨rfl, rfl⟩⟩

theorem e_count_a {d : Nat} {T N : Nat → Nat} {I : IT} {L : LT} {R : RT} {A : Nat → Prop} {x rw wy : Nat} {rI eI mI : Int32} (T_x : T x = 12) (R_x_7 : R x 7 = some rw) (T_rw : T rw = 6) (R_rw_5 : R rw 5 = some wy) (T_wy : T wy = 21) (N_wy : N wy = 637) (A_wy : A wy) {r e n : Nat} (hrI : rI = Int32.ofNat r) (heI : eI = Int32.ofNat e) (hmI : mI = Int32.ofNat n) (hr9 : r ≤ 12) (he1 : 1 ≤ e) (he : e ≤ 8) (hm : n ≤ 96) (hq : e * r < n) : Ex (d + 1) 151 [.ref x, .int rI, .int eI, .int mI] (T, N, I, L, R) 0 0 (pL T N R (fun x9 I9 L9 => x9 = 0 ∧ Fr A I L I9 L9)) := by
  refine ⟨_, rfl, Nat.le_of_ble_eq_true rfl, fun V C S => ?_⟩
  show V 0 [(0, .ref x), (1, .int rI), (2, .int eI), (3, .int mI)] [] (T, N, I, L, R) 0 0
  subst hrI heI hmI
  have hb : e * r ≤ 96 := Nat.le_trans (Nat.mul_le_mul he hr9) (by decide)
  refine k_iload_n C rfl rfl rfl ?_
  refine k_if_lt C (t := 31) rfl rfl rfl (fun c1 => ?_) (fun c1 => ?_)
  · skip
    exact absurd c1 (n_nn (by omega))
  refine k_iload_n C rfl rfl rfl ?_
  refine k_bipush C (x := 12) rfl rfl rfl ?_
  refine k_icmp_gt C (t := 31) rfl rfl rfl (fun c7 => ?_) (fun c7 => ?_)
  · skip
    exact absurd ((n_lt (a := 12) (b := r) (by omega) (by omega)).mp c7) (by omega)
  refine k_iload_n C rfl rfl rfl ?_
  refine k_iconst C (x := 1) rfl rfl rfl ?_
  refine k_icmp_lt C (t := 31) rfl rfl rfl (fun c12 => ?_) (fun c12 => ?_)
  · skip
    exact absurd ((n_lt (a := e) (b := 1) (by omega) (by omega)).mp c12) (by omega)
  refine k_iload_n C rfl rfl rfl ?_
  refine k_bipush C (x := 8) rfl rfl rfl ?_
  refine k_icmp_gt C (t := 31) rfl rfl rfl (fun c18 => ?_) (fun c18 => ?_)
  · skip
    exact absurd ((n_lt (a := 8) (b := e) (by omega) (by omega)).mp c18) (by omega)
  refine k_iload_n C rfl rfl rfl ?_
  refine k_if_lt C (t := 31) rfl rfl rfl (fun c22 => ?_) (fun c22 => ?_)
  · skip
    exact absurd c22 (n_nn (by omega))
  refine k_iload_n C rfl rfl rfl ?_
  refine k_bipush C (x := 96) rfl rfl rfl ?_
  refine k_icmp_le C (t := 39) rfl rfl rfl (fun c28 => ?_) (fun c28 => ?_)
  · skip
    refine k_iload_n C rfl rfl rfl ?_
    refine k_iload_n C rfl rfl rfl ?_
    refine k_imul C rfl rfl ?_
    refine k_iload_n C rfl rfl rfl ?_
    refine k_isub C rfl rfl ?_
    rw [n_mul]
    refine k_istore C (lw := [(4, .int _), (0, _), (1, .int _), (2, .int _), (3, .int _)]) rfl rfl (Nat.le_of_ble_eq_true rfl) rfl ?_
    refine k_iload C rfl rfl rfl ?_
    refine k_if_lt C (t := 58) rfl rfl rfl (fun c48 => ?_) (fun c48 => ?_)
    · skip
      refine k_lconst C (x := 0) rfl rfl rfl ?_
      exact k_lret C rfl rfl (Nat.le_of_ble_eq_true rfl) (Nat.le_of_ble_eq_true rfl) ⟨_, _, _, rfl, rfl, ⟨rfl, Fr.rf⟩⟩
    exact absurd (n_sub_lt hq (by omega)) c48
  exact absurd ((n_le (a := n) (b := 96) (by omega) (by omega)).mpr hm) c28

theorem e_count_b {d : Nat} {T N : Nat → Nat} {I : IT} {L : LT} {R : RT} {A : Nat → Prop} {x rw wy : Nat} {rI eI mI : Int32} (T_x : T x = 12) (R_x_7 : R x 7 = some rw) (T_rw : T rw = 6) (R_rw_5 : R rw 5 = some wy) (T_wy : T wy = 21) (N_wy : N wy = 637) (A_wy : A wy) {r e n : Nat} (hrI : rI = Int32.ofNat r) (heI : eI = Int32.ofNat e) (hmI : mI = Int32.ofNat n) (hr9 : r ≤ 12) (he1 : 1 ≤ e) (he : e ≤ 8) (hm : n ≤ 96) (hge : n ≤ e * r) (hodd : (e * r - n) % 2 = 1) : Ex (d + 1) 151 [.ref x, .int rI, .int eI, .int mI] (T, N, I, L, R) 0 0 (pL T N R (fun x9 I9 L9 => x9 = 0 ∧ Fr A I L I9 L9)) := by
  refine ⟨_, rfl, Nat.le_of_ble_eq_true rfl, fun V C S => ?_⟩
  show V 0 [(0, .ref x), (1, .int rI), (2, .int eI), (3, .int mI)] [] (T, N, I, L, R) 0 0
  subst hrI heI hmI
  have hb : e * r ≤ 96 := Nat.le_trans (Nat.mul_le_mul he hr9) (by decide)
  refine k_iload_n C rfl rfl rfl ?_
  refine k_if_lt C (t := 31) rfl rfl rfl (fun c1 => ?_) (fun c1 => ?_)
  · skip
    exact absurd c1 (n_nn (by omega))
  refine k_iload_n C rfl rfl rfl ?_
  refine k_bipush C (x := 12) rfl rfl rfl ?_
  refine k_icmp_gt C (t := 31) rfl rfl rfl (fun c7 => ?_) (fun c7 => ?_)
  · skip
    exact absurd ((n_lt (a := 12) (b := r) (by omega) (by omega)).mp c7) (by omega)
  refine k_iload_n C rfl rfl rfl ?_
  refine k_iconst C (x := 1) rfl rfl rfl ?_
  refine k_icmp_lt C (t := 31) rfl rfl rfl (fun c12 => ?_) (fun c12 => ?_)
  · skip
    exact absurd ((n_lt (a := e) (b := 1) (by omega) (by omega)).mp c12) (by omega)
  refine k_iload_n C rfl rfl rfl ?_
  refine k_bipush C (x := 8) rfl rfl rfl ?_
  refine k_icmp_gt C (t := 31) rfl rfl rfl (fun c18 => ?_) (fun c18 => ?_)
  · skip
    exact absurd ((n_lt (a := 8) (b := e) (by omega) (by omega)).mp c18) (by omega)
  refine k_iload_n C rfl rfl rfl ?_
  refine k_if_lt C (t := 31) rfl rfl rfl (fun c22 => ?_) (fun c22 => ?_)
  · skip
    exact absurd c22 (n_nn (by omega))
  refine k_iload_n C rfl rfl rfl ?_
  refine k_bipush C (x := 96) rfl rfl rfl ?_
  refine k_icmp_le C (t := 39) rfl rfl rfl (fun c28 => ?_) (fun c28 => ?_)
  · skip
    refine k_iload_n C rfl rfl rfl ?_
    refine k_iload_n C rfl rfl rfl ?_
    refine k_imul C rfl rfl ?_
    refine k_iload_n C rfl rfl rfl ?_
    refine k_isub C rfl rfl ?_
    rw [n_mul]
    refine k_istore C (lw := [(4, .int _), (0, _), (1, .int _), (2, .int _), (3, .int _)]) rfl rfl (Nat.le_of_ble_eq_true rfl) rfl ?_
    refine k_iload C rfl rfl rfl ?_
    refine k_if_lt C (t := 58) rfl rfl rfl (fun c48 => ?_) (fun c48 => ?_)
    · skip
      rw [n_sub hge] at c48; exact absurd c48 (n_nn (by omega))
    refine k_iload C rfl rfl rfl ?_
    rw [n_sub hge]
    refine k_iconst C (x := 2) rfl rfl rfl ?_
    refine k_irem C rfl rfl (by decide) ?_
    rw [n_rem2 (by omega)]
    refine k_if_eq C (t := 60) rfl rfl rfl (fun c55 => ?_) (fun c55 => ?_)
    · skip
      rw [hodd] at c55; exact absurd c55 (by decide)
    refine k_lconst C (x := 0) rfl rfl rfl ?_
    exact k_lret C rfl rfl (Nat.le_of_ble_eq_true rfl) (Nat.le_of_ble_eq_true rfl) ⟨_, _, _, rfl, rfl, ⟨rfl, Fr.rf⟩⟩
  exact absurd ((n_le (a := n) (b := 96) (by omega) (by omega)).mpr hm) c28

theorem e_count_c {d : Nat} {T N : Nat → Nat} {I : IT} {L : LT} {R : RT} {A : Nat → Prop} {x rw wy : Nat} {rI eI mI : Int32} (T_x : T x = 12) (R_x_7 : R x 7 = some rw) (T_rw : T rw = 6) (R_rw_5 : R rw 5 = some wy) (T_wy : T wy = 21) (N_wy : N wy = 637) (A_wy : A wy) {r e n : Nat} (hrI : rI = Int32.ofNat r) (heI : eI = Int32.ofNat e) (hmI : mI = Int32.ofNat n) (hr9 : r ≤ 12) (he1 : 1 ≤ e) (he : e ≤ 8) (hm : n ≤ 96) (hge : n ≤ e * r) (hev : (e * r - n) % 2 = 0) (hz : (e * r - n) / 2 = 0) : Ex (d + 3) 151 [.ref x, .int rI, .int eI, .int mI] (T, N, I, L, R) 0 0 (pL T N R (fun x9 I9 L9 => x9 = waysP 0 r e - 0 ∧ Fr A I L I9 L9)) := by
  refine ⟨_, rfl, Nat.le_of_ble_eq_true rfl, fun V C S => ?_⟩
  show V 0 [(0, .ref x), (1, .int rI), (2, .int eI), (3, .int mI)] [] (T, N, I, L, R) 0 0
  subst hrI heI hmI
  have hb : e * r ≤ 96 := Nat.le_trans (Nat.mul_le_mul he hr9) (by decide)
  refine k_iload_n C rfl rfl rfl ?_
  refine k_if_lt C (t := 31) rfl rfl rfl (fun c1 => ?_) (fun c1 => ?_)
  · skip
    exact absurd c1 (n_nn (by omega))
  refine k_iload_n C rfl rfl rfl ?_
  refine k_bipush C (x := 12) rfl rfl rfl ?_
  refine k_icmp_gt C (t := 31) rfl rfl rfl (fun c7 => ?_) (fun c7 => ?_)
  · skip
    exact absurd ((n_lt (a := 12) (b := r) (by omega) (by omega)).mp c7) (by omega)
  refine k_iload_n C rfl rfl rfl ?_
  refine k_iconst C (x := 1) rfl rfl rfl ?_
  refine k_icmp_lt C (t := 31) rfl rfl rfl (fun c12 => ?_) (fun c12 => ?_)
  · skip
    exact absurd ((n_lt (a := e) (b := 1) (by omega) (by omega)).mp c12) (by omega)
  refine k_iload_n C rfl rfl rfl ?_
  refine k_bipush C (x := 8) rfl rfl rfl ?_
  refine k_icmp_gt C (t := 31) rfl rfl rfl (fun c18 => ?_) (fun c18 => ?_)
  · skip
    exact absurd ((n_lt (a := 8) (b := e) (by omega) (by omega)).mp c18) (by omega)
  refine k_iload_n C rfl rfl rfl ?_
  refine k_if_lt C (t := 31) rfl rfl rfl (fun c22 => ?_) (fun c22 => ?_)
  · skip
    exact absurd c22 (n_nn (by omega))
  refine k_iload_n C rfl rfl rfl ?_
  refine k_bipush C (x := 96) rfl rfl rfl ?_
  refine k_icmp_le C (t := 39) rfl rfl rfl (fun c28 => ?_) (fun c28 => ?_)
  · skip
    refine k_iload_n C rfl rfl rfl ?_
    refine k_iload_n C rfl rfl rfl ?_
    refine k_imul C rfl rfl ?_
    refine k_iload_n C rfl rfl rfl ?_
    refine k_isub C rfl rfl ?_
    rw [n_mul]
    refine k_istore C (lw := [(4, .int _), (0, _), (1, .int _), (2, .int _), (3, .int _)]) rfl rfl (Nat.le_of_ble_eq_true rfl) rfl ?_
    refine k_iload C rfl rfl rfl ?_
    refine k_if_lt C (t := 58) rfl rfl rfl (fun c48 => ?_) (fun c48 => ?_)
    · skip
      rw [n_sub hge] at c48; exact absurd c48 (n_nn (by omega))
    refine k_iload C rfl rfl rfl ?_
    rw [n_sub hge]
    refine k_iconst C (x := 2) rfl rfl rfl ?_
    refine k_irem C rfl rfl (by decide) ?_
    rw [n_rem2 (by omega)]
    refine k_if_eq C (t := 60) rfl rfl rfl (fun c55 => ?_) (fun c55 => ?_)
    · skip
      refine k_aload_n C rfl rfl rfl ?_
      refine g_R C rfl rfl rfl T_x rfl R_x_7 ?_
      refine k_iload C rfl rfl rfl ?_
      refine k_iconst C (x := 2) rfl rfl rfl ?_
      refine k_idiv C rfl rfl (by decide) ?_
      rw [n_div2 (by omega)]
      refine k_iload_n C rfl rfl rfl ?_
      refine k_iload_n C rfl rfl rfl ?_
      refine c_VL C (e_ways_nat T_rw R_rw_5 T_wy N_wy A_wy (w := 0) (congrArg Int32.ofNat hz) rfl rfl (by omega) hr9 he) rfl rfl rfl rfl rfl ⟨_, rfl, rfl, T_rw, Nat.le_of_ble_eq_true rfl⟩ rfl rfl (Nat.le_of_ble_eq_true rfl) (Nat.le_of_ble_eq_true rfl) (Nat.le_of_ble_eq_true rfl) ?_
      rintro _ _ L1 ⟨rfl, hI8, hF1⟩
      have hI8 := hI8.symm; subst hI8
      refine k_aload_n C rfl rfl rfl ?_
      refine g_R C rfl rfl rfl T_x rfl R_x_7 ?_
      refine k_iload C rfl rfl rfl ?_
      refine k_iconst C (x := 2) rfl rfl rfl ?_
      refine k_idiv C rfl rfl (by decide) ?_
      rw [n_div2 (by omega)]
      refine k_iconst C (x := 1) rfl rfl rfl ?_
      refine k_isub C rfl rfl ?_
      refine k_iload_n C rfl rfl rfl ?_
      refine k_iload_n C rfl rfl rfl ?_
      refine c_VL C (e_ways_neg  (by rw [hz]; decide)) rfl rfl rfl rfl rfl ⟨_, rfl, rfl, T_rw, Nat.le_of_ble_eq_true rfl⟩ rfl rfl (Nat.le_of_ble_eq_true rfl) (Nat.le_of_ble_eq_true rfl) (Nat.le_of_ble_eq_true rfl) ?_
      rintro _ _ _ ⟨hx7, hI8, hL9⟩
      have hx7 := hx7.symm; subst hx7
      have hI8 := hI8.symm; subst hI8; have hL9 := hL9.symm; subst hL9
      refine k_lsub C rfl rfl ?_
      exact k_lret C rfl rfl (Nat.le_of_ble_eq_true rfl) (Nat.le_of_ble_eq_true rfl) ⟨_, _, _, rfl, rfl, ⟨rfl, hF1⟩⟩
    rw [hev] at c55; exact absurd rfl c55
  exact absurd ((n_le (a := n) (b := 96) (by omega) (by omega)).mpr hm) c28

theorem e_count_d {d : Nat} {T N : Nat → Nat} {I : IT} {L : LT} {R : RT} {A : Nat → Prop} {x rw wy : Nat} {rI eI mI : Int32} (T_x : T x = 12) (R_x_7 : R x 7 = some rw) (T_rw : T rw = 6) (R_rw_5 : R rw 5 = some wy) (T_wy : T wy = 21) (N_wy : N wy = 637) (A_wy : A wy) {r e n : Nat} (hrI : rI = Int32.ofNat r) (heI : eI = Int32.ofNat e) (hmI : mI = Int32.ofNat n) (hr9 : r ≤ 12) (he1 : 1 ≤ e) (he : e ≤ 8) (hm : n ≤ 96) (hge : n ≤ e * r) (hev : (e * r - n) % 2 = 0) (hz : 1 ≤ (e * r - n) / 2) : Ex (d + 3) 151 [.ref x, .int rI, .int eI, .int mI] (T, N, I, L, R) 0 0 (pL T N R (fun x9 I9 L9 => x9 = waysP ((e * r - n) / 2) r e - waysP ((e * r - n) / 2 - 1) r e ∧ Fr A I L I9 L9)) := by
  refine ⟨_, rfl, Nat.le_of_ble_eq_true rfl, fun V C S => ?_⟩
  show V 0 [(0, .ref x), (1, .int rI), (2, .int eI), (3, .int mI)] [] (T, N, I, L, R) 0 0
  subst hrI heI hmI
  have hb : e * r ≤ 96 := Nat.le_trans (Nat.mul_le_mul he hr9) (by decide)
  refine k_iload_n C rfl rfl rfl ?_
  refine k_if_lt C (t := 31) rfl rfl rfl (fun c1 => ?_) (fun c1 => ?_)
  · skip
    exact absurd c1 (n_nn (by omega))
  refine k_iload_n C rfl rfl rfl ?_
  refine k_bipush C (x := 12) rfl rfl rfl ?_
  refine k_icmp_gt C (t := 31) rfl rfl rfl (fun c7 => ?_) (fun c7 => ?_)
  · skip
    exact absurd ((n_lt (a := 12) (b := r) (by omega) (by omega)).mp c7) (by omega)
  refine k_iload_n C rfl rfl rfl ?_
  refine k_iconst C (x := 1) rfl rfl rfl ?_
  refine k_icmp_lt C (t := 31) rfl rfl rfl (fun c12 => ?_) (fun c12 => ?_)
  · skip
    exact absurd ((n_lt (a := e) (b := 1) (by omega) (by omega)).mp c12) (by omega)
  refine k_iload_n C rfl rfl rfl ?_
  refine k_bipush C (x := 8) rfl rfl rfl ?_
  refine k_icmp_gt C (t := 31) rfl rfl rfl (fun c18 => ?_) (fun c18 => ?_)
  · skip
    exact absurd ((n_lt (a := 8) (b := e) (by omega) (by omega)).mp c18) (by omega)
  refine k_iload_n C rfl rfl rfl ?_
  refine k_if_lt C (t := 31) rfl rfl rfl (fun c22 => ?_) (fun c22 => ?_)
  · skip
    exact absurd c22 (n_nn (by omega))
  refine k_iload_n C rfl rfl rfl ?_
  refine k_bipush C (x := 96) rfl rfl rfl ?_
  refine k_icmp_le C (t := 39) rfl rfl rfl (fun c28 => ?_) (fun c28 => ?_)
  · skip
    refine k_iload_n C rfl rfl rfl ?_
    refine k_iload_n C rfl rfl rfl ?_
    refine k_imul C rfl rfl ?_
    refine k_iload_n C rfl rfl rfl ?_
    refine k_isub C rfl rfl ?_
    rw [n_mul]
    refine k_istore C (lw := [(4, .int _), (0, _), (1, .int _), (2, .int _), (3, .int _)]) rfl rfl (Nat.le_of_ble_eq_true rfl) rfl ?_
    refine k_iload C rfl rfl rfl ?_
    refine k_if_lt C (t := 58) rfl rfl rfl (fun c48 => ?_) (fun c48 => ?_)
    · skip
      rw [n_sub hge] at c48; exact absurd c48 (n_nn (by omega))
    refine k_iload C rfl rfl rfl ?_
    rw [n_sub hge]
    refine k_iconst C (x := 2) rfl rfl rfl ?_
    refine k_irem C rfl rfl (by decide) ?_
    rw [n_rem2 (by omega)]
    refine k_if_eq C (t := 60) rfl rfl rfl (fun c55 => ?_) (fun c55 => ?_)
    · skip
      refine k_aload_n C rfl rfl rfl ?_
      refine g_R C rfl rfl rfl T_x rfl R_x_7 ?_
      refine k_iload C rfl rfl rfl ?_
      refine k_iconst C (x := 2) rfl rfl rfl ?_
      refine k_idiv C rfl rfl (by decide) ?_
      rw [n_div2 (by omega)]
      refine k_iload_n C rfl rfl rfl ?_
      refine k_iload_n C rfl rfl rfl ?_
      refine c_VL C (e_ways_nat T_rw R_rw_5 T_wy N_wy A_wy (w := (e * r - n) / 2) rfl rfl rfl (by omega) hr9 he) rfl rfl rfl rfl rfl ⟨_, rfl, rfl, T_rw, Nat.le_of_ble_eq_true rfl⟩ rfl rfl (Nat.le_of_ble_eq_true rfl) (Nat.le_of_ble_eq_true rfl) (Nat.le_of_ble_eq_true rfl) ?_
      rintro _ _ L1 ⟨rfl, hI8, hF1⟩
      have hI8 := hI8.symm; subst hI8
      refine k_aload_n C rfl rfl rfl ?_
      refine g_R C rfl rfl rfl T_x rfl R_x_7 ?_
      refine k_iload C rfl rfl rfl ?_
      refine k_iconst C (x := 2) rfl rfl rfl ?_
      refine k_idiv C rfl rfl (by decide) ?_
      rw [n_div2 (by omega)]
      refine k_iconst C (x := 1) rfl rfl rfl ?_
      refine k_isub C rfl rfl ?_
      rw [show (1 : Int32) = Int32.ofNat 1 from rfl, n_sub (by omega)]
      refine k_iload_n C rfl rfl rfl ?_
      refine k_iload_n C rfl rfl rfl ?_
      refine c_VL C (e_ways_nat T_rw R_rw_5 T_wy N_wy A_wy (w := (e * r - n) / 2 - 1) rfl rfl rfl (by omega) hr9 he) rfl rfl rfl rfl rfl ⟨_, rfl, rfl, T_rw, Nat.le_of_ble_eq_true rfl⟩ rfl rfl (Nat.le_of_ble_eq_true rfl) (Nat.le_of_ble_eq_true rfl) (Nat.le_of_ble_eq_true rfl) ?_
      rintro _ _ L2 ⟨rfl, hI8, hF2⟩
      have hI8 := hI8.symm; subst hI8
      refine k_lsub C rfl rfl ?_
      exact k_lret C rfl rfl (Nat.le_of_ble_eq_true rfl) (Nat.le_of_ble_eq_true rfl) ⟨_, _, _, rfl, rfl, ⟨rfl, Fr.tr hF1 hF2⟩⟩
    rw [hev] at c55; exact absurd rfl c55
  exact absurd ((n_le (a := n) (b := 96) (by omega) (by omega)).mpr hm) c28

theorem e_m_count_no {d : Nat} {T N : Nat → Nat} {I : IT} {L : LT} {R : RT} {A : Nat → Prop} {m : Nat} {rI eI mI : Int32} (T_m : T m = 13) (A_m : A m) (h : ¬ okCnt rI eI mI) : Ex (d + 2) 259 [.ref m, .int rI, .int eI, .int mI] (T, N, I, L, R) 0 0 (pL T N R (fun x9 I9 L9 => Fr A I L I9 L9 ∧ I9 m 0 = 1 ∧ IKm m I I9)) := by
  refine ⟨_, rfl, Nat.le_of_ble_eq_true rfl, fun V C S => ?_⟩
  show V 0 [(0, .ref m), (1, .int rI), (2, .int eI), (3, .int mI)] [] (T, N, I, L, R) 0 0
  refine k_aload_n C rfl rfl rfl ?_
  refine k_iconst C (x := 0) rfl rfl rfl ?_
  refine p_I C rfl rfl rfl T_m (Or.inr rfl) rfl ?_
  refine k_aload_n C rfl rfl rfl ?_
  refine k_iload_n C rfl rfl rfl ?_
  refine k_iconst C (x := 0) rfl rfl rfl ?_
  refine k_bipush C (x := 12) rfl rfl rfl ?_
  refine c_SI C e_in rfl rfl rfl rfl rfl rfl rfl (Nat.le_of_ble_eq_true rfl) (Nat.le_of_ble_eq_true rfl) (Nat.le_of_ble_eq_true rfl) ?_
  rintro _ _ _ ⟨hx7, hI8, hL9⟩
  have hx7 := hx7.symm; subst hx7
  have hI8 := hI8.symm; subst hI8; have hL9 := hL9.symm; subst hL9
  refine k_if_eq C (t := 36) rfl rfl rfl (fun c13 => ?_) (fun c13 => ?_)
  · skip
    refine k_iconst C (x := 1) rfl rfl rfl ?_
    refine k_goto C (pc2 := 41) rfl rfl ?_
    refine k_iconst C (x := 1) rfl rfl rfl ?_
    refine c_VI C (e_throwsIf1 T_m rfl) rfl rfl rfl rfl rfl ⟨_, rfl, rfl, T_m, Nat.le_of_ble_eq_true rfl⟩ rfl rfl (Nat.le_of_ble_eq_true rfl) (Nat.le_of_ble_eq_true rfl) (Nat.le_of_ble_eq_true rfl) ?_
    rintro _ _ _ ⟨hx7, hI8, hL9⟩
    have hx7 := hx7.symm; subst hx7
    have hI8 := hI8.symm; subst hI8; have hL9 := hL9.symm; subst hL9
    refine k_if_eq C (t := 50) rfl rfl rfl (fun c45 => absurd c45 (by decide)) (fun _ => ?_)
    refine k_lconst C (x := 0) rfl rfl rfl ?_
    exact k_lret C rfl rfl (Nat.le_of_ble_eq_true rfl) (Nat.le_of_ble_eq_true rfl) ⟨_, _, _, rfl, rfl, ⟨(Fr.i (Fr.i Fr.rf A_m) A_m), u2_s, (by first | exact IKm.i IKm.rf | exact IKm.i (IKm.i IKm.rf))⟩⟩
  have q1 := inY c13
  refine k_iload_n C rfl rfl rfl ?_
  refine k_iconst C (x := 1) rfl rfl rfl ?_
  refine k_bipush C (x := 8) rfl rfl rfl ?_
  refine c_SI C e_in rfl rfl rfl rfl rfl rfl rfl (Nat.le_of_ble_eq_true rfl) (Nat.le_of_ble_eq_true rfl) (Nat.le_of_ble_eq_true rfl) ?_
  rintro _ _ _ ⟨hx7, hI8, hL9⟩
  have hx7 := hx7.symm; subst hx7
  have hI8 := hI8.symm; subst hI8; have hL9 := hL9.symm; subst hL9
  refine k_if_eq C (t := 36) rfl rfl rfl (fun c23 => ?_) (fun c23 => ?_)
  · skip
    refine k_iconst C (x := 1) rfl rfl rfl ?_
    refine k_goto C (pc2 := 41) rfl rfl ?_
    refine k_iconst C (x := 1) rfl rfl rfl ?_
    refine c_VI C (e_throwsIf1 T_m rfl) rfl rfl rfl rfl rfl ⟨_, rfl, rfl, T_m, Nat.le_of_ble_eq_true rfl⟩ rfl rfl (Nat.le_of_ble_eq_true rfl) (Nat.le_of_ble_eq_true rfl) (Nat.le_of_ble_eq_true rfl) ?_
    rintro _ _ _ ⟨hx7, hI8, hL9⟩
    have hx7 := hx7.symm; subst hx7
    have hI8 := hI8.symm; subst hI8; have hL9 := hL9.symm; subst hL9
    refine k_if_eq C (t := 50) rfl rfl rfl (fun c45 => absurd c45 (by decide)) (fun _ => ?_)
    refine k_lconst C (x := 0) rfl rfl rfl ?_
    exact k_lret C rfl rfl (Nat.le_of_ble_eq_true rfl) (Nat.le_of_ble_eq_true rfl) ⟨_, _, _, rfl, rfl, ⟨(Fr.i (Fr.i Fr.rf A_m) A_m), u2_s, (by first | exact IKm.i IKm.rf | exact IKm.i (IKm.i IKm.rf))⟩⟩
  have q2 := inY c23
  refine k_iload_n C rfl rfl rfl ?_
  refine k_iconst C (x := 0) rfl rfl rfl ?_
  refine k_bipush C (x := 96) rfl rfl rfl ?_
  refine c_SI C e_in rfl rfl rfl rfl rfl rfl rfl (Nat.le_of_ble_eq_true rfl) (Nat.le_of_ble_eq_true rfl) (Nat.le_of_ble_eq_true rfl) ?_
  rintro _ _ _ ⟨hx7, hI8, hL9⟩
  have hx7 := hx7.symm; subst hx7
  have hI8 := hI8.symm; subst hI8; have hL9 := hL9.symm; subst hL9
  refine k_if_ne C (t := 40) rfl rfl rfl (fun c33 => ?_) (fun c33 => ?_)
  · skip
    exact absurd ⟨q1, q2, inY c33⟩ h
  refine k_iconst C (x := 1) rfl rfl rfl ?_
  refine k_goto C (pc2 := 41) rfl rfl ?_
  refine k_iconst C (x := 1) rfl rfl rfl ?_
  refine c_VI C (e_throwsIf1 T_m rfl) rfl rfl rfl rfl rfl ⟨_, rfl, rfl, T_m, Nat.le_of_ble_eq_true rfl⟩ rfl rfl (Nat.le_of_ble_eq_true rfl) (Nat.le_of_ble_eq_true rfl) (Nat.le_of_ble_eq_true rfl) ?_
  rintro _ _ _ ⟨hx7, hI8, hL9⟩
  have hx7 := hx7.symm; subst hx7
  have hI8 := hI8.symm; subst hI8; have hL9 := hL9.symm; subst hL9
  refine k_if_eq C (t := 50) rfl rfl rfl (fun c45 => absurd c45 (by decide)) (fun _ => ?_)
  refine k_lconst C (x := 0) rfl rfl rfl ?_
  exact k_lret C rfl rfl (Nat.le_of_ble_eq_true rfl) (Nat.le_of_ble_eq_true rfl) ⟨_, _, _, rfl, rfl, ⟨(Fr.i (Fr.i Fr.rf A_m) A_m), u2_s, (by first | exact IKm.i IKm.rf | exact IKm.i (IKm.i IKm.rf))⟩⟩

theorem e_m_count_a {d : Nat} {T N : Nat → Nat} {I : IT} {L : LT} {R : RT} {A : Nat → Prop} {m wy : Nat} {rI eI mI : Int32} (T_m : T m = 13) (A_m : A m) (R_m_21 : R m 21 = some wy) (T_wy : T wy = 21) (N_wy : N wy = 1261) (A_wy : A wy) {r e n : Nat} (hrI : rI = Int32.ofNat r) (heI : eI = Int32.ofNat e) (hmI : mI = Int32.ofNat n) (hr9 : r ≤ 12) (he1 : 1 ≤ e) (he : e ≤ 8) (hm : n ≤ 96) (hq : e * r < n) : Ex (d + 2) 259 [.ref m, .int rI, .int eI, .int mI] (T, N, I, L, R) 0 0 (pL T N R (fun x9 I9 L9 => x9 = 0 ∧ Fr A I L I9 L9 ∧ I9 m 0 = 0 ∧ IKm m I I9)) := by
  refine ⟨_, rfl, Nat.le_of_ble_eq_true rfl, fun V C S => ?_⟩
  show V 0 [(0, .ref m), (1, .int rI), (2, .int eI), (3, .int mI)] [] (T, N, I, L, R) 0 0
  subst hrI heI hmI
  have hb : e * r ≤ 96 := Nat.le_trans (Nat.mul_le_mul he hr9) (by decide)
  refine k_aload_n C rfl rfl rfl ?_
  refine k_iconst C (x := 0) rfl rfl rfl ?_
  refine p_I C rfl rfl rfl T_m (Or.inr rfl) rfl ?_
  refine k_aload_n C rfl rfl rfl ?_
  refine k_iload_n C rfl rfl rfl ?_
  refine k_iconst C (x := 0) rfl rfl rfl ?_
  refine k_bipush C (x := 12) rfl rfl rfl ?_
  refine c_SI C e_in rfl rfl rfl rfl rfl rfl rfl (Nat.le_of_ble_eq_true rfl) (Nat.le_of_ble_eq_true rfl) (Nat.le_of_ble_eq_true rfl) ?_
  rintro _ _ _ ⟨hx7, hI8, hL9⟩
  have hx7 := hx7.symm; subst hx7
  have hI8 := hI8.symm; subst hI8; have hL9 := hL9.symm; subst hL9
  refine k_if_eq C (t := 36) rfl rfl rfl (fun c13 => ?_) (fun c13 => ?_)
  · skip
    exact absurd c13 (inN ⟨(n_le (a := 0) (b := r) (by omega) (by omega)).mpr (by omega), (n_le (a := r) (b := 12) (by omega) (by omega)).mpr (by omega)⟩)
  refine k_iload_n C rfl rfl rfl ?_
  refine k_iconst C (x := 1) rfl rfl rfl ?_
  refine k_bipush C (x := 8) rfl rfl rfl ?_
  refine c_SI C e_in rfl rfl rfl rfl rfl rfl rfl (Nat.le_of_ble_eq_true rfl) (Nat.le_of_ble_eq_true rfl) (Nat.le_of_ble_eq_true rfl) ?_
  rintro _ _ _ ⟨hx7, hI8, hL9⟩
  have hx7 := hx7.symm; subst hx7
  have hI8 := hI8.symm; subst hI8; have hL9 := hL9.symm; subst hL9
  refine k_if_eq C (t := 36) rfl rfl rfl (fun c23 => ?_) (fun c23 => ?_)
  · skip
    exact absurd c23 (inN ⟨(n_le (a := 1) (b := e) (by omega) (by omega)).mpr (by omega), (n_le (a := e) (b := 8) (by omega) (by omega)).mpr (by omega)⟩)
  refine k_iload_n C rfl rfl rfl ?_
  refine k_iconst C (x := 0) rfl rfl rfl ?_
  refine k_bipush C (x := 96) rfl rfl rfl ?_
  refine c_SI C e_in rfl rfl rfl rfl rfl rfl rfl (Nat.le_of_ble_eq_true rfl) (Nat.le_of_ble_eq_true rfl) (Nat.le_of_ble_eq_true rfl) ?_
  rintro _ _ _ ⟨hx7, hI8, hL9⟩
  have hx7 := hx7.symm; subst hx7
  have hI8 := hI8.symm; subst hI8; have hL9 := hL9.symm; subst hL9
  refine k_if_ne C (t := 40) rfl rfl rfl (fun c33 => ?_) (fun c33 => ?_)
  · skip
    refine k_iconst C (x := 0) rfl rfl rfl ?_
    refine k_iconst C (x := 1) rfl rfl rfl ?_
    refine c_VI C (e_throwsIf0 T_m rfl) rfl rfl rfl rfl rfl ⟨_, rfl, rfl, T_m, Nat.le_of_ble_eq_true rfl⟩ rfl rfl (Nat.le_of_ble_eq_true rfl) (Nat.le_of_ble_eq_true rfl) (Nat.le_of_ble_eq_true rfl) ?_
    rintro _ _ _ ⟨hx7, hI8, hL9⟩
    have hx7 := hx7.symm; subst hx7
    have hI8 := hI8.symm; subst hI8; have hL9 := hL9.symm; subst hL9
    refine k_if_eq C (t := 50) rfl rfl rfl (fun _ => ?_) (fun c45 => absurd (by decide) c45)
    refine k_iload_n C rfl rfl rfl ?_
    refine k_iload_n C rfl rfl rfl ?_
    refine k_imul C rfl rfl ?_
    refine k_iload_n C rfl rfl rfl ?_
    refine k_isub C rfl rfl ?_
    rw [n_mul]
    refine k_istore C (lw := [(4, .int _), (0, _), (1, .int _), (2, .int _), (3, .int _)]) rfl rfl (Nat.le_of_ble_eq_true rfl) rfl ?_
    refine k_iload C rfl rfl rfl ?_
    refine k_if_lt C (t := 69) rfl rfl rfl (fun c59 => ?_) (fun c59 => ?_)
    · skip
      refine k_lconst C (x := 0) rfl rfl rfl ?_
      refine k_goto C (pc2 := 96) rfl rfl ?_
      exact k_lret C rfl rfl (Nat.le_of_ble_eq_true rfl) (Nat.le_of_ble_eq_true rfl) ⟨_, _, _, rfl, rfl, ⟨rfl, Fr.i Fr.rf A_m, u2_s, (by first | exact IKm.i IKm.rf | exact IKm.i (IKm.i IKm.rf))⟩⟩
    exact absurd (n_sub_lt hq (by omega)) c59
  exact absurd (inN ⟨(n_le (a := 0) (b := n) (by omega) (by omega)).mpr (by omega), (n_le (a := n) (b := 96) (by omega) (by omega)).mpr (by omega)⟩) c33

theorem e_m_count_b {d : Nat} {T N : Nat → Nat} {I : IT} {L : LT} {R : RT} {A : Nat → Prop} {m wy : Nat} {rI eI mI : Int32} (T_m : T m = 13) (A_m : A m) (R_m_21 : R m 21 = some wy) (T_wy : T wy = 21) (N_wy : N wy = 1261) (A_wy : A wy) {r e n : Nat} (hrI : rI = Int32.ofNat r) (heI : eI = Int32.ofNat e) (hmI : mI = Int32.ofNat n) (hr9 : r ≤ 12) (he1 : 1 ≤ e) (he : e ≤ 8) (hm : n ≤ 96) (hge : n ≤ e * r) (hodd : (e * r - n) % 2 = 1) : Ex (d + 2) 259 [.ref m, .int rI, .int eI, .int mI] (T, N, I, L, R) 0 0 (pL T N R (fun x9 I9 L9 => x9 = 0 ∧ Fr A I L I9 L9 ∧ I9 m 0 = 0 ∧ IKm m I I9)) := by
  refine ⟨_, rfl, Nat.le_of_ble_eq_true rfl, fun V C S => ?_⟩
  show V 0 [(0, .ref m), (1, .int rI), (2, .int eI), (3, .int mI)] [] (T, N, I, L, R) 0 0
  subst hrI heI hmI
  have hb : e * r ≤ 96 := Nat.le_trans (Nat.mul_le_mul he hr9) (by decide)
  refine k_aload_n C rfl rfl rfl ?_
  refine k_iconst C (x := 0) rfl rfl rfl ?_
  refine p_I C rfl rfl rfl T_m (Or.inr rfl) rfl ?_
  refine k_aload_n C rfl rfl rfl ?_
  refine k_iload_n C rfl rfl rfl ?_
  refine k_iconst C (x := 0) rfl rfl rfl ?_
  refine k_bipush C (x := 12) rfl rfl rfl ?_
  refine c_SI C e_in rfl rfl rfl rfl rfl rfl rfl (Nat.le_of_ble_eq_true rfl) (Nat.le_of_ble_eq_true rfl) (Nat.le_of_ble_eq_true rfl) ?_
  rintro _ _ _ ⟨hx7, hI8, hL9⟩
  have hx7 := hx7.symm; subst hx7
  have hI8 := hI8.symm; subst hI8; have hL9 := hL9.symm; subst hL9
  refine k_if_eq C (t := 36) rfl rfl rfl (fun c13 => ?_) (fun c13 => ?_)
  · skip
    exact absurd c13 (inN ⟨(n_le (a := 0) (b := r) (by omega) (by omega)).mpr (by omega), (n_le (a := r) (b := 12) (by omega) (by omega)).mpr (by omega)⟩)
  refine k_iload_n C rfl rfl rfl ?_
  refine k_iconst C (x := 1) rfl rfl rfl ?_
  refine k_bipush C (x := 8) rfl rfl rfl ?_
  refine c_SI C e_in rfl rfl rfl rfl rfl rfl rfl (Nat.le_of_ble_eq_true rfl) (Nat.le_of_ble_eq_true rfl) (Nat.le_of_ble_eq_true rfl) ?_
  rintro _ _ _ ⟨hx7, hI8, hL9⟩
  have hx7 := hx7.symm; subst hx7
  have hI8 := hI8.symm; subst hI8; have hL9 := hL9.symm; subst hL9
  refine k_if_eq C (t := 36) rfl rfl rfl (fun c23 => ?_) (fun c23 => ?_)
  · skip
    exact absurd c23 (inN ⟨(n_le (a := 1) (b := e) (by omega) (by omega)).mpr (by omega), (n_le (a := e) (b := 8) (by omega) (by omega)).mpr (by omega)⟩)
  refine k_iload_n C rfl rfl rfl ?_
  refine k_iconst C (x := 0) rfl rfl rfl ?_
  refine k_bipush C (x := 96) rfl rfl rfl ?_
  refine c_SI C e_in rfl rfl rfl rfl rfl rfl rfl (Nat.le_of_ble_eq_true rfl) (Nat.le_of_ble_eq_true rfl) (Nat.le_of_ble_eq_true rfl) ?_
  rintro _ _ _ ⟨hx7, hI8, hL9⟩
  have hx7 := hx7.symm; subst hx7
  have hI8 := hI8.symm; subst hI8; have hL9 := hL9.symm; subst hL9
  refine k_if_ne C (t := 40) rfl rfl rfl (fun c33 => ?_) (fun c33 => ?_)
  · skip
    refine k_iconst C (x := 0) rfl rfl rfl ?_
    refine k_iconst C (x := 1) rfl rfl rfl ?_
    refine c_VI C (e_throwsIf0 T_m rfl) rfl rfl rfl rfl rfl ⟨_, rfl, rfl, T_m, Nat.le_of_ble_eq_true rfl⟩ rfl rfl (Nat.le_of_ble_eq_true rfl) (Nat.le_of_ble_eq_true rfl) (Nat.le_of_ble_eq_true rfl) ?_
    rintro _ _ _ ⟨hx7, hI8, hL9⟩
    have hx7 := hx7.symm; subst hx7
    have hI8 := hI8.symm; subst hI8; have hL9 := hL9.symm; subst hL9
    refine k_if_eq C (t := 50) rfl rfl rfl (fun _ => ?_) (fun c45 => absurd (by decide) c45)
    refine k_iload_n C rfl rfl rfl ?_
    refine k_iload_n C rfl rfl rfl ?_
    refine k_imul C rfl rfl ?_
    refine k_iload_n C rfl rfl rfl ?_
    refine k_isub C rfl rfl ?_
    rw [n_mul]
    refine k_istore C (lw := [(4, .int _), (0, _), (1, .int _), (2, .int _), (3, .int _)]) rfl rfl (Nat.le_of_ble_eq_true rfl) rfl ?_
    refine k_iload C rfl rfl rfl ?_
    refine k_if_lt C (t := 69) rfl rfl rfl (fun c59 => ?_) (fun c59 => ?_)
    · skip
      rw [n_sub hge] at c59; exact absurd c59 (n_nn (by omega))
    refine k_iload C rfl rfl rfl ?_
    rw [n_sub hge]
    refine k_iconst C (x := 2) rfl rfl rfl ?_
    refine k_irem C rfl rfl (by decide) ?_
    rw [n_rem2 (by omega)]
    refine k_if_eq C (t := 73) rfl rfl rfl (fun c66 => ?_) (fun c66 => ?_)
    · skip
      rw [hodd] at c66; exact absurd c66 (by decide)
    refine k_lconst C (x := 0) rfl rfl rfl ?_
    refine k_goto C (pc2 := 96) rfl rfl ?_
    exact k_lret C rfl rfl (Nat.le_of_ble_eq_true rfl) (Nat.le_of_ble_eq_true rfl) ⟨_, _, _, rfl, rfl, ⟨rfl, Fr.i Fr.rf A_m, u2_s, (by first | exact IKm.i IKm.rf | exact IKm.i (IKm.i IKm.rf))⟩⟩
  exact absurd (inN ⟨(n_le (a := 0) (b := n) (by omega) (by omega)).mpr (by omega), (n_le (a := n) (b := 96) (by omega) (by omega)).mpr (by omega)⟩) c33

theorem e_m_count_c {d : Nat} {T N : Nat → Nat} {I : IT} {L : LT} {R : RT} {A : Nat → Prop} {m wy : Nat} {rI eI mI : Int32} (T_m : T m = 13) (A_m : A m) (R_m_21 : R m 21 = some wy) (T_wy : T wy = 21) (N_wy : N wy = 1261) (A_wy : A wy) {r e n : Nat} (hrI : rI = Int32.ofNat r) (heI : eI = Int32.ofNat e) (hmI : mI = Int32.ofNat n) (hr9 : r ≤ 12) (he1 : 1 ≤ e) (he : e ≤ 8) (hm : n ≤ 96) (hge : n ≤ e * r) (hev : (e * r - n) % 2 = 0) (hz : (e * r - n) / 2 = 0) : Ex (d + 3) 259 [.ref m, .int rI, .int eI, .int mI] (T, N, I, L, R) 0 0 (pL T N R (fun x9 I9 L9 => x9 = waysP 0 r e - 0 ∧ Fr A I L I9 L9 ∧ I9 m 0 = 0 ∧ IKm m I I9)) := by
  refine ⟨_, rfl, Nat.le_of_ble_eq_true rfl, fun V C S => ?_⟩
  show V 0 [(0, .ref m), (1, .int rI), (2, .int eI), (3, .int mI)] [] (T, N, I, L, R) 0 0
  subst hrI heI hmI
  have hb : e * r ≤ 96 := Nat.le_trans (Nat.mul_le_mul he hr9) (by decide)
  refine k_aload_n C rfl rfl rfl ?_
  refine k_iconst C (x := 0) rfl rfl rfl ?_
  refine p_I C rfl rfl rfl T_m (Or.inr rfl) rfl ?_
  refine k_aload_n C rfl rfl rfl ?_
  refine k_iload_n C rfl rfl rfl ?_
  refine k_iconst C (x := 0) rfl rfl rfl ?_
  refine k_bipush C (x := 12) rfl rfl rfl ?_
  refine c_SI C e_in rfl rfl rfl rfl rfl rfl rfl (Nat.le_of_ble_eq_true rfl) (Nat.le_of_ble_eq_true rfl) (Nat.le_of_ble_eq_true rfl) ?_
  rintro _ _ _ ⟨hx7, hI8, hL9⟩
  have hx7 := hx7.symm; subst hx7
  have hI8 := hI8.symm; subst hI8; have hL9 := hL9.symm; subst hL9
  refine k_if_eq C (t := 36) rfl rfl rfl (fun c13 => ?_) (fun c13 => ?_)
  · skip
    exact absurd c13 (inN ⟨(n_le (a := 0) (b := r) (by omega) (by omega)).mpr (by omega), (n_le (a := r) (b := 12) (by omega) (by omega)).mpr (by omega)⟩)
  refine k_iload_n C rfl rfl rfl ?_
  refine k_iconst C (x := 1) rfl rfl rfl ?_
  refine k_bipush C (x := 8) rfl rfl rfl ?_
  refine c_SI C e_in rfl rfl rfl rfl rfl rfl rfl (Nat.le_of_ble_eq_true rfl) (Nat.le_of_ble_eq_true rfl) (Nat.le_of_ble_eq_true rfl) ?_
  rintro _ _ _ ⟨hx7, hI8, hL9⟩
  have hx7 := hx7.symm; subst hx7
  have hI8 := hI8.symm; subst hI8; have hL9 := hL9.symm; subst hL9
  refine k_if_eq C (t := 36) rfl rfl rfl (fun c23 => ?_) (fun c23 => ?_)
  · skip
    exact absurd c23 (inN ⟨(n_le (a := 1) (b := e) (by omega) (by omega)).mpr (by omega), (n_le (a := e) (b := 8) (by omega) (by omega)).mpr (by omega)⟩)
  refine k_iload_n C rfl rfl rfl ?_
  refine k_iconst C (x := 0) rfl rfl rfl ?_
  refine k_bipush C (x := 96) rfl rfl rfl ?_
  refine c_SI C e_in rfl rfl rfl rfl rfl rfl rfl (Nat.le_of_ble_eq_true rfl) (Nat.le_of_ble_eq_true rfl) (Nat.le_of_ble_eq_true rfl) ?_
  rintro _ _ _ ⟨hx7, hI8, hL9⟩
  have hx7 := hx7.symm; subst hx7
  have hI8 := hI8.symm; subst hI8; have hL9 := hL9.symm; subst hL9
  refine k_if_ne C (t := 40) rfl rfl rfl (fun c33 => ?_) (fun c33 => ?_)
  · skip
    refine k_iconst C (x := 0) rfl rfl rfl ?_
    refine k_iconst C (x := 1) rfl rfl rfl ?_
    refine c_VI C (e_throwsIf0 T_m rfl) rfl rfl rfl rfl rfl ⟨_, rfl, rfl, T_m, Nat.le_of_ble_eq_true rfl⟩ rfl rfl (Nat.le_of_ble_eq_true rfl) (Nat.le_of_ble_eq_true rfl) (Nat.le_of_ble_eq_true rfl) ?_
    rintro _ _ _ ⟨hx7, hI8, hL9⟩
    have hx7 := hx7.symm; subst hx7
    have hI8 := hI8.symm; subst hI8; have hL9 := hL9.symm; subst hL9
    refine k_if_eq C (t := 50) rfl rfl rfl (fun _ => ?_) (fun c45 => absurd (by decide) c45)
    refine k_iload_n C rfl rfl rfl ?_
    refine k_iload_n C rfl rfl rfl ?_
    refine k_imul C rfl rfl ?_
    refine k_iload_n C rfl rfl rfl ?_
    refine k_isub C rfl rfl ?_
    rw [n_mul]
    refine k_istore C (lw := [(4, .int _), (0, _), (1, .int _), (2, .int _), (3, .int _)]) rfl rfl (Nat.le_of_ble_eq_true rfl) rfl ?_
    refine k_iload C rfl rfl rfl ?_
    refine k_if_lt C (t := 69) rfl rfl rfl (fun c59 => ?_) (fun c59 => ?_)
    · skip
      rw [n_sub hge] at c59; exact absurd c59 (n_nn (by omega))
    refine k_iload C rfl rfl rfl ?_
    rw [n_sub hge]
    refine k_iconst C (x := 2) rfl rfl rfl ?_
    refine k_irem C rfl rfl (by decide) ?_
    rw [n_rem2 (by omega)]
    refine k_if_eq C (t := 73) rfl rfl rfl (fun c66 => ?_) (fun c66 => ?_)
    · skip
      refine k_aload_n C rfl rfl rfl ?_
      refine k_iload C rfl rfl rfl ?_
      refine k_iconst C (x := 2) rfl rfl rfl ?_
      refine k_idiv C rfl rfl (by decide) ?_
      rw [n_div2 (by omega)]
      refine k_iload_n C rfl rfl rfl ?_
      refine k_iload_n C rfl rfl rfl ?_
      refine c_VL C (e_m_ways_nat T_m R_m_21 T_wy N_wy A_wy (w := 0) (congrArg Int32.ofNat hz) rfl rfl (by omega) hr9 he) rfl rfl rfl rfl rfl ⟨_, rfl, rfl, T_m, Nat.le_of_ble_eq_true rfl⟩ rfl rfl (Nat.le_of_ble_eq_true rfl) (Nat.le_of_ble_eq_true rfl) (Nat.le_of_ble_eq_true rfl) ?_
      rintro _ _ L1 ⟨rfl, hI8, hF1⟩
      have hI8 := hI8.symm; subst hI8
      refine k_aload_n C rfl rfl rfl ?_
      refine k_iload C rfl rfl rfl ?_
      refine k_iconst C (x := 2) rfl rfl rfl ?_
      refine k_idiv C rfl rfl (by decide) ?_
      rw [n_div2 (by omega)]
      refine k_iconst C (x := 1) rfl rfl rfl ?_
      refine k_isub C rfl rfl ?_
      refine k_iload_n C rfl rfl rfl ?_
      refine k_iload_n C rfl rfl rfl ?_
      refine c_VL C (e_m_ways_neg  (by rw [hz]; decide)) rfl rfl rfl rfl rfl ⟨_, rfl, rfl, T_m, Nat.le_of_ble_eq_true rfl⟩ rfl rfl (Nat.le_of_ble_eq_true rfl) (Nat.le_of_ble_eq_true rfl) (Nat.le_of_ble_eq_true rfl) ?_
      rintro _ _ _ ⟨hx7, hI8, hL9⟩
      have hx7 := hx7.symm; subst hx7
      have hI8 := hI8.symm; subst hI8; have hL9 := hL9.symm; subst hL9
      refine k_lsub C rfl rfl ?_
      exact k_lret C rfl rfl (Nat.le_of_ble_eq_true rfl) (Nat.le_of_ble_eq_true rfl) ⟨_, _, _, rfl, rfl, ⟨rfl, Fr.tr (Fr.i Fr.rf A_m) hF1, u2_s, (by first | exact IKm.i IKm.rf | exact IKm.i (IKm.i IKm.rf))⟩⟩
    rw [hev] at c66; exact absurd rfl c66
  exact absurd (inN ⟨(n_le (a := 0) (b := n) (by omega) (by omega)).mpr (by omega), (n_le (a := n) (b := 96) (by omega) (by omega)).mpr (by omega)⟩) c33

theorem e_m_count_d {d : Nat} {T N : Nat → Nat} {I : IT} {L : LT} {R : RT} {A : Nat → Prop} {m wy : Nat} {rI eI mI : Int32} (T_m : T m = 13) (A_m : A m) (R_m_21 : R m 21 = some wy) (T_wy : T wy = 21) (N_wy : N wy = 1261) (A_wy : A wy) {r e n : Nat} (hrI : rI = Int32.ofNat r) (heI : eI = Int32.ofNat e) (hmI : mI = Int32.ofNat n) (hr9 : r ≤ 12) (he1 : 1 ≤ e) (he : e ≤ 8) (hm : n ≤ 96) (hge : n ≤ e * r) (hev : (e * r - n) % 2 = 0) (hz : 1 ≤ (e * r - n) / 2) : Ex (d + 3) 259 [.ref m, .int rI, .int eI, .int mI] (T, N, I, L, R) 0 0 (pL T N R (fun x9 I9 L9 => x9 = waysP ((e * r - n) / 2) r e - waysP ((e * r - n) / 2 - 1) r e ∧ Fr A I L I9 L9 ∧ I9 m 0 = 0 ∧ IKm m I I9)) := by
  refine ⟨_, rfl, Nat.le_of_ble_eq_true rfl, fun V C S => ?_⟩
  show V 0 [(0, .ref m), (1, .int rI), (2, .int eI), (3, .int mI)] [] (T, N, I, L, R) 0 0
  subst hrI heI hmI
  have hb : e * r ≤ 96 := Nat.le_trans (Nat.mul_le_mul he hr9) (by decide)
  refine k_aload_n C rfl rfl rfl ?_
  refine k_iconst C (x := 0) rfl rfl rfl ?_
  refine p_I C rfl rfl rfl T_m (Or.inr rfl) rfl ?_
  refine k_aload_n C rfl rfl rfl ?_
  refine k_iload_n C rfl rfl rfl ?_
  refine k_iconst C (x := 0) rfl rfl rfl ?_
  refine k_bipush C (x := 12) rfl rfl rfl ?_
  refine c_SI C e_in rfl rfl rfl rfl rfl rfl rfl (Nat.le_of_ble_eq_true rfl) (Nat.le_of_ble_eq_true rfl) (Nat.le_of_ble_eq_true rfl) ?_
  rintro _ _ _ ⟨hx7, hI8, hL9⟩
  have hx7 := hx7.symm; subst hx7
  have hI8 := hI8.symm; subst hI8; have hL9 := hL9.symm; subst hL9
  refine k_if_eq C (t := 36) rfl rfl rfl (fun c13 => ?_) (fun c13 => ?_)
  · skip
    exact absurd c13 (inN ⟨(n_le (a := 0) (b := r) (by omega) (by omega)).mpr (by omega), (n_le (a := r) (b := 12) (by omega) (by omega)).mpr (by omega)⟩)
  refine k_iload_n C rfl rfl rfl ?_
  refine k_iconst C (x := 1) rfl rfl rfl ?_
  refine k_bipush C (x := 8) rfl rfl rfl ?_
  refine c_SI C e_in rfl rfl rfl rfl rfl rfl rfl (Nat.le_of_ble_eq_true rfl) (Nat.le_of_ble_eq_true rfl) (Nat.le_of_ble_eq_true rfl) ?_
  rintro _ _ _ ⟨hx7, hI8, hL9⟩
  have hx7 := hx7.symm; subst hx7
  have hI8 := hI8.symm; subst hI8; have hL9 := hL9.symm; subst hL9
  refine k_if_eq C (t := 36) rfl rfl rfl (fun c23 => ?_) (fun c23 => ?_)
  · skip
    exact absurd c23 (inN ⟨(n_le (a := 1) (b := e) (by omega) (by omega)).mpr (by omega), (n_le (a := e) (b := 8) (by omega) (by omega)).mpr (by omega)⟩)
  refine k_iload_n C rfl rfl rfl ?_
  refine k_iconst C (x := 0) rfl rfl rfl ?_
  refine k_bipush C (x := 96) rfl rfl rfl ?_
  refine c_SI C e_in rfl rfl rfl rfl rfl rfl rfl (Nat.le_of_ble_eq_true rfl) (Nat.le_of_ble_eq_true rfl) (Nat.le_of_ble_eq_true rfl) ?_
  rintro _ _ _ ⟨hx7, hI8, hL9⟩
  have hx7 := hx7.symm; subst hx7
  have hI8 := hI8.symm; subst hI8; have hL9 := hL9.symm; subst hL9
  refine k_if_ne C (t := 40) rfl rfl rfl (fun c33 => ?_) (fun c33 => ?_)
  · skip
    refine k_iconst C (x := 0) rfl rfl rfl ?_
    refine k_iconst C (x := 1) rfl rfl rfl ?_
    refine c_VI C (e_throwsIf0 T_m rfl) rfl rfl rfl rfl rfl ⟨_, rfl, rfl, T_m, Nat.le_of_ble_eq_true rfl⟩ rfl rfl (Nat.le_of_ble_eq_true rfl) (Nat.le_of_ble_eq_true rfl) (Nat.le_of_ble_eq_true rfl) ?_
    rintro _ _ _ ⟨hx7, hI8, hL9⟩
    have hx7 := hx7.symm; subst hx7
    have hI8 := hI8.symm; subst hI8; have hL9 := hL9.symm; subst hL9
    refine k_if_eq C (t := 50) rfl rfl rfl (fun _ => ?_) (fun c45 => absurd (by decide) c45)
    refine k_iload_n C rfl rfl rfl ?_
    refine k_iload_n C rfl rfl rfl ?_
    refine k_imul C rfl rfl ?_
    refine k_iload_n C rfl rfl rfl ?_
    refine k_isub C rfl rfl ?_
    rw [n_mul]
    refine k_istore C (lw := [(4, .int _), (0, _), (1, .int _), (2, .int _), (3, .int _)]) rfl rfl (Nat.le_of_ble_eq_true rfl) rfl ?_
    refine k_iload C rfl rfl rfl ?_
    refine k_if_lt C (t := 69) rfl rfl rfl (fun c59 => ?_) (fun c59 => ?_)
    · skip
      rw [n_sub hge] at c59; exact absurd c59 (n_nn (by omega))
    refine k_iload C rfl rfl rfl ?_
    rw [n_sub hge]
    refine k_iconst C (x := 2) rfl rfl rfl ?_
    refine k_irem C rfl rfl (by decide) ?_
    rw [n_rem2 (by omega)]
    refine k_if_eq C (t := 73) rfl rfl rfl (fun c66 => ?_) (fun c66 => ?_)
    · skip
      refine k_aload_n C rfl rfl rfl ?_
      refine k_iload C rfl rfl rfl ?_
      refine k_iconst C (x := 2) rfl rfl rfl ?_
      refine k_idiv C rfl rfl (by decide) ?_
      rw [n_div2 (by omega)]
      refine k_iload_n C rfl rfl rfl ?_
      refine k_iload_n C rfl rfl rfl ?_
      refine c_VL C (e_m_ways_nat T_m R_m_21 T_wy N_wy A_wy (w := (e * r - n) / 2) rfl rfl rfl (by omega) hr9 he) rfl rfl rfl rfl rfl ⟨_, rfl, rfl, T_m, Nat.le_of_ble_eq_true rfl⟩ rfl rfl (Nat.le_of_ble_eq_true rfl) (Nat.le_of_ble_eq_true rfl) (Nat.le_of_ble_eq_true rfl) ?_
      rintro _ _ L1 ⟨rfl, hI8, hF1⟩
      have hI8 := hI8.symm; subst hI8
      refine k_aload_n C rfl rfl rfl ?_
      refine k_iload C rfl rfl rfl ?_
      refine k_iconst C (x := 2) rfl rfl rfl ?_
      refine k_idiv C rfl rfl (by decide) ?_
      rw [n_div2 (by omega)]
      refine k_iconst C (x := 1) rfl rfl rfl ?_
      refine k_isub C rfl rfl ?_
      rw [show (1 : Int32) = Int32.ofNat 1 from rfl, n_sub (by omega)]
      refine k_iload_n C rfl rfl rfl ?_
      refine k_iload_n C rfl rfl rfl ?_
      refine c_VL C (e_m_ways_nat T_m R_m_21 T_wy N_wy A_wy (w := (e * r - n) / 2 - 1) rfl rfl rfl (by omega) hr9 he) rfl rfl rfl rfl rfl ⟨_, rfl, rfl, T_m, Nat.le_of_ble_eq_true rfl⟩ rfl rfl (Nat.le_of_ble_eq_true rfl) (Nat.le_of_ble_eq_true rfl) (Nat.le_of_ble_eq_true rfl) ?_
      rintro _ _ L2 ⟨rfl, hI8, hF2⟩
      have hI8 := hI8.symm; subst hI8
      refine k_lsub C rfl rfl ?_
      exact k_lret C rfl rfl (Nat.le_of_ble_eq_true rfl) (Nat.le_of_ble_eq_true rfl) ⟨_, _, _, rfl, rfl, ⟨rfl, Fr.tr (Fr.i Fr.rf A_m) (Fr.tr hF1 hF2), u2_s, (by first | exact IKm.i IKm.rf | exact IKm.i (IKm.i IKm.rf))⟩⟩
    rw [hev] at c66; exact absurd rfl c66
  exact absurd (inN ⟨(n_le (a := 0) (b := n) (by omega) (by omega)).mpr (by omega), (n_le (a := n) (b := 96) (by omega) (by omega)).mpr (by omega)⟩) c33
end
-- 39.34.red.lean.txt
section
/-! WHOLE FORMS are reduced: the state as eight longs -/
abbrev S8 : Type := Nat → Int64
def nOf (s : S8) : Int64 := Int64.ofInt ((s 0 - s 1).toInt / (2 * s 0).toInt)
def shS (s : S8) : S8 := fun k => match k with
  | 0 => s 0
  | 1 => s 1 + 2 * s 0 * nOf s
  | 2 => s 2 + nOf s * (s 0 * nOf s + s 1)
  | 3 => s 3 + 1
  | 4 => s 4
  | 5 => s 5 + nOf s * s 4
  | 6 => s 6
  | 7 => s 7 + nOf s * s 6
  | _ => 0
def swS (s : S8) : S8 := fun k => match k with
  | 0 => s 2
  | 1 => -s 1
  | 2 => s 0
  | 3 => s 3 + 1
  | 4 => s 5
  | 5 => -s 4
  | 6 => s 7
  | 7 => -s 6
  | _ => 0
def wide (s : S8) : Prop := s 0 < s 1 ∨ s 1 ≤ -s 0
def turned (s : S8) : Prop := s 2 < s 0 ∨ (s 0 = s 2 ∧ s 1 < 0)
def wideD (s : S8) : Decidable (wide s) := inferInstanceAs (Decidable (s 0 < s 1 ∨ s 1 ≤ -s 0))
def turnedD (s : S8) : Decidable (turned s) := inferInstanceAs (Decidable (s 2 < s 0 ∨ (s 0 = s 2 ∧ s 1 < 0)))
def sh1 (s : S8) : S8 := @ite _ (wide s) (wideD s) (shS s) s
def sw1 (s : S8) : S8 := @ite _ (turned s) (turnedD s) (swS s) s
def red (s : S8) : Prop := ¬ wide s ∧ ¬ turned s
def redD (s : S8) : Decidable (red s) := @instDecidableAnd _ _ (@instDecidableNot _ (wideD s)) (@instDecidableNot _ (turnedD s))
def run : Nat → S8 → S8
  | 0, s => s
  | n + 1, s => @ite _ (red s) (redD s) s (run n (sw1 (sh1 s)))
theorem run_done {s : S8} (h : red s) : ∀ n, run n s = s
  | 0 => rfl
  | n + 1 => by unfold run; rw [if_pos h]
theorem run_step {s : S8} (h : ¬ red s) (n : Nat) : run (n + 1) s = run n (sw1 (sh1 s)) := by
  show @ite _ (red s) (redD s) s (run n (sw1 (sh1 s))) = _
  rw [if_neg h]
theorem sh1_y {s : S8} (h : wide s) : sh1 s = shS s := by unfold sh1; rw [if_pos h]
theorem sh1_n {s : S8} (h : ¬ wide s) : sh1 s = s := by unfold sh1; rw [if_neg h]
theorem sw1_y {s : S8} (h : turned s) : sw1 s = swS s := by unfold sw1; rw [if_pos h]
theorem sw1_n {s : S8} (h : ¬ turned s) : sw1 s = s := by unfold sw1; rw [if_neg h]
theorem bdm {x y X Y : Int} (hx : -X ≤ x ∧ x ≤ X) (hy : -Y ≤ y ∧ y ≤ Y) : -(X * Y) ≤ x * y ∧ x * y ≤ X * Y := by
  have h1 : x.natAbs ≤ X.toNat := by omega
  have h2 : y.natAbs ≤ Y.toNat := by omega
  have h3 : (x * y).natAbs ≤ X.toNat * Y.toNat := by rw [Int.natAbs_mul]; exact Nat.mul_le_mul h1 h2
  have h4 : ((X.toNat * Y.toNat : Nat) : Int) = X * Y := by rw [Int.natCast_mul, Int.toNat_of_nonneg (by omega), Int.toNat_of_nonneg (by omega)]
  omega
/-- bounds that hold all along -/
def JJ (K : Int) (s : S8) : Prop := (1 ≤ (s 0).toInt ∧ (s 0).toInt ≤ 999) ∧ (-999 ≤ (s 1).toInt ∧ (s 1).toInt ≤ 999) ∧ (1 ≤ (s 2).toInt ∧ (s 2).toInt ≤ 2000000) ∧ (s 1).toInt * (s 1).toInt - 4 * ((s 0).toInt * (s 2).toInt) = -K
theorem sq_bd {x X : Int} (h : -X ≤ x ∧ x ≤ X) : 0 ≤ x * x ∧ x * x ≤ X * X := ⟨by rcases Int.le_total 0 x with q | q; exact Int.mul_nonneg q q; exact Int.mul_nonneg_of_nonpos_of_nonpos q q, (bdm h h).2⟩
theorem two_mul_int {x : Int64} (h : -1000000 ≤ x.toInt ∧ x.toInt ≤ 1000000) : (2 * x).toInt = 2 * x.toInt := li_mul (by show _ ≤ (2 : Int) * _ ∧ (2 : Int) * _ < _; omega)
theorem nOf_int {K : Int} {s : S8} (h : JJ K s) : (nOf s).toInt = ((s 0).toInt - (s 1).toInt) / (2 * (s 0).toInt) ∧ -2000 ≤ (nOf s).toInt ∧ (nOf s).toInt ≤ 2000 := by
  obtain ⟨h0, h1, h2, h3⟩ := h
  have e1 : (s 0 - s 1).toInt = (s 0).toInt - (s 1).toInt := li_sub (by omega)
  have e2 : (2 * s 0).toInt = 2 * (s 0).toInt := two_mul_int (by omega)
  have b1 : -2000 ≤ ((s 0).toInt - (s 1).toInt) / (2 * (s 0).toInt) := Int.le_ediv_of_mul_le (by omega) (by omega)
  have b2 : ((s 0).toInt - (s 1).toInt) / (2 * (s 0).toInt) < 2000 := Int.ediv_lt_of_lt_mul (by omega) (by omega)
  have e3 : (nOf s).toInt = ((s 0).toInt - (s 1).toInt) / (2 * (s 0).toInt) := by
    unfold nOf; rw [e1, e2, Int64.toInt_ofInt_of_le (by omega) (by omega)]
  omega
theorem sh_int {K : Int} (hK : 0 < K ∧ K ≤ 4000000) {s : S8} (h : JJ K s) : JJ K (shS s) ∧ (shS s 0).toInt = (s 0).toInt ∧ -(s 0).toInt < (shS s 1).toInt ∧ (shS s 1).toInt ≤ (s 0).toInt := by
  obtain ⟨n1, n2, n3⟩ := nOf_int h
  obtain ⟨h0, h1, h2, h3⟩ := h
  have hn := Int.mul_ediv_add_emod ((s 0).toInt - (s 1).toInt) (2 * (s 0).toInt)
  have hr1 := Int.emod_nonneg ((s 0).toInt - (s 1).toInt) (show 2 * (s 0).toInt ≠ 0 by omega)
  have hr2 := Int.emod_lt_of_pos ((s 0).toInt - (s 1).toInt) (show 0 < 2 * (s 0).toInt by omega)
  rw [← n1] at hn
  generalize ((s 0).toInt - (s 1).toInt) % (2 * (s 0).toInt) = r at hn hr1 hr2
  generalize hnn : nOf s = n at n1 n2 n3 hn
  have e2 : (2 * s 0).toInt = 2 * (s 0).toInt := two_mul_int (by omega)
  have m1 := bdm (x := 2 * (s 0).toInt) (y := n.toInt) (X := 2000) (Y := 2000) (by omega) (by omega)
  have e3 : (2 * s 0 * n).toInt = 2 * (s 0).toInt * n.toInt := by rw [li_mul (by rw [e2]; omega), e2]
  have hb : (s 1 + 2 * s 0 * n).toInt = (s 1).toInt + 2 * (s 0).toInt * n.toInt := by rw [li_add (by rw [e3]; omega), e3]
  have m2 := bdm (x := (s 0).toInt) (y := n.toInt) (X := 1000) (Y := 2000) (by omega) (by omega)
  have e4 : (s 0 * n).toInt = (s 0).toInt * n.toInt := li_mul (by omega)
  have e5 : (s 0 * n + s 1).toInt = (s 0).toInt * n.toInt + (s 1).toInt := by rw [li_add (by rw [e4]; omega), e4]
  have m3 := bdm (x := n.toInt) (y := (s 0).toInt * n.toInt + (s 1).toInt) (X := 2000) (Y := 2001000) (by omega) (by omega)
  have e6 : (n * (s 0 * n + s 1)).toInt = n.toInt * ((s 0).toInt * n.toInt + (s 1).toInt) := by rw [li_mul (by rw [e5]; omega), e5]
  have hc : (s 2 + n * (s 0 * n + s 1)).toInt = (s 2).toInt + n.toInt * ((s 0).toInt * n.toInt + (s 1).toInt) := by rw [li_add (by rw [e6]; omega), e6]
  have b0 : shS s 0 = s 0 := rfl
  have b1 : shS s 1 = s 1 + 2 * s 0 * n := by rw [← hnn]; rfl
  have b2 : shS s 2 = s 2 + n * (s 0 * n + s 1) := by rw [← hnn]; rfl
  have hdisc : ((s 1).toInt + 2 * (s 0).toInt * n.toInt) * ((s 1).toInt + 2 * (s 0).toInt * n.toInt) - 4 * ((s 0).toInt * ((s 2).toInt + n.toInt * ((s 0).toInt * n.toInt + (s 1).toInt))) = -K := by
    rw [← h3]; grind
  have hbb : -(s 0).toInt < (s 1).toInt + 2 * (s 0).toInt * n.toInt ∧ (s 1).toInt + 2 * (s 0).toInt * n.toInt ≤ (s 0).toInt := by omega
  have sq := sq_bd (x := (s 1).toInt + 2 * (s 0).toInt * n.toInt) (X := 999) (by omega)
  have hc1 : 1 ≤ (s 2).toInt + n.toInt * ((s 0).toInt * n.toInt + (s 1).toInt) := by
    rcases Int.lt_or_le 0 ((s 2).toInt + n.toInt * ((s 0).toInt * n.toInt + (s 1).toInt)) with q | q
    · omega
    · have := Int.mul_nonpos_of_nonneg_of_nonpos (show 0 ≤ (s 0).toInt by omega) q
      omega
  have hc2 : (s 2).toInt + n.toInt * ((s 0).toInt * n.toInt + (s 1).toInt) ≤ 2000000 := by
    have := Int.mul_le_mul_of_nonneg_right (show 1 ≤ (s 0).toInt by omega) (show 0 ≤ (s 2).toInt + n.toInt * ((s 0).toInt * n.toInt + (s 1).toInt) by omega)
    omega
  refine ⟨⟨?_, ?_, ?_, ?_⟩, ?_, ?_, ?_⟩
  · rw [b0]; exact h0
  · rw [b1, hb]; omega
  · rw [b2, hc]; exact ⟨hc1, hc2⟩
  · rw [b0, b1, b2, hb, hc]; exact hdisc
  · rw [b0]
  · rw [b1, hb]; exact hbb.1
  · rw [b1, hb]; exact hbb.2
theorem neg_int {x : Int64} (h : -3000000 ≤ x.toInt ∧ x.toInt ≤ 3000000) : (-x).toInt = -x.toInt := by
  rw [Int64.toInt_neg]; exact Int.bmod_eq_of_le (by omega) (by omega)
theorem wide_int {K : Int} {s : S8} (h : JJ K s) : wide s ↔ ((s 0).toInt < (s 1).toInt ∨ (s 1).toInt ≤ -(s 0).toInt) := by
  unfold wide; rw [l_lt, l_le, neg_int (by have := h.1; omega)]
theorem turned_int {s : S8} : turned s ↔ ((s 2).toInt < (s 0).toInt ∨ ((s 0).toInt = (s 2).toInt ∧ (s 1).toInt < 0)) := by
  unfold turned; rw [l_lt, l_lt, ← Int64.toInt_inj]; rfl
theorem stp_int {K : Int} (hK : 0 < K ∧ K ≤ 4000000) {s : S8} (h : JJ K s) (hr : ¬ red s) : JJ K (sh1 s) ∧ JJ K (sw1 (sh1 s)) ∧ (red (sw1 (sh1 s)) ∨ (sw1 (sh1 s) 0).toInt < (s 0).toInt) := by
  have h1 : JJ K (sh1 s) ∧ (sh1 s 0).toInt = (s 0).toInt ∧ -(s 0).toInt < (sh1 s 1).toInt ∧ (sh1 s 1).toInt ≤ (s 0).toInt := by
    by_cases hw : wide s
    · rw [sh1_y hw]; exact sh_int hK h
    · rw [sh1_n hw]
      have hq : ¬ ((s 0).toInt < (s 1).toInt ∨ (s 1).toInt ≤ -(s 0).toInt) := fun q => hw ((wide_int h).mpr q)
      exact ⟨h, rfl, by omega, by omega⟩
  obtain ⟨j1, a1, b1, b2⟩ := h1
  refine ⟨j1, ?_⟩
  generalize sh1 s = u at j1 a1 b1 b2
  have hnw : ¬ wide u := fun q => by have := (wide_int j1).mp q; omega
  by_cases ht : turned u
  · rw [sw1_y ht]
    obtain ⟨k0, k1, k2, k3⟩ := j1
    have e0 : swS u 0 = u 2 := rfl
    have e1 : swS u 1 = -u 1 := rfl
    have e2 : swS u 2 = u 0 := rfl
    have en : (-u 1).toInt = -(u 1).toInt := neg_int (by omega)
    have ht2 := turned_int.mp ht
    have hj : JJ K (swS u) := by
      refine ⟨?_, ?_, ?_, ?_⟩
      · rw [e0]; omega
      · rw [e1, en]; omega
      · rw [e2]; omega
      · rw [e0, e1, e2, en, Int.neg_mul_neg, Int.mul_comm (u 2).toInt]; exact k3
    refine ⟨hj, ?_⟩
    rcases Int.lt_or_le (u 2).toInt (u 0).toInt with q | q
    · right; rw [e0]; omega
    · left
      refine ⟨fun w => ?_, fun w => ?_⟩
      · have := (wide_int hj).mp w
        rw [e0, e1, en] at this; omega
      · have := turned_int.mp w
        rw [e0, e1, e2, en] at this; omega
  · rw [sw1_n ht]; exact ⟨j1, Or.inl ⟨hnw, ht⟩⟩
theorem c_ring (a b c n : Int64) : a * n * n + b * n + c = c + n * (a * n + b) := by grind
theorem j1_ring (x y n : Int64) : x * n + y * 1 = y + n * x := by grind
theorem j0_ring (x y : Int64) : x * 1 + y * 0 = x := by grind
theorem s0_ring (x y : Int64) : x * 0 + y * 1 = y := by grind
theorem s1_ring (x y : Int64) : x * (-1) + y * 0 = -x := by grind
end
-- 39.35.red.lean.txt
section
/-! WHOLE FORMS in the class -/
def smS (g : Nat → Int64) (s : S8) : Prop := ∀ k, k < 8 → g k = s k
theorem lt_of_ne {x y : Int64} (h : ¬ x < y) (hn : ¬ x = y) : y < x := by
  rw [l_lt] at h ⊢
  have : x.toInt ≠ y.toInt := fun e => hn (Int64.toInt_inj.mp e)
  omega
theorem e_isReduced {d : Nat} {T N : Nat → Nat} {I : IT} {L : LT} {R : RT} {wh : Nat}{s : S8} (T_wh : T wh = 11) (J_wh_0 : L wh 0 = s 0) (J_wh_1 : L wh 1 = s 1) (J_wh_2 : L wh 2 = s 2) : Ex (d + 1) 112 [.ref wh] (T, N, I, L, R) 0 0 (pI T N R (fun x9 I9 L9 => x9 = (@ite _ (red s) (redD s) (1 : Int32) 0) ∧ I9 = I ∧ L9 = L)) := by
  refine ⟨_, rfl, Nat.le_of_ble_eq_true rfl, fun V C S => ?_⟩
  show V 0 [(0, .ref wh)] [] (T, N, I, L, R) 0 0
  refine k_aload_n C rfl rfl rfl ?_
  refine g_L C rfl rfl rfl T_wh rfl (J_wh_1) ?_
  refine k_aload_n C rfl rfl rfl ?_
  refine g_L C rfl rfl rfl T_wh rfl (J_wh_0) ?_
  refine k_lcmp C rfl rfl ?_
  refine k_if_gt C (t := 62) rfl rfl rfl (fun c9 => ?_) (fun c9 => ?_)
  · skip
    have q : ¬ red s := fun h => h.1 (Or.inl ((lg_cmp_gt _ _).mp c9))
    refine k_iconst C (x := 0) rfl rfl rfl ?_
    exact k_iret C rfl (Or.inr ⟨rfl, by first | exact Or.inl rfl | exact Or.inr rfl⟩) (Nat.le_of_ble_eq_true rfl) (Nat.le_of_ble_eq_true rfl) ⟨_, _, _, rfl, rfl, ⟨by first | exact (if_pos q).symm | exact (if_neg q).symm, rfl, rfl⟩⟩
  refine k_aload_n C rfl rfl rfl ?_
  refine g_L C rfl rfl rfl T_wh rfl (J_wh_1) ?_
  refine k_aload_n C rfl rfl rfl ?_
  refine g_L C rfl rfl rfl T_wh rfl (J_wh_0) ?_
  refine k_lneg C rfl rfl ?_
  refine k_lcmp C rfl rfl ?_
  refine k_if_le C (t := 62) rfl rfl rfl (fun c22 => ?_) (fun c22 => ?_)
  · skip
    have q : ¬ red s := fun h => h.1 (Or.inr ((lg_cmp_le _ _).mp c22))
    refine k_iconst C (x := 0) rfl rfl rfl ?_
    exact k_iret C rfl (Or.inr ⟨rfl, by first | exact Or.inl rfl | exact Or.inr rfl⟩) (Nat.le_of_ble_eq_true rfl) (Nat.le_of_ble_eq_true rfl) ⟨_, _, _, rfl, rfl, ⟨by first | exact (if_pos q).symm | exact (if_neg q).symm, rfl, rfl⟩⟩
  have qw : ¬ wide s := fun h => h.elim (fun h => c9 ((lg_cmp_gt _ _).mpr h)) (fun h => c22 ((lg_cmp_le _ _).mpr h))
  refine k_aload_n C rfl rfl rfl ?_
  refine g_L C rfl rfl rfl T_wh rfl (J_wh_0) ?_
  refine k_aload_n C rfl rfl rfl ?_
  refine g_L C rfl rfl rfl T_wh rfl (J_wh_2) ?_
  refine k_lcmp C rfl rfl ?_
  refine k_if_lt C (t := 58) rfl rfl rfl (fun c34 => ?_) (fun c34 => ?_)
  · skip
    have q : red s := ⟨qw, fun h => h.elim (fun h => absurd ((lg_cmp_lt _ _).mp c34) (fun e => Int64.lt_irrefl (Int64.lt_trans e h))) (fun h => absurd ((lg_cmp_lt _ _).mp c34) (by rw [h.1]; exact Int64.lt_irrefl))⟩
    refine k_iconst C (x := 1) rfl rfl rfl ?_
    refine k_goto C (pc2 := 63) rfl rfl ?_
    exact k_iret C rfl (Or.inr ⟨rfl, by first | exact Or.inl rfl | exact Or.inr rfl⟩) (Nat.le_of_ble_eq_true rfl) (Nat.le_of_ble_eq_true rfl) ⟨_, _, _, rfl, rfl, ⟨by first | exact (if_pos q).symm | exact (if_neg q).symm, rfl, rfl⟩⟩
  refine k_aload_n C rfl rfl rfl ?_
  refine g_L C rfl rfl rfl T_wh rfl (J_wh_0) ?_
  refine k_aload_n C rfl rfl rfl ?_
  refine g_L C rfl rfl rfl T_wh rfl (J_wh_2) ?_
  refine k_lcmp C rfl rfl ?_
  refine k_if_ne C (t := 62) rfl rfl rfl (fun c46 => ?_) (fun c46 => ?_)
  · skip
    have q : ¬ red s := fun h => (c46 ((lg_cmp_eq _ _).mpr (Decidable.byContradiction (fun e => h.2 (Or.inl (lt_of_ne (fun x => c34 ((lg_cmp_lt _ _).mpr x)) e))))))
    refine k_iconst C (x := 0) rfl rfl rfl ?_
    exact k_iret C rfl (Or.inr ⟨rfl, by first | exact Or.inl rfl | exact Or.inr rfl⟩) (Nat.le_of_ble_eq_true rfl) (Nat.le_of_ble_eq_true rfl) ⟨_, _, _, rfl, rfl, ⟨by first | exact (if_pos q).symm | exact (if_neg q).symm, rfl, rfl⟩⟩
  have e46 := (lg_cmp_eq _ _).mp (Decidable.not_not.mp c46)
  refine k_aload_n C rfl rfl rfl ?_
  refine g_L C rfl rfl rfl T_wh rfl (J_wh_1) ?_
  refine k_lconst C (x := 0) rfl rfl rfl ?_
  refine k_lcmp C rfl rfl ?_
  refine k_if_lt C (t := 62) rfl rfl rfl (fun c55 => ?_) (fun c55 => ?_)
  · skip
    have q : ¬ red s := fun h => h.2 (Or.inr ⟨e46, (lg_cmp_lt _ _).mp c55⟩)
    refine k_iconst C (x := 0) rfl rfl rfl ?_
    exact k_iret C rfl (Or.inr ⟨rfl, by first | exact Or.inl rfl | exact Or.inr rfl⟩) (Nat.le_of_ble_eq_true rfl) (Nat.le_of_ble_eq_true rfl) ⟨_, _, _, rfl, rfl, ⟨by first | exact (if_pos q).symm | exact (if_neg q).symm, rfl, rfl⟩⟩
  have q : red s := ⟨qw, fun h => h.elim (fun h => absurd h (by rw [e46]; exact Int64.lt_irrefl)) (fun h => c55 ((lg_cmp_lt _ _).mpr h.2))⟩
  refine k_iconst C (x := 1) rfl rfl rfl ?_
  refine k_goto C (pc2 := 63) rfl rfl ?_
  exact k_iret C rfl (Or.inr ⟨rfl, by first | exact Or.inl rfl | exact Or.inr rfl⟩) (Nat.le_of_ble_eq_true rfl) (Nat.le_of_ble_eq_true rfl) ⟨_, _, _, rfl, rfl, ⟨by first | exact (if_pos q).symm | exact (if_neg q).symm, rfl, rfl⟩⟩

theorem e_shift {d : Nat} {T N : Nat → Nat} {I : IT} {L : LT} {R : RT} {A : Nat → Prop} {wh : Nat}{s : S8} (T_wh : T wh = 11) (A_wh : A wh) (J_wh_0 : L wh 0 = s 0) (J_wh_1 : L wh 1 = s 1) (J_wh_2 : L wh 2 = s 2) (J_wh_3 : L wh 3 = s 3) (J_wh_4 : L wh 4 = s 4) (J_wh_5 : L wh 5 = s 5) (J_wh_6 : L wh 6 = s 6) (J_wh_7 : L wh 7 = s 7) {K : Int} (hJ : JJ K s) : Ex (d + 2) 114 [.ref wh] (T, N, I, L, R) 0 0 (pV T N R (fun I9 L9 => I9 = I ∧ Fr A I L I9 L9 ∧ smS (L9 wh) (shS s))) := by
  refine ⟨_, rfl, Nat.le_of_ble_eq_true rfl, fun V C S => ?_⟩
  show V 0 [(0, .ref wh)] [] (T, N, I, L, R) 0 0
  refine k_aload_n C rfl rfl rfl ?_
  refine g_L C rfl rfl rfl T_wh rfl (J_wh_0) ?_
  refine k_lconst C (x := 0) rfl rfl rfl ?_
  refine k_lcmp C rfl rfl ?_
  refine k_if_gt C (t := 10) rfl rfl rfl (fun c6 => ?_) (fun c6 => ?_)
  · skip
    refine k_aload_n C rfl rfl rfl ?_
    refine g_L C rfl rfl rfl T_wh rfl (J_wh_0) ?_
    refine k_aload_n C rfl rfl rfl ?_
    refine g_L C rfl rfl rfl T_wh rfl (J_wh_1) ?_
    refine k_lsub C rfl rfl ?_
    refine k_ldc2_w C rfl rfl rfl ?_
    refine k_aload_n C rfl rfl rfl ?_
    refine g_L C rfl rfl rfl T_wh rfl (J_wh_0) ?_
    refine k_lmul C rfl rfl ?_
    refine c_SL C (e_fdL  (by rw [two_mul_int (by have := hJ.1; omega)]; have := hJ.1; omega)) rfl rfl rfl rfl rfl rfl rfl (Nat.le_of_ble_eq_true rfl) (Nat.le_of_ble_eq_true rfl) (Nat.le_of_ble_eq_true rfl) ?_
    rintro x27 _ _ ⟨hI8, hL9, h27⟩
    have hI8 := hI8.symm; subst hI8; have hL9 := hL9.symm; subst hL9
    have e27 : x27 = nOf s := by unfold nOf; rw [← h27, Int64.ofInt_toInt]
    subst e27
    refine k_lstore_n C (lw := [(1, .long _), (0, _)]) rfl rfl (Nat.le_of_ble_eq_true rfl) rfl ?_
    refine k_aload_n C rfl rfl rfl ?_
    refine k_dup C rfl rfl rfl ?_
    refine g_L C rfl rfl rfl T_wh rfl (J_wh_2) ?_
    refine k_lload_n C rfl rfl rfl ?_
    refine k_aload_n C rfl rfl rfl ?_
    refine g_L C rfl rfl rfl T_wh rfl (J_wh_0) ?_
    refine k_lload_n C rfl rfl rfl ?_
    refine k_lmul C rfl rfl ?_
    refine k_aload_n C rfl rfl rfl ?_
    refine g_L C rfl rfl rfl T_wh rfl (J_wh_1) ?_
    refine k_ladd C rfl rfl ?_
    refine k_lmul C rfl rfl ?_
    refine k_ladd C rfl rfl ?_
    refine p_L C rfl rfl rfl T_wh (Or.inr rfl) rfl ?_
    refine k_aload_n C rfl rfl rfl ?_
    refine k_dup C rfl rfl rfl ?_
    refine g_L C rfl rfl rfl T_wh rfl ((u2_k (by decide)).trans (J_wh_1)) ?_
    refine k_ldc2_w C rfl rfl rfl ?_
    refine k_aload_n C rfl rfl rfl ?_
    refine g_L C rfl rfl rfl T_wh rfl ((u2_k (by decide)).trans (J_wh_0)) ?_
    refine k_lmul C rfl rfl ?_
    refine k_lload_n C rfl rfl rfl ?_
    refine k_lmul C rfl rfl ?_
    refine k_ladd C rfl rfl ?_
    refine p_L C rfl rfl rfl T_wh (Or.inr rfl) rfl ?_
    refine k_aload_n C rfl rfl rfl ?_
    refine k_dup C rfl rfl rfl ?_
    refine g_L C rfl rfl rfl T_wh rfl ((u2_k (by decide)).trans ((u2_k (by decide)).trans (J_wh_5))) ?_
    refine k_lload_n C rfl rfl rfl ?_
    refine k_aload_n C rfl rfl rfl ?_
    refine g_L C rfl rfl rfl T_wh rfl ((u2_k (by decide)).trans ((u2_k (by decide)).trans (J_wh_4))) ?_
    refine k_lmul C rfl rfl ?_
    refine k_ladd C rfl rfl ?_
    refine p_L C rfl rfl rfl T_wh (Or.inr rfl) rfl ?_
    refine k_aload_n C rfl rfl rfl ?_
    refine k_dup C rfl rfl rfl ?_
    refine g_L C rfl rfl rfl T_wh rfl ((u2_k (by decide)).trans ((u2_k (by decide)).trans ((u2_k (by decide)).trans (J_wh_7)))) ?_
    refine k_lload_n C rfl rfl rfl ?_
    refine k_aload_n C rfl rfl rfl ?_
    refine g_L C rfl rfl rfl T_wh rfl ((u2_k (by decide)).trans ((u2_k (by decide)).trans ((u2_k (by decide)).trans (J_wh_6)))) ?_
    refine k_lmul C rfl rfl ?_
    refine k_ladd C rfl rfl ?_
    refine p_L C rfl rfl rfl T_wh (Or.inr rfl) rfl ?_
    refine k_aload_n C rfl rfl rfl ?_
    refine k_dup C rfl rfl rfl ?_
    refine g_L C rfl rfl rfl T_wh rfl ((u2_k (by decide)).trans ((u2_k (by decide)).trans ((u2_k (by decide)).trans ((u2_k (by decide)).trans (J_wh_3))))) ?_
    refine k_lconst C (x := 1) rfl rfl rfl ?_
    refine k_ladd C rfl rfl ?_
    refine p_L C rfl rfl rfl T_wh (Or.inr rfl) rfl ?_
    exact k_vret C rfl rfl (Nat.le_of_ble_eq_true rfl) (Nat.le_of_ble_eq_true rfl) ⟨_, _, rfl, rfl, ⟨rfl, (Fr.l (Fr.l (Fr.l (Fr.l (Fr.l Fr.rf A_wh) A_wh) A_wh) A_wh) A_wh), fun k hk => match k, hk with | 0, _ => (u2_k (by decide)).trans ((u2_k (by decide)).trans ((u2_k (by decide)).trans ((u2_k (by decide)).trans ((u2_k (by decide)).trans (J_wh_0))))) | 1, _ => (u2_k (by decide)).trans ((u2_k (by decide)).trans ((u2_k (by decide)).trans (u2_s))) | 2, _ => (u2_k (by decide)).trans ((u2_k (by decide)).trans ((u2_k (by decide)).trans ((u2_k (by decide)).trans (u2_s)))) | 3, _ => u2_s | 4, _ => (u2_k (by decide)).trans ((u2_k (by decide)).trans ((u2_k (by decide)).trans ((u2_k (by decide)).trans ((u2_k (by decide)).trans (J_wh_4))))) | 5, _ => (u2_k (by decide)).trans ((u2_k (by decide)).trans (u2_s)) | 6, _ => (u2_k (by decide)).trans ((u2_k (by decide)).trans ((u2_k (by decide)).trans ((u2_k (by decide)).trans ((u2_k (by decide)).trans (J_wh_6))))) | 7, _ => (u2_k (by decide)).trans (u2_s) | k + 8, hk => absurd hk (by omega)⟩⟩
  exact absurd ((lg_cmp_gt _ _).mpr (l_lt.mpr (show (0 : Int) < _ by have := hJ.1; omega))) c6

theorem e_swap {d : Nat} {T N : Nat → Nat} {I : IT} {L : LT} {R : RT} {A : Nat → Prop} {wh : Nat}{s : S8} (T_wh : T wh = 11) (A_wh : A wh) (J_wh_0 : L wh 0 = s 0) (J_wh_1 : L wh 1 = s 1) (J_wh_2 : L wh 2 = s 2) (J_wh_3 : L wh 3 = s 3) (J_wh_4 : L wh 4 = s 4) (J_wh_5 : L wh 5 = s 5) (J_wh_6 : L wh 6 = s 6) (J_wh_7 : L wh 7 = s 7) : Ex (d + 1) 115 [.ref wh] (T, N, I, L, R) 0 0 (pV T N R (fun I9 L9 => I9 = I ∧ Fr A I L I9 L9 ∧ smS (L9 wh) (swS s))) := by
  refine ⟨_, rfl, Nat.le_of_ble_eq_true rfl, fun V C S => ?_⟩
  show V 0 [(0, .ref wh)] [] (T, N, I, L, R) 0 0
  refine k_aload_n C rfl rfl rfl ?_
  refine g_L C rfl rfl rfl T_wh rfl (J_wh_0) ?_
  refine k_lstore_n C (lw := [(1, .long _), (0, _)]) rfl rfl (Nat.le_of_ble_eq_true rfl) rfl ?_
  refine k_aload_n C rfl rfl rfl ?_
  refine k_aload_n C rfl rfl rfl ?_
  refine g_L C rfl rfl rfl T_wh rfl (J_wh_2) ?_
  refine p_L C rfl rfl rfl T_wh (Or.inr rfl) rfl ?_
  refine k_aload_n C rfl rfl rfl ?_
  refine k_aload_n C rfl rfl rfl ?_
  refine g_L C rfl rfl rfl T_wh rfl ((u2_k (by decide)).trans (J_wh_1)) ?_
  refine k_lneg C rfl rfl ?_
  refine p_L C rfl rfl rfl T_wh (Or.inr rfl) rfl ?_
  refine k_aload_n C rfl rfl rfl ?_
  refine k_lload_n C rfl rfl rfl ?_
  refine p_L C rfl rfl rfl T_wh (Or.inr rfl) rfl ?_
  refine k_aload_n C rfl rfl rfl ?_
  refine g_L C rfl rfl rfl T_wh rfl ((u2_k (by decide)).trans ((u2_k (by decide)).trans ((u2_k (by decide)).trans (J_wh_4)))) ?_
  refine k_lstore_n C (lw := [(3, .long _), (1, .long _), (0, _)]) rfl rfl (Nat.le_of_ble_eq_true rfl) rfl ?_
  refine k_aload_n C rfl rfl rfl ?_
  refine k_aload_n C rfl rfl rfl ?_
  refine g_L C rfl rfl rfl T_wh rfl ((u2_k (by decide)).trans ((u2_k (by decide)).trans ((u2_k (by decide)).trans (J_wh_5)))) ?_
  refine p_L C rfl rfl rfl T_wh (Or.inr rfl) rfl ?_
  refine k_aload_n C rfl rfl rfl ?_
  refine k_lload_n C rfl rfl rfl ?_
  refine k_lneg C rfl rfl ?_
  refine p_L C rfl rfl rfl T_wh (Or.inr rfl) rfl ?_
  refine k_aload_n C rfl rfl rfl ?_
  refine g_L C rfl rfl rfl T_wh rfl ((u2_k (by decide)).trans ((u2_k (by decide)).trans ((u2_k (by decide)).trans ((u2_k (by decide)).trans ((u2_k (by decide)).trans (J_wh_6)))))) ?_
  refine k_lstore C (lw := [(5, .long _), (3, .long _), (1, .long _), (0, _)]) rfl rfl (Nat.le_of_ble_eq_true rfl) rfl ?_
  refine k_aload_n C rfl rfl rfl ?_
  refine k_aload_n C rfl rfl rfl ?_
  refine g_L C rfl rfl rfl T_wh rfl ((u2_k (by decide)).trans ((u2_k (by decide)).trans ((u2_k (by decide)).trans ((u2_k (by decide)).trans ((u2_k (by decide)).trans (J_wh_7)))))) ?_
  refine p_L C rfl rfl rfl T_wh (Or.inr rfl) rfl ?_
  refine k_aload_n C rfl rfl rfl ?_
  refine k_lload C rfl rfl rfl ?_
  refine k_lneg C rfl rfl ?_
  refine p_L C rfl rfl rfl T_wh (Or.inr rfl) rfl ?_
  refine k_aload_n C rfl rfl rfl ?_
  refine k_dup C rfl rfl rfl ?_
  refine g_L C rfl rfl rfl T_wh rfl ((u2_k (by decide)).trans ((u2_k (by decide)).trans ((u2_k (by decide)).trans ((u2_k (by decide)).trans ((u2_k (by decide)).trans ((u2_k (by decide)).trans ((u2_k (by decide)).trans (J_wh_3)))))))) ?_
  refine k_lconst C (x := 1) rfl rfl rfl ?_
  refine k_ladd C rfl rfl ?_
  refine p_L C rfl rfl rfl T_wh (Or.inr rfl) rfl ?_
  exact k_vret C rfl rfl (Nat.le_of_ble_eq_true rfl) (Nat.le_of_ble_eq_true rfl) ⟨_, _, rfl, rfl, ⟨rfl, (Fr.l (Fr.l (Fr.l (Fr.l (Fr.l (Fr.l (Fr.l (Fr.l Fr.rf A_wh) A_wh) A_wh) A_wh) A_wh) A_wh) A_wh) A_wh), fun k hk => match k, hk with | 0, _ => (u2_k (by decide)).trans ((u2_k (by decide)).trans ((u2_k (by decide)).trans ((u2_k (by decide)).trans ((u2_k (by decide)).trans ((u2_k (by decide)).trans ((u2_k (by decide)).trans (u2_s))))))) | 1, _ => (u2_k (by decide)).trans ((u2_k (by decide)).trans ((u2_k (by decide)).trans ((u2_k (by decide)).trans ((u2_k (by decide)).trans ((u2_k (by decide)).trans (u2_s)))))) | 2, _ => (u2_k (by decide)).trans ((u2_k (by decide)).trans ((u2_k (by decide)).trans ((u2_k (by decide)).trans ((u2_k (by decide)).trans (u2_s))))) | 3, _ => u2_s | 4, _ => (u2_k (by decide)).trans ((u2_k (by decide)).trans ((u2_k (by decide)).trans ((u2_k (by decide)).trans (u2_s)))) | 5, _ => (u2_k (by decide)).trans ((u2_k (by decide)).trans ((u2_k (by decide)).trans (u2_s))) | 6, _ => (u2_k (by decide)).trans ((u2_k (by decide)).trans (u2_s)) | 7, _ => (u2_k (by decide)).trans (u2_s) | k + 8, hk => absurd hk (by omega)⟩⟩

def st0 (a b c : Int32) : S8 := fun k => match k with
  | 0 => a.toInt64
  | 1 => b.toInt64
  | 2 => c.toInt64
  | 4 => 1
  | 7 => 1
  | _ => 0
def okRed (a b c : Int32) : Prop := (-999 ≤ a.toInt ∧ a.toInt ≤ 999) ∧ (-999 ≤ b.toInt ∧ b.toInt ≤ 999) ∧ (-999 ≤ c.toInt ∧ c.toInt ≤ 999) ∧ 0 < a.toInt ∧ b.toInt * b.toInt - 4 * (a.toInt * c.toInt) < 0
theorem st0_J {a b c : Int32} (h : okRed a b c) : JJ (4 * (a.toInt * c.toInt) - b.toInt * b.toInt) (st0 a b c) ∧ 0 < 4 * (a.toInt * c.toInt) - b.toInt * b.toInt ∧ 4 * (a.toInt * c.toInt) - b.toInt * b.toInt ≤ 4000000 := by
  obtain ⟨h1, h2, h3, h4, h5⟩ := h
  have e0 : (st0 a b c 0).toInt = a.toInt := i2l_eq a
  have e1 : (st0 a b c 1).toInt = b.toInt := i2l_eq b
  have e2 : (st0 a b c 2).toInt = c.toInt := i2l_eq c
  have sq := sq_bd h2
  have m := bdm h1 h3
  have hc : 1 ≤ c.toInt := by
    rcases Int.lt_or_le 0 c.toInt with q | q
    · omega
    · have := Int.mul_nonpos_of_nonneg_of_nonpos (show 0 ≤ a.toInt by omega) q
      omega
  refine ⟨⟨?_, ?_, ?_, ?_⟩, by omega, by omega⟩
  · rw [e0]; omega
  · rw [e1]; omega
  · rw [e2]; omega
  · rw [e0, e1, e2]; omega
theorem e_reduce {d : Nat} {T N : Nat → Nat} {I : IT} {L : LT} {R : RT} {A : Nat → Prop} {wh : Nat} {a b c : Int32} (T_wh : T wh = 11) (A_wh : A wh) (hok : okRed a b c) : Ex (d + 3) 116 [.ref wh, .int a, .int b, .int c] (T, N, I, L, R) 0 0 (pV T N R (fun I9 L9 => I9 = I ∧ Fr A I L I9 L9 ∧ smS (L9 wh) (run 1000 (st0 a b c)))) := by
  refine ⟨_, rfl, Nat.le_of_ble_eq_true rfl, fun V C S => ?_⟩
  show V 0 [(0, .ref wh), (1, .int a), (2, .int b), (3, .int c)] [] (T, N, I, L, R) 0 0
  obtain ⟨hJ0, hK⟩ := st0_J hok
  generalize 4 * (a.toInt * c.toInt) - b.toInt * b.toInt = K at hJ0 hK
  have loop : ∀ (n i : Nat) (L1 : LT) (s : S8), JJ K s → (red s ∨ (s 0).toInt ≤ n) → i + n ≤ 5000 → n ≤ 1000 → Fr A I L I L1 → smS (L1 wh) s → (∀ L2, Fr A I L I L2 → smS (L2 wh) (run (n + 1) s) → ∀ x4 : Int32, V 132 [(4, .int x4), (0, .ref wh), (1, .int a), (2, .int b), (3, .int c)] [] (T, N, I, L2, R) 0 0) → V 46 [(4, .int (Int32.ofNat i)), (0, .ref wh), (1, .int a), (2, .int b), (3, .int c)] [] (T, N, I, L1, R) 0 0 := by
    intro n
    induction n with
    | zero =>
      intro i L1 s hJ hd hi hn hF hs Kk
      have hr : red s := hd.elim id (fun h => absurd h (by have := hJ.1; omega))
      refine k_iload C rfl rfl rfl ?_
      refine k_ldc C rfl rfl rfl ?_
      refine k_icmp_ge C (t := 132) rfl rfl rfl (fun c9 => absurd ((n_le (a := 1000000) (b := i) (by omega) (by omega)).mp c9) (by omega)) (fun _ => ?_)
      refine k_aload_n C rfl rfl rfl ?_
      refine c_VI C (e_isReduced (s := s) T_wh (hs 0 (Nat.le_of_ble_eq_true rfl)) (hs 1 (Nat.le_of_ble_eq_true rfl)) (hs 2 (Nat.le_of_ble_eq_true rfl))) rfl rfl rfl rfl rfl ⟨_, rfl, rfl, T_wh, Nat.le_of_ble_eq_true rfl⟩ rfl rfl (Nat.le_of_ble_eq_true rfl) (Nat.le_of_ble_eq_true rfl) (Nat.le_of_ble_eq_true rfl) ?_
      rintro _ _ _ ⟨hx7, hI8, hL9⟩
      have hx7 := hx7.symm; subst hx7
      have hI8 := hI8.symm; subst hI8; have hL9 := hL9.symm; subst hL9
      refine k_if_ne C (t := 132) rfl rfl rfl (fun cc => ?_) (fun cc => ?_)
      · have hr : red s := Classical.byContradiction (fun h => by rw [if_neg h] at cc; exact cc rfl)
        exact Kk L1 hF (by rw [run_done hr]; exact hs) _
      · rw [if_pos hr] at cc
        exact absurd (by decide) cc
    | succ n ih =>
      intro i L1 s hJ hd hi hn hF hs Kk
      refine k_iload C rfl rfl rfl ?_
      refine k_ldc C rfl rfl rfl ?_
      refine k_icmp_ge C (t := 132) rfl rfl rfl (fun c9 => absurd ((n_le (a := 1000000) (b := i) (by omega) (by omega)).mp c9) (by omega)) (fun _ => ?_)
      refine k_aload_n C rfl rfl rfl ?_
      refine c_VI C (e_isReduced (s := s) T_wh (hs 0 (Nat.le_of_ble_eq_true rfl)) (hs 1 (Nat.le_of_ble_eq_true rfl)) (hs 2 (Nat.le_of_ble_eq_true rfl))) rfl rfl rfl rfl rfl ⟨_, rfl, rfl, T_wh, Nat.le_of_ble_eq_true rfl⟩ rfl rfl (Nat.le_of_ble_eq_true rfl) (Nat.le_of_ble_eq_true rfl) (Nat.le_of_ble_eq_true rfl) ?_
      rintro _ _ _ ⟨hx7, hI8, hL9⟩
      have hx7 := hx7.symm; subst hx7
      have hI8 := hI8.symm; subst hI8; have hL9 := hL9.symm; subst hL9
      refine k_if_ne C (t := 132) rfl rfl rfl (fun cc => ?_) (fun cc => ?_)
      · have hr : red s := Classical.byContradiction (fun h => by rw [if_neg h] at cc; exact cc rfl)
        exact Kk L1 hF (by rw [run_done hr]; exact hs) _
      · have hnr : ¬ red s := fun h => by rw [if_pos h] at cc; exact absurd (by decide) cc
        obtain ⟨j1, j2, j3⟩ := stp_int hK hJ hnr
        have K126 : ∀ (L2 : LT), Fr A I L I L2 → smS (L2 wh) (sw1 (sh1 s)) → V 126 [(4, .int (Int32.ofNat i)), (0, .ref wh), (1, .int a), (2, .int b), (3, .int c)] [] (T, N, I, L2, R) 0 0 := by
          intro L2 hF2 hs2
          refine k_inc1 C (lw := [(4, .int _), (0, _), (1, .int _), (2, .int _), (3, .int _)]) rfl rfl rfl (Nat.le_of_ble_eq_true rfl) rfl ?_
          refine k_goto C (pc2 := 46) rfl rfl ?_
          rw [n_s]
          have hA := hd.resolve_left hnr
          exact ih (i + 1) L2 _ j2 (j3.elim Or.inl (fun h => Or.inr (by omega))) (by omega) (by omega) hF2 hs2 (fun L3 hF3 hs3 => Kk L3 hF3 (by rw [run_step hnr]; exact hs3))
        have K89 : ∀ (L2 : LT), Fr A I L I L2 → smS (L2 wh) (sh1 s) → V 89 [(4, .int (Int32.ofNat i)), (0, .ref wh), (1, .int a), (2, .int b), (3, .int c)] [] (T, N, I, L2, R) 0 0 := by
          intro L2 hF2 hs2
          have J_wh_0 : L2 wh 0 = sh1 s 0 := hs2 0 (Nat.le_of_ble_eq_true rfl)
          have J_wh_1 : L2 wh 1 = sh1 s 1 := hs2 1 (Nat.le_of_ble_eq_true rfl)
          have J_wh_2 : L2 wh 2 = sh1 s 2 := hs2 2 (Nat.le_of_ble_eq_true rfl)
          have J_wh_3 : L2 wh 3 = sh1 s 3 := hs2 3 (Nat.le_of_ble_eq_true rfl)
          have J_wh_4 : L2 wh 4 = sh1 s 4 := hs2 4 (Nat.le_of_ble_eq_true rfl)
          have J_wh_5 : L2 wh 5 = sh1 s 5 := hs2 5 (Nat.le_of_ble_eq_true rfl)
          have J_wh_6 : L2 wh 6 = sh1 s 6 := hs2 6 (Nat.le_of_ble_eq_true rfl)
          have J_wh_7 : L2 wh 7 = sh1 s 7 := hs2 7 (Nat.le_of_ble_eq_true rfl)
          refine k_aload_n C rfl rfl rfl ?_
          refine g_L C rfl rfl rfl T_wh rfl (J_wh_0) ?_
          refine k_aload_n C rfl rfl rfl ?_
          refine g_L C rfl rfl rfl T_wh rfl (J_wh_2) ?_
          refine k_lcmp C rfl rfl ?_
          refine k_if_gt C (t := 122) rfl rfl rfl (fun c98 => ?_) (fun c98 => ?_)
          · skip
            have ht : turned (sh1 s) := Or.inl ((lg_cmp_gt _ _).mp c98)
            refine k_aload_n C rfl rfl rfl ?_
            refine c_VV C (e_swap T_wh A_wh (J_wh_0) (J_wh_1) (J_wh_2) (J_wh_3) (J_wh_4) (J_wh_5) (J_wh_6) (J_wh_7) (s := sh1 s)) rfl rfl rfl rfl rfl ⟨_, rfl, rfl, T_wh, Nat.le_of_ble_eq_true rfl⟩ rfl rfl (Nat.le_of_ble_eq_true rfl) (Nat.le_of_ble_eq_true rfl) (Nat.le_of_ble_eq_true rfl) ?_
            rintro I3 L3 ⟨hI8, hF9, hs9⟩
            have hI8 := hI8.symm; subst hI8
            have hF3 := Fr.tr hF2 hF9
            have hs3 : smS (L3 wh) (sw1 (sh1 s)) := by rw [sw1_y ht]; exact hs9
            exact K126 _ hF3 hs3
          refine k_aload_n C rfl rfl rfl ?_
          refine g_L C rfl rfl rfl T_wh rfl (J_wh_0) ?_
          refine k_aload_n C rfl rfl rfl ?_
          refine g_L C rfl rfl rfl T_wh rfl (J_wh_2) ?_
          refine k_lcmp C rfl rfl ?_
          refine k_if_ne C (t := 126) rfl rfl rfl (fun c110 => ?_) (fun c110 => ?_)
          · skip
            have ht : ¬ turned (sh1 s) := fun h => h.elim (fun h => c98 ((lg_cmp_gt _ _).mpr h)) (fun h => c110 ((lg_cmp_eq _ _).mpr h.1))
            have hF3 := hF2
            have hs3 : smS (L2 wh) (sw1 (sh1 s)) := by rw [sw1_n ht]; exact hs2
            exact K126 _ hF3 hs3
          have e110 := (lg_cmp_eq _ _).mp (Decidable.not_not.mp c110)
          refine k_aload_n C rfl rfl rfl ?_
          refine g_L C rfl rfl rfl T_wh rfl (J_wh_1) ?_
          refine k_lconst C (x := 0) rfl rfl rfl ?_
          refine k_lcmp C rfl rfl ?_
          refine k_if_ge C (t := 126) rfl rfl rfl (fun c119 => ?_) (fun c119 => ?_)
          · skip
            have ht : ¬ turned (sh1 s) := fun h => h.elim (fun h => c98 ((lg_cmp_gt _ _).mpr h)) (fun h => absurd ((lg_cmp_lt _ _).mpr h.2) (Int32.not_lt.mpr c119))
            have hF3 := hF2
            have hs3 : smS (L2 wh) (sw1 (sh1 s)) := by rw [sw1_n ht]; exact hs2
            exact K126 _ hF3 hs3
          have ht : turned (sh1 s) := Or.inr ⟨e110, (lg_cmp_lt _ _).mp (Int32.not_le.mp c119)⟩
          refine k_aload_n C rfl rfl rfl ?_
          refine c_VV C (e_swap T_wh A_wh (J_wh_0) (J_wh_1) (J_wh_2) (J_wh_3) (J_wh_4) (J_wh_5) (J_wh_6) (J_wh_7) (s := sh1 s)) rfl rfl rfl rfl rfl ⟨_, rfl, rfl, T_wh, Nat.le_of_ble_eq_true rfl⟩ rfl rfl (Nat.le_of_ble_eq_true rfl) (Nat.le_of_ble_eq_true rfl) (Nat.le_of_ble_eq_true rfl) ?_
          rintro I3 L3 ⟨hI8, hF9, hs9⟩
          have hI8 := hI8.symm; subst hI8
          have hF3 := Fr.tr hF2 hF9
          have hs3 : smS (L3 wh) (sw1 (sh1 s)) := by rw [sw1_y ht]; exact hs9
          exact K126 _ hF3 hs3
        have J_wh_0 : L1 wh 0 = s 0 := hs 0 (Nat.le_of_ble_eq_true rfl)
        have J_wh_1 : L1 wh 1 = s 1 := hs 1 (Nat.le_of_ble_eq_true rfl)
        have J_wh_2 : L1 wh 2 = s 2 := hs 2 (Nat.le_of_ble_eq_true rfl)
        have J_wh_3 : L1 wh 3 = s 3 := hs 3 (Nat.le_of_ble_eq_true rfl)
        have J_wh_4 : L1 wh 4 = s 4 := hs 4 (Nat.le_of_ble_eq_true rfl)
        have J_wh_5 : L1 wh 5 = s 5 := hs 5 (Nat.le_of_ble_eq_true rfl)
        have J_wh_6 : L1 wh 6 = s 6 := hs 6 (Nat.le_of_ble_eq_true rfl)
        have J_wh_7 : L1 wh 7 = s 7 := hs 7 (Nat.le_of_ble_eq_true rfl)
        refine k_aload_n C rfl rfl rfl ?_
        refine g_L C rfl rfl rfl T_wh rfl (J_wh_1) ?_
        refine k_aload_n C rfl rfl rfl ?_
        refine g_L C rfl rfl rfl T_wh rfl (J_wh_0) ?_
        refine k_lcmp C rfl rfl ?_
        refine k_if_gt C (t := 85) rfl rfl rfl (fun c69 => ?_) (fun c69 => ?_)
        · skip
          have hw : wide s := Or.inl ((lg_cmp_gt _ _).mp c69)
          refine k_aload_n C rfl rfl rfl ?_
          refine c_VV C (e_shift T_wh A_wh (J_wh_0) (J_wh_1) (J_wh_2) (J_wh_3) (J_wh_4) (J_wh_5) (J_wh_6) (J_wh_7) (s := s) hJ) rfl rfl rfl rfl rfl ⟨_, rfl, rfl, T_wh, Nat.le_of_ble_eq_true rfl⟩ rfl rfl (Nat.le_of_ble_eq_true rfl) (Nat.le_of_ble_eq_true rfl) (Nat.le_of_ble_eq_true rfl) ?_
          rintro I2 L2 ⟨hI8, hF9, hs9⟩
          have hI8 := hI8.symm; subst hI8
          have hF2 := Fr.tr hF hF9
          have hs2 : smS (L2 wh) (sh1 s) := by rw [sh1_y hw]; exact hs9
          exact K89 _ hF2 hs2
        refine k_aload_n C rfl rfl rfl ?_
        refine g_L C rfl rfl rfl T_wh rfl (J_wh_1) ?_
        refine k_aload_n C rfl rfl rfl ?_
        refine g_L C rfl rfl rfl T_wh rfl (J_wh_0) ?_
        refine k_lneg C rfl rfl ?_
        refine k_lcmp C rfl rfl ?_
        refine k_if_gt C (t := 89) rfl rfl rfl (fun c82 => ?_) (fun c82 => ?_)
        · skip
          have hw : ¬ wide s := fun h => h.elim (fun h => c69 ((lg_cmp_gt _ _).mpr h)) (fun h => absurd ((lg_cmp_le _ _).mpr h) (Int32.not_le.mpr c82))
          have hF2 := hF
          have hs2 : smS (L1 wh) (sh1 s) := by rw [sh1_n hw]; exact hs
          exact K89 _ hF2 hs2
        have hw : wide s := Or.inr ((lg_cmp_le _ _).mp (Int32.not_lt.mp c82))
        refine k_aload_n C rfl rfl rfl ?_
        refine c_VV C (e_shift T_wh A_wh (J_wh_0) (J_wh_1) (J_wh_2) (J_wh_3) (J_wh_4) (J_wh_5) (J_wh_6) (J_wh_7) (s := s) hJ) rfl rfl rfl rfl rfl ⟨_, rfl, rfl, T_wh, Nat.le_of_ble_eq_true rfl⟩ rfl rfl (Nat.le_of_ble_eq_true rfl) (Nat.le_of_ble_eq_true rfl) (Nat.le_of_ble_eq_true rfl) ?_
        rintro I2 L2 ⟨hI8, hF9, hs9⟩
        have hI8 := hI8.symm; subst hI8
        have hF2 := Fr.tr hF hF9
        have hs2 : smS (L2 wh) (sh1 s) := by rw [sh1_y hw]; exact hs9
        exact K89 _ hF2 hs2
  refine k_aload_n C rfl rfl rfl ?_
  refine k_iload_n C rfl rfl rfl ?_
  refine k_i2l C rfl rfl ?_
  refine p_L C rfl rfl rfl T_wh (Or.inr rfl) rfl ?_
  refine k_aload_n C rfl rfl rfl ?_
  refine k_iload_n C rfl rfl rfl ?_
  refine k_i2l C rfl rfl ?_
  refine p_L C rfl rfl rfl T_wh (Or.inr rfl) rfl ?_
  refine k_aload_n C rfl rfl rfl ?_
  refine k_iload_n C rfl rfl rfl ?_
  refine k_i2l C rfl rfl ?_
  refine p_L C rfl rfl rfl T_wh (Or.inr rfl) rfl ?_
  refine k_aload_n C rfl rfl rfl ?_
  refine k_lconst C (x := 0) rfl rfl rfl ?_
  refine p_L C rfl rfl rfl T_wh (Or.inr rfl) rfl ?_
  refine k_aload_n C rfl rfl rfl ?_
  refine k_lconst C (x := 1) rfl rfl rfl ?_
  refine p_L C rfl rfl rfl T_wh (Or.inr rfl) rfl ?_
  refine k_aload_n C rfl rfl rfl ?_
  refine k_lconst C (x := 0) rfl rfl rfl ?_
  refine p_L C rfl rfl rfl T_wh (Or.inr rfl) rfl ?_
  refine k_aload_n C rfl rfl rfl ?_
  refine k_lconst C (x := 0) rfl rfl rfl ?_
  refine p_L C rfl rfl rfl T_wh (Or.inr rfl) rfl ?_
  refine k_aload_n C rfl rfl rfl ?_
  refine k_lconst C (x := 1) rfl rfl rfl ?_
  refine p_L C rfl rfl rfl T_wh (Or.inr rfl) rfl ?_
  refine k_iconst C (x := 0) rfl rfl rfl ?_
  refine k_istore C (lw := [(4, .int _), (0, _), (1, .int _), (2, .int _), (3, .int _)]) rfl rfl (Nat.le_of_ble_eq_true rfl) rfl ?_
  refine loop 999 0 _ (st0 a b c) hJ0 (Or.inr (by have := hJ0.1; omega)) (by omega) (by omega) (Fr.l (Fr.l (Fr.l (Fr.l (Fr.l (Fr.l (Fr.l (Fr.l Fr.rf A_wh) A_wh) A_wh) A_wh) A_wh) A_wh) A_wh) A_wh) (fun k hk => match k, hk with | 0, _ => (u2_k (by decide)).trans ((u2_k (by decide)).trans ((u2_k (by decide)).trans ((u2_k (by decide)).trans ((u2_k (by decide)).trans ((u2_k (by decide)).trans ((u2_k (by decide)).trans (u2_s))))))) | 1, _ => (u2_k (by decide)).trans ((u2_k (by decide)).trans ((u2_k (by decide)).trans ((u2_k (by decide)).trans ((u2_k (by decide)).trans ((u2_k (by decide)).trans (u2_s)))))) | 2, _ => (u2_k (by decide)).trans ((u2_k (by decide)).trans ((u2_k (by decide)).trans ((u2_k (by decide)).trans ((u2_k (by decide)).trans (u2_s))))) | 3, _ => (u2_k (by decide)).trans ((u2_k (by decide)).trans ((u2_k (by decide)).trans ((u2_k (by decide)).trans (u2_s)))) | 4, _ => (u2_k (by decide)).trans ((u2_k (by decide)).trans ((u2_k (by decide)).trans (u2_s))) | 5, _ => (u2_k (by decide)).trans ((u2_k (by decide)).trans (u2_s)) | 6, _ => (u2_k (by decide)).trans (u2_s) | 7, _ => u2_s | k + 8, hk => absurd hk (by omega)) (fun L2 hF2 hs2 x4 => ?_)
  exact k_vret C rfl rfl (Nat.le_of_ble_eq_true rfl) (Nat.le_of_ble_eq_true rfl) ⟨_, _, rfl, rfl, rfl, hF2, hs2⟩

def trn (s : S8) : Int32 := if ¬ s 0 = s 2 then 2 else if s 1 = 0 then 4 else if s 1 = s 0 then 6 else 2
def tlS (s : S8) (n : Int) : Int64 := if n = 8 then (trn s).toInt64 else s n.toNat
theorem e_turns {d : Nat} {T N : Nat → Nat} {I : IT} {L : LT} {R : RT} {wh : Nat}{s : S8} (T_wh : T wh = 11) (J_wh_0 : L wh 0 = s 0) (J_wh_1 : L wh 1 = s 1) (J_wh_2 : L wh 2 = s 2) : Ex (d + 1) 117 [.ref wh] (T, N, I, L, R) 0 0 (pI T N R (fun x9 I9 L9 => x9 = (trn s) ∧ I9 = I ∧ L9 = L)) := by
  refine ⟨_, rfl, Nat.le_of_ble_eq_true rfl, fun V C S => ?_⟩
  show V 0 [(0, .ref wh)] [] (T, N, I, L, R) 0 0
  refine k_aload_n C rfl rfl rfl ?_
  refine g_L C rfl rfl rfl T_wh rfl (J_wh_0) ?_
  refine k_aload_n C rfl rfl rfl ?_
  refine g_L C rfl rfl rfl T_wh rfl (J_wh_2) ?_
  refine k_lcmp C rfl rfl ?_
  refine k_if_eq C (t := 14) rfl rfl rfl (fun c9 => ?_) (fun c9 => ?_)
  · skip
    have e9 := (lg_cmp_eq _ _).mp c9
    refine k_aload_n C rfl rfl rfl ?_
    refine g_L C rfl rfl rfl T_wh rfl (J_wh_1) ?_
    refine k_lconst C (x := 0) rfl rfl rfl ?_
    refine k_lcmp C rfl rfl ?_
    refine k_if_ne C (t := 25) rfl rfl rfl (fun c20 => ?_) (fun c20 => ?_)
    · skip
      have e20 : ¬ s 1 = 0 := fun h => c20 ((lg_cmp_eq _ _).mpr h)
      refine k_aload_n C rfl rfl rfl ?_
      refine g_L C rfl rfl rfl T_wh rfl (J_wh_1) ?_
      refine k_aload_n C rfl rfl rfl ?_
      refine g_L C rfl rfl rfl T_wh rfl (J_wh_0) ?_
      refine k_lcmp C rfl rfl ?_
      refine k_if_ne C (t := 42) rfl rfl rfl (fun c34 => ?_) (fun c34 => ?_)
      · skip
        have e34 : trn s = 2 := by unfold trn; rw [if_neg (fun h => h e9), if_neg e20, if_neg (fun h => c34 ((lg_cmp_eq _ _).mpr h))]
        refine k_iconst C (x := 2) rfl rfl rfl ?_
        exact k_iret C rfl (Or.inl rfl) (Nat.le_of_ble_eq_true rfl) (Nat.le_of_ble_eq_true rfl) ⟨_, _, _, rfl, rfl, ⟨e34.symm, rfl, rfl⟩⟩
      have e34 : trn s = 6 := by unfold trn; rw [if_neg (fun h => h e9), if_neg e20, if_pos ((lg_cmp_eq _ _).mp (Decidable.not_not.mp c34))]
      refine k_bipush C (x := 6) rfl rfl rfl ?_
      refine k_goto C (pc2 := 43) rfl rfl ?_
      exact k_iret C rfl (Or.inl rfl) (Nat.le_of_ble_eq_true rfl) (Nat.le_of_ble_eq_true rfl) ⟨_, _, _, rfl, rfl, ⟨e34.symm, rfl, rfl⟩⟩
    have e20 := (lg_cmp_eq _ _).mp (Decidable.not_not.mp c20)
    refine k_iconst C (x := 4) rfl rfl rfl ?_
    exact k_iret C rfl (Or.inl rfl) (Nat.le_of_ble_eq_true rfl) (Nat.le_of_ble_eq_true rfl) ⟨_, _, _, rfl, rfl, ⟨by unfold trn; rw [if_neg (fun h => h e9), if_pos e20], rfl, rfl⟩⟩
  have e9 : ¬ s 0 = s 2 := fun h => c9 ((lg_cmp_eq _ _).mpr h)
  refine k_iconst C (x := 2) rfl rfl rfl ?_
  exact k_iret C rfl (Or.inl rfl) (Nat.le_of_ble_eq_true rfl) (Nat.le_of_ble_eq_true rfl) ⟨_, _, _, rfl, rfl, ⟨by unfold trn; rw [if_pos e9], rfl, rfl⟩⟩

theorem e_tell {d : Nat} {T N : Nat → Nat} {I : IT} {L : LT} {R : RT} {wh : Nat} {n : Int32}{s : S8} (T_wh : T wh = 11) (J_wh_0 : L wh 0 = s 0) (J_wh_1 : L wh 1 = s 1) (J_wh_2 : L wh 2 = s 2) (J_wh_3 : L wh 3 = s 3) (J_wh_4 : L wh 4 = s 4) (J_wh_5 : L wh 5 = s 5) (J_wh_6 : L wh 6 = s 6) (J_wh_7 : L wh 7 = s 7) (hn : 0 ≤ n.toInt ∧ n.toInt ≤ 8) : Ex (d + 2) 118 [.ref wh, .int n] (T, N, I, L, R) 0 0 (pL T N R (fun x9 I9 L9 => x9 = (tlS s n.toInt) ∧ I9 = I ∧ L9 = L)) := by
  refine ⟨_, rfl, Nat.le_of_ble_eq_true rfl, fun V C S => ?_⟩
  show V 0 [(0, .ref wh), (1, .int n)] [] (T, N, I, L, R) 0 0
  refine k_iload_n C rfl rfl rfl ?_
  refine k_table C rfl (by decide) (fun h => by omega) (fun h1 h2 => ?_)
  have h3 : n.toInt = 0 ∨ n.toInt = 1 ∨ n.toInt = 2 ∨ n.toInt = 3 ∨ n.toInt = 4 ∨ n.toInt = 5 ∨ n.toInt = 6 ∨ n.toInt = 7 ∨ n.toInt = 8 := by omega
  rcases h3 with e | e | e | e | e | e | e | e | e <;> rw [e]
  · refine ⟨51, rfl, by decide, ?_⟩
    show V 52 [(0, .ref wh), (1, .int n)] [] _ _ _
    refine k_aload_n C rfl rfl rfl ?_
    refine g_L C rfl rfl rfl T_wh rfl (J_wh_0) ?_
    exact k_lret C rfl rfl (Nat.le_of_ble_eq_true rfl) (Nat.le_of_ble_eq_true rfl) ⟨_, _, _, rfl, rfl, ⟨by rw [e]; rfl, rfl, rfl⟩⟩
  · refine ⟨56, rfl, by decide, ?_⟩
    show V 57 [(0, .ref wh), (1, .int n)] [] _ _ _
    refine k_aload_n C rfl rfl rfl ?_
    refine g_L C rfl rfl rfl T_wh rfl (J_wh_1) ?_
    exact k_lret C rfl rfl (Nat.le_of_ble_eq_true rfl) (Nat.le_of_ble_eq_true rfl) ⟨_, _, _, rfl, rfl, ⟨by rw [e]; rfl, rfl, rfl⟩⟩
  · refine ⟨61, rfl, by decide, ?_⟩
    show V 62 [(0, .ref wh), (1, .int n)] [] _ _ _
    refine k_aload_n C rfl rfl rfl ?_
    refine g_L C rfl rfl rfl T_wh rfl (J_wh_2) ?_
    exact k_lret C rfl rfl (Nat.le_of_ble_eq_true rfl) (Nat.le_of_ble_eq_true rfl) ⟨_, _, _, rfl, rfl, ⟨by rw [e]; rfl, rfl, rfl⟩⟩
  · refine ⟨66, rfl, by decide, ?_⟩
    show V 67 [(0, .ref wh), (1, .int n)] [] _ _ _
    refine k_aload_n C rfl rfl rfl ?_
    refine g_L C rfl rfl rfl T_wh rfl (J_wh_3) ?_
    exact k_lret C rfl rfl (Nat.le_of_ble_eq_true rfl) (Nat.le_of_ble_eq_true rfl) ⟨_, _, _, rfl, rfl, ⟨by rw [e]; rfl, rfl, rfl⟩⟩
  · refine ⟨71, rfl, by decide, ?_⟩
    show V 72 [(0, .ref wh), (1, .int n)] [] _ _ _
    refine k_aload_n C rfl rfl rfl ?_
    refine g_L C rfl rfl rfl T_wh rfl (J_wh_4) ?_
    exact k_lret C rfl rfl (Nat.le_of_ble_eq_true rfl) (Nat.le_of_ble_eq_true rfl) ⟨_, _, _, rfl, rfl, ⟨by rw [e]; rfl, rfl, rfl⟩⟩
  · refine ⟨76, rfl, by decide, ?_⟩
    show V 77 [(0, .ref wh), (1, .int n)] [] _ _ _
    refine k_aload_n C rfl rfl rfl ?_
    refine g_L C rfl rfl rfl T_wh rfl (J_wh_5) ?_
    exact k_lret C rfl rfl (Nat.le_of_ble_eq_true rfl) (Nat.le_of_ble_eq_true rfl) ⟨_, _, _, rfl, rfl, ⟨by rw [e]; rfl, rfl, rfl⟩⟩
  · refine ⟨81, rfl, by decide, ?_⟩
    show V 82 [(0, .ref wh), (1, .int n)] [] _ _ _
    refine k_aload_n C rfl rfl rfl ?_
    refine g_L C rfl rfl rfl T_wh rfl (J_wh_6) ?_
    exact k_lret C rfl rfl (Nat.le_of_ble_eq_true rfl) (Nat.le_of_ble_eq_true rfl) ⟨_, _, _, rfl, rfl, ⟨by rw [e]; rfl, rfl, rfl⟩⟩
  · refine ⟨86, rfl, by decide, ?_⟩
    show V 87 [(0, .ref wh), (1, .int n)] [] _ _ _
    refine k_aload_n C rfl rfl rfl ?_
    refine g_L C rfl rfl rfl T_wh rfl (J_wh_7) ?_
    exact k_lret C rfl rfl (Nat.le_of_ble_eq_true rfl) (Nat.le_of_ble_eq_true rfl) ⟨_, _, _, rfl, rfl, ⟨by rw [e]; rfl, rfl, rfl⟩⟩
  · refine ⟨91, rfl, by decide, ?_⟩
    show V 92 [(0, .ref wh), (1, .int n)] [] _ _ _
    refine k_aload_n C rfl rfl rfl ?_
    refine c_VI C (e_turns T_wh (J_wh_0) (J_wh_1) (J_wh_2) (s := s)) rfl rfl rfl rfl rfl ⟨_, rfl, rfl, T_wh, Nat.le_of_ble_eq_true rfl⟩ rfl rfl (Nat.le_of_ble_eq_true rfl) (Nat.le_of_ble_eq_true rfl) (Nat.le_of_ble_eq_true rfl) ?_
    rintro _ _ _ ⟨hx7, hI8, hL9⟩
    have hx7 := hx7.symm; subst hx7
    have hI8 := hI8.symm; subst hI8; have hL9 := hL9.symm; subst hL9
    refine k_i2l C rfl rfl ?_
    exact k_lret C rfl rfl (Nat.le_of_ble_eq_true rfl) (Nat.le_of_ble_eq_true rfl) ⟨_, _, _, rfl, rfl, ⟨by rw [e]; rfl, rfl, rfl⟩⟩
end
-- 39.36.red.lean.txt
section
/-! WHOLE FORMS in the reference -/
theorem e_m_isWide {d : Nat} {T N : Nat → Nat} {I : IT} {L : LT} {R : RT} {m : Nat}{s : S8} (T_m : T m = 13) (J_m_30 : L m 30 = s 0) (J_m_31 : L m 31 = s 1) : Ex (d + 1) 298 [.ref m] (T, N, I, L, R) 0 0 (pI T N R (fun x9 I9 L9 => x9 = (@ite _ (wide s) (wideD s) (1 : Int32) 0) ∧ I9 = I ∧ L9 = L)) := by
  refine ⟨_, rfl, Nat.le_of_ble_eq_true rfl, fun V C S => ?_⟩
  show V 0 [(0, .ref m)] [] (T, N, I, L, R) 0 0
  refine k_aload_n C rfl rfl rfl ?_
  refine g_L C rfl rfl rfl T_m rfl (J_m_31) ?_
  refine k_aload_n C rfl rfl rfl ?_
  refine g_L C rfl rfl rfl T_m rfl (J_m_30) ?_
  refine k_lcmp C rfl rfl ?_
  refine k_if_gt C (t := 25) rfl rfl rfl (fun c9 => ?_) (fun c9 => ?_)
  · skip
    have q : wide s := Or.inl ((lg_cmp_gt _ _).mp c9)
    refine k_iconst C (x := 1) rfl rfl rfl ?_
    refine k_goto C (pc2 := 30) rfl rfl ?_
    exact k_iret C rfl (Or.inr ⟨rfl, by first | exact Or.inl rfl | exact Or.inr rfl⟩) (Nat.le_of_ble_eq_true rfl) (Nat.le_of_ble_eq_true rfl) ⟨_, _, _, rfl, rfl, ⟨by first | exact (if_pos q).symm | exact (if_neg q).symm, rfl, rfl⟩⟩
  refine k_aload_n C rfl rfl rfl ?_
  refine g_L C rfl rfl rfl T_m rfl (J_m_31) ?_
  refine k_aload_n C rfl rfl rfl ?_
  refine g_L C rfl rfl rfl T_m rfl (J_m_30) ?_
  refine k_lneg C rfl rfl ?_
  refine k_lcmp C rfl rfl ?_
  refine k_if_gt C (t := 29) rfl rfl rfl (fun c22 => ?_) (fun c22 => ?_)
  · skip
    have q : ¬ wide s := fun h => h.elim (fun h => c9 ((lg_cmp_gt _ _).mpr h)) (fun h => absurd ((lg_cmp_le _ _).mpr h) (Int32.not_le.mpr c22))
    refine k_iconst C (x := 0) rfl rfl rfl ?_
    exact k_iret C rfl (Or.inr ⟨rfl, by first | exact Or.inl rfl | exact Or.inr rfl⟩) (Nat.le_of_ble_eq_true rfl) (Nat.le_of_ble_eq_true rfl) ⟨_, _, _, rfl, rfl, ⟨by first | exact (if_pos q).symm | exact (if_neg q).symm, rfl, rfl⟩⟩
  have q : wide s := Or.inr ((lg_cmp_le _ _).mp (Int32.not_lt.mp c22))
  refine k_iconst C (x := 1) rfl rfl rfl ?_
  refine k_goto C (pc2 := 30) rfl rfl ?_
  exact k_iret C rfl (Or.inr ⟨rfl, by first | exact Or.inl rfl | exact Or.inr rfl⟩) (Nat.le_of_ble_eq_true rfl) (Nat.le_of_ble_eq_true rfl) ⟨_, _, _, rfl, rfl, ⟨by first | exact (if_pos q).symm | exact (if_neg q).symm, rfl, rfl⟩⟩

theorem e_m_isTurned {d : Nat} {T N : Nat → Nat} {I : IT} {L : LT} {R : RT} {m : Nat}{s : S8} (T_m : T m = 13) (J_m_30 : L m 30 = s 0) (J_m_31 : L m 31 = s 1) (J_m_32 : L m 32 = s 2) : Ex (d + 1) 299 [.ref m] (T, N, I, L, R) 0 0 (pI T N R (fun x9 I9 L9 => x9 = (@ite _ (turned s) (turnedD s) (1 : Int32) 0) ∧ I9 = I ∧ L9 = L)) := by
  refine ⟨_, rfl, Nat.le_of_ble_eq_true rfl, fun V C S => ?_⟩
  show V 0 [(0, .ref m)] [] (T, N, I, L, R) 0 0
  refine k_aload_n C rfl rfl rfl ?_
  refine g_L C rfl rfl rfl T_m rfl (J_m_30) ?_
  refine k_aload_n C rfl rfl rfl ?_
  refine g_L C rfl rfl rfl T_m rfl (J_m_32) ?_
  refine k_lcmp C rfl rfl ?_
  refine k_if_gt C (t := 33) rfl rfl rfl (fun c9 => ?_) (fun c9 => ?_)
  · skip
    have q : turned s := Or.inl ((lg_cmp_gt _ _).mp c9)
    refine k_iconst C (x := 1) rfl rfl rfl ?_
    refine k_goto C (pc2 := 38) rfl rfl ?_
    exact k_iret C rfl (Or.inr ⟨rfl, by first | exact Or.inl rfl | exact Or.inr rfl⟩) (Nat.le_of_ble_eq_true rfl) (Nat.le_of_ble_eq_true rfl) ⟨_, _, _, rfl, rfl, ⟨by first | exact (if_pos q).symm | exact (if_neg q).symm, rfl, rfl⟩⟩
  refine k_aload_n C rfl rfl rfl ?_
  refine g_L C rfl rfl rfl T_m rfl (J_m_30) ?_
  refine k_aload_n C rfl rfl rfl ?_
  refine g_L C rfl rfl rfl T_m rfl (J_m_32) ?_
  refine k_lcmp C rfl rfl ?_
  refine k_if_ne C (t := 37) rfl rfl rfl (fun c21 => ?_) (fun c21 => ?_)
  · skip
    have q : ¬ turned s := fun h => h.elim (fun h => c9 ((lg_cmp_gt _ _).mpr h)) (fun h => c21 ((lg_cmp_eq _ _).mpr h.1))
    refine k_iconst C (x := 0) rfl rfl rfl ?_
    exact k_iret C rfl (Or.inr ⟨rfl, by first | exact Or.inl rfl | exact Or.inr rfl⟩) (Nat.le_of_ble_eq_true rfl) (Nat.le_of_ble_eq_true rfl) ⟨_, _, _, rfl, rfl, ⟨by first | exact (if_pos q).symm | exact (if_neg q).symm, rfl, rfl⟩⟩
  have e21 := (lg_cmp_eq _ _).mp (Decidable.not_not.mp c21)
  refine k_aload_n C rfl rfl rfl ?_
  refine g_L C rfl rfl rfl T_m rfl (J_m_31) ?_
  refine k_lconst C (x := 0) rfl rfl rfl ?_
  refine k_lcmp C rfl rfl ?_
  refine k_if_ge C (t := 37) rfl rfl rfl (fun c30 => ?_) (fun c30 => ?_)
  · skip
    have q : ¬ turned s := fun h => h.elim (fun h => c9 ((lg_cmp_gt _ _).mpr h)) (fun h => absurd ((lg_cmp_lt _ _).mpr h.2) (Int32.not_lt.mpr c30))
    refine k_iconst C (x := 0) rfl rfl rfl ?_
    exact k_iret C rfl (Or.inr ⟨rfl, by first | exact Or.inl rfl | exact Or.inr rfl⟩) (Nat.le_of_ble_eq_true rfl) (Nat.le_of_ble_eq_true rfl) ⟨_, _, _, rfl, rfl, ⟨by first | exact (if_pos q).symm | exact (if_neg q).symm, rfl, rfl⟩⟩
  have q : turned s := Or.inr ⟨e21, (lg_cmp_lt _ _).mp (Int32.not_le.mp c30)⟩
  refine k_iconst C (x := 1) rfl rfl rfl ?_
  refine k_goto C (pc2 := 38) rfl rfl ?_
  exact k_iret C rfl (Or.inr ⟨rfl, by first | exact Or.inl rfl | exact Or.inr rfl⟩) (Nat.le_of_ble_eq_true rfl) (Nat.le_of_ble_eq_true rfl) ⟨_, _, _, rfl, rfl, ⟨by first | exact (if_pos q).symm | exact (if_neg q).symm, rfl, rfl⟩⟩

theorem e_m_joins {d : Nat} {T N : Nat → Nat} {I : IT} {L : LT} {R : RT} {A : Nat → Prop} {m wl : Nat} {p q r t : Int64}{s : S8} (T_m : T m = 13) (A_m : A m) (R_m_34 : R m 34 = some wl) (T_wl : T wl = 21) (N_wl : N wl = 4) (A_wl : A wl) (J_wl_0 : L wl 0 = s 4) (J_wl_1 : L wl 1 = s 5) (J_wl_2 : L wl 2 = s 6) (J_wl_3 : L wl 3 = s 7) (J_m_33 : L m 33 = s 3) : Ex (d + 1) 297 [.ref m, .long p, .long q, .long r, .long t] (T, N, I, L, R) 0 0 (pV T N R (fun I9 L9 => I9 = I ∧ Fr A I L I9 L9 ∧ L9 wl 0 = s 4 * p + s 5 * r ∧ L9 wl 1 = s 4 * q + s 5 * t ∧ L9 wl 2 = s 6 * p + s 7 * r ∧ L9 wl 3 = s 6 * q + s 7 * t ∧ L9 m 33 = s 3 + 1 ∧ ∀ k, k ≠ 33 → L9 m k = L m k)) := by
  refine ⟨_, rfl, Nat.le_of_ble_eq_true rfl, fun V C S => ?_⟩
  show V 0 [(0, .ref m), (1, .long p), (3, .long q), (5, .long r), (7, .long t)] [] (T, N, I, L, R) 0 0
  have hmw : m ≠ wl := t_nq T_m T_wl (by decide)
  refine k_aload_n C rfl rfl rfl ?_
  refine g_R C rfl rfl rfl T_m rfl R_m_34 ?_
  refine k_iconst C (x := 0) rfl rfl rfl ?_
  refine a_L C rfl rfl T_wl (vin (n := 0) rfl (by rw [N_wl]; exact Nat.le_of_ble_eq_true rfl) (by rw [N_wl]; exact Nat.le_of_ble_eq_true rfl)) J_wl_0 ?_
  refine k_lstore C (lw := [(9, .long _), (0, _), (1, .long _), (3, .long _), (5, .long _), (7, .long _)]) rfl rfl (Nat.le_of_ble_eq_true rfl) rfl ?_
  refine k_aload_n C rfl rfl rfl ?_
  refine g_R C rfl rfl rfl T_m rfl R_m_34 ?_
  refine k_iconst C (x := 1) rfl rfl rfl ?_
  refine a_L C rfl rfl T_wl (vin (n := 1) rfl (by rw [N_wl]; exact Nat.le_of_ble_eq_true rfl) (by rw [N_wl]; exact Nat.le_of_ble_eq_true rfl)) J_wl_1 ?_
  refine k_lstore C (lw := [(11, .long _), (9, .long _), (0, _), (1, .long _), (3, .long _), (5, .long _), (7, .long _)]) rfl rfl (Nat.le_of_ble_eq_true rfl) rfl ?_
  refine k_aload_n C rfl rfl rfl ?_
  refine g_R C rfl rfl rfl T_m rfl R_m_34 ?_
  refine k_iconst C (x := 2) rfl rfl rfl ?_
  refine a_L C rfl rfl T_wl (vin (n := 2) rfl (by rw [N_wl]; exact Nat.le_of_ble_eq_true rfl) (by rw [N_wl]; exact Nat.le_of_ble_eq_true rfl)) J_wl_2 ?_
  refine k_lstore C (lw := [(13, .long _), (11, .long _), (9, .long _), (0, _), (1, .long _), (3, .long _), (5, .long _), (7, .long _)]) rfl rfl (Nat.le_of_ble_eq_true rfl) rfl ?_
  refine k_aload_n C rfl rfl rfl ?_
  refine g_R C rfl rfl rfl T_m rfl R_m_34 ?_
  refine k_iconst C (x := 3) rfl rfl rfl ?_
  refine a_L C rfl rfl T_wl (vin (n := 3) rfl (by rw [N_wl]; exact Nat.le_of_ble_eq_true rfl) (by rw [N_wl]; exact Nat.le_of_ble_eq_true rfl)) J_wl_3 ?_
  refine k_lstore C (lw := [(15, .long _), (13, .long _), (11, .long _), (9, .long _), (0, _), (1, .long _), (3, .long _), (5, .long _), (7, .long _)]) rfl rfl (Nat.le_of_ble_eq_true rfl) rfl ?_
  refine k_aload_n C rfl rfl rfl ?_
  refine g_R C rfl rfl rfl T_m rfl R_m_34 ?_
  refine k_iconst C (x := 0) rfl rfl rfl ?_
  refine k_lload C rfl rfl rfl ?_
  refine k_lload_n C rfl rfl rfl ?_
  refine k_lmul C rfl rfl ?_
  refine k_lload C rfl rfl rfl ?_
  refine k_lload C rfl rfl rfl ?_
  refine k_lmul C rfl rfl ?_
  refine k_ladd C rfl rfl ?_
  refine s_L C rfl rfl T_wl (vin (n := 0) rfl (by rw [N_wl]; exact Nat.le_of_ble_eq_true rfl) (by rw [N_wl]; exact Nat.le_of_ble_eq_true rfl)) (show (0 : Int32).toNatClampNeg = 0 from by decide) ?_
  refine k_aload_n C rfl rfl rfl ?_
  refine g_R C rfl rfl rfl T_m rfl R_m_34 ?_
  refine k_iconst C (x := 1) rfl rfl rfl ?_
  refine k_lload C rfl rfl rfl ?_
  refine k_lload_n C rfl rfl rfl ?_
  refine k_lmul C rfl rfl ?_
  refine k_lload C rfl rfl rfl ?_
  refine k_lload C rfl rfl rfl ?_
  refine k_lmul C rfl rfl ?_
  refine k_ladd C rfl rfl ?_
  refine s_L C rfl rfl T_wl (vin (n := 1) rfl (by rw [N_wl]; exact Nat.le_of_ble_eq_true rfl) (by rw [N_wl]; exact Nat.le_of_ble_eq_true rfl)) (show (1 : Int32).toNatClampNeg = 1 from by decide) ?_
  refine k_aload_n C rfl rfl rfl ?_
  refine g_R C rfl rfl rfl T_m rfl R_m_34 ?_
  refine k_iconst C (x := 2) rfl rfl rfl ?_
  refine k_lload C rfl rfl rfl ?_
  refine k_lload_n C rfl rfl rfl ?_
  refine k_lmul C rfl rfl ?_
  refine k_lload C rfl rfl rfl ?_
  refine k_lload C rfl rfl rfl ?_
  refine k_lmul C rfl rfl ?_
  refine k_ladd C rfl rfl ?_
  refine s_L C rfl rfl T_wl (vin (n := 2) rfl (by rw [N_wl]; exact Nat.le_of_ble_eq_true rfl) (by rw [N_wl]; exact Nat.le_of_ble_eq_true rfl)) (show (2 : Int32).toNatClampNeg = 2 from by decide) ?_
  refine k_aload_n C rfl rfl rfl ?_
  refine g_R C rfl rfl rfl T_m rfl R_m_34 ?_
  refine k_iconst C (x := 3) rfl rfl rfl ?_
  refine k_lload C rfl rfl rfl ?_
  refine k_lload_n C rfl rfl rfl ?_
  refine k_lmul C rfl rfl ?_
  refine k_lload C rfl rfl rfl ?_
  refine k_lload C rfl rfl rfl ?_
  refine k_lmul C rfl rfl ?_
  refine k_ladd C rfl rfl ?_
  refine s_L C rfl rfl T_wl (vin (n := 3) rfl (by rw [N_wl]; exact Nat.le_of_ble_eq_true rfl) (by rw [N_wl]; exact Nat.le_of_ble_eq_true rfl)) (show (3 : Int32).toNatClampNeg = 3 from by decide) ?_
  refine k_aload_n C rfl rfl rfl ?_
  refine k_dup C rfl rfl rfl ?_
  refine g_L C rfl rfl rfl T_m rfl ((u2_a (t_nq T_m T_wl (by decide))).trans ((u2_a (t_nq T_m T_wl (by decide))).trans ((u2_a (t_nq T_m T_wl (by decide))).trans ((u2_a (t_nq T_m T_wl (by decide))).trans (J_m_33))))) ?_
  refine k_lconst C (x := 1) rfl rfl rfl ?_
  refine k_ladd C rfl rfl ?_
  refine p_L C rfl rfl rfl T_m (Or.inr rfl) rfl ?_
  exact k_vret C rfl rfl (Nat.le_of_ble_eq_true rfl) (Nat.le_of_ble_eq_true rfl) ⟨_, _, rfl, rfl, ⟨rfl, (Fr.l (Fr.l (Fr.l (Fr.l (Fr.l Fr.rf A_wl) A_wl) A_wl) A_wl) A_m), (u2_a (t_nq T_wl T_m (by decide))).trans ((u2_k (by decide)).trans ((u2_k (by decide)).trans ((u2_k (by decide)).trans (u2_s)))), (u2_a (t_nq T_wl T_m (by decide))).trans ((u2_k (by decide)).trans ((u2_k (by decide)).trans (u2_s))), (u2_a (t_nq T_wl T_m (by decide))).trans ((u2_k (by decide)).trans (u2_s)), (u2_a (t_nq T_wl T_m (by decide))).trans (u2_s), u2_s, fun k hk => (u2_k hk).trans ((u2_a hmw).trans ((u2_a hmw).trans ((u2_a hmw).trans (u2_a hmw))))⟩⟩

def smM (L : LT) (m wl : Nat) (s : S8) : Prop := L m 30 = s 0 ∧ L m 31 = s 1 ∧ L m 32 = s 2 ∧ L m 33 = s 3 ∧ L wl 0 = s 4 ∧ L wl 1 = s 5 ∧ L wl 2 = s 6 ∧ L wl 3 = s 7
theorem m_red_loop {d : Nat} {V : V_T} {q : mm_T} {Post : Po} {T N : Nat → Nat} {R : RT} {A : Nat → Prop} {I : IT} {L : LT} {m wl : Nat} (hq : P_ml[300]? = some q) (C : Cl (d + 1) q 0 0 Post V) (S : SB V) (T_m : T m = 13) (A_m : A m) (R_m_34 : R m 34 = some wl) (T_wl : T wl = 21) (N_wl : N wl = 4) (A_wl : A wl) {K : Int} (hK : 0 < K ∧ K ≤ 4000000) : ∀ (n : Nat) (L1 : LT) (s : S8), JJ K s → (red s ∨ (s 0).toInt ≤ n) → Fr A I L I L1 → smM L1 m wl s → (∀ L2, Fr A I L I L2 → smM L2 m wl (run (n + 1) s) → V 173 [(0, .ref m)] [] (T, N, I, L2, R) 0 0) → V 33 [(0, .ref m)] [] (T, N, I, L1, R) 0 0 := by
  cases hq
  have chk : ∀ (L1 : LT) (s : S8), smM L1 m wl s → (red s → V 173 [(0, .ref m)] [] (T, N, I, L1, R) 0 0) → (¬ red s → V 47 [(0, .ref m)] [] (T, N, I, L1, R) 0 0) → V 33 [(0, .ref m)] [] (T, N, I, L1, R) 0 0 := by
    intro L1 s hs k1 k2
    obtain ⟨J_m_30, J_m_31, J_m_32, J_m_33, J_wl_0, J_wl_1, J_wl_2, J_wl_3⟩ := hs
    refine k_aload_n C rfl rfl rfl ?_
    refine c_VI C (e_m_isWide (s := s) T_m J_m_30 J_m_31) rfl rfl rfl rfl rfl ⟨_, rfl, rfl, T_m, Nat.le_of_ble_eq_true rfl⟩ rfl rfl (Nat.le_of_ble_eq_true rfl) (Nat.le_of_ble_eq_true rfl) (Nat.le_of_ble_eq_true rfl) ?_
    rintro _ _ _ ⟨hx7, hI8, hL9⟩
    have hx7 := hx7.symm; subst hx7
    have hI8 := hI8.symm; subst hI8; have hL9 := hL9.symm; subst hL9
    refine k_if_ne C (t := 47) rfl rfl rfl (fun c => ?_) (fun c => ?_)
    · exact k2 (fun h => c (if_neg h.1))
    · have hw : ¬ wide s := fun h => by rw [if_pos h] at c; exact absurd (by decide) c
      refine k_aload_n C rfl rfl rfl ?_
      refine c_VI C (e_m_isTurned (s := s) T_m J_m_30 J_m_31 J_m_32) rfl rfl rfl rfl rfl ⟨_, rfl, rfl, T_m, Nat.le_of_ble_eq_true rfl⟩ rfl rfl (Nat.le_of_ble_eq_true rfl) (Nat.le_of_ble_eq_true rfl) (Nat.le_of_ble_eq_true rfl) ?_
      rintro _ _ _ ⟨hx7, hI8, hL9⟩
      have hx7 := hx7.symm; subst hx7
      have hI8 := hI8.symm; subst hI8; have hL9 := hL9.symm; subst hL9
      refine k_if_eq C (t := 173) rfl rfl rfl (fun c2 => ?_) (fun c2 => ?_)
      · exact k1 ⟨hw, fun h => by rw [if_pos h] at c2; exact absurd c2 (by decide)⟩
      · exact k2 (fun h => c2 (if_neg h.2))
  intro n
  induction n with
  | zero =>
    intro L1 s hJ hd hF hs Kk
    have hr : red s := hd.elim id (fun h => absurd h (by have := hJ.1; omega))
    exact chk L1 s hs (fun _ => Kk L1 hF (by rw [run_done hr]; exact hs)) (fun h => absurd hr h)
  | succ n ih =>
    intro L1 s hJ hd hF hs Kk
    refine chk L1 s hs (fun hr => Kk L1 hF (by rw [run_done hr]; exact hs)) (fun hnr => ?_)
    obtain ⟨j1, j2, j3⟩ := stp_int hK hJ hnr
    have K33 : ∀ (L2 : LT), Fr A I L I L2 → smM L2 m wl (sw1 (sh1 s)) → V 33 [(0, .ref m)] [] (T, N, I, L2, R) 0 0 := by
      intro L2 hF2 hs2
      have hA := hd.resolve_left hnr
      exact ih L2 _ j2 (j3.elim Or.inl (fun h => Or.inr (by omega))) hF2 hs2 (fun L3 hF3 hs3 => Kk L3 hF3 (by rw [run_step hnr]; exact hs3))
    have K126 : ∀ (L2 : LT), Fr A I L I L2 → smM L2 m wl (sh1 s) → V 126 [(0, .ref m)] [] (T, N, I, L2, R) 0 0 := by
      intro L2 hF2 hs2
      generalize sh1 s = u at j1 j2 j3 hs2 K33
      have hs3 := hs2
      obtain ⟨J_m_30, J_m_31, J_m_32, J_m_33, J_wl_0, J_wl_1, J_wl_2, J_wl_3⟩ := hs2
      refine k_aload_n C rfl rfl rfl ?_
      refine c_VI C (e_m_isTurned (s := u) T_m J_m_30 J_m_31 J_m_32) rfl rfl rfl rfl rfl ⟨_, rfl, rfl, T_m, Nat.le_of_ble_eq_true rfl⟩ rfl rfl (Nat.le_of_ble_eq_true rfl) (Nat.le_of_ble_eq_true rfl) (Nat.le_of_ble_eq_true rfl) ?_
      rintro _ _ _ ⟨hx7, hI8, hL9⟩
      have hx7 := hx7.symm; subst hx7
      have hI8 := hI8.symm; subst hI8; have hL9 := hL9.symm; subst hL9
      refine k_if_eq C (t := 33) rfl rfl rfl (fun c2 => ?_) (fun c2 => ?_)
      · have ht : ¬ turned u := fun h => by rw [if_pos h] at c2; exact absurd c2 (by decide)
        exact K33 _ hF2 (by rw [sw1_n ht]; exact hs3)
      · have ht : turned u := Classical.byContradiction (fun h => c2 (if_neg h))
        refine k_aload_n C rfl rfl rfl ?_
        refine g_L C rfl rfl rfl T_m rfl (J_m_30) ?_
        refine k_lstore_n C (lw := [(1, .long _), (0, _)]) rfl rfl (Nat.le_of_ble_eq_true rfl) rfl ?_
        refine k_aload_n C rfl rfl rfl ?_
        refine k_aload_n C rfl rfl rfl ?_
        refine g_L C rfl rfl rfl T_m rfl (J_m_32) ?_
        refine p_L C rfl rfl rfl T_m (Or.inr rfl) rfl ?_
        refine k_aload_n C rfl rfl rfl ?_
        refine k_lload_n C rfl rfl rfl ?_
        refine p_L C rfl rfl rfl T_m (Or.inr rfl) rfl ?_
        refine k_aload_n C rfl rfl rfl ?_
        refine k_aload_n C rfl rfl rfl ?_
        refine g_L C rfl rfl rfl T_m rfl ((u2_k (by decide)).trans ((u2_k (by decide)).trans (J_m_31))) ?_
        refine k_lneg C rfl rfl ?_
        refine p_L C rfl rfl rfl T_m (Or.inr rfl) rfl ?_
        refine k_aload_n C rfl rfl rfl ?_
        refine k_lconst C (x := 0) rfl rfl rfl ?_
        refine k_ldc2_w C rfl rfl rfl ?_
        refine k_lconst C (x := 1) rfl rfl rfl ?_
        refine k_lconst C (x := 0) rfl rfl rfl ?_
        refine c_VV C (e_m_joins T_m A_m R_m_34 T_wl N_wl A_wl ((u2_a (t_nq T_wl T_m (by decide))).trans ((u2_a (t_nq T_wl T_m (by decide))).trans ((u2_a (t_nq T_wl T_m (by decide))).trans (J_wl_0)))) ((u2_a (t_nq T_wl T_m (by decide))).trans ((u2_a (t_nq T_wl T_m (by decide))).trans ((u2_a (t_nq T_wl T_m (by decide))).trans (J_wl_1)))) ((u2_a (t_nq T_wl T_m (by decide))).trans ((u2_a (t_nq T_wl T_m (by decide))).trans ((u2_a (t_nq T_wl T_m (by decide))).trans (J_wl_2)))) ((u2_a (t_nq T_wl T_m (by decide))).trans ((u2_a (t_nq T_wl T_m (by decide))).trans ((u2_a (t_nq T_wl T_m (by decide))).trans (J_wl_3)))) ((u2_k (by decide)).trans ((u2_k (by decide)).trans ((u2_k (by decide)).trans (J_m_33)))) (s := u)) rfl rfl rfl rfl rfl ⟨_, rfl, rfl, T_m, Nat.le_of_ble_eq_true rfl⟩ rfl rfl (Nat.le_of_ble_eq_true rfl) (Nat.le_of_ble_eq_true rfl) (Nat.le_of_ble_eq_true rfl) ?_
        rintro I4 L4 ⟨hI8, hF9, w0, w1, w2, w3, w4, w5⟩
        have hI8 := hI8.symm; subst hI8
        refine k_goto C (pc2 := 33) rfl rfl ?_
        refine k_sub S [(0, .ref m)] (List.forall_mem_cons.mpr ⟨List.mem_of_getElem? (i := 1) rfl, fun _ h => nomatch h⟩) ?_
        refine K33 L4 (Fr.tr (Fr.l (Fr.l (Fr.l hF2 A_m) A_m) A_m) hF9) ?_
        rw [sw1_y ht]
        exact ⟨(w5 30 (by decide)).trans ((u2_k (by decide)).trans ((u2_k (by decide)).trans u2_s)), (w5 31 (by decide)).trans u2_s, (w5 32 (by decide)).trans ((u2_k (by decide)).trans u2_s), w4, w0.trans (s0_ring _ _), w1.trans (s1_ring _ _), w2.trans (s0_ring _ _), w3.trans (s1_ring _ _)⟩
    have hs3 := hs
    obtain ⟨J_m_30, J_m_31, J_m_32, J_m_33, J_wl_0, J_wl_1, J_wl_2, J_wl_3⟩ := hs
    refine k_aload_n C rfl rfl rfl ?_
    refine c_VI C (e_m_isWide (s := s) T_m J_m_30 J_m_31) rfl rfl rfl rfl rfl ⟨_, rfl, rfl, T_m, Nat.le_of_ble_eq_true rfl⟩ rfl rfl (Nat.le_of_ble_eq_true rfl) (Nat.le_of_ble_eq_true rfl) (Nat.le_of_ble_eq_true rfl) ?_
    rintro _ _ _ ⟨hx7, hI8, hL9⟩
    have hx7 := hx7.symm; subst hx7
    have hI8 := hI8.symm; subst hI8; have hL9 := hL9.symm; subst hL9
    refine k_if_eq C (t := 126) rfl rfl rfl (fun c => ?_) (fun c => ?_)
    · have hw : ¬ wide s := fun h => by rw [if_pos h] at c; exact absurd c (by decide)
      exact K126 _ hF (by rw [sh1_n hw]; exact hs3)
    · have hw : wide s := Classical.byContradiction (fun h => c (if_neg h))
      refine k_aload_n C rfl rfl rfl ?_
      refine g_L C rfl rfl rfl T_m rfl (J_m_30) ?_
      refine k_aload_n C rfl rfl rfl ?_
      refine g_L C rfl rfl rfl T_m rfl (J_m_31) ?_
      refine k_lsub C rfl rfl ?_
      refine k_ldc2_w C rfl rfl rfl ?_
      refine k_aload_n C rfl rfl rfl ?_
      refine g_L C rfl rfl rfl T_m rfl (J_m_30) ?_
      refine k_lmul C rfl rfl ?_
      refine c_SL C (e_fdL  (by rw [two_mul_int (by have := hJ.1; omega)]; have := hJ.1; omega)) rfl rfl rfl rfl rfl rfl rfl (Nat.le_of_ble_eq_true rfl) (Nat.le_of_ble_eq_true rfl) (Nat.le_of_ble_eq_true rfl) ?_
      rintro x71 _ _ ⟨hI8, hL9, h71⟩
      have hI8 := hI8.symm; subst hI8; have hL9 := hL9.symm; subst hL9
      have e71 : x71 = nOf s := by unfold nOf; rw [← h71, Int64.ofInt_toInt]
      subst e71
      refine k_lstore_n C (lw := [(1, .long _), (0, _)]) rfl rfl (Nat.le_of_ble_eq_true rfl) rfl ?_
      refine k_aload_n C rfl rfl rfl ?_
      refine k_aload_n C rfl rfl rfl ?_
      refine g_L C rfl rfl rfl T_m rfl (J_m_30) ?_
      refine k_lload_n C rfl rfl rfl ?_
      refine k_lmul C rfl rfl ?_
      refine k_lload_n C rfl rfl rfl ?_
      refine k_lmul C rfl rfl ?_
      refine k_aload_n C rfl rfl rfl ?_
      refine g_L C rfl rfl rfl T_m rfl (J_m_31) ?_
      refine k_lload_n C rfl rfl rfl ?_
      refine k_lmul C rfl rfl ?_
      refine k_ladd C rfl rfl ?_
      refine k_aload_n C rfl rfl rfl ?_
      refine g_L C rfl rfl rfl T_m rfl (J_m_32) ?_
      refine k_ladd C rfl rfl ?_
      refine p_L C rfl rfl rfl T_m (Or.inr rfl) rfl ?_
      refine k_aload_n C rfl rfl rfl ?_
      refine k_dup C rfl rfl rfl ?_
      refine g_L C rfl rfl rfl T_m rfl ((u2_k (by decide)).trans (J_m_31)) ?_
      refine k_ldc2_w C rfl rfl rfl ?_
      refine k_aload_n C rfl rfl rfl ?_
      refine g_L C rfl rfl rfl T_m rfl ((u2_k (by decide)).trans (J_m_30)) ?_
      refine k_lmul C rfl rfl ?_
      refine k_lload_n C rfl rfl rfl ?_
      refine k_lmul C rfl rfl ?_
      refine k_ladd C rfl rfl ?_
      refine p_L C rfl rfl rfl T_m (Or.inr rfl) rfl ?_
      refine k_aload_n C rfl rfl rfl ?_
      refine k_lconst C (x := 1) rfl rfl rfl ?_
      refine k_lload_n C rfl rfl rfl ?_
      refine k_lconst C (x := 0) rfl rfl rfl ?_
      refine k_lconst C (x := 1) rfl rfl rfl ?_
      refine c_VV C (e_m_joins T_m A_m R_m_34 T_wl N_wl A_wl ((u2_a (t_nq T_wl T_m (by decide))).trans ((u2_a (t_nq T_wl T_m (by decide))).trans (J_wl_0))) ((u2_a (t_nq T_wl T_m (by decide))).trans ((u2_a (t_nq T_wl T_m (by decide))).trans (J_wl_1))) ((u2_a (t_nq T_wl T_m (by decide))).trans ((u2_a (t_nq T_wl T_m (by decide))).trans (J_wl_2))) ((u2_a (t_nq T_wl T_m (by decide))).trans ((u2_a (t_nq T_wl T_m (by decide))).trans (J_wl_3))) ((u2_k (by decide)).trans ((u2_k (by decide)).trans (J_m_33))) (s := s)) rfl rfl rfl rfl rfl ⟨_, rfl, rfl, T_m, Nat.le_of_ble_eq_true rfl⟩ rfl rfl (Nat.le_of_ble_eq_true rfl) (Nat.le_of_ble_eq_true rfl) (Nat.le_of_ble_eq_true rfl) ?_
      rintro I3 L3 ⟨hI8, hF9, w0, w1, w2, w3, w4, w5⟩
      have hI8 := hI8.symm; subst hI8
      have hF2 : Fr A I L I L3 := Fr.tr (Fr.l (Fr.l hF A_m) A_m) hF9
      have hs2 : smM L3 m wl (sh1 s) := by
        rw [sh1_y hw]
        refine ⟨(w5 30 (by decide)).trans ((u2_k (by decide)).trans ((u2_k (by decide)).trans J_m_30)), (w5 31 (by decide)).trans u2_s, (w5 32 (by decide)).trans ((u2_k (by decide)).trans (u2_s.trans (c_ring _ _ _ _))), w4, w0.trans (j0_ring _ _), w1.trans (j1_ring _ _ _), w2.trans (j0_ring _ _), w3.trans (j1_ring _ _ _)⟩
      refine k_sub S [(0, .ref m)] (List.forall_mem_cons.mpr ⟨List.mem_of_getElem? (i := 1) rfl, fun _ h => nomatch h⟩) ?_
      exact K126 _ hF2 hs2
theorem e_m_reduces {d : Nat} {T N : Nat → Nat} {I : IT} {L : LT} {R : RT} {A : Nat → Prop} {m wl : Nat}{s : S8} (T_m : T m = 13) (A_m : A m) (R_m_34 : R m 34 = some wl) (T_wl : T wl = 21) (N_wl : N wl = 4) (A_wl : A wl) (J_m_30 : L m 30 = s 0) (J_m_31 : L m 31 = s 1) (J_m_32 : L m 32 = s 2) {K : Int} (hK : 0 < K ∧ K ≤ 4000000) (hJ : JJ K s) (h3 : s 3 = 0) (h4 : s 4 = 1) (h5 : s 5 = 0) (h6 : s 6 = 0) (h7 : s 7 = 1) : Ex (d + 2) 300 [.ref m] (T, N, I, L, R) 0 0 (pV T N R (fun I9 L9 => I9 = I ∧ Fr A I L I9 L9 ∧ smM L9 m wl (run 1000 s))) := by
  refine ⟨_, rfl, Nat.le_of_ble_eq_true rfl, fun V C S => ?_⟩
  show V 0 [(0, .ref m)] [] (T, N, I, L, R) 0 0
  refine k_aload_n C rfl rfl rfl ?_
  refine k_lconst C (x := 0) rfl rfl rfl ?_
  refine p_L C rfl rfl rfl T_m (Or.inr rfl) rfl ?_
  refine k_aload_n C rfl rfl rfl ?_
  refine g_R C rfl rfl rfl T_m rfl R_m_34 ?_
  refine k_iconst C (x := 0) rfl rfl rfl ?_
  refine k_lconst C (x := 1) rfl rfl rfl ?_
  refine s_L C rfl rfl T_wl (vin (n := 0) rfl (by rw [N_wl]; exact Nat.le_of_ble_eq_true rfl) (by rw [N_wl]; exact Nat.le_of_ble_eq_true rfl)) (show (0 : Int32).toNatClampNeg = 0 from by decide) ?_
  refine k_aload_n C rfl rfl rfl ?_
  refine g_R C rfl rfl rfl T_m rfl R_m_34 ?_
  refine k_iconst C (x := 1) rfl rfl rfl ?_
  refine k_lconst C (x := 0) rfl rfl rfl ?_
  refine s_L C rfl rfl T_wl (vin (n := 1) rfl (by rw [N_wl]; exact Nat.le_of_ble_eq_true rfl) (by rw [N_wl]; exact Nat.le_of_ble_eq_true rfl)) (show (1 : Int32).toNatClampNeg = 1 from by decide) ?_
  refine k_aload_n C rfl rfl rfl ?_
  refine g_R C rfl rfl rfl T_m rfl R_m_34 ?_
  refine k_iconst C (x := 2) rfl rfl rfl ?_
  refine k_lconst C (x := 0) rfl rfl rfl ?_
  refine s_L C rfl rfl T_wl (vin (n := 2) rfl (by rw [N_wl]; exact Nat.le_of_ble_eq_true rfl) (by rw [N_wl]; exact Nat.le_of_ble_eq_true rfl)) (show (2 : Int32).toNatClampNeg = 2 from by decide) ?_
  refine k_aload_n C rfl rfl rfl ?_
  refine g_R C rfl rfl rfl T_m rfl R_m_34 ?_
  refine k_iconst C (x := 3) rfl rfl rfl ?_
  refine k_lconst C (x := 1) rfl rfl rfl ?_
  refine s_L C rfl rfl T_wl (vin (n := 3) rfl (by rw [N_wl]; exact Nat.le_of_ble_eq_true rfl) (by rw [N_wl]; exact Nat.le_of_ble_eq_true rfl)) (show (3 : Int32).toNatClampNeg = 3 from by decide) ?_
  refine m_red_loop rfl C S T_m A_m R_m_34 T_wl N_wl A_wl hK 999 _ s hJ (Or.inr (by have := hJ.1; omega)) (Fr.l (Fr.l (Fr.l (Fr.l (Fr.l Fr.rf A_m) A_wl) A_wl) A_wl) A_wl) ⟨(u2_a (t_nq T_m T_wl (by decide))).trans ((u2_a (t_nq T_m T_wl (by decide))).trans ((u2_a (t_nq T_m T_wl (by decide))).trans ((u2_a (t_nq T_m T_wl (by decide))).trans ((u2_k (by decide)).trans (J_m_30))))), (u2_a (t_nq T_m T_wl (by decide))).trans ((u2_a (t_nq T_m T_wl (by decide))).trans ((u2_a (t_nq T_m T_wl (by decide))).trans ((u2_a (t_nq T_m T_wl (by decide))).trans ((u2_k (by decide)).trans (J_m_31))))), (u2_a (t_nq T_m T_wl (by decide))).trans ((u2_a (t_nq T_m T_wl (by decide))).trans ((u2_a (t_nq T_m T_wl (by decide))).trans ((u2_a (t_nq T_m T_wl (by decide))).trans ((u2_k (by decide)).trans (J_m_32))))), ((u2_a (t_nq T_m T_wl (by decide))).trans ((u2_a (t_nq T_m T_wl (by decide))).trans ((u2_a (t_nq T_m T_wl (by decide))).trans ((u2_a (t_nq T_m T_wl (by decide))).trans (u2_s))))).trans h3.symm, ((u2_k (by decide)).trans ((u2_k (by decide)).trans ((u2_k (by decide)).trans (u2_s)))).trans h4.symm, ((u2_k (by decide)).trans ((u2_k (by decide)).trans (u2_s))).trans h5.symm, ((u2_k (by decide)).trans (u2_s)).trans h6.symm, (u2_s).trans h7.symm⟩ (fun L2 hF2 hs2 => ?_)
  exact k_vret C rfl rfl (Nat.le_of_ble_eq_true rfl) (Nat.le_of_ble_eq_true rfl) ⟨_, _, rfl, rfl, rfl, hF2, hs2⟩
end
-- 39.37.red.lean.txt
section
/-! reduced, the calls -/
theorem disc32 {a b c : Int32} (h1 : -999 ≤ a.toInt ∧ a.toInt ≤ 999) (h2 : -999 ≤ b.toInt ∧ b.toInt ≤ 999) (h3 : -999 ≤ c.toInt ∧ c.toInt ≤ 999) : (b * b - 4 * a * c).toInt = b.toInt * b.toInt - 4 * (a.toInt * c.toInt) := by
  have m1 := bdm h2 h2
  have m2 := bdm (x := 4 * a.toInt) (X := 4000) (by omega) h3
  have m3 := bdm h1 h3
  have e1 := ii_mul (x := b) (y := b) (by omega)
  have e4 : (4 : Int32).toInt = 4 := rfl
  have e2 : (4 * a).toInt = 4 * a.toInt := by rw [ii_mul (by rw [e4]; omega), e4]
  have e3 : (4 * a * c).toInt = 4 * a.toInt * c.toInt := by rw [ii_mul (by rw [e2]; omega), e2]
  rw [ii_sub (by rw [e1, e3, Int.mul_assoc]; omega), e1, e3, Int.mul_assoc]
theorem disc64 {a b c : Int32} (h1 : -999 ≤ a.toInt ∧ a.toInt ≤ 999) (h2 : -999 ≤ b.toInt ∧ b.toInt ≤ 999) (h3 : -999 ≤ c.toInt ∧ c.toInt ≤ 999) : lg_cmp (b.toInt64 * b.toInt64) (4 * a.toInt64 * c.toInt64) < 0 ↔ b.toInt * b.toInt - 4 * (a.toInt * c.toInt) < 0 := by
  have m1 := bdm h2 h2
  have m2 := bdm (x := 4 * a.toInt) (X := 4000) (by omega) h3
  have m3 := bdm h1 h3
  have e1 : (b.toInt64 * b.toInt64).toInt = b.toInt * b.toInt := by rw [li_mul (by rw [i2l_eq]; omega), i2l_eq]
  have e4 : (4 : Int64).toInt = 4 := rfl
  have e2 : (4 * a.toInt64).toInt = 4 * a.toInt := by rw [li_mul (by rw [e4, i2l_eq]; omega), e4, i2l_eq]
  have e3 : (4 * a.toInt64 * c.toInt64).toInt = 4 * a.toInt * c.toInt := by rw [li_mul (by rw [e2, i2l_eq]; omega), e2, i2l_eq]
  rw [lg_cmp_lt, l_lt, e1, e3, Int.mul_assoc]; omega
theorem wh_i {v : Int32} : (-(999 : Int32) ≤ v ∧ v ≤ 999) ↔ (-999 ≤ v.toInt ∧ v.toInt ≤ 999) := by
  rw [i_le, i_le]; exact Iff.rfl
theorem e_reduced_no {d : Nat} {T N : Nat → Nat} {I : IT} {L : LT} {R : RT} {x : Nat} {a b c n : Int32} (T_x : T x = 12) (h : ¬ okRed a b c) : Ex (d + 2) 168 [.ref x, .int a, .int b, .int c, .int n] (T, N, I, L, R) 1 6 (pX 0 T N R (fun I9 L9 => I9 = I ∧ L9 = L)) := by
  refine ⟨_, rfl, Nat.le_of_ble_eq_true rfl, fun V C S => ?_⟩
  show V 0 [(0, .ref x), (1, .int a), (2, .int b), (3, .int c), (4, .int n)] [] (T, N, I, L, R) 0 0
  refine k_iload_n C rfl rfl rfl ?_
  refine k_sipush C (x := 999) rfl rfl rfl ?_
  refine c_SI C e_isWhole rfl rfl rfl rfl rfl rfl rfl (Nat.le_of_ble_eq_true rfl) (Nat.le_of_ble_eq_true rfl) (Nat.le_of_ble_eq_true rfl) ?_
  rintro _ _ _ ⟨hx7, hI8, hL9⟩
  have hx7 := hx7.symm; subst hx7
  have hI8 := hI8.symm; subst hI8; have hL9 := hL9.symm; subst hL9
  refine k_if_eq C (t := 30) rfl rfl rfl (fun c7 => ?_) (fun c7 => ?_)
  · skip
    exact k_throw C rfl rfl rfl rfl rfl rfl (Nat.le_of_ble_eq_true rfl) (Nat.le_of_ble_eq_true rfl) (Nat.le_of_ble_eq_true rfl) ⟨_, _, rfl, rfl, ⟨rfl, rfl⟩⟩
  have q1 := wh_i.mp (inY c7)
  refine k_iload_n C rfl rfl rfl ?_
  refine k_sipush C (x := 999) rfl rfl rfl ?_
  refine c_SI C e_isWhole rfl rfl rfl rfl rfl rfl rfl (Nat.le_of_ble_eq_true rfl) (Nat.le_of_ble_eq_true rfl) (Nat.le_of_ble_eq_true rfl) ?_
  rintro _ _ _ ⟨hx7, hI8, hL9⟩
  have hx7 := hx7.symm; subst hx7
  have hI8 := hI8.symm; subst hI8; have hL9 := hL9.symm; subst hL9
  refine k_if_eq C (t := 30) rfl rfl rfl (fun c17 => ?_) (fun c17 => ?_)
  · skip
    exact k_throw C rfl rfl rfl rfl rfl rfl (Nat.le_of_ble_eq_true rfl) (Nat.le_of_ble_eq_true rfl) (Nat.le_of_ble_eq_true rfl) ⟨_, _, rfl, rfl, ⟨rfl, rfl⟩⟩
  have q2 := wh_i.mp (inY c17)
  refine k_iload_n C rfl rfl rfl ?_
  refine k_sipush C (x := 999) rfl rfl rfl ?_
  refine c_SI C e_isWhole rfl rfl rfl rfl rfl rfl rfl (Nat.le_of_ble_eq_true rfl) (Nat.le_of_ble_eq_true rfl) (Nat.le_of_ble_eq_true rfl) ?_
  rintro _ _ _ ⟨hx7, hI8, hL9⟩
  have hx7 := hx7.symm; subst hx7
  have hI8 := hI8.symm; subst hI8; have hL9 := hL9.symm; subst hL9
  refine k_if_ne C (t := 38) rfl rfl rfl (fun c27 => ?_) (fun c27 => ?_)
  · skip
    have q3 := wh_i.mp (inY c27)
    refine k_iload_n C rfl rfl rfl ?_
    refine k_if_le C (t := 54) rfl rfl rfl (fun c39 => ?_) (fun c39 => ?_)
    · skip
      exact k_throw C rfl rfl rfl rfl rfl rfl (Nat.le_of_ble_eq_true rfl) (Nat.le_of_ble_eq_true rfl) (Nat.le_of_ble_eq_true rfl) ⟨_, _, rfl, rfl, ⟨rfl, rfl⟩⟩
    have q4 : 0 < a.toInt := by have := i_lt.mp (Int32.not_le.mp c39); exact this
    refine k_iload_n C rfl rfl rfl ?_
    refine k_iload_n C rfl rfl rfl ?_
    refine k_imul C rfl rfl ?_
    refine k_iconst C (x := 4) rfl rfl rfl ?_
    refine k_iload_n C rfl rfl rfl ?_
    refine k_imul C rfl rfl ?_
    refine k_iload_n C rfl rfl rfl ?_
    refine k_imul C rfl rfl ?_
    refine k_isub C rfl rfl ?_
    refine k_if_lt C (t := 62) rfl rfl rfl (fun c51 => ?_) (fun c51 => ?_)
    · skip
      exact absurd ⟨q1, q2, q3, q4, by have := i_lt.mp c51; rw [disc32 q1 q2 q3] at this; exact this⟩ h
    exact k_throw C rfl rfl rfl rfl rfl rfl (Nat.le_of_ble_eq_true rfl) (Nat.le_of_ble_eq_true rfl) (Nat.le_of_ble_eq_true rfl) ⟨_, _, rfl, rfl, ⟨rfl, rfl⟩⟩
  exact k_throw C rfl rfl rfl rfl rfl rfl (Nat.le_of_ble_eq_true rfl) (Nat.le_of_ble_eq_true rfl) (Nat.le_of_ble_eq_true rfl) ⟨_, _, rfl, rfl, ⟨rfl, rfl⟩⟩

theorem e_reduced_nse {d : Nat} {T N : Nat → Nat} {I : IT} {L : LT} {R : RT} {x : Nat} {a b c n : Int32} (T_x : T x = 12) (hok : okRed a b c) (hn : ¬ (0 ≤ n.toInt ∧ n.toInt ≤ 8)) : Ex (d + 2) 168 [.ref x, .int a, .int b, .int c, .int n] (T, N, I, L, R) 1 6 (pX 4 T N R (fun I9 L9 => I9 = I ∧ L9 = L)) := by
  refine ⟨_, rfl, Nat.le_of_ble_eq_true rfl, fun V C S => ?_⟩
  show V 0 [(0, .ref x), (1, .int a), (2, .int b), (3, .int c), (4, .int n)] [] (T, N, I, L, R) 0 0
  refine k_iload_n C rfl rfl rfl ?_
  refine k_sipush C (x := 999) rfl rfl rfl ?_
  refine c_SI C e_isWhole rfl rfl rfl rfl rfl rfl rfl (Nat.le_of_ble_eq_true rfl) (Nat.le_of_ble_eq_true rfl) (Nat.le_of_ble_eq_true rfl) ?_
  rintro _ _ _ ⟨hx7, hI8, hL9⟩
  have hx7 := hx7.symm; subst hx7
  have hI8 := hI8.symm; subst hI8; have hL9 := hL9.symm; subst hL9
  refine k_if_eq C (t := 30) rfl rfl rfl (fun c7 => ?_) (fun c7 => ?_)
  · skip
    exact absurd c7 (inN (wh_i.mpr hok.1))
  refine k_iload_n C rfl rfl rfl ?_
  refine k_sipush C (x := 999) rfl rfl rfl ?_
  refine c_SI C e_isWhole rfl rfl rfl rfl rfl rfl rfl (Nat.le_of_ble_eq_true rfl) (Nat.le_of_ble_eq_true rfl) (Nat.le_of_ble_eq_true rfl) ?_
  rintro _ _ _ ⟨hx7, hI8, hL9⟩
  have hx7 := hx7.symm; subst hx7
  have hI8 := hI8.symm; subst hI8; have hL9 := hL9.symm; subst hL9
  refine k_if_eq C (t := 30) rfl rfl rfl (fun c17 => ?_) (fun c17 => ?_)
  · skip
    exact absurd c17 (inN (wh_i.mpr hok.2.1))
  refine k_iload_n C rfl rfl rfl ?_
  refine k_sipush C (x := 999) rfl rfl rfl ?_
  refine c_SI C e_isWhole rfl rfl rfl rfl rfl rfl rfl (Nat.le_of_ble_eq_true rfl) (Nat.le_of_ble_eq_true rfl) (Nat.le_of_ble_eq_true rfl) ?_
  rintro _ _ _ ⟨hx7, hI8, hL9⟩
  have hx7 := hx7.symm; subst hx7
  have hI8 := hI8.symm; subst hI8; have hL9 := hL9.symm; subst hL9
  refine k_if_ne C (t := 38) rfl rfl rfl (fun c27 => ?_) (fun c27 => ?_)
  · skip
    refine k_iload_n C rfl rfl rfl ?_
    refine k_if_le C (t := 54) rfl rfl rfl (fun c39 => ?_) (fun c39 => ?_)
    · skip
      exact absurd (i_le.mp c39) (by have := hok.2.2.2.1; show ¬ _ ≤ (0 : Int); omega)
    refine k_iload_n C rfl rfl rfl ?_
    refine k_iload_n C rfl rfl rfl ?_
    refine k_imul C rfl rfl ?_
    refine k_iconst C (x := 4) rfl rfl rfl ?_
    refine k_iload_n C rfl rfl rfl ?_
    refine k_imul C rfl rfl ?_
    refine k_iload_n C rfl rfl rfl ?_
    refine k_imul C rfl rfl ?_
    refine k_isub C rfl rfl ?_
    refine k_if_lt C (t := 62) rfl rfl rfl (fun c51 => ?_) (fun c51 => ?_)
    · skip
      refine k_iload C rfl rfl rfl ?_
      refine k_if_lt C (t := 74) rfl rfl rfl (fun c64 => ?_) (fun c64 => ?_)
      · skip
        exact k_throw C rfl rfl rfl rfl rfl rfl (Nat.le_of_ble_eq_true rfl) (Nat.le_of_ble_eq_true rfl) (Nat.le_of_ble_eq_true rfl) ⟨_, _, rfl, rfl, ⟨rfl, rfl⟩⟩
      refine k_iload C rfl rfl rfl ?_
      refine k_bipush C (x := 8) rfl rfl rfl ?_
      refine k_icmp_le C (t := 82) rfl rfl rfl (fun c71 => ?_) (fun c71 => ?_)
      · skip
        exact absurd ⟨by have := i_le.mp (Int32.not_lt.mp c64); exact this, by have := i_le.mp c71; exact this⟩ hn
      exact k_throw C rfl rfl rfl rfl rfl rfl (Nat.le_of_ble_eq_true rfl) (Nat.le_of_ble_eq_true rfl) (Nat.le_of_ble_eq_true rfl) ⟨_, _, rfl, rfl, ⟨rfl, rfl⟩⟩
    exact absurd (i_lt.mpr (by rw [disc32 hok.1 hok.2.1 hok.2.2.1]; exact hok.2.2.2.2)) c51
  exact absurd (inN (wh_i.mpr hok.2.2.1)) c27

theorem e_reduced_yes {d : Nat} {T N : Nat → Nat} {I : IT} {L : LT} {R : RT} {A : Nat → Prop} {x wh : Nat} {a b c n : Int32} (T_x : T x = 12) (R_x_10 : R x 10 = some wh) (T_wh : T wh = 11) (A_wh : A wh) (hok : okRed a b c) (hn : 0 ≤ n.toInt ∧ n.toInt ≤ 8) : Ex (d + 4) 168 [.ref x, .int a, .int b, .int c, .int n] (T, N, I, L, R) 0 0 (pL T N R (fun x9 I9 L9 => x9 = tlS (run 1000 (st0 a b c)) n.toInt ∧ Fr A I L I9 L9)) := by
  refine ⟨_, rfl, Nat.le_of_ble_eq_true rfl, fun V C S => ?_⟩
  show V 0 [(0, .ref x), (1, .int a), (2, .int b), (3, .int c), (4, .int n)] [] (T, N, I, L, R) 0 0
  refine k_iload_n C rfl rfl rfl ?_
  refine k_sipush C (x := 999) rfl rfl rfl ?_
  refine c_SI C e_isWhole rfl rfl rfl rfl rfl rfl rfl (Nat.le_of_ble_eq_true rfl) (Nat.le_of_ble_eq_true rfl) (Nat.le_of_ble_eq_true rfl) ?_
  rintro _ _ _ ⟨hx7, hI8, hL9⟩
  have hx7 := hx7.symm; subst hx7
  have hI8 := hI8.symm; subst hI8; have hL9 := hL9.symm; subst hL9
  refine k_if_eq C (t := 30) rfl rfl rfl (fun c7 => ?_) (fun c7 => ?_)
  · skip
    exact absurd c7 (inN (wh_i.mpr hok.1))
  refine k_iload_n C rfl rfl rfl ?_
  refine k_sipush C (x := 999) rfl rfl rfl ?_
  refine c_SI C e_isWhole rfl rfl rfl rfl rfl rfl rfl (Nat.le_of_ble_eq_true rfl) (Nat.le_of_ble_eq_true rfl) (Nat.le_of_ble_eq_true rfl) ?_
  rintro _ _ _ ⟨hx7, hI8, hL9⟩
  have hx7 := hx7.symm; subst hx7
  have hI8 := hI8.symm; subst hI8; have hL9 := hL9.symm; subst hL9
  refine k_if_eq C (t := 30) rfl rfl rfl (fun c17 => ?_) (fun c17 => ?_)
  · skip
    exact absurd c17 (inN (wh_i.mpr hok.2.1))
  refine k_iload_n C rfl rfl rfl ?_
  refine k_sipush C (x := 999) rfl rfl rfl ?_
  refine c_SI C e_isWhole rfl rfl rfl rfl rfl rfl rfl (Nat.le_of_ble_eq_true rfl) (Nat.le_of_ble_eq_true rfl) (Nat.le_of_ble_eq_true rfl) ?_
  rintro _ _ _ ⟨hx7, hI8, hL9⟩
  have hx7 := hx7.symm; subst hx7
  have hI8 := hI8.symm; subst hI8; have hL9 := hL9.symm; subst hL9
  refine k_if_ne C (t := 38) rfl rfl rfl (fun c27 => ?_) (fun c27 => ?_)
  · skip
    refine k_iload_n C rfl rfl rfl ?_
    refine k_if_le C (t := 54) rfl rfl rfl (fun c39 => ?_) (fun c39 => ?_)
    · skip
      exact absurd (i_le.mp c39) (by have := hok.2.2.2.1; show ¬ _ ≤ (0 : Int); omega)
    refine k_iload_n C rfl rfl rfl ?_
    refine k_iload_n C rfl rfl rfl ?_
    refine k_imul C rfl rfl ?_
    refine k_iconst C (x := 4) rfl rfl rfl ?_
    refine k_iload_n C rfl rfl rfl ?_
    refine k_imul C rfl rfl ?_
    refine k_iload_n C rfl rfl rfl ?_
    refine k_imul C rfl rfl ?_
    refine k_isub C rfl rfl ?_
    refine k_if_lt C (t := 62) rfl rfl rfl (fun c51 => ?_) (fun c51 => ?_)
    · skip
      refine k_iload C rfl rfl rfl ?_
      refine k_if_lt C (t := 74) rfl rfl rfl (fun c64 => ?_) (fun c64 => ?_)
      · skip
        exact absurd (i_lt.mp c64) (by show ¬ _ < (0 : Int); omega)
      refine k_iload C rfl rfl rfl ?_
      refine k_bipush C (x := 8) rfl rfl rfl ?_
      refine k_icmp_le C (t := 82) rfl rfl rfl (fun c71 => ?_) (fun c71 => ?_)
      · skip
        refine k_aload_n C rfl rfl rfl ?_
        refine g_R C rfl rfl rfl T_x rfl R_x_10 ?_
        refine k_iload_n C rfl rfl rfl ?_
        refine k_iload_n C rfl rfl rfl ?_
        refine k_iload_n C rfl rfl rfl ?_
        refine c_VV C (e_reduce T_wh A_wh hok) rfl rfl rfl rfl rfl ⟨_, rfl, rfl, T_wh, Nat.le_of_ble_eq_true rfl⟩ rfl rfl (Nat.le_of_ble_eq_true rfl) (Nat.le_of_ble_eq_true rfl) (Nat.le_of_ble_eq_true rfl) ?_
        rintro I1 L1 ⟨hI8, hF1, hs1⟩
        have hI8 := hI8.symm; subst hI8
        refine k_aload_n C rfl rfl rfl ?_
        refine g_R C rfl rfl rfl T_x rfl R_x_10 ?_
        refine k_iload C rfl rfl rfl ?_
        refine c_VL C (e_tell T_wh (hs1 0 (Nat.le_of_ble_eq_true rfl)) (hs1 1 (Nat.le_of_ble_eq_true rfl)) (hs1 2 (Nat.le_of_ble_eq_true rfl)) (hs1 3 (Nat.le_of_ble_eq_true rfl)) (hs1 4 (Nat.le_of_ble_eq_true rfl)) (hs1 5 (Nat.le_of_ble_eq_true rfl)) (hs1 6 (Nat.le_of_ble_eq_true rfl)) (hs1 7 (Nat.le_of_ble_eq_true rfl)) hn) rfl rfl rfl rfl rfl ⟨_, rfl, rfl, T_wh, Nat.le_of_ble_eq_true rfl⟩ rfl rfl (Nat.le_of_ble_eq_true rfl) (Nat.le_of_ble_eq_true rfl) (Nat.le_of_ble_eq_true rfl) ?_
        rintro _ _ _ ⟨hx7, hI8, hL9⟩
        have hx7 := hx7.symm; subst hx7
        have hI8 := hI8.symm; subst hI8; have hL9 := hL9.symm; subst hL9
        exact k_lret C rfl rfl (Nat.le_of_ble_eq_true rfl) (Nat.le_of_ble_eq_true rfl) ⟨_, _, _, rfl, rfl, ⟨rfl, hF1⟩⟩
      exact absurd (i_le.mpr (show _ ≤ (8 : Int) from hn.2)) c71
    exact absurd (i_lt.mpr (by rw [disc32 hok.1 hok.2.1 hok.2.2.1]; exact hok.2.2.2.2)) c51
  exact absurd (inN (wh_i.mpr hok.2.2.1)) c27

theorem e_m_isThousand {d : Nat} {T N : Nat → Nat} {I : IT} {L : LT} {R : RT} {v : Int32}  : Ex (d + 2) 302 [.int v] (T, N, I, L, R) 0 0 (pI T N R (fun x9 I9 L9 => x9 = (if (-999 : Int32) ≤ v ∧ v ≤ 999 then (1 : Int32) else 0) ∧ I9 = I ∧ L9 = L)) := by
  refine ⟨_, rfl, Nat.le_of_ble_eq_true rfl, fun V C S => ?_⟩
  show V 0 [(0, .int v)] [] (T, N, I, L, R) 0 0
  refine k_iload_n C rfl rfl rfl ?_
  refine k_sipush C (x := -999) rfl rfl rfl ?_
  refine k_sipush C (x := 999) rfl rfl rfl ?_
  refine c_SI C e_in rfl rfl rfl rfl rfl rfl rfl (Nat.le_of_ble_eq_true rfl) (Nat.le_of_ble_eq_true rfl) (Nat.le_of_ble_eq_true rfl) ?_
  rintro _ _ _ ⟨hx7, hI8, hL9⟩
  have hx7 := hx7.symm; subst hx7
  have hI8 := hI8.symm; subst hI8; have hL9 := hL9.symm; subst hL9
  exact k_iret C rfl (Or.inr ⟨rfl, by by_cases h : (-999 : Int32) ≤ v ∧ v ≤ 999; exact Or.inr (if_pos h); exact Or.inl (if_neg h)⟩) (Nat.le_of_ble_eq_true rfl) (Nat.le_of_ble_eq_true rfl) ⟨_, _, _, rfl, rfl, ⟨rfl, rfl, rfl⟩⟩

theorem e_m_turnsOf {d : Nat} {T N : Nat → Nat} {I : IT} {L : LT} {R : RT} {a b c : Int64}  : Ex (d + 1) 301 [.long a, .long b, .long c] (T, N, I, L, R) 0 0 (pI T N R (fun x9 I9 L9 => x9 = (if ¬ a = c then (2 : Int32) else if b = 0 then 4 else if b = a then 6 else 2) ∧ I9 = I ∧ L9 = L)) := by
  refine ⟨_, rfl, Nat.le_of_ble_eq_true rfl, fun V C S => ?_⟩
  show V 0 [(0, .long a), (2, .long b), (4, .long c)] [] (T, N, I, L, R) 0 0
  refine k_lload_n C rfl rfl rfl ?_
  refine k_lload C rfl rfl rfl ?_
  refine k_lcmp C rfl rfl ?_
  refine k_if_eq C (t := 11) rfl rfl rfl (fun c4 => ?_) (fun c4 => ?_)
  · skip
    have e9 := (lg_cmp_eq _ _).mp c4
    refine k_lload_n C rfl rfl rfl ?_
    refine k_lconst C (x := 0) rfl rfl rfl ?_
    refine k_lcmp C rfl rfl ?_
    refine k_if_ne C (t := 21) rfl rfl rfl (fun c14 => ?_) (fun c14 => ?_)
    · skip
      have e20 : ¬ b = 0 := fun h => c14 ((lg_cmp_eq _ _).mpr h)
      refine k_lload_n C rfl rfl rfl ?_
      refine k_lload_n C rfl rfl rfl ?_
      refine k_lcmp C rfl rfl ?_
      refine k_if_ne C (t := 32) rfl rfl rfl (fun c24 => ?_) (fun c24 => ?_)
      · skip
        have q : (if ¬ a = c then (2 : Int32) else if b = 0 then 4 else if b = a then 6 else 2) = 2 := by rw [if_neg (fun h => h e9), if_neg e20, if_neg (fun h => c24 ((lg_cmp_eq _ _).mpr h))]
        refine k_iconst C (x := 2) rfl rfl rfl ?_
        exact k_iret C rfl (Or.inl rfl) (Nat.le_of_ble_eq_true rfl) (Nat.le_of_ble_eq_true rfl) ⟨_, _, _, rfl, rfl, ⟨q.symm, rfl, rfl⟩⟩
      have q : (if ¬ a = c then (2 : Int32) else if b = 0 then 4 else if b = a then 6 else 2) = 6 := by rw [if_neg (fun h => h e9), if_neg e20, if_pos ((lg_cmp_eq _ _).mp (Decidable.not_not.mp c24))]
      refine k_bipush C (x := 6) rfl rfl rfl ?_
      refine k_goto C (pc2 := 33) rfl rfl ?_
      exact k_iret C rfl (Or.inl rfl) (Nat.le_of_ble_eq_true rfl) (Nat.le_of_ble_eq_true rfl) ⟨_, _, _, rfl, rfl, ⟨q.symm, rfl, rfl⟩⟩
    have e20 := (lg_cmp_eq _ _).mp (Decidable.not_not.mp c14)
    have q : (if ¬ a = c then (2 : Int32) else if b = 0 then 4 else if b = a then 6 else 2) = 4 := by rw [if_neg (fun h => h e9), if_pos e20]
    refine k_iconst C (x := 4) rfl rfl rfl ?_
    refine k_goto C (pc2 := 33) rfl rfl ?_
    exact k_iret C rfl (Or.inl rfl) (Nat.le_of_ble_eq_true rfl) (Nat.le_of_ble_eq_true rfl) ⟨_, _, _, rfl, rfl, ⟨q.symm, rfl, rfl⟩⟩
  have e9 : ¬ a = c := fun h => c4 ((lg_cmp_eq _ _).mpr h)
  have q := (if_pos e9 : (if ¬ a = c then (2 : Int32) else if b = 0 then 4 else if b = a then 6 else 2) = 2)
  refine k_iconst C (x := 2) rfl rfl rfl ?_
  refine k_goto C (pc2 := 33) rfl rfl ?_
  exact k_iret C rfl (Or.inl rfl) (Nat.le_of_ble_eq_true rfl) (Nat.le_of_ble_eq_true rfl) ⟨_, _, _, rfl, rfl, ⟨q.symm, rfl, rfl⟩⟩

theorem e_m_reduced_no {d : Nat} {T N : Nat → Nat} {I : IT} {L : LT} {R : RT} {A : Nat → Prop} {m : Nat} {a b c n : Int32} (T_m : T m = 13) (A_m : A m) (h : ¬ okRed a b c) : Ex (d + 3) 303 [.ref m, .int a, .int b, .int c, .int n] (T, N, I, L, R) 0 0 (pL T N R (fun x9 I9 L9 => Fr A I L I9 L9 ∧ I9 m 0 = 1 ∧ IKm m I I9)) := by
  refine ⟨_, rfl, Nat.le_of_ble_eq_true rfl, fun V C S => ?_⟩
  show V 0 [(0, .ref m), (1, .int a), (2, .int b), (3, .int c), (4, .int n)] [] (T, N, I, L, R) 0 0
  refine k_aload_n C rfl rfl rfl ?_
  refine k_iconst C (x := 0) rfl rfl rfl ?_
  refine p_I C rfl rfl rfl T_m (Or.inr rfl) rfl ?_
  refine k_aload_n C rfl rfl rfl ?_
  refine k_iload_n C rfl rfl rfl ?_
  refine k_i2l C rfl rfl ?_
  refine p_L C rfl rfl rfl T_m (Or.inr rfl) rfl ?_
  refine k_aload_n C rfl rfl rfl ?_
  refine k_iload_n C rfl rfl rfl ?_
  refine k_i2l C rfl rfl ?_
  refine p_L C rfl rfl rfl T_m (Or.inr rfl) rfl ?_
  refine k_aload_n C rfl rfl rfl ?_
  refine k_iload_n C rfl rfl rfl ?_
  refine k_i2l C rfl rfl ?_
  refine p_L C rfl rfl rfl T_m (Or.inr rfl) rfl ?_
  refine k_iload_n C rfl rfl rfl ?_
  refine c_SI C e_m_isThousand rfl rfl rfl rfl rfl rfl rfl (Nat.le_of_ble_eq_true rfl) (Nat.le_of_ble_eq_true rfl) (Nat.le_of_ble_eq_true rfl) ?_
  rintro _ _ _ ⟨hx7, hI8, hL9⟩
  have hx7 := hx7.symm; subst hx7
  have hI8 := hI8.symm; subst hI8; have hL9 := hL9.symm; subst hL9
  refine k_if_eq C (t := 66) rfl rfl rfl (fun c27 => ?_) (fun c27 => ?_)
  · skip
    refine k_iconst C (x := 1) rfl rfl rfl ?_
    refine k_goto C (pc2 := 71) rfl rfl ?_
    refine k_istore C (lw := [(5, .int _), (0, _), (1, .int _), (2, .int _), (3, .int _), (4, .int _)]) rfl rfl (Nat.le_of_ble_eq_true rfl) rfl ?_
    refine k_aload_n C rfl rfl rfl ?_
    refine k_iload C rfl rfl rfl ?_
    refine k_iconst C (x := 1) rfl rfl rfl ?_
    refine c_VI C (e_throwsIf1 T_m rfl) rfl rfl rfl rfl rfl ⟨_, rfl, rfl, T_m, Nat.le_of_ble_eq_true rfl⟩ rfl rfl (Nat.le_of_ble_eq_true rfl) (Nat.le_of_ble_eq_true rfl) (Nat.le_of_ble_eq_true rfl) ?_
    rintro _ _ _ ⟨hx7, hI8, hL9⟩
    have hx7 := hx7.symm; subst hx7
    have hI8 := hI8.symm; subst hI8; have hL9 := hL9.symm; subst hL9
    refine k_if_ne C (t := 107) rfl rfl rfl (fun _ => ?_) (fun c80 => absurd (by decide) c80)
    refine k_lconst C (x := 0) rfl rfl rfl ?_
    exact k_lret C rfl rfl (Nat.le_of_ble_eq_true rfl) (Nat.le_of_ble_eq_true rfl) ⟨_, _, _, rfl, rfl, ⟨(Fr.l (Fr.l (Fr.l (Fr.i (Fr.i Fr.rf A_m) A_m) A_m) A_m) A_m), u2_s, (by first | exact IKm.i IKm.rf | exact IKm.i (IKm.i IKm.rf))⟩⟩
  have q1 := wh_i.mp (inY c27)
  refine k_iload_n C rfl rfl rfl ?_
  refine c_SI C e_m_isThousand rfl rfl rfl rfl rfl rfl rfl (Nat.le_of_ble_eq_true rfl) (Nat.le_of_ble_eq_true rfl) (Nat.le_of_ble_eq_true rfl) ?_
  rintro _ _ _ ⟨hx7, hI8, hL9⟩
  have hx7 := hx7.symm; subst hx7
  have hI8 := hI8.symm; subst hI8; have hL9 := hL9.symm; subst hL9
  refine k_if_eq C (t := 66) rfl rfl rfl (fun c34 => ?_) (fun c34 => ?_)
  · skip
    refine k_iconst C (x := 1) rfl rfl rfl ?_
    refine k_goto C (pc2 := 71) rfl rfl ?_
    refine k_istore C (lw := [(5, .int _), (0, _), (1, .int _), (2, .int _), (3, .int _), (4, .int _)]) rfl rfl (Nat.le_of_ble_eq_true rfl) rfl ?_
    refine k_aload_n C rfl rfl rfl ?_
    refine k_iload C rfl rfl rfl ?_
    refine k_iconst C (x := 1) rfl rfl rfl ?_
    refine c_VI C (e_throwsIf1 T_m rfl) rfl rfl rfl rfl rfl ⟨_, rfl, rfl, T_m, Nat.le_of_ble_eq_true rfl⟩ rfl rfl (Nat.le_of_ble_eq_true rfl) (Nat.le_of_ble_eq_true rfl) (Nat.le_of_ble_eq_true rfl) ?_
    rintro _ _ _ ⟨hx7, hI8, hL9⟩
    have hx7 := hx7.symm; subst hx7
    have hI8 := hI8.symm; subst hI8; have hL9 := hL9.symm; subst hL9
    refine k_if_ne C (t := 107) rfl rfl rfl (fun _ => ?_) (fun c80 => absurd (by decide) c80)
    refine k_lconst C (x := 0) rfl rfl rfl ?_
    exact k_lret C rfl rfl (Nat.le_of_ble_eq_true rfl) (Nat.le_of_ble_eq_true rfl) ⟨_, _, _, rfl, rfl, ⟨(Fr.l (Fr.l (Fr.l (Fr.i (Fr.i Fr.rf A_m) A_m) A_m) A_m) A_m), u2_s, (by first | exact IKm.i IKm.rf | exact IKm.i (IKm.i IKm.rf))⟩⟩
  have q2 := wh_i.mp (inY c34)
  refine k_iload_n C rfl rfl rfl ?_
  refine c_SI C e_m_isThousand rfl rfl rfl rfl rfl rfl rfl (Nat.le_of_ble_eq_true rfl) (Nat.le_of_ble_eq_true rfl) (Nat.le_of_ble_eq_true rfl) ?_
  rintro _ _ _ ⟨hx7, hI8, hL9⟩
  have hx7 := hx7.symm; subst hx7
  have hI8 := hI8.symm; subst hI8; have hL9 := hL9.symm; subst hL9
  refine k_if_eq C (t := 66) rfl rfl rfl (fun c41 => ?_) (fun c41 => ?_)
  · skip
    refine k_iconst C (x := 1) rfl rfl rfl ?_
    refine k_goto C (pc2 := 71) rfl rfl ?_
    refine k_istore C (lw := [(5, .int _), (0, _), (1, .int _), (2, .int _), (3, .int _), (4, .int _)]) rfl rfl (Nat.le_of_ble_eq_true rfl) rfl ?_
    refine k_aload_n C rfl rfl rfl ?_
    refine k_iload C rfl rfl rfl ?_
    refine k_iconst C (x := 1) rfl rfl rfl ?_
    refine c_VI C (e_throwsIf1 T_m rfl) rfl rfl rfl rfl rfl ⟨_, rfl, rfl, T_m, Nat.le_of_ble_eq_true rfl⟩ rfl rfl (Nat.le_of_ble_eq_true rfl) (Nat.le_of_ble_eq_true rfl) (Nat.le_of_ble_eq_true rfl) ?_
    rintro _ _ _ ⟨hx7, hI8, hL9⟩
    have hx7 := hx7.symm; subst hx7
    have hI8 := hI8.symm; subst hI8; have hL9 := hL9.symm; subst hL9
    refine k_if_ne C (t := 107) rfl rfl rfl (fun _ => ?_) (fun c80 => absurd (by decide) c80)
    refine k_lconst C (x := 0) rfl rfl rfl ?_
    exact k_lret C rfl rfl (Nat.le_of_ble_eq_true rfl) (Nat.le_of_ble_eq_true rfl) ⟨_, _, _, rfl, rfl, ⟨(Fr.l (Fr.l (Fr.l (Fr.i (Fr.i Fr.rf A_m) A_m) A_m) A_m) A_m), u2_s, (by first | exact IKm.i IKm.rf | exact IKm.i (IKm.i IKm.rf))⟩⟩
  have q3 := wh_i.mp (inY c41)
  refine k_iload_n C rfl rfl rfl ?_
  refine k_if_le C (t := 66) rfl rfl rfl (fun c45 => ?_) (fun c45 => ?_)
  · skip
    refine k_iconst C (x := 1) rfl rfl rfl ?_
    refine k_goto C (pc2 := 71) rfl rfl ?_
    refine k_istore C (lw := [(5, .int _), (0, _), (1, .int _), (2, .int _), (3, .int _), (4, .int _)]) rfl rfl (Nat.le_of_ble_eq_true rfl) rfl ?_
    refine k_aload_n C rfl rfl rfl ?_
    refine k_iload C rfl rfl rfl ?_
    refine k_iconst C (x := 1) rfl rfl rfl ?_
    refine c_VI C (e_throwsIf1 T_m rfl) rfl rfl rfl rfl rfl ⟨_, rfl, rfl, T_m, Nat.le_of_ble_eq_true rfl⟩ rfl rfl (Nat.le_of_ble_eq_true rfl) (Nat.le_of_ble_eq_true rfl) (Nat.le_of_ble_eq_true rfl) ?_
    rintro _ _ _ ⟨hx7, hI8, hL9⟩
    have hx7 := hx7.symm; subst hx7
    have hI8 := hI8.symm; subst hI8; have hL9 := hL9.symm; subst hL9
    refine k_if_ne C (t := 107) rfl rfl rfl (fun _ => ?_) (fun c80 => absurd (by decide) c80)
    refine k_lconst C (x := 0) rfl rfl rfl ?_
    exact k_lret C rfl rfl (Nat.le_of_ble_eq_true rfl) (Nat.le_of_ble_eq_true rfl) ⟨_, _, _, rfl, rfl, ⟨(Fr.l (Fr.l (Fr.l (Fr.i (Fr.i Fr.rf A_m) A_m) A_m) A_m) A_m), u2_s, (by first | exact IKm.i IKm.rf | exact IKm.i (IKm.i IKm.rf))⟩⟩
  have q4 : 0 < a.toInt := by have := i_lt.mp (Int32.not_le.mp c45); exact this
  refine k_iload_n C rfl rfl rfl ?_
  refine k_i2l C rfl rfl ?_
  refine k_iload_n C rfl rfl rfl ?_
  refine k_i2l C rfl rfl ?_
  refine k_lmul C rfl rfl ?_
  refine k_ldc2_w C rfl rfl rfl ?_
  refine k_iload_n C rfl rfl rfl ?_
  refine k_i2l C rfl rfl ?_
  refine k_lmul C rfl rfl ?_
  refine k_iload_n C rfl rfl rfl ?_
  refine k_i2l C rfl rfl ?_
  refine k_lmul C rfl rfl ?_
  refine k_lcmp C rfl rfl ?_
  refine k_if_lt C (t := 70) rfl rfl rfl (fun c63 => ?_) (fun c63 => ?_)
  · skip
    exact absurd ⟨q1, q2, q3, q4, (disc64 q1 q2 q3).mp c63⟩ h
  refine k_iconst C (x := 1) rfl rfl rfl ?_
  refine k_goto C (pc2 := 71) rfl rfl ?_
  refine k_istore C (lw := [(5, .int _), (0, _), (1, .int _), (2, .int _), (3, .int _), (4, .int _)]) rfl rfl (Nat.le_of_ble_eq_true rfl) rfl ?_
  refine k_aload_n C rfl rfl rfl ?_
  refine k_iload C rfl rfl rfl ?_
  refine k_iconst C (x := 1) rfl rfl rfl ?_
  refine c_VI C (e_throwsIf1 T_m rfl) rfl rfl rfl rfl rfl ⟨_, rfl, rfl, T_m, Nat.le_of_ble_eq_true rfl⟩ rfl rfl (Nat.le_of_ble_eq_true rfl) (Nat.le_of_ble_eq_true rfl) (Nat.le_of_ble_eq_true rfl) ?_
  rintro _ _ _ ⟨hx7, hI8, hL9⟩
  have hx7 := hx7.symm; subst hx7
  have hI8 := hI8.symm; subst hI8; have hL9 := hL9.symm; subst hL9
  refine k_if_ne C (t := 107) rfl rfl rfl (fun _ => ?_) (fun c80 => absurd (by decide) c80)
  refine k_lconst C (x := 0) rfl rfl rfl ?_
  exact k_lret C rfl rfl (Nat.le_of_ble_eq_true rfl) (Nat.le_of_ble_eq_true rfl) ⟨_, _, _, rfl, rfl, ⟨(Fr.l (Fr.l (Fr.l (Fr.i (Fr.i Fr.rf A_m) A_m) A_m) A_m) A_m), u2_s, (by first | exact IKm.i IKm.rf | exact IKm.i (IKm.i IKm.rf))⟩⟩

theorem in08 {n : Int32} : ((0 : Int32) ≤ n ∧ n ≤ 8) ↔ (0 ≤ n.toInt ∧ n.toInt ≤ 8) := by rw [i_le, i_le]; exact Iff.rfl
theorem e_m_reduced_nse {d : Nat} {T N : Nat → Nat} {I : IT} {L : LT} {R : RT} {A : Nat → Prop} {m : Nat} {a b c n : Int32} (T_m : T m = 13) (A_m : A m) (hok : okRed a b c) (hn : ¬ (0 ≤ n.toInt ∧ n.toInt ≤ 8)) : Ex (d + 3) 303 [.ref m, .int a, .int b, .int c, .int n] (T, N, I, L, R) 0 0 (pL T N R (fun x9 I9 L9 => Fr A I L I9 L9 ∧ I9 m 0 = 2 ∧ IKm m I I9)) := by
  refine ⟨_, rfl, Nat.le_of_ble_eq_true rfl, fun V C S => ?_⟩
  show V 0 [(0, .ref m), (1, .int a), (2, .int b), (3, .int c), (4, .int n)] [] (T, N, I, L, R) 0 0
  refine k_aload_n C rfl rfl rfl ?_
  refine k_iconst C (x := 0) rfl rfl rfl ?_
  refine p_I C rfl rfl rfl T_m (Or.inr rfl) rfl ?_
  refine k_aload_n C rfl rfl rfl ?_
  refine k_iload_n C rfl rfl rfl ?_
  refine k_i2l C rfl rfl ?_
  refine p_L C rfl rfl rfl T_m (Or.inr rfl) rfl ?_
  refine k_aload_n C rfl rfl rfl ?_
  refine k_iload_n C rfl rfl rfl ?_
  refine k_i2l C rfl rfl ?_
  refine p_L C rfl rfl rfl T_m (Or.inr rfl) rfl ?_
  refine k_aload_n C rfl rfl rfl ?_
  refine k_iload_n C rfl rfl rfl ?_
  refine k_i2l C rfl rfl ?_
  refine p_L C rfl rfl rfl T_m (Or.inr rfl) rfl ?_
  refine k_iload_n C rfl rfl rfl ?_
  refine c_SI C e_m_isThousand rfl rfl rfl rfl rfl rfl rfl (Nat.le_of_ble_eq_true rfl) (Nat.le_of_ble_eq_true rfl) (Nat.le_of_ble_eq_true rfl) ?_
  rintro _ _ _ ⟨hx7, hI8, hL9⟩
  have hx7 := hx7.symm; subst hx7
  have hI8 := hI8.symm; subst hI8; have hL9 := hL9.symm; subst hL9
  refine k_if_eq C (t := 66) rfl rfl rfl (fun c27 => ?_) (fun c27 => ?_)
  · skip
    exact absurd c27 (inN (wh_i.mpr hok.1))
  refine k_iload_n C rfl rfl rfl ?_
  refine c_SI C e_m_isThousand rfl rfl rfl rfl rfl rfl rfl (Nat.le_of_ble_eq_true rfl) (Nat.le_of_ble_eq_true rfl) (Nat.le_of_ble_eq_true rfl) ?_
  rintro _ _ _ ⟨hx7, hI8, hL9⟩
  have hx7 := hx7.symm; subst hx7
  have hI8 := hI8.symm; subst hI8; have hL9 := hL9.symm; subst hL9
  refine k_if_eq C (t := 66) rfl rfl rfl (fun c34 => ?_) (fun c34 => ?_)
  · skip
    exact absurd c34 (inN (wh_i.mpr hok.2.1))
  refine k_iload_n C rfl rfl rfl ?_
  refine c_SI C e_m_isThousand rfl rfl rfl rfl rfl rfl rfl (Nat.le_of_ble_eq_true rfl) (Nat.le_of_ble_eq_true rfl) (Nat.le_of_ble_eq_true rfl) ?_
  rintro _ _ _ ⟨hx7, hI8, hL9⟩
  have hx7 := hx7.symm; subst hx7
  have hI8 := hI8.symm; subst hI8; have hL9 := hL9.symm; subst hL9
  refine k_if_eq C (t := 66) rfl rfl rfl (fun c41 => ?_) (fun c41 => ?_)
  · skip
    exact absurd c41 (inN (wh_i.mpr hok.2.2.1))
  refine k_iload_n C rfl rfl rfl ?_
  refine k_if_le C (t := 66) rfl rfl rfl (fun c45 => ?_) (fun c45 => ?_)
  · skip
    exact absurd (i_le.mp c45) (by have := hok.2.2.2.1; show ¬ _ ≤ (0 : Int); omega)
  refine k_iload_n C rfl rfl rfl ?_
  refine k_i2l C rfl rfl ?_
  refine k_iload_n C rfl rfl rfl ?_
  refine k_i2l C rfl rfl ?_
  refine k_lmul C rfl rfl ?_
  refine k_ldc2_w C rfl rfl rfl ?_
  refine k_iload_n C rfl rfl rfl ?_
  refine k_i2l C rfl rfl ?_
  refine k_lmul C rfl rfl ?_
  refine k_iload_n C rfl rfl rfl ?_
  refine k_i2l C rfl rfl ?_
  refine k_lmul C rfl rfl ?_
  refine k_lcmp C rfl rfl ?_
  refine k_if_lt C (t := 70) rfl rfl rfl (fun c63 => ?_) (fun c63 => ?_)
  · skip
    refine k_iconst C (x := 0) rfl rfl rfl ?_
    refine k_istore C (lw := [(5, .int _), (0, _), (1, .int _), (2, .int _), (3, .int _), (4, .int _)]) rfl rfl (Nat.le_of_ble_eq_true rfl) rfl ?_
    refine k_aload_n C rfl rfl rfl ?_
    refine k_iload C rfl rfl rfl ?_
    refine k_iconst C (x := 1) rfl rfl rfl ?_
    refine c_VI C (e_throwsIf0 T_m rfl) rfl rfl rfl rfl rfl ⟨_, rfl, rfl, T_m, Nat.le_of_ble_eq_true rfl⟩ rfl rfl (Nat.le_of_ble_eq_true rfl) (Nat.le_of_ble_eq_true rfl) (Nat.le_of_ble_eq_true rfl) ?_
    rintro _ _ _ ⟨hx7, hI8, hL9⟩
    have hx7 := hx7.symm; subst hx7
    have hI8 := hI8.symm; subst hI8; have hL9 := hL9.symm; subst hL9
    refine k_if_ne C (t := 107) rfl rfl rfl (fun c80 => absurd c80 (by decide)) (fun _ => ?_)
    refine k_aload_n C rfl rfl rfl ?_
    refine k_iload C rfl rfl rfl ?_
    refine k_iconst C (x := 0) rfl rfl rfl ?_
    refine k_bipush C (x := 8) rfl rfl rfl ?_
    refine c_SI C e_in rfl rfl rfl rfl rfl rfl rfl (Nat.le_of_ble_eq_true rfl) (Nat.le_of_ble_eq_true rfl) (Nat.le_of_ble_eq_true rfl) ?_
    rintro _ _ _ ⟨hx7, hI8, hL9⟩
    have hx7 := hx7.symm; subst hx7
    have hI8 := hI8.symm; subst hI8; have hL9 := hL9.symm; subst hL9
    refine k_if_ne C (t := 99) rfl rfl rfl (fun c92 => ?_) (fun c92 => ?_)
    · skip
      exact absurd (in08.mp (inY c92)) hn
    refine k_iconst C (x := 1) rfl rfl rfl ?_
    refine k_goto C (pc2 := 100) rfl rfl ?_
    refine k_iconst C (x := 2) rfl rfl rfl ?_
    refine c_VI C (e_throwsIf1 T_m rfl) rfl rfl rfl rfl rfl ⟨_, rfl, rfl, T_m, Nat.le_of_ble_eq_true rfl⟩ rfl rfl (Nat.le_of_ble_eq_true rfl) (Nat.le_of_ble_eq_true rfl) (Nat.le_of_ble_eq_true rfl) ?_
    rintro _ _ _ ⟨hx7, hI8, hL9⟩
    have hx7 := hx7.symm; subst hx7
    have hI8 := hI8.symm; subst hI8; have hL9 := hL9.symm; subst hL9
    refine k_if_eq C (t := 109) rfl rfl rfl (fun c104 => absurd c104 (by decide)) (fun _ => ?_)
    refine k_lconst C (x := 0) rfl rfl rfl ?_
    exact k_lret C rfl rfl (Nat.le_of_ble_eq_true rfl) (Nat.le_of_ble_eq_true rfl) ⟨_, _, _, rfl, rfl, ⟨(Fr.l (Fr.l (Fr.l (Fr.i (Fr.i Fr.rf A_m) A_m) A_m) A_m) A_m), u2_s, (by first | exact IKm.i IKm.rf | exact IKm.i (IKm.i IKm.rf))⟩⟩
  exact absurd ((disc64 hok.1 hok.2.1 hok.2.2.1).mpr hok.2.2.2.2) c63

theorem e_m_reduced_yes {d : Nat} {T N : Nat → Nat} {I : IT} {L : LT} {R : RT} {A : Nat → Prop} {m wl : Nat} {a b c n : Int32} (T_m : T m = 13) (A_m : A m) (R_m_34 : R m 34 = some wl) (T_wl : T wl = 21) (N_wl : N wl = 4) (A_wl : A wl) (hok : okRed a b c) (hn : 0 ≤ n.toInt ∧ n.toInt ≤ 8) : Ex (d + 3) 303 [.ref m, .int a, .int b, .int c, .int n] (T, N, I, L, R) 0 0 (pL T N R (fun x9 I9 L9 => x9 = tlS (run 1000 (st0 a b c)) n.toInt ∧ Fr A I L I9 L9 ∧ I9 m 0 = 0 ∧ IKm m I I9)) := by
  refine ⟨_, rfl, Nat.le_of_ble_eq_true rfl, fun V C S => ?_⟩
  show V 0 [(0, .ref m), (1, .int a), (2, .int b), (3, .int c), (4, .int n)] [] (T, N, I, L, R) 0 0
  obtain ⟨hJ0, hK⟩ := st0_J hok
  refine k_aload_n C rfl rfl rfl ?_
  refine k_iconst C (x := 0) rfl rfl rfl ?_
  refine p_I C rfl rfl rfl T_m (Or.inr rfl) rfl ?_
  refine k_aload_n C rfl rfl rfl ?_
  refine k_iload_n C rfl rfl rfl ?_
  refine k_i2l C rfl rfl ?_
  refine p_L C rfl rfl rfl T_m (Or.inr rfl) rfl ?_
  refine k_aload_n C rfl rfl rfl ?_
  refine k_iload_n C rfl rfl rfl ?_
  refine k_i2l C rfl rfl ?_
  refine p_L C rfl rfl rfl T_m (Or.inr rfl) rfl ?_
  refine k_aload_n C rfl rfl rfl ?_
  refine k_iload_n C rfl rfl rfl ?_
  refine k_i2l C rfl rfl ?_
  refine p_L C rfl rfl rfl T_m (Or.inr rfl) rfl ?_
  refine k_iload_n C rfl rfl rfl ?_
  refine c_SI C e_m_isThousand rfl rfl rfl rfl rfl rfl rfl (Nat.le_of_ble_eq_true rfl) (Nat.le_of_ble_eq_true rfl) (Nat.le_of_ble_eq_true rfl) ?_
  rintro _ _ _ ⟨hx7, hI8, hL9⟩
  have hx7 := hx7.symm; subst hx7
  have hI8 := hI8.symm; subst hI8; have hL9 := hL9.symm; subst hL9
  refine k_if_eq C (t := 66) rfl rfl rfl (fun c27 => ?_) (fun c27 => ?_)
  · skip
    exact absurd c27 (inN (wh_i.mpr hok.1))
  refine k_iload_n C rfl rfl rfl ?_
  refine c_SI C e_m_isThousand rfl rfl rfl rfl rfl rfl rfl (Nat.le_of_ble_eq_true rfl) (Nat.le_of_ble_eq_true rfl) (Nat.le_of_ble_eq_true rfl) ?_
  rintro _ _ _ ⟨hx7, hI8, hL9⟩
  have hx7 := hx7.symm; subst hx7
  have hI8 := hI8.symm; subst hI8; have hL9 := hL9.symm; subst hL9
  refine k_if_eq C (t := 66) rfl rfl rfl (fun c34 => ?_) (fun c34 => ?_)
  · skip
    exact absurd c34 (inN (wh_i.mpr hok.2.1))
  refine k_iload_n C rfl rfl rfl ?_
  refine c_SI C e_m_isThousand rfl rfl rfl rfl rfl rfl rfl (Nat.le_of_ble_eq_true rfl) (Nat.le_of_ble_eq_true rfl) (Nat.le_of_ble_eq_true rfl) ?_
  rintro _ _ _ ⟨hx7, hI8, hL9⟩
  have hx7 := hx7.symm; subst hx7
  have hI8 := hI8.symm; subst hI8; have hL9 := hL9.symm; subst hL9
  refine k_if_eq C (t := 66) rfl rfl rfl (fun c41 => ?_) (fun c41 => ?_)
  · skip
    exact absurd c41 (inN (wh_i.mpr hok.2.2.1))
  refine k_iload_n C rfl rfl rfl ?_
  refine k_if_le C (t := 66) rfl rfl rfl (fun c45 => ?_) (fun c45 => ?_)
  · skip
    exact absurd (i_le.mp c45) (by have := hok.2.2.2.1; show ¬ _ ≤ (0 : Int); omega)
  refine k_iload_n C rfl rfl rfl ?_
  refine k_i2l C rfl rfl ?_
  refine k_iload_n C rfl rfl rfl ?_
  refine k_i2l C rfl rfl ?_
  refine k_lmul C rfl rfl ?_
  refine k_ldc2_w C rfl rfl rfl ?_
  refine k_iload_n C rfl rfl rfl ?_
  refine k_i2l C rfl rfl ?_
  refine k_lmul C rfl rfl ?_
  refine k_iload_n C rfl rfl rfl ?_
  refine k_i2l C rfl rfl ?_
  refine k_lmul C rfl rfl ?_
  refine k_lcmp C rfl rfl ?_
  refine k_if_lt C (t := 70) rfl rfl rfl (fun c63 => ?_) (fun c63 => ?_)
  · skip
    refine k_iconst C (x := 0) rfl rfl rfl ?_
    refine k_istore C (lw := [(5, .int _), (0, _), (1, .int _), (2, .int _), (3, .int _), (4, .int _)]) rfl rfl (Nat.le_of_ble_eq_true rfl) rfl ?_
    refine k_aload_n C rfl rfl rfl ?_
    refine k_iload C rfl rfl rfl ?_
    refine k_iconst C (x := 1) rfl rfl rfl ?_
    refine c_VI C (e_throwsIf0 T_m rfl) rfl rfl rfl rfl rfl ⟨_, rfl, rfl, T_m, Nat.le_of_ble_eq_true rfl⟩ rfl rfl (Nat.le_of_ble_eq_true rfl) (Nat.le_of_ble_eq_true rfl) (Nat.le_of_ble_eq_true rfl) ?_
    rintro _ _ _ ⟨hx7, hI8, hL9⟩
    have hx7 := hx7.symm; subst hx7
    have hI8 := hI8.symm; subst hI8; have hL9 := hL9.symm; subst hL9
    refine k_if_ne C (t := 107) rfl rfl rfl (fun c80 => absurd c80 (by decide)) (fun _ => ?_)
    refine k_aload_n C rfl rfl rfl ?_
    refine k_iload C rfl rfl rfl ?_
    refine k_iconst C (x := 0) rfl rfl rfl ?_
    refine k_bipush C (x := 8) rfl rfl rfl ?_
    refine c_SI C e_in rfl rfl rfl rfl rfl rfl rfl (Nat.le_of_ble_eq_true rfl) (Nat.le_of_ble_eq_true rfl) (Nat.le_of_ble_eq_true rfl) ?_
    rintro _ _ _ ⟨hx7, hI8, hL9⟩
    have hx7 := hx7.symm; subst hx7
    have hI8 := hI8.symm; subst hI8; have hL9 := hL9.symm; subst hL9
    refine k_if_ne C (t := 99) rfl rfl rfl (fun c92 => ?_) (fun c92 => ?_)
    · skip
      refine k_iconst C (x := 0) rfl rfl rfl ?_
      refine k_iconst C (x := 2) rfl rfl rfl ?_
      refine c_VI C (e_throwsIf0 T_m rfl) rfl rfl rfl rfl rfl ⟨_, rfl, rfl, T_m, Nat.le_of_ble_eq_true rfl⟩ rfl rfl (Nat.le_of_ble_eq_true rfl) (Nat.le_of_ble_eq_true rfl) (Nat.le_of_ble_eq_true rfl) ?_
      rintro _ _ _ ⟨hx7, hI8, hL9⟩
      have hx7 := hx7.symm; subst hx7
      have hI8 := hI8.symm; subst hI8; have hL9 := hL9.symm; subst hL9
      refine k_if_eq C (t := 109) rfl rfl rfl (fun _ => ?_) (fun c104 => absurd (by decide) c104)
      refine k_aload_n C rfl rfl rfl ?_
      refine c_VV C (e_m_reduces T_m A_m R_m_34 T_wl N_wl A_wl ((u2_k (by decide)).trans ((u2_k (by decide)).trans (u2_s))) ((u2_k (by decide)).trans (u2_s)) (u2_s) (s := st0 a b c) hK hJ0 rfl rfl rfl rfl rfl) rfl rfl rfl rfl rfl ⟨_, rfl, rfl, T_m, Nat.le_of_ble_eq_true rfl⟩ rfl rfl (Nat.le_of_ble_eq_true rfl) (Nat.le_of_ble_eq_true rfl) (Nat.le_of_ble_eq_true rfl) ?_
      rintro I1 L1 ⟨hI8, hF1, hs1⟩
      have hI8 := hI8.symm; subst hI8
      generalize hu : run 1000 (st0 a b c) = u at hs1
      obtain ⟨J_m_30, J_m_31, J_m_32, J_m_33, J_wl_0, J_wl_1, J_wl_2, J_wl_3⟩ := hs1
      have h3 : n.toInt = 0 ∨ n.toInt = 1 ∨ n.toInt = 2 ∨ n.toInt = 3 ∨ n.toInt = 4 ∨ n.toInt = 5 ∨ n.toInt = 6 ∨ n.toInt = 7 ∨ n.toInt = 8 := by omega
      rcases h3 with e | e | e | e | e | e | e | e | e
      · obtain rfl : n = 0 := Int32.toInt_inj.mp (by rw [e]; rfl)
        refine k_iload C rfl rfl rfl ?_
        refine k_if_ne C (t := 125) rfl rfl rfl (fun c115 => absurd c115 (by decide)) (fun _ => ?_)
        refine k_aload_n C rfl rfl rfl ?_
        refine g_L C rfl rfl rfl T_m rfl (J_m_30) ?_
        refine k_goto C (pc2 := 199) rfl rfl ?_
        exact k_lret C rfl rfl (Nat.le_of_ble_eq_true rfl) (Nat.le_of_ble_eq_true rfl) ⟨_, _, _, rfl, rfl, ⟨by rw [hu]; rfl, Fr.tr (Fr.l (Fr.l (Fr.l (Fr.i Fr.rf A_m) A_m) A_m) A_m) hF1, u2_s, (by first | exact IKm.i IKm.rf | exact IKm.i (IKm.i IKm.rf))⟩⟩
      · obtain rfl : n = 1 := Int32.toInt_inj.mp (by rw [e]; rfl)
        refine k_iload C rfl rfl rfl ?_
        refine k_if_ne C (t := 125) rfl rfl rfl (fun _ => ?_) (fun c115 => absurd (by decide) c115)
        refine k_iload C rfl rfl rfl ?_
        refine k_iconst C (x := 1) rfl rfl rfl ?_
        refine k_icmp_ne C (t := 138) rfl rfl rfl (fun c128 => absurd c128 (by decide)) (fun _ => ?_)
        refine k_aload_n C rfl rfl rfl ?_
        refine g_L C rfl rfl rfl T_m rfl (J_m_31) ?_
        refine k_goto C (pc2 := 199) rfl rfl ?_
        exact k_lret C rfl rfl (Nat.le_of_ble_eq_true rfl) (Nat.le_of_ble_eq_true rfl) ⟨_, _, _, rfl, rfl, ⟨by rw [hu]; rfl, Fr.tr (Fr.l (Fr.l (Fr.l (Fr.i Fr.rf A_m) A_m) A_m) A_m) hF1, u2_s, (by first | exact IKm.i IKm.rf | exact IKm.i (IKm.i IKm.rf))⟩⟩
      · obtain rfl : n = 2 := Int32.toInt_inj.mp (by rw [e]; rfl)
        refine k_iload C rfl rfl rfl ?_
        refine k_if_ne C (t := 125) rfl rfl rfl (fun _ => ?_) (fun c115 => absurd (by decide) c115)
        refine k_iload C rfl rfl rfl ?_
        refine k_iconst C (x := 1) rfl rfl rfl ?_
        refine k_icmp_ne C (t := 138) rfl rfl rfl (fun _ => ?_) (fun c128 => absurd (by decide) c128)
        refine k_iload C rfl rfl rfl ?_
        refine k_iconst C (x := 2) rfl rfl rfl ?_
        refine k_icmp_ne C (t := 151) rfl rfl rfl (fun c141 => absurd c141 (by decide)) (fun _ => ?_)
        refine k_aload_n C rfl rfl rfl ?_
        refine g_L C rfl rfl rfl T_m rfl (J_m_32) ?_
        refine k_goto C (pc2 := 199) rfl rfl ?_
        exact k_lret C rfl rfl (Nat.le_of_ble_eq_true rfl) (Nat.le_of_ble_eq_true rfl) ⟨_, _, _, rfl, rfl, ⟨by rw [hu]; rfl, Fr.tr (Fr.l (Fr.l (Fr.l (Fr.i Fr.rf A_m) A_m) A_m) A_m) hF1, u2_s, (by first | exact IKm.i IKm.rf | exact IKm.i (IKm.i IKm.rf))⟩⟩
      · obtain rfl : n = 3 := Int32.toInt_inj.mp (by rw [e]; rfl)
        refine k_iload C rfl rfl rfl ?_
        refine k_if_ne C (t := 125) rfl rfl rfl (fun _ => ?_) (fun c115 => absurd (by decide) c115)
        refine k_iload C rfl rfl rfl ?_
        refine k_iconst C (x := 1) rfl rfl rfl ?_
        refine k_icmp_ne C (t := 138) rfl rfl rfl (fun _ => ?_) (fun c128 => absurd (by decide) c128)
        refine k_iload C rfl rfl rfl ?_
        refine k_iconst C (x := 2) rfl rfl rfl ?_
        refine k_icmp_ne C (t := 151) rfl rfl rfl (fun _ => ?_) (fun c141 => absurd (by decide) c141)
        refine k_iload C rfl rfl rfl ?_
        refine k_iconst C (x := 3) rfl rfl rfl ?_
        refine k_icmp_ne C (t := 164) rfl rfl rfl (fun c154 => absurd c154 (by decide)) (fun _ => ?_)
        refine k_aload_n C rfl rfl rfl ?_
        refine g_L C rfl rfl rfl T_m rfl (J_m_33) ?_
        refine k_goto C (pc2 := 199) rfl rfl ?_
        exact k_lret C rfl rfl (Nat.le_of_ble_eq_true rfl) (Nat.le_of_ble_eq_true rfl) ⟨_, _, _, rfl, rfl, ⟨by rw [hu]; rfl, Fr.tr (Fr.l (Fr.l (Fr.l (Fr.i Fr.rf A_m) A_m) A_m) A_m) hF1, u2_s, (by first | exact IKm.i IKm.rf | exact IKm.i (IKm.i IKm.rf))⟩⟩
      · obtain rfl : n = 4 := Int32.toInt_inj.mp (by rw [e]; rfl)
        refine k_iload C rfl rfl rfl ?_
        refine k_if_ne C (t := 125) rfl rfl rfl (fun _ => ?_) (fun c115 => absurd (by decide) c115)
        refine k_iload C rfl rfl rfl ?_
        refine k_iconst C (x := 1) rfl rfl rfl ?_
        refine k_icmp_ne C (t := 138) rfl rfl rfl (fun _ => ?_) (fun c128 => absurd (by decide) c128)
        refine k_iload C rfl rfl rfl ?_
        refine k_iconst C (x := 2) rfl rfl rfl ?_
        refine k_icmp_ne C (t := 151) rfl rfl rfl (fun _ => ?_) (fun c141 => absurd (by decide) c141)
        refine k_iload C rfl rfl rfl ?_
        refine k_iconst C (x := 3) rfl rfl rfl ?_
        refine k_icmp_ne C (t := 164) rfl rfl rfl (fun _ => ?_) (fun c154 => absurd (by decide) c154)
        refine k_iload C rfl rfl rfl ?_
        refine k_bipush C (x := 8) rfl rfl rfl ?_
        refine k_icmp_ne C (t := 190) rfl rfl rfl (fun _ => ?_) (fun c168 => absurd (by decide) c168)
        refine k_aload_n C rfl rfl rfl ?_
        refine g_R C rfl rfl rfl T_m rfl R_m_34 ?_
        refine k_iload C rfl rfl rfl ?_
        refine k_iconst C (x := 4) rfl rfl rfl ?_
        refine k_isub C rfl rfl ?_
        refine a_L C rfl rfl T_wl (vin (n := 0) (by decide) (by rw [N_wl]; exact Nat.le_of_ble_eq_true rfl) (by rw [N_wl]; exact Nat.le_of_ble_eq_true rfl)) (show L1 wl _ = u 4 from J_wl_0) ?_
        exact k_lret C rfl rfl (Nat.le_of_ble_eq_true rfl) (Nat.le_of_ble_eq_true rfl) ⟨_, _, _, rfl, rfl, ⟨by rw [hu]; rfl, Fr.tr (Fr.l (Fr.l (Fr.l (Fr.i Fr.rf A_m) A_m) A_m) A_m) hF1, u2_s, (by first | exact IKm.i IKm.rf | exact IKm.i (IKm.i IKm.rf))⟩⟩
      · obtain rfl : n = 5 := Int32.toInt_inj.mp (by rw [e]; rfl)
        refine k_iload C rfl rfl rfl ?_
        refine k_if_ne C (t := 125) rfl rfl rfl (fun _ => ?_) (fun c115 => absurd (by decide) c115)
        refine k_iload C rfl rfl rfl ?_
        refine k_iconst C (x := 1) rfl rfl rfl ?_
        refine k_icmp_ne C (t := 138) rfl rfl rfl (fun _ => ?_) (fun c128 => absurd (by decide) c128)
        refine k_iload C rfl rfl rfl ?_
        refine k_iconst C (x := 2) rfl rfl rfl ?_
        refine k_icmp_ne C (t := 151) rfl rfl rfl (fun _ => ?_) (fun c141 => absurd (by decide) c141)
        refine k_iload C rfl rfl rfl ?_
        refine k_iconst C (x := 3) rfl rfl rfl ?_
        refine k_icmp_ne C (t := 164) rfl rfl rfl (fun _ => ?_) (fun c154 => absurd (by decide) c154)
        refine k_iload C rfl rfl rfl ?_
        refine k_bipush C (x := 8) rfl rfl rfl ?_
        refine k_icmp_ne C (t := 190) rfl rfl rfl (fun _ => ?_) (fun c168 => absurd (by decide) c168)
        refine k_aload_n C rfl rfl rfl ?_
        refine g_R C rfl rfl rfl T_m rfl R_m_34 ?_
        refine k_iload C rfl rfl rfl ?_
        refine k_iconst C (x := 4) rfl rfl rfl ?_
        refine k_isub C rfl rfl ?_
        refine a_L C rfl rfl T_wl (vin (n := 1) (by decide) (by rw [N_wl]; exact Nat.le_of_ble_eq_true rfl) (by rw [N_wl]; exact Nat.le_of_ble_eq_true rfl)) (show L1 wl _ = u 5 from J_wl_1) ?_
        exact k_lret C rfl rfl (Nat.le_of_ble_eq_true rfl) (Nat.le_of_ble_eq_true rfl) ⟨_, _, _, rfl, rfl, ⟨by rw [hu]; rfl, Fr.tr (Fr.l (Fr.l (Fr.l (Fr.i Fr.rf A_m) A_m) A_m) A_m) hF1, u2_s, (by first | exact IKm.i IKm.rf | exact IKm.i (IKm.i IKm.rf))⟩⟩
      · obtain rfl : n = 6 := Int32.toInt_inj.mp (by rw [e]; rfl)
        refine k_iload C rfl rfl rfl ?_
        refine k_if_ne C (t := 125) rfl rfl rfl (fun _ => ?_) (fun c115 => absurd (by decide) c115)
        refine k_iload C rfl rfl rfl ?_
        refine k_iconst C (x := 1) rfl rfl rfl ?_
        refine k_icmp_ne C (t := 138) rfl rfl rfl (fun _ => ?_) (fun c128 => absurd (by decide) c128)
        refine k_iload C rfl rfl rfl ?_
        refine k_iconst C (x := 2) rfl rfl rfl ?_
        refine k_icmp_ne C (t := 151) rfl rfl rfl (fun _ => ?_) (fun c141 => absurd (by decide) c141)
        refine k_iload C rfl rfl rfl ?_
        refine k_iconst C (x := 3) rfl rfl rfl ?_
        refine k_icmp_ne C (t := 164) rfl rfl rfl (fun _ => ?_) (fun c154 => absurd (by decide) c154)
        refine k_iload C rfl rfl rfl ?_
        refine k_bipush C (x := 8) rfl rfl rfl ?_
        refine k_icmp_ne C (t := 190) rfl rfl rfl (fun _ => ?_) (fun c168 => absurd (by decide) c168)
        refine k_aload_n C rfl rfl rfl ?_
        refine g_R C rfl rfl rfl T_m rfl R_m_34 ?_
        refine k_iload C rfl rfl rfl ?_
        refine k_iconst C (x := 4) rfl rfl rfl ?_
        refine k_isub C rfl rfl ?_
        refine a_L C rfl rfl T_wl (vin (n := 2) (by decide) (by rw [N_wl]; exact Nat.le_of_ble_eq_true rfl) (by rw [N_wl]; exact Nat.le_of_ble_eq_true rfl)) (show L1 wl _ = u 6 from J_wl_2) ?_
        exact k_lret C rfl rfl (Nat.le_of_ble_eq_true rfl) (Nat.le_of_ble_eq_true rfl) ⟨_, _, _, rfl, rfl, ⟨by rw [hu]; rfl, Fr.tr (Fr.l (Fr.l (Fr.l (Fr.i Fr.rf A_m) A_m) A_m) A_m) hF1, u2_s, (by first | exact IKm.i IKm.rf | exact IKm.i (IKm.i IKm.rf))⟩⟩
      · obtain rfl : n = 7 := Int32.toInt_inj.mp (by rw [e]; rfl)
        refine k_iload C rfl rfl rfl ?_
        refine k_if_ne C (t := 125) rfl rfl rfl (fun _ => ?_) (fun c115 => absurd (by decide) c115)
        refine k_iload C rfl rfl rfl ?_
        refine k_iconst C (x := 1) rfl rfl rfl ?_
        refine k_icmp_ne C (t := 138) rfl rfl rfl (fun _ => ?_) (fun c128 => absurd (by decide) c128)
        refine k_iload C rfl rfl rfl ?_
        refine k_iconst C (x := 2) rfl rfl rfl ?_
        refine k_icmp_ne C (t := 151) rfl rfl rfl (fun _ => ?_) (fun c141 => absurd (by decide) c141)
        refine k_iload C rfl rfl rfl ?_
        refine k_iconst C (x := 3) rfl rfl rfl ?_
        refine k_icmp_ne C (t := 164) rfl rfl rfl (fun _ => ?_) (fun c154 => absurd (by decide) c154)
        refine k_iload C rfl rfl rfl ?_
        refine k_bipush C (x := 8) rfl rfl rfl ?_
        refine k_icmp_ne C (t := 190) rfl rfl rfl (fun _ => ?_) (fun c168 => absurd (by decide) c168)
        refine k_aload_n C rfl rfl rfl ?_
        refine g_R C rfl rfl rfl T_m rfl R_m_34 ?_
        refine k_iload C rfl rfl rfl ?_
        refine k_iconst C (x := 4) rfl rfl rfl ?_
        refine k_isub C rfl rfl ?_
        refine a_L C rfl rfl T_wl (vin (n := 3) (by decide) (by rw [N_wl]; exact Nat.le_of_ble_eq_true rfl) (by rw [N_wl]; exact Nat.le_of_ble_eq_true rfl)) (show L1 wl _ = u 7 from J_wl_3) ?_
        exact k_lret C rfl rfl (Nat.le_of_ble_eq_true rfl) (Nat.le_of_ble_eq_true rfl) ⟨_, _, _, rfl, rfl, ⟨by rw [hu]; rfl, Fr.tr (Fr.l (Fr.l (Fr.l (Fr.i Fr.rf A_m) A_m) A_m) A_m) hF1, u2_s, (by first | exact IKm.i IKm.rf | exact IKm.i (IKm.i IKm.rf))⟩⟩
      · obtain rfl : n = 8 := Int32.toInt_inj.mp (by rw [e]; rfl)
        refine k_iload C rfl rfl rfl ?_
        refine k_if_ne C (t := 125) rfl rfl rfl (fun _ => ?_) (fun c115 => absurd (by decide) c115)
        refine k_iload C rfl rfl rfl ?_
        refine k_iconst C (x := 1) rfl rfl rfl ?_
        refine k_icmp_ne C (t := 138) rfl rfl rfl (fun _ => ?_) (fun c128 => absurd (by decide) c128)
        refine k_iload C rfl rfl rfl ?_
        refine k_iconst C (x := 2) rfl rfl rfl ?_
        refine k_icmp_ne C (t := 151) rfl rfl rfl (fun _ => ?_) (fun c141 => absurd (by decide) c141)
        refine k_iload C rfl rfl rfl ?_
        refine k_iconst C (x := 3) rfl rfl rfl ?_
        refine k_icmp_ne C (t := 164) rfl rfl rfl (fun _ => ?_) (fun c154 => absurd (by decide) c154)
        refine k_iload C rfl rfl rfl ?_
        refine k_bipush C (x := 8) rfl rfl rfl ?_
        refine k_icmp_ne C (t := 190) rfl rfl rfl (fun c168 => absurd c168 (by decide)) (fun _ => ?_)
        refine k_aload_n C rfl rfl rfl ?_
        refine g_L C rfl rfl rfl T_m rfl (J_m_30) ?_
        refine k_aload_n C rfl rfl rfl ?_
        refine g_L C rfl rfl rfl T_m rfl (J_m_31) ?_
        refine k_aload_n C rfl rfl rfl ?_
        refine g_L C rfl rfl rfl T_m rfl (J_m_32) ?_
        refine c_SI C e_m_turnsOf rfl rfl rfl rfl rfl rfl rfl (Nat.le_of_ble_eq_true rfl) (Nat.le_of_ble_eq_true rfl) (Nat.le_of_ble_eq_true rfl) ?_
        rintro _ _ _ ⟨hx7, hI8, hL9⟩
        have hx7 := hx7.symm; subst hx7
        have hI8 := hI8.symm; subst hI8; have hL9 := hL9.symm; subst hL9
        refine k_i2l C rfl rfl ?_
        refine k_goto C (pc2 := 199) rfl rfl ?_
        exact k_lret C rfl rfl (Nat.le_of_ble_eq_true rfl) (Nat.le_of_ble_eq_true rfl) ⟨_, _, _, rfl, rfl, ⟨by rw [hu]; rfl, Fr.tr (Fr.l (Fr.l (Fr.l (Fr.i Fr.rf A_m) A_m) A_m) A_m) hF1, u2_s, (by first | exact IKm.i IKm.rf | exact IKm.i (IKm.i IKm.rf))⟩⟩
      skip
    exact absurd (inN (in08.mpr hn)) c92
  exact absurd ((disc64 hok.1 hok.2.1 hok.2.2.1).mpr hok.2.2.2.2) c63
end
-- 39.38.gcd.lean.txt
section
/-! greatest divisors -/
theorem absN {x : Int32} (h : -2147483648 < x.toInt) : (if 0 ≤ x then x else -x) = Int32.ofNat x.toInt.natAbs := by
  have hl := x.toInt_lt
  have e0 : (0 : Int32).toInt = 0 := rfl
  apply Int32.toInt_inj.mp
  by_cases q : 0 ≤ x
  · rw [if_pos q, n_int (by omega)]
    have := i_le.mp q
    omega
  · rw [if_neg q, n_int (by omega), Int32.toInt_neg, Int.bmod_eq_of_le (by omega) (by omega)]
    have q2 : ¬ (0 : Int32).toInt ≤ x.toInt := fun e => q (i_le.mpr e)
    omega
theorem n_rem {a b : Nat} (ha : a < 2147483648) (hb : b < 2147483648) (h : b ≠ 0) : Int32.ofNat a - Int32.ofNat a / Int32.ofNat b * Int32.ofNat b = Int32.ofNat (a % b) := by
  have hm := Nat.mod_lt a (Nat.pos_of_ne_zero h)
  apply Int32.toInt_inj.mp
  rw [i_rem (by rw [n_int hb]; omega), n_int ha, n_int hb, n_int (by omega), Int.tmod_eq_emod_of_nonneg (by omega)]
  exact (Int.natCast_emod a b).symm
theorem e_divisor {d : Nat} {T N : Nat → Nat} {I : IT} {L : LT} {R : RT} {a b : Int32}  (ha : -2147483648 < a.toInt) (hb : -2147483648 < b.toInt) (hs : b.toInt.natAbs ≤ 99 ∨ a.toInt.natAbs ≤ 98) : Ex (d + 2) 119 [.int a, .int b] (T, N, I, L, R) 0 0 (pI T N R (fun x9 I9 L9 => x9 = (Int32.ofNat (Nat.gcd a.toInt.natAbs b.toInt.natAbs)) ∧ I9 = I ∧ L9 = L)) := by
  refine ⟨_, rfl, Nat.le_of_ble_eq_true rfl, fun V C S => ?_⟩
  show V 0 [(0, .int a), (1, .int b)] [] (T, N, I, L, R) 0 0
  have hal := a.toInt_lt
  have hbl := b.toInt_lt
  have loop : ∀ (y i x : Nat) (y' : Nat), y' = y → (i + y ≤ 99 ∨ i + 1 + x ≤ 99) → x < 2147483648 → y < 2147483648 → Nat.gcd x y = Nat.gcd a.toInt.natAbs b.toInt.natAbs → V 13 [(4, .int (Int32.ofNat i)), (3, .int (Int32.ofNat y)), (2, .int (Int32.ofNat x)), (0, .int a), (1, .int b)] [] (T, N, I, L, R) 0 0 := by
    intro y
    induction y using Nat.strongRecOn with
    | _ y ih =>
      intro i x y' hy' hi hx hyb hg
      refine k_iload C rfl rfl rfl ?_
      refine k_bipush C (x := 100) rfl rfl rfl ?_
      refine k_icmp_ge C (t := 40) rfl rfl rfl (fun c17 => ?_) (fun c17 => ?_)
      · skip
        exact absurd ((n_le (a := 100) (b := i) (by omega) (by omega)).mp c17) (by omega)
      refine k_iload_n C rfl rfl rfl ?_
      refine k_if_eq C (t := 40) rfl rfl rfl (fun c21 => ?_) (fun c21 => ?_)
      · skip
        have hy : y = 0 := (n_eq (b := 0) (by omega) (by omega)).mp c21
        subst hy
        refine k_iload_n C rfl rfl rfl ?_
        exact k_iret C rfl (Or.inl rfl) (Nat.le_of_ble_eq_true rfl) (Nat.le_of_ble_eq_true rfl) ⟨_, _, _, rfl, rfl, by rw [← hg, Nat.gcd_zero_right], rfl, rfl⟩
      have hy : y ≠ 0 := fun e => c21 (by rw [e]; rfl)
      refine k_iload_n C rfl rfl rfl ?_
      refine k_iload_n C rfl rfl rfl ?_
      refine k_irem C rfl rfl (i_ne0 (by rw [n_int (by omega)]; omega)) ?_
      refine k_istore C (lw := [(5, .int _), (4, .int _), (3, .int _), (2, .int _), (0, .int _), (1, .int _)]) rfl rfl (Nat.le_of_ble_eq_true rfl) rfl ?_
      refine k_iload_n C rfl rfl rfl ?_
      refine k_istore_n C (lw := [(2, .int _), (5, .int _), (4, .int _), (3, .int _), (0, .int _), (1, .int _)]) rfl rfl (Nat.le_of_ble_eq_true rfl) rfl ?_
      refine k_iload C rfl rfl rfl ?_
      refine k_istore_n C (lw := [(3, .int _), (2, .int _), (5, .int _), (4, .int _), (0, .int _), (1, .int _)]) rfl rfl (Nat.le_of_ble_eq_true rfl) rfl ?_
      rw [n_rem (by omega) (by omega) hy]
      have hm := Nat.mod_lt x (Nat.pos_of_ne_zero hy)
      have hmx := Nat.mod_le x y
      refine k_sub S [(4, .int (Int32.ofNat i)), (3, .int (Int32.ofNat (x % y))), (2, .int (Int32.ofNat y)), (0, .int a), (1, .int b)] (List.forall_mem_cons.mpr ⟨List.mem_of_getElem? (i := 3) rfl, List.forall_mem_cons.mpr ⟨List.mem_of_getElem? (i := 0) rfl, List.forall_mem_cons.mpr ⟨List.mem_of_getElem? (i := 1) rfl, List.forall_mem_cons.mpr ⟨List.mem_of_getElem? (i := 4) rfl, List.forall_mem_cons.mpr ⟨List.mem_of_getElem? (i := 5) rfl, fun _ h => nomatch h⟩⟩⟩⟩⟩) ?_
      refine k_inc1 C (lw := [(4, .int _), (3, .int _), (2, .int _), (0, .int _), (1, .int _)]) rfl rfl rfl (Nat.le_of_ble_eq_true rfl) rfl ?_
      refine k_goto C (pc2 := 13) rfl rfl ?_
      rw [n_s]
      exact ih (x % y) hm (i + 1) y _ rfl (by omega) (by omega) (by omega) (by rw [← hg, Nat.gcd_comm y, ← Nat.gcd_rec, Nat.gcd_comm])
  refine k_iload_n C rfl rfl rfl ?_
  refine c_SI C (e_abs (x := a)) rfl rfl rfl rfl rfl rfl rfl (Nat.le_of_ble_eq_true rfl) (Nat.le_of_ble_eq_true rfl) (Nat.le_of_ble_eq_true rfl) ?_
  rintro _ _ _ ⟨hx7, hI8, hL9⟩
  have hx7 := hx7.symm; subst hx7
  have hI8 := hI8.symm; subst hI8; have hL9 := hL9.symm; subst hL9
  rw [absN ha]
  refine k_istore_n C (lw := [(2, .int _), (0, .int _), (1, .int _)]) rfl rfl (Nat.le_of_ble_eq_true rfl) rfl ?_
  refine k_iload_n C rfl rfl rfl ?_
  refine c_SI C (e_abs (x := b)) rfl rfl rfl rfl rfl rfl rfl (Nat.le_of_ble_eq_true rfl) (Nat.le_of_ble_eq_true rfl) (Nat.le_of_ble_eq_true rfl) ?_
  rintro _ _ _ ⟨hx7, hI8, hL9⟩
  have hx7 := hx7.symm; subst hx7
  have hI8 := hI8.symm; subst hI8; have hL9 := hL9.symm; subst hL9
  rw [absN hb]
  refine k_istore_n C (lw := [(3, .int _), (2, .int _), (0, .int _), (1, .int _)]) rfl rfl (Nat.le_of_ble_eq_true rfl) rfl ?_
  refine k_iconst C (x := 0) rfl rfl rfl ?_
  refine k_istore C (lw := [(4, .int _), (3, .int _), (2, .int _), (0, .int _), (1, .int _)]) rfl rfl (Nat.le_of_ble_eq_true rfl) rfl ?_
  exact loop _ 0 _ _ rfl (by omega) (by omega) (by omega) rfl


theorem e_m_shared {d : Nat} {T N : Nat → Nat} {I : IT} {L : LT} {R : RT} {a b : Int32}  (ha : -2147483648 < a.toInt) (hb : -2147483648 < b.toInt) : Ex (d + 2) 304 [.int a, .int b] (T, N, I, L, R) 0 0 (pI T N R (fun x9 I9 L9 => x9 = (Int32.ofNat (Nat.gcd a.toInt.natAbs b.toInt.natAbs)) ∧ I9 = I ∧ L9 = L)) := by
  refine ⟨_, rfl, Nat.le_of_ble_eq_true rfl, fun V C S => ?_⟩
  show V 0 [(0, .int a), (1, .int b)] [] (T, N, I, L, R) 0 0
  have hal := a.toInt_lt
  have hbl := b.toInt_lt
  have loop : ∀ (y x : Nat), x < 2147483648 → y < 2147483648 → Nat.gcd x y = Nat.gcd a.toInt.natAbs b.toInt.natAbs → V 10 [(3, .int (Int32.ofNat y)), (2, .int (Int32.ofNat x)), (0, .int a), (1, .int b)] [] (T, N, I, L, R) 0 0 := by
    intro y
    induction y using Nat.strongRecOn with
    | _ y ih =>
      intro x hx hyb hg
      refine k_iload_n C rfl rfl rfl ?_
      refine k_if_eq C (t := 27) rfl rfl rfl (fun c11 => ?_) (fun c11 => ?_)
      · skip
        have hy : y = 0 := (n_eq (b := 0) (by omega) (by omega)).mp c11
        subst hy
        refine k_iload_n C rfl rfl rfl ?_
        exact k_iret C rfl (Or.inl rfl) (Nat.le_of_ble_eq_true rfl) (Nat.le_of_ble_eq_true rfl) ⟨_, _, _, rfl, rfl, by rw [← hg, Nat.gcd_zero_right], rfl, rfl⟩
      have hy : y ≠ 0 := fun e => c11 (by rw [e]; rfl)
      refine k_iload_n C rfl rfl rfl ?_
      refine k_iload_n C rfl rfl rfl ?_
      refine k_irem C rfl rfl (i_ne0 (by rw [n_int (by omega)]; omega)) ?_
      refine k_istore C (lw := [(4, .int _), (3, .int _), (2, .int _), (0, .int _), (1, .int _)]) rfl rfl (Nat.le_of_ble_eq_true rfl) rfl ?_
      refine k_iload_n C rfl rfl rfl ?_
      refine k_istore_n C (lw := [(2, .int _), (4, .int _), (3, .int _), (0, .int _), (1, .int _)]) rfl rfl (Nat.le_of_ble_eq_true rfl) rfl ?_
      refine k_iload C rfl rfl rfl ?_
      refine k_istore_n C (lw := [(3, .int _), (2, .int _), (4, .int _), (0, .int _), (1, .int _)]) rfl rfl (Nat.le_of_ble_eq_true rfl) rfl ?_
      rw [n_rem (by omega) (by omega) hy]
      have hm := Nat.mod_lt x (Nat.pos_of_ne_zero hy)
      refine k_sub S [(3, .int (Int32.ofNat (x % y))), (2, .int (Int32.ofNat y)), (0, .int a), (1, .int b)] (List.forall_mem_cons.mpr ⟨List.mem_of_getElem? (i := 0) rfl, List.forall_mem_cons.mpr ⟨List.mem_of_getElem? (i := 1) rfl, List.forall_mem_cons.mpr ⟨List.mem_of_getElem? (i := 3) rfl, List.forall_mem_cons.mpr ⟨List.mem_of_getElem? (i := 4) rfl, fun _ h => nomatch h⟩⟩⟩⟩) ?_
      refine k_goto C (pc2 := 10) rfl rfl ?_
      exact ih (x % y) hm y (by omega) (by omega) (by rw [← hg, Nat.gcd_comm y, ← Nat.gcd_rec, Nat.gcd_comm])
  refine k_iload_n C rfl rfl rfl ?_
  refine c_SI C (e_abs (x := a)) rfl rfl rfl rfl rfl rfl rfl (Nat.le_of_ble_eq_true rfl) (Nat.le_of_ble_eq_true rfl) (Nat.le_of_ble_eq_true rfl) ?_
  rintro _ _ _ ⟨hx7, hI8, hL9⟩
  have hx7 := hx7.symm; subst hx7
  have hI8 := hI8.symm; subst hI8; have hL9 := hL9.symm; subst hL9
  rw [absN ha]
  refine k_istore_n C (lw := [(2, .int _), (0, .int _), (1, .int _)]) rfl rfl (Nat.le_of_ble_eq_true rfl) rfl ?_
  refine k_iload_n C rfl rfl rfl ?_
  refine c_SI C (e_abs (x := b)) rfl rfl rfl rfl rfl rfl rfl (Nat.le_of_ble_eq_true rfl) (Nat.le_of_ble_eq_true rfl) (Nat.le_of_ble_eq_true rfl) ?_
  rintro _ _ _ ⟨hx7, hI8, hL9⟩
  have hx7 := hx7.symm; subst hx7
  have hI8 := hI8.symm; subst hI8; have hL9 := hL9.symm; subst hL9
  rw [absN hb]
  refine k_istore_n C (lw := [(3, .int _), (2, .int _), (0, .int _), (1, .int _)]) rfl rfl (Nat.le_of_ble_eq_true rfl) rfl ?_
  exact loop _ _ (by omega) (by omega) rfl
end
-- 39.39.seek.lean.txt
section
/-! CLASSES: the reduced ones, in their order -/
abbrev SG : Type := Int32 × Int32 × Int32 × Int32
def frP (D i j : Int32) : Int32 := j * j - D
def ltP (D i j : Int32) : Int32 := frP D i j / (4 * i)
def rmP (D i j : Int32) : Int32 := frP D i j - frP D i j / (4 * i) * (4 * i)
def gdP (D i j : Int32) : Nat := Nat.gcd (Int32.ofNat (Nat.gcd i.toInt.natAbs j.toInt.natAbs)).toInt.natAbs (ltP D i j).toInt.natAbs
def acP (D z i j : Int32) : Prop := rmP D i j = 0 ∧ (i < ltP D i j ∨ (ltP D i j = i ∧ 0 ≤ j)) ∧ (¬ z = 0 ∨ gdP D i j = 1)
noncomputable def sk1 (D z k i j : Int32) (s : SG) : SG := @ite _ (acP D z i j) (Classical.propDecidable _) (s.1 + 1, @ite _ (s.1 = k) (Classical.propDecidable _) (i, j, ltP D i j) s.2) s
noncomputable def itJ (D z k i : Int32) : Nat → Int32 → SG → SG
  | 0, _, s => s
  | n + 1, j, s => itJ D z k i n (j + 1) (sk1 D z k i j s)
noncomputable def itI (D z k : Int32) : Nat → Nat → SG → SG
  | 0, _, s => s
  | n + 1, i, s => @ite _ (-D < 3 * Int32.ofNat i * Int32.ofNat i) (Classical.propDecidable _) s (itI D z k n (i + 1) (itJ D z k (Int32.ofNat i) (2 * i) (1 - Int32.ofNat i) s))
theorem sk1_y {D z k i j : Int32} {s : SG} (h : acP D z i j) (hk : s.1 = k) : sk1 D z k i j s = (s.1 + 1, i, j, ltP D i j) := by unfold sk1; rw [if_pos h, if_pos hk]
theorem sk1_m {D z k i j : Int32} {s : SG} (h : acP D z i j) (hk : ¬ s.1 = k) : sk1 D z k i j s = (s.1 + 1, s.2) := by unfold sk1; rw [if_pos h, if_neg hk]
theorem sk1_n {D z k i j : Int32} {s : SG} (h : ¬ acP D z i j) : sk1 D z k i j s = s := by unfold sk1; rw [if_neg h]
theorem fr_int {D j : Int32} (hD : isDc D) (hj : -57 ≤ j.toInt ∧ j.toInt ≤ 57) (i : Int32) : (frP D i j).toInt = j.toInt * j.toInt - D.toInt ∧ 3 ≤ (frP D i j).toInt ∧ (frP D i j).toInt ≤ 20000 := by
  have sq := sq_bd hj
  have e1 := ii_mul (x := j) (y := j) (by omega)
  obtain ⟨d1, d2, -⟩ := hD
  have e2 : (frP D i j).toInt = j.toInt * j.toInt - D.toInt := by unfold frP; rw [ii_sub (by rw [e1]; omega), e1]
  omega
theorem i4_int {i : Nat} (hi : 1 ≤ i ∧ i ≤ 57) : (4 * Int32.ofNat i).toInt = 4 * (i : Int) := by
  have e4 : (4 : Int32).toInt = 4 := rfl
  rw [ii_mul (by rw [e4, n_int (by omega)]; omega), e4, n_int (by omega)]
theorem lt_int {D j : Int32} {i : Nat} (hD : isDc D) (hj : -57 ≤ j.toInt ∧ j.toInt ≤ 57) (hi : 1 ≤ i ∧ i ≤ 57) : 0 ≤ (ltP D (Int32.ofNat i) j).toInt ∧ (ltP D (Int32.ofNat i) j).toInt ≤ 20000 := by
  obtain ⟨f1, f2, f3⟩ := fr_int hD hj (Int32.ofNat i)
  have e4 := i4_int hi
  unfold ltP
  rw [Int32.toInt_div_of_ne_right _ _ (by intro h; rw [h] at e4; have : (-1 : Int32).toInt = -1 := rfl; omega), e4, Int.tdiv_eq_ediv_of_nonneg (by omega)]
  have q1 := Int.ediv_nonneg (a := (frP D (Int32.ofNat i) j).toInt) (b := 4 * (i : Int)) (by omega) (by omega)
  have q2 := Int.ediv_le_self (a := (frP D (Int32.ofNat i) j).toInt) (4 * (i : Int)) (by omega)
  omega
theorem gd_bd {i : Nat} {j : Int32} (hi : 1 ≤ i ∧ i ≤ 57) : 1 ≤ Nat.gcd (Int32.ofNat i).toInt.natAbs j.toInt.natAbs ∧ Nat.gcd (Int32.ofNat i).toInt.natAbs j.toInt.natAbs ≤ 57 := by
  rw [n_int (by omega)]
  have h1 : ((i : Int).natAbs) = i := Int.natAbs_natCast i
  rw [h1]
  have := Nat.gcd_le_left j.toInt.natAbs (show 0 < i by omega)
  have := Nat.gcd_pos_of_pos_left j.toInt.natAbs (show 0 < i by omega)
  omega
theorem gg_bd {D : Int32} {i : Nat} {j : Int32} (hi : 1 ≤ i ∧ i ≤ 57) : 1 ≤ gdP D (Int32.ofNat i) j ∧ gdP D (Int32.ofNat i) j ≤ 57 := by
  have h := gd_bd (j := j) hi
  unfold gdP
  generalize Nat.gcd (Int32.ofNat i).toInt.natAbs j.toInt.natAbs = g at h
  rw [n_int (by omega), Int.natAbs_natCast]
  have := Nat.gcd_le_left (ltP D (Int32.ofNat i) j).toInt.natAbs (show 0 < g by omega)
  have := Nat.gcd_pos_of_pos_left (ltP D (Int32.ofNat i) j).toInt.natAbs (show 0 < g by omega)
  omega
theorem i3_int {i : Nat} (hi : i ≤ 58) : (3 * Int32.ofNat i * Int32.ofNat i).toInt = 3 * ((i * i : Nat) : Int) := by
  have e4 : (3 : Int32).toInt = 3 := rfl
  have hm : i * i ≤ 58 * 58 := Nat.mul_le_mul hi hi
  have e5 : (3 * Int32.ofNat i).toInt = 3 * (i : Int) := by rw [ii_mul (by rw [e4, n_int (by omega)]; omega), e4, n_int (by omega)]
  have e6 : 3 * (i : Int) * (i : Int) = 3 * ((i * i : Nat) : Int) := by rw [Int.mul_assoc, Int.natCast_mul]
  rw [ii_mul (by rw [e5, n_int (by omega), e6]; omega), e5, n_int (by omega), e6]
theorem neg32 {D : Int32} (hD : isDc D) : (-D).toInt = -D.toInt := by
  obtain ⟨d1, d2, -⟩ := hD
  rw [Int32.toInt_neg]; exact Int.bmod_eq_of_le (by omega) (by omega)
theorem gdP_div {D : Int32} {i : Nat} {j : Int32} : Int32.ofNat (gdP D (Int32.ofNat i) j) = Int32.ofNat (Nat.gcd (Int32.ofNat (Nat.gcd (Int32.ofNat i).toInt.natAbs j.toInt.natAbs)).toInt.natAbs (ltP D (Int32.ofNat i) j).toInt.natAbs) := rfl
set_option maxHeartbeats 2000000 in
theorem lt_step {k n : Int32} (h : k < n + 1) (c : ¬ n = k) : k < n := by
  have h1 := rg k
  have h2 := rg n
  rw [i_lt] at h ⊢
  by_cases q : n.toInt = 2147483647
  · have e : n = 2147483647 := Int32.toInt_inj.mp q
    subst e
    have e2 : ((2147483647 : Int32) + 1).toInt = -2147483648 := rfl
    omega
  · have e1 : (1 : Int32).toInt = 1 := rfl
    rw [ii_add (by omega), e1] at h
    have : n.toInt ≠ k.toInt := fun e => c (Int32.toInt_inj.mp e)
    omega
def SKc (k : Int32) (s : SG) (L : LT) (w : Nat) : Prop := 0 ≤ k → k < s.1 → L w 0 = s.2.1.toInt64 ∧ L w 1 = s.2.2.1.toInt64 ∧ L w 2 = s.2.2.2.toInt64
theorem SKc.z {k a b c : Int32} {L : LT} {w : Nat} : SKc k (0, a, b, c) L w := fun h1 h2 => absurd h2 (Int32.not_lt.mpr h1)
theorem SKc.h {k n a b c : Int32} {L : LT} {w : Nat} : SKc k (n, a, b, c) (u2 (u2 (u2 L w 0 a.toInt64) w 1 b.toInt64) w 2 c.toInt64) w := fun _ _ => ⟨(u2_k (by decide)).trans ((u2_k (by decide)).trans (u2_s)), (u2_k (by decide)).trans (u2_s), u2_s⟩
theorem SKc.m {k : Int32} {s : SG} {L : LT} {w : Nat} (h : SKc k s L w) (c : ¬ s.1 = k) : SKc k (s.1 + 1, s.2) L w := fun h1 h2 => h h1 (lt_step h2 c)
def SKi (k : Int32) (s : SG) (I : IT) (m : Nat) : Prop := 0 ≤ k → k < s.1 → I m 35 = s.2.1 ∧ I m 36 = s.2.2.1 ∧ I m 37 = s.2.2.2
theorem SKi.z {k a b c : Int32} {I : IT} {m : Nat} : SKi k (0, a, b, c) I m := fun h1 h2 => absurd h2 (Int32.not_lt.mpr h1)
theorem SKi.h {k n a b c : Int32} {I : IT} {m : Nat} : SKi k (n, a, b, c) (u2 (u2 (u2 I m 35 a) m 36 b) m 37 c) m := fun _ _ => ⟨(u2_k (by decide)).trans ((u2_k (by decide)).trans (u2_s)), (u2_k (by decide)).trans (u2_s), u2_s⟩
theorem SKi.m {k : Int32} {s : SG} {I : IT} {m : Nat} (h : SKi k s I m) (c : ¬ s.1 = k) : SKi k (s.1 + 1, s.2) I m := fun h1 h2 => h h1 (lt_step h2 c)
theorem cs_inner {d : Nat} {V : V_T} {q : mm_T} {Post : Po} {T N : Nat → Nat} {R : RT} {A : Nat → Prop} {I : IT} {L : LT} {wh : Nat} {D z k : Int32} {i : Nat} (hq : P_ml[120]? = some q) (C : Cl (d + 2) q 0 0 Post V) (S : SB V) (T_wh : T wh = 11) (A_wh : A wh) (hD : isDc D) (hz : z = 0 ∨ z = 1) (hi : 1 ≤ i ∧ i ≤ 57) : ∀ (n : Nat) (j : Int32) (s : SG) (L1 : LT), j.toInt + n = i + 1 → -57 ≤ j.toInt → Fr A I L I L1 → SKc k s L1 wh → (∀ (L2 : LT) (t : SG), t = itJ D z k (Int32.ofNat i) n j s → Fr A I L I L2 → SKc k t L2 wh → ∀ x6 : Int32, V 146 [(6, .int x6), (5, .int (Int32.ofNat i)), (4, .int t.1), (0, .ref wh), (1, .int D), (2, .int z), (3, .int k)] [] (T, N, I, L2, R) 0 0) → V 24 [(6, .int j), (5, .int (Int32.ofNat i)), (4, .int s.1), (0, .ref wh), (1, .int D), (2, .int z), (3, .int k)] [] (T, N, I, L1, R) 0 0 := by
  cases hq
  intro n
  induction n with
  | zero =>
    intro j s L1 hjn hj0 hF hr K
    refine k_iload C rfl rfl rfl ?_
    refine k_iload C rfl rfl rfl ?_
    refine k_icmp_gt C (t := 146) rfl rfl rfl (fun _ => ?_) (fun c9 => absurd (i_lt.mpr (by rw [n_int (by omega)]; omega)) c9)
    exact K _ _ rfl hF hr _
  | succ n ih =>
    intro j s L1 hjn hj0 hF hr K
    have hj : -57 ≤ j.toInt ∧ j.toInt ≤ 57 := by omega
    have e1 : (1 : Int32).toInt = 1 := rfl
    have hj1 : (j + 1).toInt = j.toInt + 1 := by rw [ii_add (by rw [e1]; omega), e1]
    have hne : ¬ 4 * Int32.ofNat i = 0 := i_ne0 (by rw [i4_int hi]; omega)
    have hlt := lt_int hD hj hi
    have hg := gd_bd (j := j) hi
    have hgg := gg_bd (D := D) (j := j) hi
    refine k_iload C rfl rfl rfl ?_
    refine k_iload C rfl rfl rfl ?_
    refine k_icmp_gt C (t := 146) rfl rfl rfl (fun c9 => absurd (i_lt.mp c9) (by rw [n_int (by omega)]; omega)) (fun _ => ?_)
    refine k_iload C rfl rfl rfl ?_
    refine k_iload C rfl rfl rfl ?_
    refine k_imul C rfl rfl ?_
    refine k_iload_n C rfl rfl rfl ?_
    refine k_isub C rfl rfl ?_
    refine k_istore C (lw := [(7, .int _), (6, .int _), (5, .int _), (4, .int _), (0, _), (1, .int _), (2, .int _), (3, .int _)]) rfl rfl (Nat.le_of_ble_eq_true rfl) rfl ?_
    refine k_iload C rfl rfl rfl ?_
    refine k_iconst C (x := 4) rfl rfl rfl ?_
    refine k_iload C rfl rfl rfl ?_
    refine k_imul C rfl rfl ?_
    refine k_idiv C rfl rfl hne ?_
    refine k_istore C (lw := [(8, .int _), (7, .int _), (6, .int _), (5, .int _), (4, .int _), (0, _), (1, .int _), (2, .int _), (3, .int _)]) rfl rfl (Nat.le_of_ble_eq_true rfl) rfl ?_
    refine k_iload C rfl rfl rfl ?_
    refine k_iconst C (x := 4) rfl rfl rfl ?_
    refine k_iload C rfl rfl rfl ?_
    refine k_imul C rfl rfl ?_
    refine k_irem C rfl rfl hne ?_
    refine k_if_ne C (t := 82) rfl rfl rfl (fun c56 => ?_) (fun c56 => ?_)
    · skip
      have hsk : sk1 D z k (Int32.ofNat i) j s = s := sk1_n (fun h => c56 h.1)
      refine k_iconst C (x := 0) rfl rfl rfl ?_
      refine k_istore C (lw := [(9, .int _), (8, .int _), (7, .int _), (6, .int _), (5, .int _), (4, .int _), (0, _), (1, .int _), (2, .int _), (3, .int _)]) rfl rfl (Nat.le_of_ble_eq_true rfl) rfl ?_
      refine k_iload C rfl rfl rfl ?_
      refine k_if_eq C (t := 140) rfl rfl rfl (fun _ => ?_) (fun c87 => absurd (by decide) c87)
      refine k_sub S [(6, .int j), (5, .int (Int32.ofNat i)), (4, _), (0, .ref wh), (1, .int D), (2, .int z), (3, .int k)] (List.forall_mem_cons.mpr ⟨List.mem_of_getElem? (i := 3) rfl, List.forall_mem_cons.mpr ⟨List.mem_of_getElem? (i := 4) rfl, List.forall_mem_cons.mpr ⟨List.mem_of_getElem? (i := 5) rfl, List.forall_mem_cons.mpr ⟨List.mem_of_getElem? (i := 6) rfl, List.forall_mem_cons.mpr ⟨List.mem_of_getElem? (i := 7) rfl, List.forall_mem_cons.mpr ⟨List.mem_of_getElem? (i := 8) rfl, List.forall_mem_cons.mpr ⟨List.mem_of_getElem? (i := 9) rfl, fun _ h => nomatch h⟩⟩⟩⟩⟩⟩⟩) ?_
      refine k_inc1 C (lw := [(6, .int _), (5, .int _), (4, .int _), (0, _), (1, .int _), (2, .int _), (3, .int _)]) rfl rfl rfl (Nat.le_of_ble_eq_true rfl) rfl ?_
      refine k_goto C (pc2 := 24) rfl rfl ?_
      exact ih (j + 1) s _ (by rw [hj1]; omega) (by omega) hF hr (fun L2 t ht hF2 hr2 => K L2 t (ht.trans (by show _ = itJ D z k (Int32.ofNat i) n (j + 1) (sk1 D z k (Int32.ofNat i) j s); rw [hsk])) hF2 hr2)
    have h56 : rmP D (Int32.ofNat i) j = 0 := Decidable.not_not.mp c56
    refine k_iload C rfl rfl rfl ?_
    refine k_iload C rfl rfl rfl ?_
    refine k_icmp_gt C (t := 78) rfl rfl rfl (fun c63 => ?_) (fun c63 => ?_)
    · skip
      have hor : Int32.ofNat i < ltP D (Int32.ofNat i) j ∨ (ltP D (Int32.ofNat i) j = Int32.ofNat i ∧ 0 ≤ j) := Or.inl c63
      refine k_iconst C (x := 1) rfl rfl rfl ?_
      refine k_goto C (pc2 := 83) rfl rfl ?_
      refine k_istore C (lw := [(9, .int _), (8, .int _), (7, .int _), (6, .int _), (5, .int _), (4, .int _), (0, _), (1, .int _), (2, .int _), (3, .int _)]) rfl rfl (Nat.le_of_ble_eq_true rfl) rfl ?_
      refine k_iload C rfl rfl rfl ?_
      refine k_if_eq C (t := 140) rfl rfl rfl (fun c87 => absurd c87 (by decide)) (fun _ => ?_)
      refine k_iload_n C rfl rfl rfl ?_
      refine k_if_ne C (t := 110) rfl rfl rfl (fun c91 => ?_) (fun c91 => ?_)
      · skip
        have hac : acP D z (Int32.ofNat i) j := ⟨h56, hor, Or.inl c91⟩
        refine k_iload C rfl rfl rfl ?_
        refine k_iload_n C rfl rfl rfl ?_
        refine k_icmp_ne C (t := 137) rfl rfl rfl (fun c113 => ?_) (fun c113 => ?_)
        · skip
          have hsk : sk1 D z k (Int32.ofNat i) j s = (s.1 + 1, s.2) := sk1_m hac c113
          refine k_inc1 C (lw := [(4, .int _), (9, .int _), (8, .int _), (7, .int _), (6, .int _), (5, .int _), (0, _), (1, .int _), (2, .int _), (3, .int _)]) rfl rfl rfl (Nat.le_of_ble_eq_true rfl) rfl ?_
          refine k_sub S [(6, .int j), (5, .int (Int32.ofNat i)), (4, _), (0, .ref wh), (1, .int D), (2, .int z), (3, .int k)] (List.forall_mem_cons.mpr ⟨List.mem_of_getElem? (i := 4) rfl, List.forall_mem_cons.mpr ⟨List.mem_of_getElem? (i := 5) rfl, List.forall_mem_cons.mpr ⟨List.mem_of_getElem? (i := 0) rfl, List.forall_mem_cons.mpr ⟨List.mem_of_getElem? (i := 6) rfl, List.forall_mem_cons.mpr ⟨List.mem_of_getElem? (i := 7) rfl, List.forall_mem_cons.mpr ⟨List.mem_of_getElem? (i := 8) rfl, List.forall_mem_cons.mpr ⟨List.mem_of_getElem? (i := 9) rfl, fun _ h => nomatch h⟩⟩⟩⟩⟩⟩⟩) ?_
          refine k_inc1 C (lw := [(6, .int _), (5, .int _), (4, .int _), (0, _), (1, .int _), (2, .int _), (3, .int _)]) rfl rfl rfl (Nat.le_of_ble_eq_true rfl) rfl ?_
          refine k_goto C (pc2 := 24) rfl rfl ?_
          exact ih (j + 1) (s.1 + 1, s.2) _ (by rw [hj1]; omega) (by omega) hF (hr.m c113) (fun L2 t ht hF2 hr2 => K L2 t (ht.trans (by show _ = itJ D z k (Int32.ofNat i) n (j + 1) (sk1 D z k (Int32.ofNat i) j s); rw [hsk])) hF2 hr2)
        refine k_aload_n C rfl rfl rfl ?_
        refine k_iload C rfl rfl rfl ?_
        refine k_i2l C rfl rfl ?_
        refine p_L C rfl rfl rfl T_wh (Or.inr rfl) rfl ?_
        refine k_aload_n C rfl rfl rfl ?_
        refine k_iload C rfl rfl rfl ?_
        refine k_i2l C rfl rfl ?_
        refine p_L C rfl rfl rfl T_wh (Or.inr rfl) rfl ?_
        refine k_aload_n C rfl rfl rfl ?_
        refine k_iload C rfl rfl rfl ?_
        refine k_i2l C rfl rfl ?_
        refine p_L C rfl rfl rfl T_wh (Or.inr rfl) rfl ?_
        refine k_inc1 C (lw := [(4, .int _), (9, .int _), (8, .int _), (7, .int _), (6, .int _), (5, .int _), (0, _), (1, .int _), (2, .int _), (3, .int _)]) rfl rfl rfl (Nat.le_of_ble_eq_true rfl) rfl ?_
        refine k_sub S [(6, .int j), (5, .int (Int32.ofNat i)), (4, _), (0, .ref wh), (1, .int D), (2, .int z), (3, .int k)] (List.forall_mem_cons.mpr ⟨List.mem_of_getElem? (i := 4) rfl, List.forall_mem_cons.mpr ⟨List.mem_of_getElem? (i := 5) rfl, List.forall_mem_cons.mpr ⟨List.mem_of_getElem? (i := 0) rfl, List.forall_mem_cons.mpr ⟨List.mem_of_getElem? (i := 6) rfl, List.forall_mem_cons.mpr ⟨List.mem_of_getElem? (i := 7) rfl, List.forall_mem_cons.mpr ⟨List.mem_of_getElem? (i := 8) rfl, List.forall_mem_cons.mpr ⟨List.mem_of_getElem? (i := 9) rfl, fun _ h => nomatch h⟩⟩⟩⟩⟩⟩⟩) ?_
        refine k_inc1 C (lw := [(6, .int _), (5, .int _), (4, .int _), (0, _), (1, .int _), (2, .int _), (3, .int _)]) rfl rfl rfl (Nat.le_of_ble_eq_true rfl) rfl ?_
        refine k_goto C (pc2 := 24) rfl rfl ?_
        exact ih (j + 1) (s.1 + 1, Int32.ofNat i, j, ltP D (Int32.ofNat i) j) _ (by rw [hj1]; omega) (by omega) (Fr.l (Fr.l (Fr.l hF A_wh) A_wh) A_wh) SKc.h (fun L2 t ht hF2 hr2 => K L2 t (ht.trans (by show _ = itJ D z k (Int32.ofNat i) n (j + 1) (sk1 D z k (Int32.ofNat i) j s); rw [sk1_y hac (Decidable.not_not.mp c113)])) hF2 hr2)
      refine k_iload C rfl rfl rfl ?_
      refine k_iload C rfl rfl rfl ?_
      refine c_SI C (e_divisor  (by rw [n_int (by omega)]; omega) (by omega) (by omega)) rfl rfl rfl rfl rfl rfl rfl (Nat.le_of_ble_eq_true rfl) (Nat.le_of_ble_eq_true rfl) (Nat.le_of_ble_eq_true rfl) ?_
      rintro _ _ _ ⟨hx7, hI8, hL9⟩
      have hx7 := hx7.symm; subst hx7
      have hI8 := hI8.symm; subst hI8; have hL9 := hL9.symm; subst hL9
      refine k_iload C rfl rfl rfl ?_
      refine c_SI C (e_divisor  (by rw [n_int (by omega)]; omega) (show -2147483648 < (ltP D (Int32.ofNat i) j).toInt by omega) (by right; rw [n_int (by omega)]; omega)) rfl rfl rfl rfl rfl rfl rfl (Nat.le_of_ble_eq_true rfl) (Nat.le_of_ble_eq_true rfl) (Nat.le_of_ble_eq_true rfl) ?_
      rintro _ _ _ ⟨hx7, hI8, hL9⟩
      have hx7 := hx7.symm; subst hx7
      have hI8 := hI8.symm; subst hI8; have hL9 := hL9.symm; subst hL9
      refine k_iconst C (x := 1) rfl rfl rfl ?_
      refine k_icmp_ne C (t := 140) rfl rfl rfl (fun c107 => ?_) (fun c107 => ?_)
      · skip
        have hsk : sk1 D z k (Int32.ofNat i) j s = s := sk1_n (fun h => h.2.2.elim (fun h => c91 h) (fun h => c107 (show Int32.ofNat (gdP D (Int32.ofNat i) j) = 1 by rw [h]; rfl)))
        refine k_sub S [(6, .int j), (5, .int (Int32.ofNat i)), (4, _), (0, .ref wh), (1, .int D), (2, .int z), (3, .int k)] (List.forall_mem_cons.mpr ⟨List.mem_of_getElem? (i := 3) rfl, List.forall_mem_cons.mpr ⟨List.mem_of_getElem? (i := 4) rfl, List.forall_mem_cons.mpr ⟨List.mem_of_getElem? (i := 5) rfl, List.forall_mem_cons.mpr ⟨List.mem_of_getElem? (i := 6) rfl, List.forall_mem_cons.mpr ⟨List.mem_of_getElem? (i := 7) rfl, List.forall_mem_cons.mpr ⟨List.mem_of_getElem? (i := 8) rfl, List.forall_mem_cons.mpr ⟨List.mem_of_getElem? (i := 9) rfl, fun _ h => nomatch h⟩⟩⟩⟩⟩⟩⟩) ?_
        refine k_inc1 C (lw := [(6, .int _), (5, .int _), (4, .int _), (0, _), (1, .int _), (2, .int _), (3, .int _)]) rfl rfl rfl (Nat.le_of_ble_eq_true rfl) rfl ?_
        refine k_goto C (pc2 := 24) rfl rfl ?_
        exact ih (j + 1) s _ (by rw [hj1]; omega) (by omega) hF hr (fun L2 t ht hF2 hr2 => K L2 t (ht.trans (by show _ = itJ D z k (Int32.ofNat i) n (j + 1) (sk1 D z k (Int32.ofNat i) j s); rw [hsk])) hF2 hr2)
      have hac : acP D z (Int32.ofNat i) j := ⟨h56, hor, Or.inr ((n_eq (b := 1) (by omega) (by omega)).mp (show Int32.ofNat (gdP D (Int32.ofNat i) j) = Int32.ofNat 1 from Decidable.not_not.mp c107))⟩
      refine k_iload C rfl rfl rfl ?_
      refine k_iload_n C rfl rfl rfl ?_
      refine k_icmp_ne C (t := 137) rfl rfl rfl (fun c113 => ?_) (fun c113 => ?_)
      · skip
        have hsk : sk1 D z k (Int32.ofNat i) j s = (s.1 + 1, s.2) := sk1_m hac c113
        refine k_inc1 C (lw := [(4, .int _), (9, .int _), (8, .int _), (7, .int _), (6, .int _), (5, .int _), (0, _), (1, .int _), (2, .int _), (3, .int _)]) rfl rfl rfl (Nat.le_of_ble_eq_true rfl) rfl ?_
        refine k_sub S [(6, .int j), (5, .int (Int32.ofNat i)), (4, _), (0, .ref wh), (1, .int D), (2, .int z), (3, .int k)] (List.forall_mem_cons.mpr ⟨List.mem_of_getElem? (i := 4) rfl, List.forall_mem_cons.mpr ⟨List.mem_of_getElem? (i := 5) rfl, List.forall_mem_cons.mpr ⟨List.mem_of_getElem? (i := 0) rfl, List.forall_mem_cons.mpr ⟨List.mem_of_getElem? (i := 6) rfl, List.forall_mem_cons.mpr ⟨List.mem_of_getElem? (i := 7) rfl, List.forall_mem_cons.mpr ⟨List.mem_of_getElem? (i := 8) rfl, List.forall_mem_cons.mpr ⟨List.mem_of_getElem? (i := 9) rfl, fun _ h => nomatch h⟩⟩⟩⟩⟩⟩⟩) ?_
        refine k_inc1 C (lw := [(6, .int _), (5, .int _), (4, .int _), (0, _), (1, .int _), (2, .int _), (3, .int _)]) rfl rfl rfl (Nat.le_of_ble_eq_true rfl) rfl ?_
        refine k_goto C (pc2 := 24) rfl rfl ?_
        exact ih (j + 1) (s.1 + 1, s.2) _ (by rw [hj1]; omega) (by omega) hF (hr.m c113) (fun L2 t ht hF2 hr2 => K L2 t (ht.trans (by show _ = itJ D z k (Int32.ofNat i) n (j + 1) (sk1 D z k (Int32.ofNat i) j s); rw [hsk])) hF2 hr2)
      refine k_aload_n C rfl rfl rfl ?_
      refine k_iload C rfl rfl rfl ?_
      refine k_i2l C rfl rfl ?_
      refine p_L C rfl rfl rfl T_wh (Or.inr rfl) rfl ?_
      refine k_aload_n C rfl rfl rfl ?_
      refine k_iload C rfl rfl rfl ?_
      refine k_i2l C rfl rfl ?_
      refine p_L C rfl rfl rfl T_wh (Or.inr rfl) rfl ?_
      refine k_aload_n C rfl rfl rfl ?_
      refine k_iload C rfl rfl rfl ?_
      refine k_i2l C rfl rfl ?_
      refine p_L C rfl rfl rfl T_wh (Or.inr rfl) rfl ?_
      refine k_inc1 C (lw := [(4, .int _), (9, .int _), (8, .int _), (7, .int _), (6, .int _), (5, .int _), (0, _), (1, .int _), (2, .int _), (3, .int _)]) rfl rfl rfl (Nat.le_of_ble_eq_true rfl) rfl ?_
      refine k_sub S [(6, .int j), (5, .int (Int32.ofNat i)), (4, _), (0, .ref wh), (1, .int D), (2, .int z), (3, .int k)] (List.forall_mem_cons.mpr ⟨List.mem_of_getElem? (i := 4) rfl, List.forall_mem_cons.mpr ⟨List.mem_of_getElem? (i := 5) rfl, List.forall_mem_cons.mpr ⟨List.mem_of_getElem? (i := 0) rfl, List.forall_mem_cons.mpr ⟨List.mem_of_getElem? (i := 6) rfl, List.forall_mem_cons.mpr ⟨List.mem_of_getElem? (i := 7) rfl, List.forall_mem_cons.mpr ⟨List.mem_of_getElem? (i := 8) rfl, List.forall_mem_cons.mpr ⟨List.mem_of_getElem? (i := 9) rfl, fun _ h => nomatch h⟩⟩⟩⟩⟩⟩⟩) ?_
      refine k_inc1 C (lw := [(6, .int _), (5, .int _), (4, .int _), (0, _), (1, .int _), (2, .int _), (3, .int _)]) rfl rfl rfl (Nat.le_of_ble_eq_true rfl) rfl ?_
      refine k_goto C (pc2 := 24) rfl rfl ?_
      exact ih (j + 1) (s.1 + 1, Int32.ofNat i, j, ltP D (Int32.ofNat i) j) _ (by rw [hj1]; omega) (by omega) (Fr.l (Fr.l (Fr.l hF A_wh) A_wh) A_wh) SKc.h (fun L2 t ht hF2 hr2 => K L2 t (ht.trans (by show _ = itJ D z k (Int32.ofNat i) n (j + 1) (sk1 D z k (Int32.ofNat i) j s); rw [sk1_y hac (Decidable.not_not.mp c113)])) hF2 hr2)
    refine k_iload C rfl rfl rfl ?_
    refine k_iload C rfl rfl rfl ?_
    refine k_icmp_ne C (t := 82) rfl rfl rfl (fun c70 => ?_) (fun c70 => ?_)
    · skip
      have hsk : sk1 D z k (Int32.ofNat i) j s = s := sk1_n (fun h => h.2.1.elim (fun h => c63 h) (fun h => c70 h.1))
      refine k_iconst C (x := 0) rfl rfl rfl ?_
      refine k_istore C (lw := [(9, .int _), (8, .int _), (7, .int _), (6, .int _), (5, .int _), (4, .int _), (0, _), (1, .int _), (2, .int _), (3, .int _)]) rfl rfl (Nat.le_of_ble_eq_true rfl) rfl ?_
      refine k_iload C rfl rfl rfl ?_
      refine k_if_eq C (t := 140) rfl rfl rfl (fun _ => ?_) (fun c87 => absurd (by decide) c87)
      refine k_sub S [(6, .int j), (5, .int (Int32.ofNat i)), (4, _), (0, .ref wh), (1, .int D), (2, .int z), (3, .int k)] (List.forall_mem_cons.mpr ⟨List.mem_of_getElem? (i := 3) rfl, List.forall_mem_cons.mpr ⟨List.mem_of_getElem? (i := 4) rfl, List.forall_mem_cons.mpr ⟨List.mem_of_getElem? (i := 5) rfl, List.forall_mem_cons.mpr ⟨List.mem_of_getElem? (i := 6) rfl, List.forall_mem_cons.mpr ⟨List.mem_of_getElem? (i := 7) rfl, List.forall_mem_cons.mpr ⟨List.mem_of_getElem? (i := 8) rfl, List.forall_mem_cons.mpr ⟨List.mem_of_getElem? (i := 9) rfl, fun _ h => nomatch h⟩⟩⟩⟩⟩⟩⟩) ?_
      refine k_inc1 C (lw := [(6, .int _), (5, .int _), (4, .int _), (0, _), (1, .int _), (2, .int _), (3, .int _)]) rfl rfl rfl (Nat.le_of_ble_eq_true rfl) rfl ?_
      refine k_goto C (pc2 := 24) rfl rfl ?_
      exact ih (j + 1) s _ (by rw [hj1]; omega) (by omega) hF hr (fun L2 t ht hF2 hr2 => K L2 t (ht.trans (by show _ = itJ D z k (Int32.ofNat i) n (j + 1) (sk1 D z k (Int32.ofNat i) j s); rw [hsk])) hF2 hr2)
    have h70 : ltP D (Int32.ofNat i) j = Int32.ofNat i := Decidable.not_not.mp c70
    refine k_iload C rfl rfl rfl ?_
    refine k_if_lt C (t := 82) rfl rfl rfl (fun c75 => ?_) (fun c75 => ?_)
    · skip
      have hsk : sk1 D z k (Int32.ofNat i) j s = s := sk1_n (fun h => h.2.1.elim (fun h => c63 h) (fun h => absurd h.2 (Int32.not_le.mpr c75)))
      refine k_iconst C (x := 0) rfl rfl rfl ?_
      refine k_istore C (lw := [(9, .int _), (8, .int _), (7, .int _), (6, .int _), (5, .int _), (4, .int _), (0, _), (1, .int _), (2, .int _), (3, .int _)]) rfl rfl (Nat.le_of_ble_eq_true rfl) rfl ?_
      refine k_iload C rfl rfl rfl ?_
      refine k_if_eq C (t := 140) rfl rfl rfl (fun _ => ?_) (fun c87 => absurd (by decide) c87)
      refine k_sub S [(6, .int j), (5, .int (Int32.ofNat i)), (4, _), (0, .ref wh), (1, .int D), (2, .int z), (3, .int k)] (List.forall_mem_cons.mpr ⟨List.mem_of_getElem? (i := 3) rfl, List.forall_mem_cons.mpr ⟨List.mem_of_getElem? (i := 4) rfl, List.forall_mem_cons.mpr ⟨List.mem_of_getElem? (i := 5) rfl, List.forall_mem_cons.mpr ⟨List.mem_of_getElem? (i := 6) rfl, List.forall_mem_cons.mpr ⟨List.mem_of_getElem? (i := 7) rfl, List.forall_mem_cons.mpr ⟨List.mem_of_getElem? (i := 8) rfl, List.forall_mem_cons.mpr ⟨List.mem_of_getElem? (i := 9) rfl, fun _ h => nomatch h⟩⟩⟩⟩⟩⟩⟩) ?_
      refine k_inc1 C (lw := [(6, .int _), (5, .int _), (4, .int _), (0, _), (1, .int _), (2, .int _), (3, .int _)]) rfl rfl rfl (Nat.le_of_ble_eq_true rfl) rfl ?_
      refine k_goto C (pc2 := 24) rfl rfl ?_
      exact ih (j + 1) s _ (by rw [hj1]; omega) (by omega) hF hr (fun L2 t ht hF2 hr2 => K L2 t (ht.trans (by show _ = itJ D z k (Int32.ofNat i) n (j + 1) (sk1 D z k (Int32.ofNat i) j s); rw [hsk])) hF2 hr2)
    have hor : Int32.ofNat i < ltP D (Int32.ofNat i) j ∨ (ltP D (Int32.ofNat i) j = Int32.ofNat i ∧ 0 ≤ j) := Or.inr ⟨h70, Int32.not_lt.mp c75⟩
    refine k_iconst C (x := 1) rfl rfl rfl ?_
    refine k_goto C (pc2 := 83) rfl rfl ?_
    refine k_istore C (lw := [(9, .int _), (8, .int _), (7, .int _), (6, .int _), (5, .int _), (4, .int _), (0, _), (1, .int _), (2, .int _), (3, .int _)]) rfl rfl (Nat.le_of_ble_eq_true rfl) rfl ?_
    refine k_iload C rfl rfl rfl ?_
    refine k_if_eq C (t := 140) rfl rfl rfl (fun c87 => absurd c87 (by decide)) (fun _ => ?_)
    refine k_iload_n C rfl rfl rfl ?_
    refine k_if_ne C (t := 110) rfl rfl rfl (fun c91 => ?_) (fun c91 => ?_)
    · skip
      have hac : acP D z (Int32.ofNat i) j := ⟨h56, hor, Or.inl c91⟩
      refine k_iload C rfl rfl rfl ?_
      refine k_iload_n C rfl rfl rfl ?_
      refine k_icmp_ne C (t := 137) rfl rfl rfl (fun c113 => ?_) (fun c113 => ?_)
      · skip
        have hsk : sk1 D z k (Int32.ofNat i) j s = (s.1 + 1, s.2) := sk1_m hac c113
        refine k_inc1 C (lw := [(4, .int _), (9, .int _), (8, .int _), (7, .int _), (6, .int _), (5, .int _), (0, _), (1, .int _), (2, .int _), (3, .int _)]) rfl rfl rfl (Nat.le_of_ble_eq_true rfl) rfl ?_
        refine k_sub S [(6, .int j), (5, .int (Int32.ofNat i)), (4, _), (0, .ref wh), (1, .int D), (2, .int z), (3, .int k)] (List.forall_mem_cons.mpr ⟨List.mem_of_getElem? (i := 4) rfl, List.forall_mem_cons.mpr ⟨List.mem_of_getElem? (i := 5) rfl, List.forall_mem_cons.mpr ⟨List.mem_of_getElem? (i := 0) rfl, List.forall_mem_cons.mpr ⟨List.mem_of_getElem? (i := 6) rfl, List.forall_mem_cons.mpr ⟨List.mem_of_getElem? (i := 7) rfl, List.forall_mem_cons.mpr ⟨List.mem_of_getElem? (i := 8) rfl, List.forall_mem_cons.mpr ⟨List.mem_of_getElem? (i := 9) rfl, fun _ h => nomatch h⟩⟩⟩⟩⟩⟩⟩) ?_
        refine k_inc1 C (lw := [(6, .int _), (5, .int _), (4, .int _), (0, _), (1, .int _), (2, .int _), (3, .int _)]) rfl rfl rfl (Nat.le_of_ble_eq_true rfl) rfl ?_
        refine k_goto C (pc2 := 24) rfl rfl ?_
        exact ih (j + 1) (s.1 + 1, s.2) _ (by rw [hj1]; omega) (by omega) hF (hr.m c113) (fun L2 t ht hF2 hr2 => K L2 t (ht.trans (by show _ = itJ D z k (Int32.ofNat i) n (j + 1) (sk1 D z k (Int32.ofNat i) j s); rw [hsk])) hF2 hr2)
      refine k_aload_n C rfl rfl rfl ?_
      refine k_iload C rfl rfl rfl ?_
      refine k_i2l C rfl rfl ?_
      refine p_L C rfl rfl rfl T_wh (Or.inr rfl) rfl ?_
      refine k_aload_n C rfl rfl rfl ?_
      refine k_iload C rfl rfl rfl ?_
      refine k_i2l C rfl rfl ?_
      refine p_L C rfl rfl rfl T_wh (Or.inr rfl) rfl ?_
      refine k_aload_n C rfl rfl rfl ?_
      refine k_iload C rfl rfl rfl ?_
      refine k_i2l C rfl rfl ?_
      refine p_L C rfl rfl rfl T_wh (Or.inr rfl) rfl ?_
      refine k_inc1 C (lw := [(4, .int _), (9, .int _), (8, .int _), (7, .int _), (6, .int _), (5, .int _), (0, _), (1, .int _), (2, .int _), (3, .int _)]) rfl rfl rfl (Nat.le_of_ble_eq_true rfl) rfl ?_
      refine k_sub S [(6, .int j), (5, .int (Int32.ofNat i)), (4, _), (0, .ref wh), (1, .int D), (2, .int z), (3, .int k)] (List.forall_mem_cons.mpr ⟨List.mem_of_getElem? (i := 4) rfl, List.forall_mem_cons.mpr ⟨List.mem_of_getElem? (i := 5) rfl, List.forall_mem_cons.mpr ⟨List.mem_of_getElem? (i := 0) rfl, List.forall_mem_cons.mpr ⟨List.mem_of_getElem? (i := 6) rfl, List.forall_mem_cons.mpr ⟨List.mem_of_getElem? (i := 7) rfl, List.forall_mem_cons.mpr ⟨List.mem_of_getElem? (i := 8) rfl, List.forall_mem_cons.mpr ⟨List.mem_of_getElem? (i := 9) rfl, fun _ h => nomatch h⟩⟩⟩⟩⟩⟩⟩) ?_
      refine k_inc1 C (lw := [(6, .int _), (5, .int _), (4, .int _), (0, _), (1, .int _), (2, .int _), (3, .int _)]) rfl rfl rfl (Nat.le_of_ble_eq_true rfl) rfl ?_
      refine k_goto C (pc2 := 24) rfl rfl ?_
      exact ih (j + 1) (s.1 + 1, Int32.ofNat i, j, ltP D (Int32.ofNat i) j) _ (by rw [hj1]; omega) (by omega) (Fr.l (Fr.l (Fr.l hF A_wh) A_wh) A_wh) SKc.h (fun L2 t ht hF2 hr2 => K L2 t (ht.trans (by show _ = itJ D z k (Int32.ofNat i) n (j + 1) (sk1 D z k (Int32.ofNat i) j s); rw [sk1_y hac (Decidable.not_not.mp c113)])) hF2 hr2)
    refine k_iload C rfl rfl rfl ?_
    refine k_iload C rfl rfl rfl ?_
    refine c_SI C (e_divisor  (by rw [n_int (by omega)]; omega) (by omega) (by omega)) rfl rfl rfl rfl rfl rfl rfl (Nat.le_of_ble_eq_true rfl) (Nat.le_of_ble_eq_true rfl) (Nat.le_of_ble_eq_true rfl) ?_
    rintro _ _ _ ⟨hx7, hI8, hL9⟩
    have hx7 := hx7.symm; subst hx7
    have hI8 := hI8.symm; subst hI8; have hL9 := hL9.symm; subst hL9
    refine k_iload C rfl rfl rfl ?_
    refine c_SI C (e_divisor  (by rw [n_int (by omega)]; omega) (show -2147483648 < (ltP D (Int32.ofNat i) j).toInt by omega) (by right; rw [n_int (by omega)]; omega)) rfl rfl rfl rfl rfl rfl rfl (Nat.le_of_ble_eq_true rfl) (Nat.le_of_ble_eq_true rfl) (Nat.le_of_ble_eq_true rfl) ?_
    rintro _ _ _ ⟨hx7, hI8, hL9⟩
    have hx7 := hx7.symm; subst hx7
    have hI8 := hI8.symm; subst hI8; have hL9 := hL9.symm; subst hL9
    refine k_iconst C (x := 1) rfl rfl rfl ?_
    refine k_icmp_ne C (t := 140) rfl rfl rfl (fun c107 => ?_) (fun c107 => ?_)
    · skip
      have hsk : sk1 D z k (Int32.ofNat i) j s = s := sk1_n (fun h => h.2.2.elim (fun h => c91 h) (fun h => c107 (show Int32.ofNat (gdP D (Int32.ofNat i) j) = 1 by rw [h]; rfl)))
      refine k_sub S [(6, .int j), (5, .int (Int32.ofNat i)), (4, _), (0, .ref wh), (1, .int D), (2, .int z), (3, .int k)] (List.forall_mem_cons.mpr ⟨List.mem_of_getElem? (i := 3) rfl, List.forall_mem_cons.mpr ⟨List.mem_of_getElem? (i := 4) rfl, List.forall_mem_cons.mpr ⟨List.mem_of_getElem? (i := 5) rfl, List.forall_mem_cons.mpr ⟨List.mem_of_getElem? (i := 6) rfl, List.forall_mem_cons.mpr ⟨List.mem_of_getElem? (i := 7) rfl, List.forall_mem_cons.mpr ⟨List.mem_of_getElem? (i := 8) rfl, List.forall_mem_cons.mpr ⟨List.mem_of_getElem? (i := 9) rfl, fun _ h => nomatch h⟩⟩⟩⟩⟩⟩⟩) ?_
      refine k_inc1 C (lw := [(6, .int _), (5, .int _), (4, .int _), (0, _), (1, .int _), (2, .int _), (3, .int _)]) rfl rfl rfl (Nat.le_of_ble_eq_true rfl) rfl ?_
      refine k_goto C (pc2 := 24) rfl rfl ?_
      exact ih (j + 1) s _ (by rw [hj1]; omega) (by omega) hF hr (fun L2 t ht hF2 hr2 => K L2 t (ht.trans (by show _ = itJ D z k (Int32.ofNat i) n (j + 1) (sk1 D z k (Int32.ofNat i) j s); rw [hsk])) hF2 hr2)
    have hac : acP D z (Int32.ofNat i) j := ⟨h56, hor, Or.inr ((n_eq (b := 1) (by omega) (by omega)).mp (show Int32.ofNat (gdP D (Int32.ofNat i) j) = Int32.ofNat 1 from Decidable.not_not.mp c107))⟩
    refine k_iload C rfl rfl rfl ?_
    refine k_iload_n C rfl rfl rfl ?_
    refine k_icmp_ne C (t := 137) rfl rfl rfl (fun c113 => ?_) (fun c113 => ?_)
    · skip
      have hsk : sk1 D z k (Int32.ofNat i) j s = (s.1 + 1, s.2) := sk1_m hac c113
      refine k_inc1 C (lw := [(4, .int _), (9, .int _), (8, .int _), (7, .int _), (6, .int _), (5, .int _), (0, _), (1, .int _), (2, .int _), (3, .int _)]) rfl rfl rfl (Nat.le_of_ble_eq_true rfl) rfl ?_
      refine k_sub S [(6, .int j), (5, .int (Int32.ofNat i)), (4, _), (0, .ref wh), (1, .int D), (2, .int z), (3, .int k)] (List.forall_mem_cons.mpr ⟨List.mem_of_getElem? (i := 4) rfl, List.forall_mem_cons.mpr ⟨List.mem_of_getElem? (i := 5) rfl, List.forall_mem_cons.mpr ⟨List.mem_of_getElem? (i := 0) rfl, List.forall_mem_cons.mpr ⟨List.mem_of_getElem? (i := 6) rfl, List.forall_mem_cons.mpr ⟨List.mem_of_getElem? (i := 7) rfl, List.forall_mem_cons.mpr ⟨List.mem_of_getElem? (i := 8) rfl, List.forall_mem_cons.mpr ⟨List.mem_of_getElem? (i := 9) rfl, fun _ h => nomatch h⟩⟩⟩⟩⟩⟩⟩) ?_
      refine k_inc1 C (lw := [(6, .int _), (5, .int _), (4, .int _), (0, _), (1, .int _), (2, .int _), (3, .int _)]) rfl rfl rfl (Nat.le_of_ble_eq_true rfl) rfl ?_
      refine k_goto C (pc2 := 24) rfl rfl ?_
      exact ih (j + 1) (s.1 + 1, s.2) _ (by rw [hj1]; omega) (by omega) hF (hr.m c113) (fun L2 t ht hF2 hr2 => K L2 t (ht.trans (by show _ = itJ D z k (Int32.ofNat i) n (j + 1) (sk1 D z k (Int32.ofNat i) j s); rw [hsk])) hF2 hr2)
    refine k_aload_n C rfl rfl rfl ?_
    refine k_iload C rfl rfl rfl ?_
    refine k_i2l C rfl rfl ?_
    refine p_L C rfl rfl rfl T_wh (Or.inr rfl) rfl ?_
    refine k_aload_n C rfl rfl rfl ?_
    refine k_iload C rfl rfl rfl ?_
    refine k_i2l C rfl rfl ?_
    refine p_L C rfl rfl rfl T_wh (Or.inr rfl) rfl ?_
    refine k_aload_n C rfl rfl rfl ?_
    refine k_iload C rfl rfl rfl ?_
    refine k_i2l C rfl rfl ?_
    refine p_L C rfl rfl rfl T_wh (Or.inr rfl) rfl ?_
    refine k_inc1 C (lw := [(4, .int _), (9, .int _), (8, .int _), (7, .int _), (6, .int _), (5, .int _), (0, _), (1, .int _), (2, .int _), (3, .int _)]) rfl rfl rfl (Nat.le_of_ble_eq_true rfl) rfl ?_
    refine k_sub S [(6, .int j), (5, .int (Int32.ofNat i)), (4, _), (0, .ref wh), (1, .int D), (2, .int z), (3, .int k)] (List.forall_mem_cons.mpr ⟨List.mem_of_getElem? (i := 4) rfl, List.forall_mem_cons.mpr ⟨List.mem_of_getElem? (i := 5) rfl, List.forall_mem_cons.mpr ⟨List.mem_of_getElem? (i := 0) rfl, List.forall_mem_cons.mpr ⟨List.mem_of_getElem? (i := 6) rfl, List.forall_mem_cons.mpr ⟨List.mem_of_getElem? (i := 7) rfl, List.forall_mem_cons.mpr ⟨List.mem_of_getElem? (i := 8) rfl, List.forall_mem_cons.mpr ⟨List.mem_of_getElem? (i := 9) rfl, fun _ h => nomatch h⟩⟩⟩⟩⟩⟩⟩) ?_
    refine k_inc1 C (lw := [(6, .int _), (5, .int _), (4, .int _), (0, _), (1, .int _), (2, .int _), (3, .int _)]) rfl rfl rfl (Nat.le_of_ble_eq_true rfl) rfl ?_
    refine k_goto C (pc2 := 24) rfl rfl ?_
    exact ih (j + 1) (s.1 + 1, Int32.ofNat i, j, ltP D (Int32.ofNat i) j) _ (by rw [hj1]; omega) (by omega) (Fr.l (Fr.l (Fr.l hF A_wh) A_wh) A_wh) SKc.h (fun L2 t ht hF2 hr2 => K L2 t (ht.trans (by show _ = itJ D z k (Int32.ofNat i) n (j + 1) (sk1 D z k (Int32.ofNat i) j s); rw [sk1_y hac (Decidable.not_not.mp c113)])) hF2 hr2)
theorem lt_of_ne32 {x y : Int32} (h : ¬ x < y) (hn : ¬ x = y) : y < x := by
  rw [i_lt] at h ⊢
  have : x.toInt ≠ y.toInt := fun e => hn (Int32.toInt_inj.mp e)
  omega
set_option maxHeartbeats 2000000 in
theorem ms_inner {d : Nat} {V : V_T} {q : mm_T} {Post : Po} {T N : Nat → Nat} {R : RT} {A : Nat → Prop} {I : IT} {L : LT} {m : Nat} {D z k : Int32} {i : Nat} (hq : P_ml[306]? = some q) (C : Cl (d + 2) q 0 0 Post V) (S : SB V) (T_m : T m = 13) (A_m : A m) (hD : isDc D) (hz : z = 0 ∨ z = 1) (hi : 1 ≤ i ∧ i ≤ 57) : ∀ (n : Nat) (j : Int32) (s : SG) (I1 : IT), j.toInt + n = i + 1 → -57 ≤ j.toInt → Fr A I L I1 L → (SKi k s I1 m ∧ IK3 m I I1) → (∀ (I2 : IT) (t : SG), t = itJ D z k (Int32.ofNat i) n j s → Fr A I L I2 L → (SKi k t I2 m ∧ IK3 m I I2) → ∀ x6 : Int32, V 138 [(6, .int x6), (5, .int (Int32.ofNat i)), (4, .int t.1), (0, .ref m), (1, .int D), (2, .int z), (3, .int k)] [] (T, N, I2, L, R) 0 0) → V 24 [(6, .int j), (5, .int (Int32.ofNat i)), (4, .int s.1), (0, .ref m), (1, .int D), (2, .int z), (3, .int k)] [] (T, N, I1, L, R) 0 0 := by
  cases hq
  intro n
  induction n with
  | zero =>
    intro j s I1 hjn hj0 hF hr K
    refine k_iload C rfl rfl rfl ?_
    refine k_iload C rfl rfl rfl ?_
    refine k_icmp_gt C (t := 138) rfl rfl rfl (fun _ => ?_) (fun c9 => absurd (i_lt.mpr (by rw [n_int (by omega)]; omega)) c9)
    exact K _ _ rfl hF hr _
  | succ n ih =>
    intro j s I1 hjn hj0 hF hr K
    have hj : -57 ≤ j.toInt ∧ j.toInt ≤ 57 := by omega
    have e1 : (1 : Int32).toInt = 1 := rfl
    have hj1 : (j + 1).toInt = j.toInt + 1 := by rw [ii_add (by rw [e1]; omega), e1]
    have hne : ¬ 4 * Int32.ofNat i = 0 := i_ne0 (by rw [i4_int hi]; omega)
    have hlt := lt_int hD hj hi
    have hg := gd_bd (j := j) hi
    have hgg := gg_bd (D := D) (j := j) hi
    refine k_iload C rfl rfl rfl ?_
    refine k_iload C rfl rfl rfl ?_
    refine k_icmp_gt C (t := 138) rfl rfl rfl (fun c9 => absurd (i_lt.mp c9) (by rw [n_int (by omega)]; omega)) (fun _ => ?_)
    refine k_iload C rfl rfl rfl ?_
    refine k_iload C rfl rfl rfl ?_
    refine k_imul C rfl rfl ?_
    refine k_iload_n C rfl rfl rfl ?_
    refine k_isub C rfl rfl ?_
    refine k_iconst C (x := 4) rfl rfl rfl ?_
    refine k_iload C rfl rfl rfl ?_
    refine k_imul C rfl rfl ?_
    refine k_irem C rfl rfl hne ?_
    refine k_if_eq C (t := 49) rfl rfl rfl (fun c43 => ?_) (fun c43 => ?_)
    · skip
      have h56 : rmP D (Int32.ofNat i) j = 0 := c43
      refine k_iload C rfl rfl rfl ?_
      refine k_iload C rfl rfl rfl ?_
      refine k_imul C rfl rfl ?_
      refine k_iload_n C rfl rfl rfl ?_
      refine k_isub C rfl rfl ?_
      refine k_iconst C (x := 4) rfl rfl rfl ?_
      refine k_iload C rfl rfl rfl ?_
      refine k_imul C rfl rfl ?_
      refine k_idiv C rfl rfl hne ?_
      refine k_istore C (lw := [(7, .int _), (6, .int _), (5, .int _), (4, .int _), (0, _), (1, .int _), (2, .int _), (3, .int _)]) rfl rfl (Nat.le_of_ble_eq_true rfl) rfl ?_
      refine k_iload C rfl rfl rfl ?_
      refine k_iload C rfl rfl rfl ?_
      refine k_icmp_lt C (t := 132) rfl rfl rfl (fun c67 => ?_) (fun c67 => ?_)
      · skip
        have hsk : sk1 D z k (Int32.ofNat i) j s = s := sk1_n (fun h => h.2.1.elim (fun h => absurd (Int32.lt_trans h c67) Int32.lt_irrefl) (fun h => absurd c67 (show ¬ ltP D (Int32.ofNat i) j < Int32.ofNat i by rw [h.1]; exact Int32.lt_irrefl)))
        refine k_sub S [(6, .int j), (5, .int (Int32.ofNat i)), (4, _), (0, .ref m), (1, .int D), (2, .int z), (3, .int k)] (List.forall_mem_cons.mpr ⟨List.mem_of_getElem? (i := 1) rfl, List.forall_mem_cons.mpr ⟨List.mem_of_getElem? (i := 2) rfl, List.forall_mem_cons.mpr ⟨List.mem_of_getElem? (i := 3) rfl, List.forall_mem_cons.mpr ⟨List.mem_of_getElem? (i := 4) rfl, List.forall_mem_cons.mpr ⟨List.mem_of_getElem? (i := 5) rfl, List.forall_mem_cons.mpr ⟨List.mem_of_getElem? (i := 6) rfl, List.forall_mem_cons.mpr ⟨List.mem_of_getElem? (i := 7) rfl, fun _ h => nomatch h⟩⟩⟩⟩⟩⟩⟩) ?_
        refine k_inc1 C (lw := [(6, .int _), (5, .int _), (4, .int _), (0, _), (1, .int _), (2, .int _), (3, .int _)]) rfl rfl rfl (Nat.le_of_ble_eq_true rfl) rfl ?_
        refine k_goto C (pc2 := 24) rfl rfl ?_
        exact ih (j + 1) s _ (by rw [hj1]; omega) (by omega) hF hr (fun L2 t ht hF2 hr2 => K L2 t (ht.trans (by show _ = itJ D z k (Int32.ofNat i) n (j + 1) (sk1 D z k (Int32.ofNat i) j s); rw [hsk])) hF2 hr2)
      refine k_iload C rfl rfl rfl ?_
      refine k_iload C rfl rfl rfl ?_
      refine k_icmp_ne C (t := 82) rfl rfl rfl (fun c74 => ?_) (fun c74 => ?_)
      · skip
        have hor : Int32.ofNat i < ltP D (Int32.ofNat i) j ∨ (ltP D (Int32.ofNat i) j = Int32.ofNat i ∧ 0 ≤ j) := Or.inl (lt_of_ne32 c67 c74)
        refine k_iload_n C rfl rfl rfl ?_
        refine k_if_ne C (t := 105) rfl rfl rfl (fun c83 => ?_) (fun c83 => ?_)
        · skip
          have hac : acP D z (Int32.ofNat i) j := ⟨h56, hor, Or.inl c83⟩
          refine k_iload C rfl rfl rfl ?_
          refine k_iload_n C rfl rfl rfl ?_
          refine k_icmp_ne C (t := 129) rfl rfl rfl (fun c108 => ?_) (fun c108 => ?_)
          · skip
            have hsk : sk1 D z k (Int32.ofNat i) j s = (s.1 + 1, s.2) := sk1_m hac c108
            refine k_inc1 C (lw := [(4, .int _), (7, .int _), (6, .int _), (5, .int _), (0, _), (1, .int _), (2, .int _), (3, .int _)]) rfl rfl rfl (Nat.le_of_ble_eq_true rfl) rfl ?_
            refine k_sub S [(6, .int j), (5, .int (Int32.ofNat i)), (4, _), (0, .ref m), (1, .int D), (2, .int z), (3, .int k)] (List.forall_mem_cons.mpr ⟨List.mem_of_getElem? (i := 2) rfl, List.forall_mem_cons.mpr ⟨List.mem_of_getElem? (i := 3) rfl, List.forall_mem_cons.mpr ⟨List.mem_of_getElem? (i := 0) rfl, List.forall_mem_cons.mpr ⟨List.mem_of_getElem? (i := 4) rfl, List.forall_mem_cons.mpr ⟨List.mem_of_getElem? (i := 5) rfl, List.forall_mem_cons.mpr ⟨List.mem_of_getElem? (i := 6) rfl, List.forall_mem_cons.mpr ⟨List.mem_of_getElem? (i := 7) rfl, fun _ h => nomatch h⟩⟩⟩⟩⟩⟩⟩) ?_
            refine k_inc1 C (lw := [(6, .int _), (5, .int _), (4, .int _), (0, _), (1, .int _), (2, .int _), (3, .int _)]) rfl rfl rfl (Nat.le_of_ble_eq_true rfl) rfl ?_
            refine k_goto C (pc2 := 24) rfl rfl ?_
            exact ih (j + 1) (s.1 + 1, s.2) _ (by rw [hj1]; omega) (by omega) hF ⟨hr.1.m c108, hr.2⟩ (fun L2 t ht hF2 hr2 => K L2 t (ht.trans (by show _ = itJ D z k (Int32.ofNat i) n (j + 1) (sk1 D z k (Int32.ofNat i) j s); rw [hsk])) hF2 hr2)
          refine k_aload_n C rfl rfl rfl ?_
          refine k_iload C rfl rfl rfl ?_
          refine p_I C rfl rfl rfl T_m (Or.inr rfl) rfl ?_
          refine k_aload_n C rfl rfl rfl ?_
          refine k_iload C rfl rfl rfl ?_
          refine p_I C rfl rfl rfl T_m (Or.inr rfl) rfl ?_
          refine k_aload_n C rfl rfl rfl ?_
          refine k_iload C rfl rfl rfl ?_
          refine p_I C rfl rfl rfl T_m (Or.inr rfl) rfl ?_
          refine k_inc1 C (lw := [(4, .int _), (7, .int _), (6, .int _), (5, .int _), (0, _), (1, .int _), (2, .int _), (3, .int _)]) rfl rfl rfl (Nat.le_of_ble_eq_true rfl) rfl ?_
          refine k_sub S [(6, .int j), (5, .int (Int32.ofNat i)), (4, _), (0, .ref m), (1, .int D), (2, .int z), (3, .int k)] (List.forall_mem_cons.mpr ⟨List.mem_of_getElem? (i := 2) rfl, List.forall_mem_cons.mpr ⟨List.mem_of_getElem? (i := 3) rfl, List.forall_mem_cons.mpr ⟨List.mem_of_getElem? (i := 0) rfl, List.forall_mem_cons.mpr ⟨List.mem_of_getElem? (i := 4) rfl, List.forall_mem_cons.mpr ⟨List.mem_of_getElem? (i := 5) rfl, List.forall_mem_cons.mpr ⟨List.mem_of_getElem? (i := 6) rfl, List.forall_mem_cons.mpr ⟨List.mem_of_getElem? (i := 7) rfl, fun _ h => nomatch h⟩⟩⟩⟩⟩⟩⟩) ?_
          refine k_inc1 C (lw := [(6, .int _), (5, .int _), (4, .int _), (0, _), (1, .int _), (2, .int _), (3, .int _)]) rfl rfl rfl (Nat.le_of_ble_eq_true rfl) rfl ?_
          refine k_goto C (pc2 := 24) rfl rfl ?_
          exact ih (j + 1) (s.1 + 1, Int32.ofNat i, j, ltP D (Int32.ofNat i) j) _ (by rw [hj1]; omega) (by omega) (Fr.i (Fr.i (Fr.i hF A_m) A_m) A_m) ⟨SKi.h, IK3.h hr.2⟩ (fun L2 t ht hF2 hr2 => K L2 t (ht.trans (by show _ = itJ D z k (Int32.ofNat i) n (j + 1) (sk1 D z k (Int32.ofNat i) j s); rw [sk1_y hac (Decidable.not_not.mp c108)])) hF2 hr2)
        refine k_iload C rfl rfl rfl ?_
        refine k_iload C rfl rfl rfl ?_
        refine c_SI C (e_m_shared  (by rw [n_int (by omega)]; omega) (by omega)) rfl rfl rfl rfl rfl rfl rfl (Nat.le_of_ble_eq_true rfl) (Nat.le_of_ble_eq_true rfl) (Nat.le_of_ble_eq_true rfl) ?_
        rintro _ _ _ ⟨hx7, hI8, hL9⟩
        have hx7 := hx7.symm; subst hx7
        have hI8 := hI8.symm; subst hI8; have hL9 := hL9.symm; subst hL9
        refine k_iload C rfl rfl rfl ?_
        refine c_SI C (e_m_shared  (by rw [n_int (by omega)]; omega) (show -2147483648 < (ltP D (Int32.ofNat i) j).toInt by omega)) rfl rfl rfl rfl rfl rfl rfl (Nat.le_of_ble_eq_true rfl) (Nat.le_of_ble_eq_true rfl) (Nat.le_of_ble_eq_true rfl) ?_
        rintro _ _ _ ⟨hx7, hI8, hL9⟩
        have hx7 := hx7.symm; subst hx7
        have hI8 := hI8.symm; subst hI8; have hL9 := hL9.symm; subst hL9
        refine k_iconst C (x := 1) rfl rfl rfl ?_
        refine k_icmp_le C (t := 105) rfl rfl rfl (fun c99 => ?_) (fun c99 => ?_)
        · skip
          have hac : acP D z (Int32.ofNat i) j := ⟨h56, hor, Or.inr (by have := (n_le (a := gdP D (Int32.ofNat i) j) (b := 1) (by omega) (by omega)).mp c99; omega)⟩
          refine k_iload C rfl rfl rfl ?_
          refine k_iload_n C rfl rfl rfl ?_
          refine k_icmp_ne C (t := 129) rfl rfl rfl (fun c108 => ?_) (fun c108 => ?_)
          · skip
            have hsk : sk1 D z k (Int32.ofNat i) j s = (s.1 + 1, s.2) := sk1_m hac c108
            refine k_inc1 C (lw := [(4, .int _), (7, .int _), (6, .int _), (5, .int _), (0, _), (1, .int _), (2, .int _), (3, .int _)]) rfl rfl rfl (Nat.le_of_ble_eq_true rfl) rfl ?_
            refine k_sub S [(6, .int j), (5, .int (Int32.ofNat i)), (4, _), (0, .ref m), (1, .int D), (2, .int z), (3, .int k)] (List.forall_mem_cons.mpr ⟨List.mem_of_getElem? (i := 2) rfl, List.forall_mem_cons.mpr ⟨List.mem_of_getElem? (i := 3) rfl, List.forall_mem_cons.mpr ⟨List.mem_of_getElem? (i := 0) rfl, List.forall_mem_cons.mpr ⟨List.mem_of_getElem? (i := 4) rfl, List.forall_mem_cons.mpr ⟨List.mem_of_getElem? (i := 5) rfl, List.forall_mem_cons.mpr ⟨List.mem_of_getElem? (i := 6) rfl, List.forall_mem_cons.mpr ⟨List.mem_of_getElem? (i := 7) rfl, fun _ h => nomatch h⟩⟩⟩⟩⟩⟩⟩) ?_
            refine k_inc1 C (lw := [(6, .int _), (5, .int _), (4, .int _), (0, _), (1, .int _), (2, .int _), (3, .int _)]) rfl rfl rfl (Nat.le_of_ble_eq_true rfl) rfl ?_
            refine k_goto C (pc2 := 24) rfl rfl ?_
            exact ih (j + 1) (s.1 + 1, s.2) _ (by rw [hj1]; omega) (by omega) hF ⟨hr.1.m c108, hr.2⟩ (fun L2 t ht hF2 hr2 => K L2 t (ht.trans (by show _ = itJ D z k (Int32.ofNat i) n (j + 1) (sk1 D z k (Int32.ofNat i) j s); rw [hsk])) hF2 hr2)
          refine k_aload_n C rfl rfl rfl ?_
          refine k_iload C rfl rfl rfl ?_
          refine p_I C rfl rfl rfl T_m (Or.inr rfl) rfl ?_
          refine k_aload_n C rfl rfl rfl ?_
          refine k_iload C rfl rfl rfl ?_
          refine p_I C rfl rfl rfl T_m (Or.inr rfl) rfl ?_
          refine k_aload_n C rfl rfl rfl ?_
          refine k_iload C rfl rfl rfl ?_
          refine p_I C rfl rfl rfl T_m (Or.inr rfl) rfl ?_
          refine k_inc1 C (lw := [(4, .int _), (7, .int _), (6, .int _), (5, .int _), (0, _), (1, .int _), (2, .int _), (3, .int _)]) rfl rfl rfl (Nat.le_of_ble_eq_true rfl) rfl ?_
          refine k_sub S [(6, .int j), (5, .int (Int32.ofNat i)), (4, _), (0, .ref m), (1, .int D), (2, .int z), (3, .int k)] (List.forall_mem_cons.mpr ⟨List.mem_of_getElem? (i := 2) rfl, List.forall_mem_cons.mpr ⟨List.mem_of_getElem? (i := 3) rfl, List.forall_mem_cons.mpr ⟨List.mem_of_getElem? (i := 0) rfl, List.forall_mem_cons.mpr ⟨List.mem_of_getElem? (i := 4) rfl, List.forall_mem_cons.mpr ⟨List.mem_of_getElem? (i := 5) rfl, List.forall_mem_cons.mpr ⟨List.mem_of_getElem? (i := 6) rfl, List.forall_mem_cons.mpr ⟨List.mem_of_getElem? (i := 7) rfl, fun _ h => nomatch h⟩⟩⟩⟩⟩⟩⟩) ?_
          refine k_inc1 C (lw := [(6, .int _), (5, .int _), (4, .int _), (0, _), (1, .int _), (2, .int _), (3, .int _)]) rfl rfl rfl (Nat.le_of_ble_eq_true rfl) rfl ?_
          refine k_goto C (pc2 := 24) rfl rfl ?_
          exact ih (j + 1) (s.1 + 1, Int32.ofNat i, j, ltP D (Int32.ofNat i) j) _ (by rw [hj1]; omega) (by omega) (Fr.i (Fr.i (Fr.i hF A_m) A_m) A_m) ⟨SKi.h, IK3.h hr.2⟩ (fun L2 t ht hF2 hr2 => K L2 t (ht.trans (by show _ = itJ D z k (Int32.ofNat i) n (j + 1) (sk1 D z k (Int32.ofNat i) j s); rw [sk1_y hac (Decidable.not_not.mp c108)])) hF2 hr2)
        have hsk : sk1 D z k (Int32.ofNat i) j s = s := sk1_n (fun h => h.2.2.elim (fun h => c83 h) (fun h => c99 ((n_le (a := gdP D (Int32.ofNat i) j) (b := 1) (by omega) (by omega)).mpr (by omega))))
        refine k_goto C (pc2 := 132) rfl rfl ?_
        refine k_sub S [(6, .int j), (5, .int (Int32.ofNat i)), (4, _), (0, .ref m), (1, .int D), (2, .int z), (3, .int k)] (List.forall_mem_cons.mpr ⟨List.mem_of_getElem? (i := 1) rfl, List.forall_mem_cons.mpr ⟨List.mem_of_getElem? (i := 2) rfl, List.forall_mem_cons.mpr ⟨List.mem_of_getElem? (i := 3) rfl, List.forall_mem_cons.mpr ⟨List.mem_of_getElem? (i := 4) rfl, List.forall_mem_cons.mpr ⟨List.mem_of_getElem? (i := 5) rfl, List.forall_mem_cons.mpr ⟨List.mem_of_getElem? (i := 6) rfl, List.forall_mem_cons.mpr ⟨List.mem_of_getElem? (i := 7) rfl, fun _ h => nomatch h⟩⟩⟩⟩⟩⟩⟩) ?_
        refine k_inc1 C (lw := [(6, .int _), (5, .int _), (4, .int _), (0, _), (1, .int _), (2, .int _), (3, .int _)]) rfl rfl rfl (Nat.le_of_ble_eq_true rfl) rfl ?_
        refine k_goto C (pc2 := 24) rfl rfl ?_
        exact ih (j + 1) s _ (by rw [hj1]; omega) (by omega) hF hr (fun L2 t ht hF2 hr2 => K L2 t (ht.trans (by show _ = itJ D z k (Int32.ofNat i) n (j + 1) (sk1 D z k (Int32.ofNat i) j s); rw [hsk])) hF2 hr2)
      have h70 : ltP D (Int32.ofNat i) j = Int32.ofNat i := Decidable.not_not.mp c74
      refine k_iload C rfl rfl rfl ?_
      refine k_if_lt C (t := 132) rfl rfl rfl (fun c79 => ?_) (fun c79 => ?_)
      · skip
        have hsk : sk1 D z k (Int32.ofNat i) j s = s := sk1_n (fun h => h.2.1.elim (fun h => absurd h (by rw [h70]; exact Int32.lt_irrefl)) (fun h => absurd h.2 (Int32.not_le.mpr c79)))
        refine k_sub S [(6, .int j), (5, .int (Int32.ofNat i)), (4, _), (0, .ref m), (1, .int D), (2, .int z), (3, .int k)] (List.forall_mem_cons.mpr ⟨List.mem_of_getElem? (i := 1) rfl, List.forall_mem_cons.mpr ⟨List.mem_of_getElem? (i := 2) rfl, List.forall_mem_cons.mpr ⟨List.mem_of_getElem? (i := 3) rfl, List.forall_mem_cons.mpr ⟨List.mem_of_getElem? (i := 4) rfl, List.forall_mem_cons.mpr ⟨List.mem_of_getElem? (i := 5) rfl, List.forall_mem_cons.mpr ⟨List.mem_of_getElem? (i := 6) rfl, List.forall_mem_cons.mpr ⟨List.mem_of_getElem? (i := 7) rfl, fun _ h => nomatch h⟩⟩⟩⟩⟩⟩⟩) ?_
        refine k_inc1 C (lw := [(6, .int _), (5, .int _), (4, .int _), (0, _), (1, .int _), (2, .int _), (3, .int _)]) rfl rfl rfl (Nat.le_of_ble_eq_true rfl) rfl ?_
        refine k_goto C (pc2 := 24) rfl rfl ?_
        exact ih (j + 1) s _ (by rw [hj1]; omega) (by omega) hF hr (fun L2 t ht hF2 hr2 => K L2 t (ht.trans (by show _ = itJ D z k (Int32.ofNat i) n (j + 1) (sk1 D z k (Int32.ofNat i) j s); rw [hsk])) hF2 hr2)
      have hor : Int32.ofNat i < ltP D (Int32.ofNat i) j ∨ (ltP D (Int32.ofNat i) j = Int32.ofNat i ∧ 0 ≤ j) := Or.inr ⟨h70, Int32.not_lt.mp c79⟩
      refine k_iload_n C rfl rfl rfl ?_
      refine k_if_ne C (t := 105) rfl rfl rfl (fun c83 => ?_) (fun c83 => ?_)
      · skip
        have hac : acP D z (Int32.ofNat i) j := ⟨h56, hor, Or.inl c83⟩
        refine k_iload C rfl rfl rfl ?_
        refine k_iload_n C rfl rfl rfl ?_
        refine k_icmp_ne C (t := 129) rfl rfl rfl (fun c108 => ?_) (fun c108 => ?_)
        · skip
          have hsk : sk1 D z k (Int32.ofNat i) j s = (s.1 + 1, s.2) := sk1_m hac c108
          refine k_inc1 C (lw := [(4, .int _), (7, .int _), (6, .int _), (5, .int _), (0, _), (1, .int _), (2, .int _), (3, .int _)]) rfl rfl rfl (Nat.le_of_ble_eq_true rfl) rfl ?_
          refine k_sub S [(6, .int j), (5, .int (Int32.ofNat i)), (4, _), (0, .ref m), (1, .int D), (2, .int z), (3, .int k)] (List.forall_mem_cons.mpr ⟨List.mem_of_getElem? (i := 2) rfl, List.forall_mem_cons.mpr ⟨List.mem_of_getElem? (i := 3) rfl, List.forall_mem_cons.mpr ⟨List.mem_of_getElem? (i := 0) rfl, List.forall_mem_cons.mpr ⟨List.mem_of_getElem? (i := 4) rfl, List.forall_mem_cons.mpr ⟨List.mem_of_getElem? (i := 5) rfl, List.forall_mem_cons.mpr ⟨List.mem_of_getElem? (i := 6) rfl, List.forall_mem_cons.mpr ⟨List.mem_of_getElem? (i := 7) rfl, fun _ h => nomatch h⟩⟩⟩⟩⟩⟩⟩) ?_
          refine k_inc1 C (lw := [(6, .int _), (5, .int _), (4, .int _), (0, _), (1, .int _), (2, .int _), (3, .int _)]) rfl rfl rfl (Nat.le_of_ble_eq_true rfl) rfl ?_
          refine k_goto C (pc2 := 24) rfl rfl ?_
          exact ih (j + 1) (s.1 + 1, s.2) _ (by rw [hj1]; omega) (by omega) hF ⟨hr.1.m c108, hr.2⟩ (fun L2 t ht hF2 hr2 => K L2 t (ht.trans (by show _ = itJ D z k (Int32.ofNat i) n (j + 1) (sk1 D z k (Int32.ofNat i) j s); rw [hsk])) hF2 hr2)
        refine k_aload_n C rfl rfl rfl ?_
        refine k_iload C rfl rfl rfl ?_
        refine p_I C rfl rfl rfl T_m (Or.inr rfl) rfl ?_
        refine k_aload_n C rfl rfl rfl ?_
        refine k_iload C rfl rfl rfl ?_
        refine p_I C rfl rfl rfl T_m (Or.inr rfl) rfl ?_
        refine k_aload_n C rfl rfl rfl ?_
        refine k_iload C rfl rfl rfl ?_
        refine p_I C rfl rfl rfl T_m (Or.inr rfl) rfl ?_
        refine k_inc1 C (lw := [(4, .int _), (7, .int _), (6, .int _), (5, .int _), (0, _), (1, .int _), (2, .int _), (3, .int _)]) rfl rfl rfl (Nat.le_of_ble_eq_true rfl) rfl ?_
        refine k_sub S [(6, .int j), (5, .int (Int32.ofNat i)), (4, _), (0, .ref m), (1, .int D), (2, .int z), (3, .int k)] (List.forall_mem_cons.mpr ⟨List.mem_of_getElem? (i := 2) rfl, List.forall_mem_cons.mpr ⟨List.mem_of_getElem? (i := 3) rfl, List.forall_mem_cons.mpr ⟨List.mem_of_getElem? (i := 0) rfl, List.forall_mem_cons.mpr ⟨List.mem_of_getElem? (i := 4) rfl, List.forall_mem_cons.mpr ⟨List.mem_of_getElem? (i := 5) rfl, List.forall_mem_cons.mpr ⟨List.mem_of_getElem? (i := 6) rfl, List.forall_mem_cons.mpr ⟨List.mem_of_getElem? (i := 7) rfl, fun _ h => nomatch h⟩⟩⟩⟩⟩⟩⟩) ?_
        refine k_inc1 C (lw := [(6, .int _), (5, .int _), (4, .int _), (0, _), (1, .int _), (2, .int _), (3, .int _)]) rfl rfl rfl (Nat.le_of_ble_eq_true rfl) rfl ?_
        refine k_goto C (pc2 := 24) rfl rfl ?_
        exact ih (j + 1) (s.1 + 1, Int32.ofNat i, j, ltP D (Int32.ofNat i) j) _ (by rw [hj1]; omega) (by omega) (Fr.i (Fr.i (Fr.i hF A_m) A_m) A_m) ⟨SKi.h, IK3.h hr.2⟩ (fun L2 t ht hF2 hr2 => K L2 t (ht.trans (by show _ = itJ D z k (Int32.ofNat i) n (j + 1) (sk1 D z k (Int32.ofNat i) j s); rw [sk1_y hac (Decidable.not_not.mp c108)])) hF2 hr2)
      refine k_iload C rfl rfl rfl ?_
      refine k_iload C rfl rfl rfl ?_
      refine c_SI C (e_m_shared  (by rw [n_int (by omega)]; omega) (by omega)) rfl rfl rfl rfl rfl rfl rfl (Nat.le_of_ble_eq_true rfl) (Nat.le_of_ble_eq_true rfl) (Nat.le_of_ble_eq_true rfl) ?_
      rintro _ _ _ ⟨hx7, hI8, hL9⟩
      have hx7 := hx7.symm; subst hx7
      have hI8 := hI8.symm; subst hI8; have hL9 := hL9.symm; subst hL9
      refine k_iload C rfl rfl rfl ?_
      refine c_SI C (e_m_shared  (by rw [n_int (by omega)]; omega) (show -2147483648 < (ltP D (Int32.ofNat i) j).toInt by omega)) rfl rfl rfl rfl rfl rfl rfl (Nat.le_of_ble_eq_true rfl) (Nat.le_of_ble_eq_true rfl) (Nat.le_of_ble_eq_true rfl) ?_
      rintro _ _ _ ⟨hx7, hI8, hL9⟩
      have hx7 := hx7.symm; subst hx7
      have hI8 := hI8.symm; subst hI8; have hL9 := hL9.symm; subst hL9
      refine k_iconst C (x := 1) rfl rfl rfl ?_
      refine k_icmp_le C (t := 105) rfl rfl rfl (fun c99 => ?_) (fun c99 => ?_)
      · skip
        have hac : acP D z (Int32.ofNat i) j := ⟨h56, hor, Or.inr (by have := (n_le (a := gdP D (Int32.ofNat i) j) (b := 1) (by omega) (by omega)).mp c99; omega)⟩
        refine k_iload C rfl rfl rfl ?_
        refine k_iload_n C rfl rfl rfl ?_
        refine k_icmp_ne C (t := 129) rfl rfl rfl (fun c108 => ?_) (fun c108 => ?_)
        · skip
          have hsk : sk1 D z k (Int32.ofNat i) j s = (s.1 + 1, s.2) := sk1_m hac c108
          refine k_inc1 C (lw := [(4, .int _), (7, .int _), (6, .int _), (5, .int _), (0, _), (1, .int _), (2, .int _), (3, .int _)]) rfl rfl rfl (Nat.le_of_ble_eq_true rfl) rfl ?_
          refine k_sub S [(6, .int j), (5, .int (Int32.ofNat i)), (4, _), (0, .ref m), (1, .int D), (2, .int z), (3, .int k)] (List.forall_mem_cons.mpr ⟨List.mem_of_getElem? (i := 2) rfl, List.forall_mem_cons.mpr ⟨List.mem_of_getElem? (i := 3) rfl, List.forall_mem_cons.mpr ⟨List.mem_of_getElem? (i := 0) rfl, List.forall_mem_cons.mpr ⟨List.mem_of_getElem? (i := 4) rfl, List.forall_mem_cons.mpr ⟨List.mem_of_getElem? (i := 5) rfl, List.forall_mem_cons.mpr ⟨List.mem_of_getElem? (i := 6) rfl, List.forall_mem_cons.mpr ⟨List.mem_of_getElem? (i := 7) rfl, fun _ h => nomatch h⟩⟩⟩⟩⟩⟩⟩) ?_
          refine k_inc1 C (lw := [(6, .int _), (5, .int _), (4, .int _), (0, _), (1, .int _), (2, .int _), (3, .int _)]) rfl rfl rfl (Nat.le_of_ble_eq_true rfl) rfl ?_
          refine k_goto C (pc2 := 24) rfl rfl ?_
          exact ih (j + 1) (s.1 + 1, s.2) _ (by rw [hj1]; omega) (by omega) hF ⟨hr.1.m c108, hr.2⟩ (fun L2 t ht hF2 hr2 => K L2 t (ht.trans (by show _ = itJ D z k (Int32.ofNat i) n (j + 1) (sk1 D z k (Int32.ofNat i) j s); rw [hsk])) hF2 hr2)
        refine k_aload_n C rfl rfl rfl ?_
        refine k_iload C rfl rfl rfl ?_
        refine p_I C rfl rfl rfl T_m (Or.inr rfl) rfl ?_
        refine k_aload_n C rfl rfl rfl ?_
        refine k_iload C rfl rfl rfl ?_
        refine p_I C rfl rfl rfl T_m (Or.inr rfl) rfl ?_
        refine k_aload_n C rfl rfl rfl ?_
        refine k_iload C rfl rfl rfl ?_
        refine p_I C rfl rfl rfl T_m (Or.inr rfl) rfl ?_
        refine k_inc1 C (lw := [(4, .int _), (7, .int _), (6, .int _), (5, .int _), (0, _), (1, .int _), (2, .int _), (3, .int _)]) rfl rfl rfl (Nat.le_of_ble_eq_true rfl) rfl ?_
        refine k_sub S [(6, .int j), (5, .int (Int32.ofNat i)), (4, _), (0, .ref m), (1, .int D), (2, .int z), (3, .int k)] (List.forall_mem_cons.mpr ⟨List.mem_of_getElem? (i := 2) rfl, List.forall_mem_cons.mpr ⟨List.mem_of_getElem? (i := 3) rfl, List.forall_mem_cons.mpr ⟨List.mem_of_getElem? (i := 0) rfl, List.forall_mem_cons.mpr ⟨List.mem_of_getElem? (i := 4) rfl, List.forall_mem_cons.mpr ⟨List.mem_of_getElem? (i := 5) rfl, List.forall_mem_cons.mpr ⟨List.mem_of_getElem? (i := 6) rfl, List.forall_mem_cons.mpr ⟨List.mem_of_getElem? (i := 7) rfl, fun _ h => nomatch h⟩⟩⟩⟩⟩⟩⟩) ?_
        refine k_inc1 C (lw := [(6, .int _), (5, .int _), (4, .int _), (0, _), (1, .int _), (2, .int _), (3, .int _)]) rfl rfl rfl (Nat.le_of_ble_eq_true rfl) rfl ?_
        refine k_goto C (pc2 := 24) rfl rfl ?_
        exact ih (j + 1) (s.1 + 1, Int32.ofNat i, j, ltP D (Int32.ofNat i) j) _ (by rw [hj1]; omega) (by omega) (Fr.i (Fr.i (Fr.i hF A_m) A_m) A_m) ⟨SKi.h, IK3.h hr.2⟩ (fun L2 t ht hF2 hr2 => K L2 t (ht.trans (by show _ = itJ D z k (Int32.ofNat i) n (j + 1) (sk1 D z k (Int32.ofNat i) j s); rw [sk1_y hac (Decidable.not_not.mp c108)])) hF2 hr2)
      have hsk : sk1 D z k (Int32.ofNat i) j s = s := sk1_n (fun h => h.2.2.elim (fun h => c83 h) (fun h => c99 ((n_le (a := gdP D (Int32.ofNat i) j) (b := 1) (by omega) (by omega)).mpr (by omega))))
      refine k_goto C (pc2 := 132) rfl rfl ?_
      refine k_sub S [(6, .int j), (5, .int (Int32.ofNat i)), (4, _), (0, .ref m), (1, .int D), (2, .int z), (3, .int k)] (List.forall_mem_cons.mpr ⟨List.mem_of_getElem? (i := 1) rfl, List.forall_mem_cons.mpr ⟨List.mem_of_getElem? (i := 2) rfl, List.forall_mem_cons.mpr ⟨List.mem_of_getElem? (i := 3) rfl, List.forall_mem_cons.mpr ⟨List.mem_of_getElem? (i := 4) rfl, List.forall_mem_cons.mpr ⟨List.mem_of_getElem? (i := 5) rfl, List.forall_mem_cons.mpr ⟨List.mem_of_getElem? (i := 6) rfl, List.forall_mem_cons.mpr ⟨List.mem_of_getElem? (i := 7) rfl, fun _ h => nomatch h⟩⟩⟩⟩⟩⟩⟩) ?_
      refine k_inc1 C (lw := [(6, .int _), (5, .int _), (4, .int _), (0, _), (1, .int _), (2, .int _), (3, .int _)]) rfl rfl rfl (Nat.le_of_ble_eq_true rfl) rfl ?_
      refine k_goto C (pc2 := 24) rfl rfl ?_
      exact ih (j + 1) s _ (by rw [hj1]; omega) (by omega) hF hr (fun L2 t ht hF2 hr2 => K L2 t (ht.trans (by show _ = itJ D z k (Int32.ofNat i) n (j + 1) (sk1 D z k (Int32.ofNat i) j s); rw [hsk])) hF2 hr2)
    have hsk : sk1 D z k (Int32.ofNat i) j s = s := sk1_n (fun h => c43 h.1)
    refine k_goto C (pc2 := 132) rfl rfl ?_
    refine k_sub S [(6, .int j), (5, .int (Int32.ofNat i)), (4, _), (0, .ref m), (1, .int D), (2, .int z), (3, .int k)] (List.forall_mem_cons.mpr ⟨List.mem_of_getElem? (i := 0) rfl, List.forall_mem_cons.mpr ⟨List.mem_of_getElem? (i := 1) rfl, List.forall_mem_cons.mpr ⟨List.mem_of_getElem? (i := 2) rfl, List.forall_mem_cons.mpr ⟨List.mem_of_getElem? (i := 3) rfl, List.forall_mem_cons.mpr ⟨List.mem_of_getElem? (i := 4) rfl, List.forall_mem_cons.mpr ⟨List.mem_of_getElem? (i := 5) rfl, List.forall_mem_cons.mpr ⟨List.mem_of_getElem? (i := 6) rfl, fun _ h => nomatch h⟩⟩⟩⟩⟩⟩⟩) ?_
    refine k_inc1 C (lw := [(6, .int _), (5, .int _), (4, .int _), (0, _), (1, .int _), (2, .int _), (3, .int _)]) rfl rfl rfl (Nat.le_of_ble_eq_true rfl) rfl ?_
    refine k_goto C (pc2 := 24) rfl rfl ?_
    exact ih (j + 1) s _ (by rw [hj1]; omega) (by omega) hF hr (fun L2 t ht hF2 hr2 => K L2 t (ht.trans (by show _ = itJ D z k (Int32.ofNat i) n (j + 1) (sk1 D z k (Int32.ofNat i) j s); rw [hsk])) hF2 hr2)
end
-- 39.41.seek.lean.txt
section
/-! CLASSES, the calls -/
theorem cs_outer {d : Nat} {V : V_T} {q : mm_T} {Post : Po} {T N : Nat → Nat} {R : RT} {A : Nat → Prop} {I : IT} {L : LT} {wh : Nat} {D z k : Int32} (hq : P_ml[120]? = some q) (C : Cl (d + 2) q 0 0 Post V) (S : SB V) (T_wh : T wh = 11) (A_wh : A wh) (hD : isDc D) (hz : z = 0 ∨ z = 1) : ∀ (n i : Nat) (s : SG) (L1 : LT), n + i = 59 → 1 ≤ i → i ≤ 58 → Fr A I L I L1 → SKc k s L1 wh → (∀ (L2 : LT) (t : SG), t = itI D z k n i s → Fr A I L I L2 → SKc k t L2 wh → ∀ x5 : Int32, V 152 [(5, .int x5), (4, .int t.1), (0, .ref wh), (1, .int D), (2, .int z), (3, .int k)] [] (T, N, I, L2, R) 0 0) → V 6 [(5, .int (Int32.ofNat i)), (4, .int s.1), (0, .ref wh), (1, .int D), (2, .int z), (3, .int k)] [] (T, N, I, L1, R) 0 0 := by
  intro n
  induction n with
  | zero => intro i s L1 hn h1 h2; omega
  | succ n ih =>
    intro i s L1 hn h1 h2 hF hr K
    have hq9 := hq
    cases hq
    have e3 := i3_int h2
    have en := neg32 hD
    obtain ⟨d1, d2, d3⟩ := id hD
    refine k_iconst C (x := 3) rfl rfl rfl ?_
    refine k_iload C rfl rfl rfl ?_
    refine k_imul C rfl rfl ?_
    refine k_iload C rfl rfl rfl ?_
    refine k_imul C rfl rfl ?_
    refine k_iload_n C rfl rfl rfl ?_
    refine k_ineg C rfl rfl ?_
    refine k_icmp_gt C (t := 152) rfl rfl rfl (fun c => ?_) (fun c => ?_)
    · exact K _ s (by show _ = @ite SG _ (Classical.propDecidable _) s _; exact (if_pos c).symm) hF hr _
    · have hi57 : i ≤ 57 := by
        have c2 : ¬ (-D).toInt < (3 * Int32.ofNat i * Int32.ofNat i).toInt := fun h => c (i_lt.mpr h)
        rw [e3, en] at c2
        rcases Nat.lt_or_ge i 58 with q9 | q9
        · omega
        · have : i = 58 := by omega
          subst this; omega
      have e1 : (1 : Int32).toInt = 1 := rfl
      have hj : (1 - Int32.ofNat i).toInt = 1 - (i : Int) := by rw [ii_sub (by rw [e1, n_int (by omega)]; omega), e1, n_int (by omega)]
      refine k_iconst C (x := 1) rfl rfl rfl ?_
      refine k_iload C rfl rfl rfl ?_
      refine k_isub C rfl rfl ?_
      refine k_istore C (lw := [(6, .int _), (5, .int _), (4, .int _), (0, _), (1, .int _), (2, .int _), (3, .int _)]) rfl rfl (Nat.le_of_ble_eq_true rfl) rfl ?_
      refine cs_inner hq9 C S T_wh A_wh hD hz ⟨h1, hi57⟩ (2 * i) _ s _ (by rw [hj]; omega) (by rw [hj]; omega) hF hr (fun L2 t ht hF2 hr2 x6 => ?_)
      refine k_sub S [(5, .int (Int32.ofNat i)), (4, .int t.1), (0, .ref wh), (1, .int D), (2, .int z), (3, .int k)] (List.forall_mem_cons.mpr ⟨List.mem_of_getElem? (i := 1) rfl, List.forall_mem_cons.mpr ⟨List.mem_of_getElem? (i := 2) rfl, List.forall_mem_cons.mpr ⟨List.mem_of_getElem? (i := 3) rfl, List.forall_mem_cons.mpr ⟨List.mem_of_getElem? (i := 4) rfl, List.forall_mem_cons.mpr ⟨List.mem_of_getElem? (i := 5) rfl, List.forall_mem_cons.mpr ⟨List.mem_of_getElem? (i := 6) rfl, fun _ h => nomatch h⟩⟩⟩⟩⟩⟩) ?_
      refine k_inc1 C (lw := [(5, .int _), (4, .int _), (0, _), (1, .int _), (2, .int _), (3, .int _)]) rfl rfl rfl (Nat.le_of_ble_eq_true rfl) rfl ?_
      refine k_goto C (pc2 := 6) rfl rfl ?_
      rw [n_s]
      exact ih (i + 1) t _ (by omega) (by omega) (by omega) hF2 hr2 (fun L3 t3 ht3 hF3 hr3 => K L3 t3 (ht3.trans (by rw [ht]; show _ = @ite SG _ (Classical.propDecidable _) s _; exact (if_neg c).symm)) hF3 hr3)
theorem ms_outer {d : Nat} {V : V_T} {q : mm_T} {Post : Po} {T N : Nat → Nat} {R : RT} {A : Nat → Prop} {I : IT} {L : LT} {m : Nat} {D z k : Int32} (hq : P_ml[306]? = some q) (C : Cl (d + 2) q 0 0 Post V) (S : SB V) (T_m : T m = 13) (A_m : A m) (hD : isDc D) (hz : z = 0 ∨ z = 1) : ∀ (n i : Nat) (s : SG) (I1 : IT), n + i = 59 → 1 ≤ i → i ≤ 58 → Fr A I L I1 L → (SKi k s I1 m ∧ IK3 m I I1) → (∀ (I2 : IT) (t : SG), t = itI D z k n i s → Fr A I L I2 L → (SKi k t I2 m ∧ IK3 m I I2) → ∀ x5 : Int32, V 144 [(5, .int x5), (4, .int t.1), (0, .ref m), (1, .int D), (2, .int z), (3, .int k)] [] (T, N, I2, L, R) 0 0) → V 6 [(5, .int (Int32.ofNat i)), (4, .int s.1), (0, .ref m), (1, .int D), (2, .int z), (3, .int k)] [] (T, N, I1, L, R) 0 0 := by
  intro n
  induction n with
  | zero => intro i s I1 hn h1 h2; omega
  | succ n ih =>
    intro i s I1 hn h1 h2 hF hr K
    have hq9 := hq
    cases hq
    have e3 := i3_int h2
    have en := neg32 hD
    obtain ⟨d1, d2, d3⟩ := id hD
    refine k_iconst C (x := 3) rfl rfl rfl ?_
    refine k_iload C rfl rfl rfl ?_
    refine k_imul C rfl rfl ?_
    refine k_iload C rfl rfl rfl ?_
    refine k_imul C rfl rfl ?_
    refine k_iload_n C rfl rfl rfl ?_
    refine k_ineg C rfl rfl ?_
    refine k_icmp_gt C (t := 144) rfl rfl rfl (fun c => ?_) (fun c => ?_)
    · exact K _ s (by show _ = @ite SG _ (Classical.propDecidable _) s _; exact (if_pos c).symm) hF hr _
    · have hi57 : i ≤ 57 := by
        have c2 : ¬ (-D).toInt < (3 * Int32.ofNat i * Int32.ofNat i).toInt := fun h => c (i_lt.mpr h)
        rw [e3, en] at c2
        rcases Nat.lt_or_ge i 58 with q9 | q9
        · omega
        · have : i = 58 := by omega
          subst this; omega
      have e1 : (1 : Int32).toInt = 1 := rfl
      have hj : (1 - Int32.ofNat i).toInt = 1 - (i : Int) := by rw [ii_sub (by rw [e1, n_int (by omega)]; omega), e1, n_int (by omega)]
      refine k_iconst C (x := 1) rfl rfl rfl ?_
      refine k_iload C rfl rfl rfl ?_
      refine k_isub C rfl rfl ?_
      refine k_istore C (lw := [(6, .int _), (5, .int _), (4, .int _), (0, _), (1, .int _), (2, .int _), (3, .int _)]) rfl rfl (Nat.le_of_ble_eq_true rfl) rfl ?_
      refine ms_inner hq9 C S T_m A_m hD hz ⟨h1, hi57⟩ (2 * i) _ s _ (by rw [hj]; omega) (by rw [hj]; omega) hF hr (fun I2 t ht hF2 hr2 x6 => ?_)
      refine k_sub S [(5, .int (Int32.ofNat i)), (4, .int t.1), (0, .ref m), (1, .int D), (2, .int z), (3, .int k)] (List.forall_mem_cons.mpr ⟨List.mem_of_getElem? (i := 1) rfl, List.forall_mem_cons.mpr ⟨List.mem_of_getElem? (i := 2) rfl, List.forall_mem_cons.mpr ⟨List.mem_of_getElem? (i := 3) rfl, List.forall_mem_cons.mpr ⟨List.mem_of_getElem? (i := 4) rfl, List.forall_mem_cons.mpr ⟨List.mem_of_getElem? (i := 5) rfl, List.forall_mem_cons.mpr ⟨List.mem_of_getElem? (i := 6) rfl, fun _ h => nomatch h⟩⟩⟩⟩⟩⟩) ?_
      refine k_inc1 C (lw := [(5, .int _), (4, .int _), (0, _), (1, .int _), (2, .int _), (3, .int _)]) rfl rfl rfl (Nat.le_of_ble_eq_true rfl) rfl ?_
      refine k_goto C (pc2 := 6) rfl rfl ?_
      rw [n_s]
      exact ih (i + 1) t _ (by omega) (by omega) (by omega) hF2 hr2 (fun I3 t3 ht3 hF3 hr3 => K I3 t3 (ht3.trans (by rw [ht]; show _ = @ite SG _ (Classical.propDecidable _) s _; exact (if_neg c).symm)) hF3 hr3)
noncomputable def sgP (D z k : Int32) : SG := itI D z k 58 1 (0, 0, 0, 0)
theorem e_seek {d : Nat} {T N : Nat → Nat} {I : IT} {L : LT} {R : RT} {A : Nat → Prop} {wh : Nat} {D z k : Int32} (T_wh : T wh = 11) (A_wh : A wh) (hD : isDc D) (hz : z = 0 ∨ z = 1) : Ex (d + 3) 120 [.ref wh, .int D, .int z, .int k] (T, N, I, L, R) 0 0 (pI T N R (fun x9 I9 L9 => x9 = (sgP D z k).1 ∧ I9 = I ∧ Fr A I L I9 L9 ∧ SKc k (sgP D z k) L9 wh)) := by
  refine ⟨_, rfl, Nat.le_of_ble_eq_true rfl, fun V C S => ?_⟩
  show V 0 [(0, .ref wh), (1, .int D), (2, .int z), (3, .int k)] [] (T, N, I, L, R) 0 0
  refine k_iconst C (x := 0) rfl rfl rfl ?_
  refine k_istore C (lw := [(4, .int _), (0, _), (1, .int _), (2, .int _), (3, .int _)]) rfl rfl (Nat.le_of_ble_eq_true rfl) rfl ?_
  refine k_iconst C (x := 1) rfl rfl rfl ?_
  refine k_istore C (lw := [(5, .int _), (4, .int _), (0, _), (1, .int _), (2, .int _), (3, .int _)]) rfl rfl (Nat.le_of_ble_eq_true rfl) rfl ?_
  refine cs_outer (L := L) (I := I) rfl C S T_wh A_wh hD hz 58 1 (0, 0, 0, 0) _ (by omega) (Nat.le_refl _) (by omega) Fr.rf SKc.z (fun M2 t ht hF2 hr2 x5 => ?_)
  refine k_iload C rfl rfl rfl ?_
  subst ht
  exact k_iret C rfl (Or.inl rfl) (Nat.le_of_ble_eq_true rfl) (Nat.le_of_ble_eq_true rfl) ⟨_, _, _, rfl, rfl, rfl, rfl, hF2, hr2⟩


theorem e_m_reducedMany {d : Nat} {T N : Nat → Nat} {I : IT} {L : LT} {R : RT} {A : Nat → Prop} {m : Nat} {D z k : Int32} (T_m : T m = 13) (A_m : A m) (hD : isDc D) (hz : z = 0 ∨ z = 1) : Ex (d + 3) 306 [.ref m, .int D, .int z, .int k] (T, N, I, L, R) 0 0 (pI T N R (fun x9 I9 L9 => x9 = (sgP D z k).1 ∧ L9 = L ∧ Fr A I L I9 L9 ∧ SKi k (sgP D z k) I9 m ∧ IK3 m I I9)) := by
  refine ⟨_, rfl, Nat.le_of_ble_eq_true rfl, fun V C S => ?_⟩
  show V 0 [(0, .ref m), (1, .int D), (2, .int z), (3, .int k)] [] (T, N, I, L, R) 0 0
  refine k_iconst C (x := 0) rfl rfl rfl ?_
  refine k_istore C (lw := [(4, .int _), (0, _), (1, .int _), (2, .int _), (3, .int _)]) rfl rfl (Nat.le_of_ble_eq_true rfl) rfl ?_
  refine k_iconst C (x := 1) rfl rfl rfl ?_
  refine k_istore C (lw := [(5, .int _), (4, .int _), (0, _), (1, .int _), (2, .int _), (3, .int _)]) rfl rfl (Nat.le_of_ble_eq_true rfl) rfl ?_
  refine ms_outer (L := L) (I := I) rfl C S T_m A_m hD hz 58 1 (0, 0, 0, 0) _ (by omega) (Nat.le_refl _) (by omega) Fr.rf ⟨SKi.z, fun _ _ => rfl⟩ (fun M2 t ht hF2 hr2 x5 => ?_)
  refine k_iload C rfl rfl rfl ?_
  subst ht
  exact k_iret C rfl (Or.inl rfl) (Nat.le_of_ble_eq_true rfl) (Nat.le_of_ble_eq_true rfl) ⟨_, _, _, rfl, rfl, rfl, rfl, hF2, hr2⟩


theorem e_classes_no {d : Nat} {T N : Nat → Nat} {I : IT} {L : LT} {R : RT} {x : Nat} {D z : Int32} (T_x : T x = 12) (h : ¬ isDc D) : Ex (d + 3) 171 [.ref x, .int D, .int z] (T, N, I, L, R) 1 6 (pX 0 T N R (fun I9 L9 => I9 = I ∧ L9 = L)) := by
  refine ⟨_, rfl, Nat.le_of_ble_eq_true rfl, fun V C S => ?_⟩
  show V 0 [(0, .ref x), (1, .int D), (2, .int z)] [] (T, N, I, L, R) 0 0
  refine k_iload_n C rfl rfl rfl ?_
  refine c_SI C (e_isDisc_no  h) rfl rfl rfl rfl rfl rfl rfl (Nat.le_of_ble_eq_true rfl) (Nat.le_of_ble_eq_true rfl) (Nat.le_of_ble_eq_true rfl) ?_
  rintro _ _ _ ⟨hI8, hL9, hx7⟩
  subst hx7
  have hI8 := hI8.symm; subst hI8; have hL9 := hL9.symm; subst hL9
  refine k_if_ne C (t := 15) rfl rfl rfl (fun c4 => absurd c4 (by decide)) (fun _ => ?_)
  exact k_throw C rfl rfl rfl rfl rfl rfl (Nat.le_of_ble_eq_true rfl) (Nat.le_of_ble_eq_true rfl) (Nat.le_of_ble_eq_true rfl) ⟨_, _, rfl, rfl, ⟨rfl, rfl⟩⟩

theorem e_classes_yes {d : Nat} {T N : Nat → Nat} {I : IT} {L : LT} {R : RT} {A : Nat → Prop} {x wh : Nat} {D z : Int32} (T_x : T x = 12) (R_x_10 : R x 10 = some wh) (T_wh : T wh = 11) (A_wh : A wh) (hD : isDc D) (hz : z = 0 ∨ z = 1) : Ex (d + 4) 171 [.ref x, .int D, .int z] (T, N, I, L, R) 0 0 (pI T N R (fun x9 I9 L9 => x9 = (sgP D z (-1)).1 ∧ Fr A I L I9 L9)) := by
  refine ⟨_, rfl, Nat.le_of_ble_eq_true rfl, fun V C S => ?_⟩
  show V 0 [(0, .ref x), (1, .int D), (2, .int z)] [] (T, N, I, L, R) 0 0
  refine k_iload_n C rfl rfl rfl ?_
  refine c_SI C (e_isDisc_yes  hD) rfl rfl rfl rfl rfl rfl rfl (Nat.le_of_ble_eq_true rfl) (Nat.le_of_ble_eq_true rfl) (Nat.le_of_ble_eq_true rfl) ?_
  rintro _ _ _ ⟨hI8, hL9, hx7⟩
  subst hx7
  have hI8 := hI8.symm; subst hI8; have hL9 := hL9.symm; subst hL9
  refine k_if_ne C (t := 15) rfl rfl rfl (fun _ => ?_) (fun c4 => absurd (by decide) c4)
  refine k_aload_n C rfl rfl rfl ?_
  refine g_R C rfl rfl rfl T_x rfl R_x_10 ?_
  refine k_iload_n C rfl rfl rfl ?_
  refine k_iload_n C rfl rfl rfl ?_
  refine k_iconst C (x := -1) rfl rfl rfl ?_
  refine c_VI C (e_seek T_wh A_wh hD hz) rfl rfl rfl rfl rfl ⟨_, rfl, rfl, T_wh, Nat.le_of_ble_eq_true rfl⟩ rfl rfl (Nat.le_of_ble_eq_true rfl) (Nat.le_of_ble_eq_true rfl) (Nat.le_of_ble_eq_true rfl) ?_
  rintro _ I1 L1 ⟨rfl, hI8, hF, hr⟩
  exact k_iret C rfl (Or.inl rfl) (Nat.le_of_ble_eq_true rfl) (Nat.le_of_ble_eq_true rfl) ⟨_, _, _, rfl, rfl, ⟨rfl, hF⟩⟩

def okRa (D k : Int32) : Prop := isDc D ∧ 0 ≤ k
noncomputable def raP (D k : Int32) (n : Int) : Int32 := @ite _ (k < (sgP D 0 k).1) (Classical.propDecidable _) (if n = 0 then (sgP D 0 k).2.1 else if n = 1 then (sgP D 0 k).2.2.1 else (sgP D 0 k).2.2.2) (-9999)
theorem isDc_cases {D k : Int32} (h : ¬ okRa D k) : ¬ isDc D ∨ (isDc D ∧ k < 0) := by
  rcases Classical.em (isDc D) with q | q
  · exact Or.inr ⟨q, Classical.byContradiction (fun e => h ⟨q, Int32.not_lt.mp e⟩)⟩
  · exact Or.inl q
theorem in02 {n : Int32} : ((0 : Int32) ≤ n ∧ n ≤ 2) ↔ (0 ≤ n.toInt ∧ n.toInt ≤ 2) := by rw [i_le, i_le]; exact Iff.rfl
theorem e_reducedAt_no1 {d : Nat} {T N : Nat → Nat} {I : IT} {L : LT} {R : RT} {x : Nat} {D k n : Int32} (T_x : T x = 12) (h : ¬ isDc D) : Ex (d + 3) 172 [.ref x, .int D, .int k, .int n] (T, N, I, L, R) 1 6 (pX 0 T N R (fun I9 L9 => I9 = I ∧ L9 = L)) := by
  refine ⟨_, rfl, Nat.le_of_ble_eq_true rfl, fun V C S => ?_⟩
  show V 0 [(0, .ref x), (1, .int D), (2, .int k), (3, .int n)] [] (T, N, I, L, R) 0 0
  refine k_iload_n C rfl rfl rfl ?_
  refine c_SI C (e_isDisc_no  h) rfl rfl rfl rfl rfl rfl rfl (Nat.le_of_ble_eq_true rfl) (Nat.le_of_ble_eq_true rfl) (Nat.le_of_ble_eq_true rfl) ?_
  rintro _ _ _ ⟨hI8, hL9, hx7⟩
  subst hx7
  have hI8 := hI8.symm; subst hI8; have hL9 := hL9.symm; subst hL9
  refine k_if_eq C (t := 11) rfl rfl rfl (fun _ => ?_) (fun c4 => absurd (by decide) c4)
  exact k_throw C rfl rfl rfl rfl rfl rfl (Nat.le_of_ble_eq_true rfl) (Nat.le_of_ble_eq_true rfl) (Nat.le_of_ble_eq_true rfl) ⟨_, _, rfl, rfl, ⟨rfl, rfl⟩⟩

theorem e_reducedAt_no2 {d : Nat} {T N : Nat → Nat} {I : IT} {L : LT} {R : RT} {x : Nat} {D k n : Int32} (T_x : T x = 12) (hD : isDc D) (hk : k < 0) : Ex (d + 3) 172 [.ref x, .int D, .int k, .int n] (T, N, I, L, R) 1 6 (pX 0 T N R (fun I9 L9 => I9 = I ∧ L9 = L)) := by
  refine ⟨_, rfl, Nat.le_of_ble_eq_true rfl, fun V C S => ?_⟩
  show V 0 [(0, .ref x), (1, .int D), (2, .int k), (3, .int n)] [] (T, N, I, L, R) 0 0
  refine k_iload_n C rfl rfl rfl ?_
  refine c_SI C (e_isDisc_yes  hD) rfl rfl rfl rfl rfl rfl rfl (Nat.le_of_ble_eq_true rfl) (Nat.le_of_ble_eq_true rfl) (Nat.le_of_ble_eq_true rfl) ?_
  rintro _ _ _ ⟨hI8, hL9, hx7⟩
  subst hx7
  have hI8 := hI8.symm; subst hI8; have hL9 := hL9.symm; subst hL9
  refine k_if_eq C (t := 11) rfl rfl rfl (fun c4 => absurd c4 (by decide)) (fun _ => ?_)
  refine k_iload_n C rfl rfl rfl ?_
  refine k_if_ge C (t := 19) rfl rfl rfl (fun c8 => ?_) (fun c8 => ?_)
  · skip
    exact absurd hk (Int32.not_lt.mpr c8)
  exact k_throw C rfl rfl rfl rfl rfl rfl (Nat.le_of_ble_eq_true rfl) (Nat.le_of_ble_eq_true rfl) (Nat.le_of_ble_eq_true rfl) ⟨_, _, rfl, rfl, ⟨rfl, rfl⟩⟩

theorem e_reducedAt_nse {d : Nat} {T N : Nat → Nat} {I : IT} {L : LT} {R : RT} {x : Nat} {D k n : Int32} (T_x : T x = 12) (hD : isDc D) (hk : 0 ≤ k) (hn : ¬ (0 ≤ n.toInt ∧ n.toInt ≤ 2)) : Ex (d + 3) 172 [.ref x, .int D, .int k, .int n] (T, N, I, L, R) 1 6 (pX 4 T N R (fun I9 L9 => I9 = I ∧ L9 = L)) := by
  refine ⟨_, rfl, Nat.le_of_ble_eq_true rfl, fun V C S => ?_⟩
  show V 0 [(0, .ref x), (1, .int D), (2, .int k), (3, .int n)] [] (T, N, I, L, R) 0 0
  refine k_iload_n C rfl rfl rfl ?_
  refine c_SI C (e_isDisc_yes  hD) rfl rfl rfl rfl rfl rfl rfl (Nat.le_of_ble_eq_true rfl) (Nat.le_of_ble_eq_true rfl) (Nat.le_of_ble_eq_true rfl) ?_
  rintro _ _ _ ⟨hI8, hL9, hx7⟩
  subst hx7
  have hI8 := hI8.symm; subst hI8; have hL9 := hL9.symm; subst hL9
  refine k_if_eq C (t := 11) rfl rfl rfl (fun c4 => absurd c4 (by decide)) (fun _ => ?_)
  refine k_iload_n C rfl rfl rfl ?_
  refine k_if_ge C (t := 19) rfl rfl rfl (fun c8 => ?_) (fun c8 => ?_)
  · skip
    refine k_iload_n C rfl rfl rfl ?_
    refine k_if_lt C (t := 28) rfl rfl rfl (fun c20 => ?_) (fun c20 => ?_)
    · skip
      exact k_throw C rfl rfl rfl rfl rfl rfl (Nat.le_of_ble_eq_true rfl) (Nat.le_of_ble_eq_true rfl) (Nat.le_of_ble_eq_true rfl) ⟨_, _, rfl, rfl, ⟨rfl, rfl⟩⟩
    refine k_iload_n C rfl rfl rfl ?_
    refine k_iconst C (x := 2) rfl rfl rfl ?_
    refine k_icmp_le C (t := 36) rfl rfl rfl (fun c25 => ?_) (fun c25 => ?_)
    · skip
      exact absurd ⟨by have := i_le.mp (Int32.not_lt.mp c20); exact this, by have := i_le.mp c25; exact this⟩ hn
    exact k_throw C rfl rfl rfl rfl rfl rfl (Nat.le_of_ble_eq_true rfl) (Nat.le_of_ble_eq_true rfl) (Nat.le_of_ble_eq_true rfl) ⟨_, _, rfl, rfl, ⟨rfl, rfl⟩⟩
  exact absurd hk c8

theorem e_reducedAt_yes {d : Nat} {T N : Nat → Nat} {I : IT} {L : LT} {R : RT} {A : Nat → Prop} {x wh : Nat} {D k n : Int32} (T_x : T x = 12) (R_x_10 : R x 10 = some wh) (T_wh : T wh = 11) (A_wh : A wh) (hD : isDc D) (hk : 0 ≤ k) (hn : 0 ≤ n.toInt ∧ n.toInt ≤ 2) : Ex (d + 4) 172 [.ref x, .int D, .int k, .int n] (T, N, I, L, R) 0 0 (pI T N R (fun x9 I9 L9 => x9 = raP D k n.toInt ∧ Fr A I L I9 L9)) := by
  refine ⟨_, rfl, Nat.le_of_ble_eq_true rfl, fun V C S => ?_⟩
  show V 0 [(0, .ref x), (1, .int D), (2, .int k), (3, .int n)] [] (T, N, I, L, R) 0 0
  refine k_iload_n C rfl rfl rfl ?_
  refine c_SI C (e_isDisc_yes  hD) rfl rfl rfl rfl rfl rfl rfl (Nat.le_of_ble_eq_true rfl) (Nat.le_of_ble_eq_true rfl) (Nat.le_of_ble_eq_true rfl) ?_
  rintro _ _ _ ⟨hI8, hL9, hx7⟩
  subst hx7
  have hI8 := hI8.symm; subst hI8; have hL9 := hL9.symm; subst hL9
  refine k_if_eq C (t := 11) rfl rfl rfl (fun c4 => absurd c4 (by decide)) (fun _ => ?_)
  refine k_iload_n C rfl rfl rfl ?_
  refine k_if_ge C (t := 19) rfl rfl rfl (fun c8 => ?_) (fun c8 => ?_)
  · skip
    refine k_iload_n C rfl rfl rfl ?_
    refine k_if_lt C (t := 28) rfl rfl rfl (fun c20 => ?_) (fun c20 => ?_)
    · skip
      exact absurd (i_lt.mp c20) (by show ¬ _ < (0 : Int); omega)
    refine k_iload_n C rfl rfl rfl ?_
    refine k_iconst C (x := 2) rfl rfl rfl ?_
    refine k_icmp_le C (t := 36) rfl rfl rfl (fun c25 => ?_) (fun c25 => ?_)
    · skip
      refine k_aload_n C rfl rfl rfl ?_
      refine g_R C rfl rfl rfl T_x rfl R_x_10 ?_
      refine k_iload_n C rfl rfl rfl ?_
      refine k_iconst C (x := 0) rfl rfl rfl ?_
      refine k_iload_n C rfl rfl rfl ?_
      refine c_VI C (e_seek T_wh A_wh hD (Or.inl rfl)) rfl rfl rfl rfl rfl ⟨_, rfl, rfl, T_wh, Nat.le_of_ble_eq_true rfl⟩ rfl rfl (Nat.le_of_ble_eq_true rfl) (Nat.le_of_ble_eq_true rfl) (Nat.le_of_ble_eq_true rfl) ?_
      rintro _ I1 L1 ⟨rfl, hI8, hF, hr⟩
      refine k_istore C (lw := [(4, .int _), (0, _), (1, .int _), (2, .int _), (3, .int _)]) rfl rfl (Nat.le_of_ble_eq_true rfl) rfl ?_
      refine k_iload_n C rfl rfl rfl ?_
      refine k_iload C rfl rfl rfl ?_
      refine k_icmp_ge C (t := 66) rfl rfl rfl (fun c51 => ?_) (fun c51 => ?_)
      · skip
        have hv : raP D k n.toInt = -9999 := by unfold raP; rw [if_neg (Int32.not_lt.mpr c51)]
        refine k_sipush C (x := -9999) rfl rfl rfl ?_
        exact k_iret C rfl (Or.inl rfl) (Nat.le_of_ble_eq_true rfl) (Nat.le_of_ble_eq_true rfl) ⟨_, _, _, rfl, rfl, ⟨by first | exact hv | exact hv.symm, hF⟩⟩
      have c51 : k < (sgP D 0 k).1 := Int32.not_le.mp c51
      have hr := hr hk c51
      refine k_aload_n C rfl rfl rfl ?_
      refine g_R C rfl rfl rfl T_x rfl R_x_10 ?_
      refine k_iload_n C rfl rfl rfl ?_
      refine c_VL C (e_tell (s := L1 wh) T_wh rfl rfl rfl rfl rfl rfl rfl rfl (by omega)) rfl rfl rfl rfl rfl ⟨_, rfl, rfl, T_wh, Nat.le_of_ble_eq_true rfl⟩ rfl rfl (Nat.le_of_ble_eq_true rfl) (Nat.le_of_ble_eq_true rfl) (Nat.le_of_ble_eq_true rfl) ?_
      rintro _ _ _ ⟨hx7, hI8, hL9⟩
      have hx7 := hx7.symm; subst hx7
      have hI8 := hI8.symm; subst hI8; have hL9 := hL9.symm; subst hL9
      have hv : (tlS (L1 wh) n.toInt).toInt32 = raP D k n.toInt := by
        unfold raP tlS
        rw [if_pos c51, if_neg (by omega)]
        have h3 : n.toInt = 0 ∨ n.toInt = 1 ∨ n.toInt = 2 := by omega
        rcases h3 with e | e | e
        · rw [e, if_pos rfl]; show (L1 wh 0).toInt32 = _; rw [hr.1]; exact Int32.toInt32_toInt64 _
        · rw [e, if_neg (by decide), if_pos rfl]; show (L1 wh 1).toInt32 = _; rw [hr.2.1]; exact Int32.toInt32_toInt64 _
        · rw [e, if_neg (by decide), if_neg (by decide)]; show (L1 wh 2).toInt32 = _; rw [hr.2.2]; exact Int32.toInt32_toInt64 _
      refine k_l2i C rfl rfl ?_
      refine k_goto C (pc2 := 69) rfl rfl ?_
      exact k_iret C rfl (Or.inl rfl) (Nat.le_of_ble_eq_true rfl) (Nat.le_of_ble_eq_true rfl) ⟨_, _, _, rfl, rfl, ⟨by first | exact hv | exact hv.symm, hF⟩⟩
    exact absurd (i_le.mpr (show _ ≤ (2 : Int) from hn.2)) c25
  exact absurd hk c8

theorem e_m_noDisc_no {d : Nat} {T N : Nat → Nat} {I : IT} {L : LT} {R : RT} {x : Int32}  (h : isDc x) : Ex (d + 2) 305 [.int x] (T, N, I, L, R) 0 0 (pI T N R (fun x9 I9 L9 => x9 = (0) ∧ I9 = I ∧ L9 = L)) := by
  refine ⟨_, rfl, Nat.le_of_ble_eq_true rfl, fun V C S => ?_⟩
  show V 0 [(0, .int x)] [] (T, N, I, L, R) 0 0
  refine k_iload_n C rfl rfl rfl ?_
  refine k_sipush C (x := -9999) rfl rfl rfl ?_
  refine k_bipush C (x := -3) rfl rfl rfl ?_
  refine c_SI C e_in rfl rfl rfl rfl rfl rfl rfl (Nat.le_of_ble_eq_true rfl) (Nat.le_of_ble_eq_true rfl) (Nat.le_of_ble_eq_true rfl) ?_
  rintro _ _ _ ⟨hx7, hI8, hL9⟩
  have hx7 := hx7.symm; subst hx7
  have hI8 := hI8.symm; subst hI8; have hL9 := hL9.symm; subst hL9
  refine k_if_eq C (t := 21) rfl rfl rfl (fun c9 => ?_) (fun c9 => ?_)
  · skip
    exact absurd c9 (inN ⟨i_le.mpr (show (-9999 : Int) ≤ _ from h.1), i_le.mpr (show _ ≤ (-3 : Int) from h.2.1)⟩)
  refine k_iload_n C rfl rfl rfl ?_
  refine k_iconst C (x := 4) rfl rfl rfl ?_
  refine c_SI C (e_fmI  (by decide)) rfl rfl rfl rfl rfl rfl rfl (Nat.le_of_ble_eq_true rfl) (Nat.le_of_ble_eq_true rfl) (Nat.le_of_ble_eq_true rfl) ?_
  rintro x14 _ _ ⟨hI8, hL9, h14⟩
  have hI8 := hI8.symm; subst hI8; have hL9 := hL9.symm; subst hL9
  refine k_iconst C (x := 1) rfl rfl rfl ?_
  refine k_icmp_le C (t := 25) rfl rfl rfl (fun c18 => ?_) (fun c18 => ?_)
  · skip
    refine k_iconst C (x := 0) rfl rfl rfl ?_
    exact k_iret C rfl (Or.inr ⟨rfl, Or.inl rfl⟩) (Nat.le_of_ble_eq_true rfl) (Nat.le_of_ble_eq_true rfl) ⟨_, _, _, rfl, rfl, ⟨rfl, rfl, rfl⟩⟩
  exact absurd (i_le.mpr (by rw [h14]; exact h.2.2)) c18

theorem e_m_noDisc_yes {d : Nat} {T N : Nat → Nat} {I : IT} {L : LT} {R : RT} {x : Int32}  (h : ¬ isDc x) : Ex (d + 2) 305 [.int x] (T, N, I, L, R) 0 0 (pI T N R (fun x9 I9 L9 => x9 = (1) ∧ I9 = I ∧ L9 = L)) := by
  refine ⟨_, rfl, Nat.le_of_ble_eq_true rfl, fun V C S => ?_⟩
  show V 0 [(0, .int x)] [] (T, N, I, L, R) 0 0
  refine k_iload_n C rfl rfl rfl ?_
  refine k_sipush C (x := -9999) rfl rfl rfl ?_
  refine k_bipush C (x := -3) rfl rfl rfl ?_
  refine c_SI C e_in rfl rfl rfl rfl rfl rfl rfl (Nat.le_of_ble_eq_true rfl) (Nat.le_of_ble_eq_true rfl) (Nat.le_of_ble_eq_true rfl) ?_
  rintro _ _ _ ⟨hx7, hI8, hL9⟩
  have hx7 := hx7.symm; subst hx7
  have hI8 := hI8.symm; subst hI8; have hL9 := hL9.symm; subst hL9
  refine k_if_eq C (t := 21) rfl rfl rfl (fun c9 => ?_) (fun c9 => ?_)
  · skip
    refine k_iconst C (x := 1) rfl rfl rfl ?_
    refine k_goto C (pc2 := 26) rfl rfl ?_
    exact k_iret C rfl (Or.inr ⟨rfl, Or.inr rfl⟩) (Nat.le_of_ble_eq_true rfl) (Nat.le_of_ble_eq_true rfl) ⟨_, _, _, rfl, rfl, ⟨rfl, rfl, rfl⟩⟩
  refine k_iload_n C rfl rfl rfl ?_
  refine k_iconst C (x := 4) rfl rfl rfl ?_
  refine c_SI C (e_fmI  (by decide)) rfl rfl rfl rfl rfl rfl rfl (Nat.le_of_ble_eq_true rfl) (Nat.le_of_ble_eq_true rfl) (Nat.le_of_ble_eq_true rfl) ?_
  rintro x14 _ _ ⟨hI8, hL9, h14⟩
  have hI8 := hI8.symm; subst hI8; have hL9 := hL9.symm; subst hL9
  refine k_iconst C (x := 1) rfl rfl rfl ?_
  refine k_icmp_le C (t := 25) rfl rfl rfl (fun c18 => ?_) (fun c18 => ?_)
  · skip
    exact absurd ⟨i_le.mp (inY c9).1, i_le.mp (inY c9).2, by have := i_le.mp c18; rw [h14] at this; exact this⟩ h
  refine k_iconst C (x := 1) rfl rfl rfl ?_
  refine k_goto C (pc2 := 26) rfl rfl ?_
  exact k_iret C rfl (Or.inr ⟨rfl, Or.inr rfl⟩) (Nat.le_of_ble_eq_true rfl) (Nat.le_of_ble_eq_true rfl) ⟨_, _, _, rfl, rfl, ⟨rfl, rfl, rfl⟩⟩

theorem e_m_classes_no {d : Nat} {T N : Nat → Nat} {I : IT} {L : LT} {R : RT} {A : Nat → Prop} {m : Nat} {D z : Int32} (T_m : T m = 13) (A_m : A m) (h : ¬ isDc D) : Ex (d + 3) 307 [.ref m, .int D, .int z] (T, N, I, L, R) 0 0 (pI T N R (fun x9 I9 L9 => Fr A I L I9 L9 ∧ I9 m 0 = 1 ∧ IKm m I I9)) := by
  refine ⟨_, rfl, Nat.le_of_ble_eq_true rfl, fun V C S => ?_⟩
  show V 0 [(0, .ref m), (1, .int D), (2, .int z)] [] (T, N, I, L, R) 0 0
  refine k_aload_n C rfl rfl rfl ?_
  refine k_iconst C (x := 0) rfl rfl rfl ?_
  refine p_I C rfl rfl rfl T_m (Or.inr rfl) rfl ?_
  refine k_aload_n C rfl rfl rfl ?_
  refine k_iload_n C rfl rfl rfl ?_
  refine c_SI C (e_m_noDisc_yes  h) rfl rfl rfl rfl rfl rfl rfl (Nat.le_of_ble_eq_true rfl) (Nat.le_of_ble_eq_true rfl) (Nat.le_of_ble_eq_true rfl) ?_
  rintro _ _ _ ⟨hx7, hI8, hL9⟩
  have hx7 := hx7.symm; subst hx7
  have hI8 := hI8.symm; subst hI8; have hL9 := hL9.symm; subst hL9
  refine k_iconst C (x := 1) rfl rfl rfl ?_
  refine c_VI C (e_throwsIf1 T_m rfl) rfl rfl rfl rfl rfl ⟨_, rfl, rfl, T_m, Nat.le_of_ble_eq_true rfl⟩ rfl rfl (Nat.le_of_ble_eq_true rfl) (Nat.le_of_ble_eq_true rfl) (Nat.le_of_ble_eq_true rfl) ?_
  rintro _ _ _ ⟨hx7, hI8, hL9⟩
  have hx7 := hx7.symm; subst hx7
  have hI8 := hI8.symm; subst hI8; have hL9 := hL9.symm; subst hL9
  refine k_if_eq C (t := 21) rfl rfl rfl (fun c14 => absurd c14 (by decide)) (fun _ => ?_)
  refine k_iconst C (x := 0) rfl rfl rfl ?_
  refine k_goto C (pc2 := 28) rfl rfl ?_
  exact k_iret C rfl (Or.inl rfl) (Nat.le_of_ble_eq_true rfl) (Nat.le_of_ble_eq_true rfl) ⟨_, _, _, rfl, rfl, ⟨(Fr.i (Fr.i Fr.rf A_m) A_m), u2_s, (by first | exact IKm.i IKm.rf | exact IKm.i (IKm.i IKm.rf))⟩⟩

theorem e_m_classes_yes {d : Nat} {T N : Nat → Nat} {I : IT} {L : LT} {R : RT} {A : Nat → Prop} {m : Nat} {D z : Int32} (T_m : T m = 13) (A_m : A m) (hD : isDc D) (hz : z = 0 ∨ z = 1) : Ex (d + 4) 307 [.ref m, .int D, .int z] (T, N, I, L, R) 0 0 (pI T N R (fun x9 I9 L9 => x9 = (sgP D z (-1)).1 ∧ Fr A I L I9 L9 ∧ I9 m 0 = 0 ∧ IKm m I I9)) := by
  refine ⟨_, rfl, Nat.le_of_ble_eq_true rfl, fun V C S => ?_⟩
  show V 0 [(0, .ref m), (1, .int D), (2, .int z)] [] (T, N, I, L, R) 0 0
  refine k_aload_n C rfl rfl rfl ?_
  refine k_iconst C (x := 0) rfl rfl rfl ?_
  refine p_I C rfl rfl rfl T_m (Or.inr rfl) rfl ?_
  refine k_aload_n C rfl rfl rfl ?_
  refine k_iload_n C rfl rfl rfl ?_
  refine c_SI C (e_m_noDisc_no  hD) rfl rfl rfl rfl rfl rfl rfl (Nat.le_of_ble_eq_true rfl) (Nat.le_of_ble_eq_true rfl) (Nat.le_of_ble_eq_true rfl) ?_
  rintro _ _ _ ⟨hx7, hI8, hL9⟩
  have hx7 := hx7.symm; subst hx7
  have hI8 := hI8.symm; subst hI8; have hL9 := hL9.symm; subst hL9
  refine k_iconst C (x := 1) rfl rfl rfl ?_
  refine c_VI C (e_throwsIf0 T_m rfl) rfl rfl rfl rfl rfl ⟨_, rfl, rfl, T_m, Nat.le_of_ble_eq_true rfl⟩ rfl rfl (Nat.le_of_ble_eq_true rfl) (Nat.le_of_ble_eq_true rfl) (Nat.le_of_ble_eq_true rfl) ?_
  rintro _ _ _ ⟨hx7, hI8, hL9⟩
  have hx7 := hx7.symm; subst hx7
  have hI8 := hI8.symm; subst hI8; have hL9 := hL9.symm; subst hL9
  refine k_if_eq C (t := 21) rfl rfl rfl (fun _ => ?_) (fun c14 => absurd (by decide) c14)
  refine k_aload_n C rfl rfl rfl ?_
  refine k_iload_n C rfl rfl rfl ?_
  refine k_iload_n C rfl rfl rfl ?_
  refine k_iconst C (x := -1) rfl rfl rfl ?_
  refine c_VI C (e_m_reducedMany T_m A_m hD hz) rfl rfl rfl rfl rfl ⟨_, rfl, rfl, T_m, Nat.le_of_ble_eq_true rfl⟩ rfl rfl (Nat.le_of_ble_eq_true rfl) (Nat.le_of_ble_eq_true rfl) (Nat.le_of_ble_eq_true rfl) ?_
  rintro _ I1 L1 ⟨rfl, hI8, hF, hr⟩
  exact k_iret C rfl (Or.inl rfl) (Nat.le_of_ble_eq_true rfl) (Nat.le_of_ble_eq_true rfl) ⟨_, _, _, rfl, rfl, ⟨rfl, Fr.tr (Fr.i Fr.rf A_m) hF, (hr.2 0 (by decide)).trans u2_s, IKm.s hr.2⟩⟩

theorem e_m_reducedAt_no1 {d : Nat} {T N : Nat → Nat} {I : IT} {L : LT} {R : RT} {A : Nat → Prop} {m : Nat} {D k n : Int32} (T_m : T m = 13) (A_m : A m) (h : ¬ isDc D) : Ex (d + 3) 308 [.ref m, .int D, .int k, .int n] (T, N, I, L, R) 0 0 (pI T N R (fun x9 I9 L9 => Fr A I L I9 L9 ∧ I9 m 0 = 1 ∧ IKm m I I9)) := by
  refine ⟨_, rfl, Nat.le_of_ble_eq_true rfl, fun V C S => ?_⟩
  show V 0 [(0, .ref m), (1, .int D), (2, .int k), (3, .int n)] [] (T, N, I, L, R) 0 0
  refine k_aload_n C rfl rfl rfl ?_
  refine k_iconst C (x := 0) rfl rfl rfl ?_
  refine p_I C rfl rfl rfl T_m (Or.inr rfl) rfl ?_
  refine k_aload_n C rfl rfl rfl ?_
  refine k_iload_n C rfl rfl rfl ?_
  refine c_SI C (e_m_noDisc_yes  h) rfl rfl rfl rfl rfl rfl rfl (Nat.le_of_ble_eq_true rfl) (Nat.le_of_ble_eq_true rfl) (Nat.le_of_ble_eq_true rfl) ?_
  rintro _ _ _ ⟨hx7, hI8, hL9⟩
  have hx7 := hx7.symm; subst hx7
  have hI8 := hI8.symm; subst hI8; have hL9 := hL9.symm; subst hL9
  refine k_if_ne C (t := 17) rfl rfl rfl (fun _ => ?_) (fun c10 => absurd (by decide) c10)
  refine k_iconst C (x := 1) rfl rfl rfl ?_
  refine k_goto C (pc2 := 22) rfl rfl ?_
  refine k_iconst C (x := 1) rfl rfl rfl ?_
  refine c_VI C (e_throwsIf1 T_m rfl) rfl rfl rfl rfl rfl ⟨_, rfl, rfl, T_m, Nat.le_of_ble_eq_true rfl⟩ rfl rfl (Nat.le_of_ble_eq_true rfl) (Nat.le_of_ble_eq_true rfl) (Nat.le_of_ble_eq_true rfl) ?_
  rintro _ _ _ ⟨hx7, hI8, hL9⟩
  have hx7 := hx7.symm; subst hx7
  have hI8 := hI8.symm; subst hI8; have hL9 := hL9.symm; subst hL9
  refine k_if_ne C (t := 51) rfl rfl rfl (fun _ => ?_) (fun c26 => absurd (by decide) c26)
  refine k_iconst C (x := 0) rfl rfl rfl ?_
  exact k_iret C rfl (Or.inl rfl) (Nat.le_of_ble_eq_true rfl) (Nat.le_of_ble_eq_true rfl) ⟨_, _, _, rfl, rfl, ⟨(Fr.i (Fr.i Fr.rf A_m) A_m), u2_s, (by first | exact IKm.i IKm.rf | exact IKm.i (IKm.i IKm.rf))⟩⟩

theorem e_m_reducedAt_no2 {d : Nat} {T N : Nat → Nat} {I : IT} {L : LT} {R : RT} {A : Nat → Prop} {m : Nat} {D k n : Int32} (T_m : T m = 13) (A_m : A m) (hD : isDc D) (hk : k < 0) : Ex (d + 3) 308 [.ref m, .int D, .int k, .int n] (T, N, I, L, R) 0 0 (pI T N R (fun x9 I9 L9 => Fr A I L I9 L9 ∧ I9 m 0 = 1 ∧ IKm m I I9)) := by
  refine ⟨_, rfl, Nat.le_of_ble_eq_true rfl, fun V C S => ?_⟩
  show V 0 [(0, .ref m), (1, .int D), (2, .int k), (3, .int n)] [] (T, N, I, L, R) 0 0
  refine k_aload_n C rfl rfl rfl ?_
  refine k_iconst C (x := 0) rfl rfl rfl ?_
  refine p_I C rfl rfl rfl T_m (Or.inr rfl) rfl ?_
  refine k_aload_n C rfl rfl rfl ?_
  refine k_iload_n C rfl rfl rfl ?_
  refine c_SI C (e_m_noDisc_no  hD) rfl rfl rfl rfl rfl rfl rfl (Nat.le_of_ble_eq_true rfl) (Nat.le_of_ble_eq_true rfl) (Nat.le_of_ble_eq_true rfl) ?_
  rintro _ _ _ ⟨hx7, hI8, hL9⟩
  have hx7 := hx7.symm; subst hx7
  have hI8 := hI8.symm; subst hI8; have hL9 := hL9.symm; subst hL9
  refine k_if_ne C (t := 17) rfl rfl rfl (fun c10 => absurd c10 (by decide)) (fun _ => ?_)
  refine k_iload_n C rfl rfl rfl ?_
  refine k_if_ge C (t := 21) rfl rfl rfl (fun c14 => ?_) (fun c14 => ?_)
  · skip
    exact absurd hk (Int32.not_lt.mpr c14)
  refine k_iconst C (x := 1) rfl rfl rfl ?_
  refine k_goto C (pc2 := 22) rfl rfl ?_
  refine k_iconst C (x := 1) rfl rfl rfl ?_
  refine c_VI C (e_throwsIf1 T_m rfl) rfl rfl rfl rfl rfl ⟨_, rfl, rfl, T_m, Nat.le_of_ble_eq_true rfl⟩ rfl rfl (Nat.le_of_ble_eq_true rfl) (Nat.le_of_ble_eq_true rfl) (Nat.le_of_ble_eq_true rfl) ?_
  rintro _ _ _ ⟨hx7, hI8, hL9⟩
  have hx7 := hx7.symm; subst hx7
  have hI8 := hI8.symm; subst hI8; have hL9 := hL9.symm; subst hL9
  refine k_if_ne C (t := 51) rfl rfl rfl (fun _ => ?_) (fun c26 => absurd (by decide) c26)
  refine k_iconst C (x := 0) rfl rfl rfl ?_
  exact k_iret C rfl (Or.inl rfl) (Nat.le_of_ble_eq_true rfl) (Nat.le_of_ble_eq_true rfl) ⟨_, _, _, rfl, rfl, ⟨(Fr.i (Fr.i Fr.rf A_m) A_m), u2_s, (by first | exact IKm.i IKm.rf | exact IKm.i (IKm.i IKm.rf))⟩⟩

theorem e_m_reducedAt_nse {d : Nat} {T N : Nat → Nat} {I : IT} {L : LT} {R : RT} {A : Nat → Prop} {m : Nat} {D k n : Int32} (T_m : T m = 13) (A_m : A m) (hD : isDc D) (hk : 0 ≤ k) (hn : ¬ (0 ≤ n.toInt ∧ n.toInt ≤ 2)) : Ex (d + 3) 308 [.ref m, .int D, .int k, .int n] (T, N, I, L, R) 0 0 (pI T N R (fun x9 I9 L9 => Fr A I L I9 L9 ∧ I9 m 0 = 2 ∧ IKm m I I9)) := by
  refine ⟨_, rfl, Nat.le_of_ble_eq_true rfl, fun V C S => ?_⟩
  show V 0 [(0, .ref m), (1, .int D), (2, .int k), (3, .int n)] [] (T, N, I, L, R) 0 0
  refine k_aload_n C rfl rfl rfl ?_
  refine k_iconst C (x := 0) rfl rfl rfl ?_
  refine p_I C rfl rfl rfl T_m (Or.inr rfl) rfl ?_
  refine k_aload_n C rfl rfl rfl ?_
  refine k_iload_n C rfl rfl rfl ?_
  refine c_SI C (e_m_noDisc_no  hD) rfl rfl rfl rfl rfl rfl rfl (Nat.le_of_ble_eq_true rfl) (Nat.le_of_ble_eq_true rfl) (Nat.le_of_ble_eq_true rfl) ?_
  rintro _ _ _ ⟨hx7, hI8, hL9⟩
  have hx7 := hx7.symm; subst hx7
  have hI8 := hI8.symm; subst hI8; have hL9 := hL9.symm; subst hL9
  refine k_if_ne C (t := 17) rfl rfl rfl (fun c10 => absurd c10 (by decide)) (fun _ => ?_)
  refine k_iload_n C rfl rfl rfl ?_
  refine k_if_ge C (t := 21) rfl rfl rfl (fun c14 => ?_) (fun c14 => ?_)
  · skip
    refine k_iconst C (x := 0) rfl rfl rfl ?_
    refine k_iconst C (x := 1) rfl rfl rfl ?_
    refine c_VI C (e_throwsIf0 T_m rfl) rfl rfl rfl rfl rfl ⟨_, rfl, rfl, T_m, Nat.le_of_ble_eq_true rfl⟩ rfl rfl (Nat.le_of_ble_eq_true rfl) (Nat.le_of_ble_eq_true rfl) (Nat.le_of_ble_eq_true rfl) ?_
    rintro _ _ _ ⟨hx7, hI8, hL9⟩
    have hx7 := hx7.symm; subst hx7
    have hI8 := hI8.symm; subst hI8; have hL9 := hL9.symm; subst hL9
    refine k_if_ne C (t := 51) rfl rfl rfl (fun c26 => absurd c26 (by decide)) (fun _ => ?_)
    refine k_aload_n C rfl rfl rfl ?_
    refine k_iload_n C rfl rfl rfl ?_
    refine k_iconst C (x := 0) rfl rfl rfl ?_
    refine k_iconst C (x := 2) rfl rfl rfl ?_
    refine c_SI C e_in rfl rfl rfl rfl rfl rfl rfl (Nat.le_of_ble_eq_true rfl) (Nat.le_of_ble_eq_true rfl) (Nat.le_of_ble_eq_true rfl) ?_
    rintro _ _ _ ⟨hx7, hI8, hL9⟩
    have hx7 := hx7.symm; subst hx7
    have hI8 := hI8.symm; subst hI8; have hL9 := hL9.symm; subst hL9
    refine k_if_ne C (t := 43) rfl rfl rfl (fun c36 => ?_) (fun c36 => ?_)
    · skip
      exact absurd (in02.mp (inY c36)) hn
    refine k_iconst C (x := 1) rfl rfl rfl ?_
    refine k_goto C (pc2 := 44) rfl rfl ?_
    refine k_iconst C (x := 2) rfl rfl rfl ?_
    refine c_VI C (e_throwsIf1 T_m rfl) rfl rfl rfl rfl rfl ⟨_, rfl, rfl, T_m, Nat.le_of_ble_eq_true rfl⟩ rfl rfl (Nat.le_of_ble_eq_true rfl) (Nat.le_of_ble_eq_true rfl) (Nat.le_of_ble_eq_true rfl) ?_
    rintro _ _ _ ⟨hx7, hI8, hL9⟩
    have hx7 := hx7.symm; subst hx7
    have hI8 := hI8.symm; subst hI8; have hL9 := hL9.symm; subst hL9
    refine k_if_eq C (t := 53) rfl rfl rfl (fun c48 => absurd c48 (by decide)) (fun _ => ?_)
    refine k_iconst C (x := 0) rfl rfl rfl ?_
    exact k_iret C rfl (Or.inl rfl) (Nat.le_of_ble_eq_true rfl) (Nat.le_of_ble_eq_true rfl) ⟨_, _, _, rfl, rfl, ⟨(Fr.i (Fr.i Fr.rf A_m) A_m), u2_s, (by first | exact IKm.i IKm.rf | exact IKm.i (IKm.i IKm.rf))⟩⟩
  exact absurd hk c14

theorem e_m_reducedAt_yes {d : Nat} {T N : Nat → Nat} {I : IT} {L : LT} {R : RT} {A : Nat → Prop} {m : Nat} {D k n : Int32} (T_m : T m = 13) (A_m : A m) (hD : isDc D) (hk : 0 ≤ k) (hn : 0 ≤ n.toInt ∧ n.toInt ≤ 2) : Ex (d + 4) 308 [.ref m, .int D, .int k, .int n] (T, N, I, L, R) 0 0 (pI T N R (fun x9 I9 L9 => x9 = raP D k n.toInt ∧ Fr A I L I9 L9 ∧ I9 m 0 = 0 ∧ IKm m I I9)) := by
  refine ⟨_, rfl, Nat.le_of_ble_eq_true rfl, fun V C S => ?_⟩
  show V 0 [(0, .ref m), (1, .int D), (2, .int k), (3, .int n)] [] (T, N, I, L, R) 0 0
  refine k_aload_n C rfl rfl rfl ?_
  refine k_iconst C (x := 0) rfl rfl rfl ?_
  refine p_I C rfl rfl rfl T_m (Or.inr rfl) rfl ?_
  refine k_aload_n C rfl rfl rfl ?_
  refine k_iload_n C rfl rfl rfl ?_
  refine c_SI C (e_m_noDisc_no  hD) rfl rfl rfl rfl rfl rfl rfl (Nat.le_of_ble_eq_true rfl) (Nat.le_of_ble_eq_true rfl) (Nat.le_of_ble_eq_true rfl) ?_
  rintro _ _ _ ⟨hx7, hI8, hL9⟩
  have hx7 := hx7.symm; subst hx7
  have hI8 := hI8.symm; subst hI8; have hL9 := hL9.symm; subst hL9
  refine k_if_ne C (t := 17) rfl rfl rfl (fun c10 => absurd c10 (by decide)) (fun _ => ?_)
  refine k_iload_n C rfl rfl rfl ?_
  refine k_if_ge C (t := 21) rfl rfl rfl (fun c14 => ?_) (fun c14 => ?_)
  · skip
    refine k_iconst C (x := 0) rfl rfl rfl ?_
    refine k_iconst C (x := 1) rfl rfl rfl ?_
    refine c_VI C (e_throwsIf0 T_m rfl) rfl rfl rfl rfl rfl ⟨_, rfl, rfl, T_m, Nat.le_of_ble_eq_true rfl⟩ rfl rfl (Nat.le_of_ble_eq_true rfl) (Nat.le_of_ble_eq_true rfl) (Nat.le_of_ble_eq_true rfl) ?_
    rintro _ _ _ ⟨hx7, hI8, hL9⟩
    have hx7 := hx7.symm; subst hx7
    have hI8 := hI8.symm; subst hI8; have hL9 := hL9.symm; subst hL9
    refine k_if_ne C (t := 51) rfl rfl rfl (fun c26 => absurd c26 (by decide)) (fun _ => ?_)
    refine k_aload_n C rfl rfl rfl ?_
    refine k_iload_n C rfl rfl rfl ?_
    refine k_iconst C (x := 0) rfl rfl rfl ?_
    refine k_iconst C (x := 2) rfl rfl rfl ?_
    refine c_SI C e_in rfl rfl rfl rfl rfl rfl rfl (Nat.le_of_ble_eq_true rfl) (Nat.le_of_ble_eq_true rfl) (Nat.le_of_ble_eq_true rfl) ?_
    rintro _ _ _ ⟨hx7, hI8, hL9⟩
    have hx7 := hx7.symm; subst hx7
    have hI8 := hI8.symm; subst hI8; have hL9 := hL9.symm; subst hL9
    refine k_if_ne C (t := 43) rfl rfl rfl (fun c36 => ?_) (fun c36 => ?_)
    · skip
      refine k_iconst C (x := 0) rfl rfl rfl ?_
      refine k_iconst C (x := 2) rfl rfl rfl ?_
      refine c_VI C (e_throwsIf0 T_m rfl) rfl rfl rfl rfl rfl ⟨_, rfl, rfl, T_m, Nat.le_of_ble_eq_true rfl⟩ rfl rfl (Nat.le_of_ble_eq_true rfl) (Nat.le_of_ble_eq_true rfl) (Nat.le_of_ble_eq_true rfl) ?_
      rintro _ _ _ ⟨hx7, hI8, hL9⟩
      have hx7 := hx7.symm; subst hx7
      have hI8 := hI8.symm; subst hI8; have hL9 := hL9.symm; subst hL9
      refine k_if_eq C (t := 53) rfl rfl rfl (fun _ => ?_) (fun c48 => absurd (by decide) c48)
      refine k_iload_n C rfl rfl rfl ?_
      refine k_aload_n C rfl rfl rfl ?_
      refine k_iload_n C rfl rfl rfl ?_
      refine k_iconst C (x := 0) rfl rfl rfl ?_
      refine k_iload_n C rfl rfl rfl ?_
      refine c_VI C (e_m_reducedMany T_m A_m hD (Or.inl rfl)) rfl rfl rfl rfl rfl ⟨_, rfl, rfl, T_m, Nat.le_of_ble_eq_true rfl⟩ rfl rfl (Nat.le_of_ble_eq_true rfl) (Nat.le_of_ble_eq_true rfl) (Nat.le_of_ble_eq_true rfl) ?_
      rintro _ I1 L1 ⟨rfl, hI8, hF, hr⟩
      refine k_icmp_lt C (t := 70) rfl rfl rfl (fun c61 => ?_) (fun c61 => ?_)
      · skip
        refine k_iload_n C rfl rfl rfl ?_
        refine k_if_ne C (t := 81) rfl rfl rfl (fun c71 => ?_) (fun c71 => ?_)
        · skip
          have hn0 : n.toInt ≠ 0 := fun e => c71 (Int32.toInt_inj.mp e)
          refine k_iload_n C rfl rfl rfl ?_
          refine k_iconst C (x := 1) rfl rfl rfl ?_
          refine k_icmp_ne C (t := 93) rfl rfl rfl (fun c83 => ?_) (fun c83 => ?_)
          · skip
            have hn1 : n.toInt ≠ 1 := fun e => c83 (Int32.toInt_inj.mp e)
            have hv : I1 m 37 = raP D k n.toInt := by
              unfold raP; rw [if_pos c61, if_neg hn0, if_neg hn1]; exact (hr.1 hk c61).2.2
            refine k_aload_n C rfl rfl rfl ?_
            refine g_I C rfl rfl rfl T_m rfl (rfl) ?_
            exact k_iret C rfl (Or.inl rfl) (Nat.le_of_ble_eq_true rfl) (Nat.le_of_ble_eq_true rfl) ⟨_, _, _, rfl, rfl, ⟨by first | exact hv | exact hv.symm, Fr.tr (Fr.i Fr.rf A_m) hF, (hr.2 0 (by decide)).trans u2_s, IKm.s hr.2⟩⟩
          have hv : I1 m 36 = raP D k n.toInt := by
            have e : n.toInt = 1 := by rw [Decidable.not_not.mp c83]; rfl
            unfold raP; rw [if_pos c61, if_neg hn0, if_pos e]; exact (hr.1 hk c61).2.1
          refine k_aload_n C rfl rfl rfl ?_
          refine g_I C rfl rfl rfl T_m rfl (rfl) ?_
          refine k_goto C (pc2 := 97) rfl rfl ?_
          exact k_iret C rfl (Or.inl rfl) (Nat.le_of_ble_eq_true rfl) (Nat.le_of_ble_eq_true rfl) ⟨_, _, _, rfl, rfl, ⟨by first | exact hv | exact hv.symm, Fr.tr (Fr.i Fr.rf A_m) hF, (hr.2 0 (by decide)).trans u2_s, IKm.s hr.2⟩⟩
        have hv : I1 m 35 = raP D k n.toInt := by
          have e : n.toInt = 0 := by rw [Decidable.not_not.mp c71]; rfl
          unfold raP; rw [if_pos c61, if_pos e]; exact (hr.1 hk c61).1
        refine k_aload_n C rfl rfl rfl ?_
        refine g_I C rfl rfl rfl T_m rfl (rfl) ?_
        refine k_goto C (pc2 := 97) rfl rfl ?_
        exact k_iret C rfl (Or.inl rfl) (Nat.le_of_ble_eq_true rfl) (Nat.le_of_ble_eq_true rfl) ⟨_, _, _, rfl, rfl, ⟨by first | exact hv | exact hv.symm, Fr.tr (Fr.i Fr.rf A_m) hF, (hr.2 0 (by decide)).trans u2_s, IKm.s hr.2⟩⟩
      have hv : raP D k n.toInt = -9999 := by unfold raP; rw [if_neg c61]
      refine k_sipush C (x := -9999) rfl rfl rfl ?_
      refine k_goto C (pc2 := 97) rfl rfl ?_
      exact k_iret C rfl (Or.inl rfl) (Nat.le_of_ble_eq_true rfl) (Nat.le_of_ble_eq_true rfl) ⟨_, _, _, rfl, rfl, ⟨by first | exact hv | exact hv.symm, Fr.tr (Fr.i Fr.rf A_m) hF, (hr.2 0 (by decide)).trans u2_s, IKm.s hr.2⟩⟩
    exact absurd (inN (in02.mpr hn)) c36
  exact absurd hk c14
end
-- 39.42.real.lean.txt
section
/-! roots of real numbers -/
def cuP (a b c d : Int64) : Int64 := 18 * a * b * c * d - 4 * b * b * b * d + b * b * c * c - 4 * a * c * c * c - 27 * a * a * d * d
def dfP (a b c d e : Int64) : Int64 := 256 * a * a * a * e * e * e - 192 * a * a * b * d * e * e - 128 * a * a * c * c * e * e + 144 * a * a * c * d * d * e - 27 * a * a * d * d * d * d + 144 * a * b * b * c * e * e - 6 * a * b * b * d * d * e - 80 * a * b * c * c * d * e + 18 * a * b * c * d * d * d + 16 * a * c * c * c * c * e - 4 * a * c * c * c * d * d - 27 * b * b * b * b * e * e + 18 * b * b * b * c * d * e - 4 * b * b * b * d * d * d - 4 * b * b * c * c * c * e + b * b * c * c * d * d
def sdP (a b c : Int64) : Int64 := 8 * a * c - 3 * b * b
def foP (a b c d e : Int64) : Int64 := 64 * a * a * a * e - 16 * a * a * c * c + 16 * a * b * b * c - 16 * a * a * b * d - 3 * b * b * b * b
def thP (a b c d : Int64) : Int64 := b * b * b + 8 * d * a * a - 4 * a * b * c
def zrP (a b c d e : Int64) : Int64 := c * c - 3 * b * d + 12 * a * e
def onP (a b c d e : Int64) : Int64 := 2 * c * c * c - 9 * b * c * d + 27 * b * b * e + 27 * a * d * d - 72 * a * c * e
def dsP (z o : Int64) : Int64 := 4 * z * z * z - o * o
def cuC (k : Int64) (a b c : Int64) : Int32 := if lg_cmp k 0 = 0 then (if ¬ lg_cmp (b * b) (3 * a * c) = 0 then 2 else 1) else if lg_cmp k 0 ≤ 0 then 1 else 3
def cuM (k : Int64) (a b c : Int64) : Int32 := if lg_cmp k 0 ≤ 0 then (if 0 ≤ lg_cmp k 0 then (if ¬ lg_cmp (b * b) (3 * a * c) = 0 then 2 else 1) else 1) else 3
def rdC (x y : Int64) : Int32 := if ¬ lg_cmp x 0 = 0 then (if 0 ≤ lg_cmp x 0 then (if ¬ lg_cmp y 0 = 0 then 1 else 0) else 2) else 1
def qC (df sd fo th zr : Int64) : Int32 := if 0 ≤ lg_cmp df 0 then (if lg_cmp df 0 ≤ 0 then (if ¬ lg_cmp fo 0 = 0 then (if ¬ lg_cmp zr 0 = 0 then (if 0 ≤ lg_cmp sd 0 then 1 else if 0 ≤ lg_cmp fo 0 then 1 else 3) else 2) else rdC sd th) else if 0 ≤ lg_cmp sd 0 then 0 else if 0 ≤ lg_cmp fo 0 then 0 else 4) else 2
def qM (ds sd fo th zr : Int64) : Int32 := if 0 ≤ lg_cmp ds 0 then (if lg_cmp ds 0 ≤ 0 then (if ¬ lg_cmp fo 0 = 0 then (if ¬ lg_cmp zr 0 = 0 then (if 0 ≤ lg_cmp sd 0 then 1 else if 0 ≤ lg_cmp fo 0 then 1 else 3) else 2) else if 0 ≤ lg_cmp sd 0 then (if lg_cmp zr 0 = 0 then 1 else if lg_cmp th 0 = 0 then 0 else 1) else 2) else if 0 ≤ lg_cmp sd 0 then 0 else if 0 ≤ lg_cmp fo 0 then 0 else 4) else 2
theorem cu_same {k a b c : Int64} : cuM k a b c = cuC k a b c := by
  unfold cuM cuC
  have e0 := lg_cmp_eq k 0; have e1 := lg_cmp_le k 0; have e2 := lg_cmp_ge k 0
  simp only [e0, e1, e2]
  by_cases h : k = 0
  · subst h; rw [if_pos (Int64.le_refl _), if_pos (Int64.le_refl _), if_pos rfl]
  · rw [if_neg h]
    by_cases h2 : k ≤ 0
    · rw [if_pos h2, if_pos h2, if_neg (fun q => h (Int64.le_antisymm h2 q))]
    · rw [if_neg h2, if_neg h2]
theorem q_same {df ds sd fo th zr : Int64} (h1 : 0 ≤ df ↔ 0 ≤ ds) (h2 : df ≤ 0 ↔ ds ≤ 0) (h3 : df = 0 → fo = 0 → (sd = 0 ↔ zr = 0) ∨ sd < 0) : qM ds sd fo th zr = qC df sd fo th zr := by
  unfold qM qC rdC
  simp only [lg_cmp_eq, lg_cmp_le, lg_cmp_ge, h1, h2]
  by_cases k1 : 0 ≤ ds
  · by_cases k2 : ds ≤ 0
    · simp only [if_pos k1, if_pos k2]
      by_cases k3 : fo = 0
      · have hd : df = 0 := Int64.le_antisymm (h2.mpr k2) (h1.mpr k1)
        simp only [k3, not_true_eq_false, if_false]
        by_cases k4 : 0 ≤ sd
        · rcases h3 hd k3 with q | q
          · by_cases k5 : sd = 0
            · simp [k4, k5, q.mp k5]
            · simp [k4, k5, show ¬ zr = 0 from fun e => k5 (q.mpr e)]
          · exact absurd k4 (Int64.not_le.mpr q)
        · have k5 : ¬ sd = 0 := fun e => k4 (e ▸ Int64.le_refl _)
          simp [k4, k5]
      · simp only [k3, not_false_eq_true, if_true]
    · simp only [if_pos k1, if_neg k2]
  · simp only [if_neg k1]
theorem e_rootsOfCubic {d : Nat} {T N : Nat → Nat} {I : IT} {L : LT} {R : RT} {a b c u : Int64}  {k : Int64} (hk : cuP a b c u = k) : Ex (d + 1) 121 [.long a, .long b, .long c, .long u] (T, N, I, L, R) 0 0 (pI T N R (fun x9 I9 L9 => x9 = (cuC k a b c) ∧ I9 = I ∧ L9 = L)) := by
  refine ⟨_, rfl, Nat.le_of_ble_eq_true rfl, fun V C S => ?_⟩
  show V 0 [(0, .long a), (2, .long b), (4, .long c), (6, .long u)] [] (T, N, I, L, R) 0 0
  refine k_ldc2_w C rfl rfl rfl ?_
  refine k_lload_n C rfl rfl rfl ?_
  refine k_lmul C rfl rfl ?_
  refine k_lload_n C rfl rfl rfl ?_
  refine k_lmul C rfl rfl ?_
  refine k_lload C rfl rfl rfl ?_
  refine k_lmul C rfl rfl ?_
  refine k_lload C rfl rfl rfl ?_
  refine k_lmul C rfl rfl ?_
  refine k_ldc2_w C rfl rfl rfl ?_
  refine k_lload_n C rfl rfl rfl ?_
  refine k_lmul C rfl rfl ?_
  refine k_lload_n C rfl rfl rfl ?_
  refine k_lmul C rfl rfl ?_
  refine k_lload_n C rfl rfl rfl ?_
  refine k_lmul C rfl rfl ?_
  refine k_lload C rfl rfl rfl ?_
  refine k_lmul C rfl rfl ?_
  refine k_lsub C rfl rfl ?_
  refine k_lload_n C rfl rfl rfl ?_
  refine k_lload_n C rfl rfl rfl ?_
  refine k_lmul C rfl rfl ?_
  refine k_lload C rfl rfl rfl ?_
  refine k_lmul C rfl rfl ?_
  refine k_lload C rfl rfl rfl ?_
  refine k_lmul C rfl rfl ?_
  refine k_ladd C rfl rfl ?_
  refine k_ldc2_w C rfl rfl rfl ?_
  refine k_lload_n C rfl rfl rfl ?_
  refine k_lmul C rfl rfl ?_
  refine k_lload C rfl rfl rfl ?_
  refine k_lmul C rfl rfl ?_
  refine k_lload C rfl rfl rfl ?_
  refine k_lmul C rfl rfl ?_
  refine k_lload C rfl rfl rfl ?_
  refine k_lmul C rfl rfl ?_
  refine k_lsub C rfl rfl ?_
  refine k_ldc2_w C rfl rfl rfl ?_
  refine k_lload_n C rfl rfl rfl ?_
  refine k_lmul C rfl rfl ?_
  refine k_lload_n C rfl rfl rfl ?_
  refine k_lmul C rfl rfl ?_
  refine k_lload C rfl rfl rfl ?_
  refine k_lmul C rfl rfl ?_
  refine k_lload C rfl rfl rfl ?_
  refine k_lmul C rfl rfl ?_
  refine k_lsub C rfl rfl ?_
  refine k_lstore C (lw := [(8, .long _), (0, .long _), (2, .long _), (4, .long _), (6, .long _)]) rfl rfl (Nat.le_of_ble_eq_true rfl) rfl ?_
  show V 67 [(8, .long (cuP a b c u)), (0, .long a), (2, .long b), (4, .long c), (6, .long u)] [] (T, N, I, L, R) 0 0
  rw [hk]
  refine k_lload C rfl rfl rfl ?_
  refine k_lconst C (x := 0) rfl rfl rfl ?_
  refine k_lcmp C rfl rfl ?_
  refine k_if_eq C (t := 87) rfl rfl rfl (fun c71 => ?_) (fun c71 => ?_)
  · skip
    refine k_lload_n C rfl rfl rfl ?_
    refine k_lload_n C rfl rfl rfl ?_
    refine k_lmul C rfl rfl ?_
    refine k_ldc2_w C rfl rfl rfl ?_
    refine k_lload_n C rfl rfl rfl ?_
    refine k_lmul C rfl rfl ?_
    refine k_lload C rfl rfl rfl ?_
    refine k_lmul C rfl rfl ?_
    refine k_lcmp C rfl rfl ?_
    refine k_if_ne C (t := 106) rfl rfl rfl (fun c99 => ?_) (fun c99 => ?_)
    · skip
      refine k_iconst C (x := 2) rfl rfl rfl ?_
      exact k_iret C rfl (Or.inl rfl) (Nat.le_of_ble_eq_true rfl) (Nat.le_of_ble_eq_true rfl) ⟨_, _, _, rfl, rfl, by rw [cuC, if_pos c71, if_pos c99], rfl, rfl⟩
    refine k_iconst C (x := 1) rfl rfl rfl ?_
    refine k_goto C (pc2 := 107) rfl rfl ?_
    exact k_iret C rfl (Or.inl rfl) (Nat.le_of_ble_eq_true rfl) (Nat.le_of_ble_eq_true rfl) ⟨_, _, _, rfl, rfl, by rw [cuC, if_pos c71, if_neg c99], rfl, rfl⟩
  refine k_lload C rfl rfl rfl ?_
  refine k_lconst C (x := 0) rfl rfl rfl ?_
  refine k_lcmp C rfl rfl ?_
  refine k_if_le C (t := 85) rfl rfl rfl (fun c78 => ?_) (fun c78 => ?_)
  · skip
    refine k_iconst C (x := 1) rfl rfl rfl ?_
    exact k_iret C rfl (Or.inl rfl) (Nat.le_of_ble_eq_true rfl) (Nat.le_of_ble_eq_true rfl) ⟨_, _, _, rfl, rfl, by rw [cuC, if_neg c71, if_pos c78], rfl, rfl⟩
  refine k_iconst C (x := 3) rfl rfl rfl ?_
  refine k_goto C (pc2 := 86) rfl rfl ?_
  exact k_iret C rfl (Or.inl rfl) (Nat.le_of_ble_eq_true rfl) (Nat.le_of_ble_eq_true rfl) ⟨_, _, _, rfl, rfl, by rw [cuC, if_neg c71, if_neg c78], rfl, rfl⟩

theorem e_m_realOfCubic {d : Nat} {T N : Nat → Nat} {I : IT} {L : LT} {R : RT} {a b c u : Int64}  {k : Int64} (hk : cuP a b c u = k) : Ex (d + 1) 309 [.long a, .long b, .long c, .long u] (T, N, I, L, R) 0 0 (pI T N R (fun x9 I9 L9 => x9 = (cuM k a b c) ∧ I9 = I ∧ L9 = L)) := by
  refine ⟨_, rfl, Nat.le_of_ble_eq_true rfl, fun V C S => ?_⟩
  show V 0 [(0, .long a), (2, .long b), (4, .long c), (6, .long u)] [] (T, N, I, L, R) 0 0
  refine k_ldc2_w C rfl rfl rfl ?_
  refine k_lload_n C rfl rfl rfl ?_
  refine k_lmul C rfl rfl ?_
  refine k_lload_n C rfl rfl rfl ?_
  refine k_lmul C rfl rfl ?_
  refine k_lload C rfl rfl rfl ?_
  refine k_lmul C rfl rfl ?_
  refine k_lload C rfl rfl rfl ?_
  refine k_lmul C rfl rfl ?_
  refine k_ldc2_w C rfl rfl rfl ?_
  refine k_lload_n C rfl rfl rfl ?_
  refine k_lmul C rfl rfl ?_
  refine k_lload_n C rfl rfl rfl ?_
  refine k_lmul C rfl rfl ?_
  refine k_lload_n C rfl rfl rfl ?_
  refine k_lmul C rfl rfl ?_
  refine k_lload C rfl rfl rfl ?_
  refine k_lmul C rfl rfl ?_
  refine k_lsub C rfl rfl ?_
  refine k_lload_n C rfl rfl rfl ?_
  refine k_lload_n C rfl rfl rfl ?_
  refine k_lmul C rfl rfl ?_
  refine k_lload C rfl rfl rfl ?_
  refine k_lmul C rfl rfl ?_
  refine k_lload C rfl rfl rfl ?_
  refine k_lmul C rfl rfl ?_
  refine k_ladd C rfl rfl ?_
  refine k_ldc2_w C rfl rfl rfl ?_
  refine k_lload_n C rfl rfl rfl ?_
  refine k_lmul C rfl rfl ?_
  refine k_lload C rfl rfl rfl ?_
  refine k_lmul C rfl rfl ?_
  refine k_lload C rfl rfl rfl ?_
  refine k_lmul C rfl rfl ?_
  refine k_lload C rfl rfl rfl ?_
  refine k_lmul C rfl rfl ?_
  refine k_lsub C rfl rfl ?_
  refine k_ldc2_w C rfl rfl rfl ?_
  refine k_lload_n C rfl rfl rfl ?_
  refine k_lmul C rfl rfl ?_
  refine k_lload_n C rfl rfl rfl ?_
  refine k_lmul C rfl rfl ?_
  refine k_lload C rfl rfl rfl ?_
  refine k_lmul C rfl rfl ?_
  refine k_lload C rfl rfl rfl ?_
  refine k_lmul C rfl rfl ?_
  refine k_lsub C rfl rfl ?_
  refine k_lstore C (lw := [(8, .long _), (0, .long _), (2, .long _), (4, .long _), (6, .long _)]) rfl rfl (Nat.le_of_ble_eq_true rfl) rfl ?_
  show V 67 [(8, .long (cuP a b c u)), (0, .long a), (2, .long b), (4, .long c), (6, .long u)] [] (T, N, I, L, R) 0 0
  rw [hk]
  refine k_lload C rfl rfl rfl ?_
  refine k_lconst C (x := 0) rfl rfl rfl ?_
  refine k_lcmp C rfl rfl ?_
  refine k_if_le C (t := 78) rfl rfl rfl (fun c71 => ?_) (fun c71 => ?_)
  · skip
    refine k_lload C rfl rfl rfl ?_
    refine k_lconst C (x := 0) rfl rfl rfl ?_
    refine k_lcmp C rfl rfl ?_
    refine k_if_ge C (t := 89) rfl rfl rfl (fun c82 => ?_) (fun c82 => ?_)
    · skip
      refine k_lload_n C rfl rfl rfl ?_
      refine k_lload_n C rfl rfl rfl ?_
      refine k_lmul C rfl rfl ?_
      refine k_ldc2_w C rfl rfl rfl ?_
      refine k_lload_n C rfl rfl rfl ?_
      refine k_lmul C rfl rfl ?_
      refine k_lload C rfl rfl rfl ?_
      refine k_lmul C rfl rfl ?_
      refine k_lcmp C rfl rfl ?_
      refine k_if_ne C (t := 108) rfl rfl rfl (fun c101 => ?_) (fun c101 => ?_)
      · skip
        refine k_iconst C (x := 2) rfl rfl rfl ?_
        exact k_iret C rfl (Or.inl rfl) (Nat.le_of_ble_eq_true rfl) (Nat.le_of_ble_eq_true rfl) ⟨_, _, _, rfl, rfl, by rw [cuM, if_pos c71, if_pos c82, if_pos c101], rfl, rfl⟩
      refine k_iconst C (x := 1) rfl rfl rfl ?_
      refine k_goto C (pc2 := 109) rfl rfl ?_
      exact k_iret C rfl (Or.inl rfl) (Nat.le_of_ble_eq_true rfl) (Nat.le_of_ble_eq_true rfl) ⟨_, _, _, rfl, rfl, by rw [cuM, if_pos c71, if_pos c82, if_neg c101], rfl, rfl⟩
    refine k_iconst C (x := 1) rfl rfl rfl ?_
    refine k_goto C (pc2 := 109) rfl rfl ?_
    exact k_iret C rfl (Or.inl rfl) (Nat.le_of_ble_eq_true rfl) (Nat.le_of_ble_eq_true rfl) ⟨_, _, _, rfl, rfl, by rw [cuM, if_pos c71, if_neg c82], rfl, rfl⟩
  refine k_iconst C (x := 3) rfl rfl rfl ?_
  refine k_goto C (pc2 := 109) rfl rfl ?_
  exact k_iret C rfl (Or.inl rfl) (Nat.le_of_ble_eq_true rfl) (Nat.le_of_ble_eq_true rfl) ⟨_, _, _, rfl, rfl, by rw [cuM, if_neg c71], rfl, rfl⟩

theorem e_rootsOfDoubles {d : Nat} {T N : Nat → Nat} {I : IT} {L : LT} {R : RT} {x y : Int64}  : Ex (d + 1) 123 [.long x, .long y] (T, N, I, L, R) 0 0 (pI T N R (fun x9 I9 L9 => x9 = (rdC x y) ∧ I9 = I ∧ L9 = L)) := by
  refine ⟨_, rfl, Nat.le_of_ble_eq_true rfl, fun V C S => ?_⟩
  show V 0 [(0, .long x), (2, .long y)] [] (T, N, I, L, R) 0 0
  refine k_lload_n C rfl rfl rfl ?_
  refine k_lconst C (x := 0) rfl rfl rfl ?_
  refine k_lcmp C rfl rfl ?_
  refine k_if_ne C (t := 8) rfl rfl rfl (fun c3 => ?_) (fun c3 => ?_)
  · skip
    refine k_lload_n C rfl rfl rfl ?_
    refine k_lconst C (x := 0) rfl rfl rfl ?_
    refine k_lcmp C rfl rfl ?_
    refine k_if_ge C (t := 16) rfl rfl rfl (fun c11 => ?_) (fun c11 => ?_)
    · skip
      refine k_lload_n C rfl rfl rfl ?_
      refine k_lconst C (x := 0) rfl rfl rfl ?_
      refine k_lcmp C rfl rfl ?_
      refine k_if_ne C (t := 26) rfl rfl rfl (fun c19 => ?_) (fun c19 => ?_)
      · skip
        refine k_iconst C (x := 1) rfl rfl rfl ?_
        exact k_iret C rfl (Or.inl rfl) (Nat.le_of_ble_eq_true rfl) (Nat.le_of_ble_eq_true rfl) ⟨_, _, _, rfl, rfl, by rw [rdC, if_pos c3, if_pos c11, if_pos c19], rfl, rfl⟩
      refine k_iconst C (x := 0) rfl rfl rfl ?_
      refine k_goto C (pc2 := 27) rfl rfl ?_
      exact k_iret C rfl (Or.inl rfl) (Nat.le_of_ble_eq_true rfl) (Nat.le_of_ble_eq_true rfl) ⟨_, _, _, rfl, rfl, by rw [rdC, if_pos c3, if_pos c11, if_neg c19], rfl, rfl⟩
    refine k_iconst C (x := 2) rfl rfl rfl ?_
    exact k_iret C rfl (Or.inl rfl) (Nat.le_of_ble_eq_true rfl) (Nat.le_of_ble_eq_true rfl) ⟨_, _, _, rfl, rfl, by rw [rdC, if_pos c3, if_neg c11], rfl, rfl⟩
  refine k_iconst C (x := 1) rfl rfl rfl ?_
  exact k_iret C rfl (Or.inl rfl) (Nat.le_of_ble_eq_true rfl) (Nat.le_of_ble_eq_true rfl) ⟨_, _, _, rfl, rfl, by rw [rdC, if_neg c3], rfl, rfl⟩

theorem e_differences {d : Nat} {T N : Nat → Nat} {I : IT} {L : LT} {R : RT} {a b c u e : Int64}  : Ex (d + 1) 122 [.long a, .long b, .long c, .long u, .long e] (T, N, I, L, R) 0 0 (pL T N R (fun x9 I9 L9 => x9 = (dfP a b c u e) ∧ I9 = I ∧ L9 = L)) := by
  refine ⟨_, rfl, Nat.le_of_ble_eq_true rfl, fun V C S => ?_⟩
  show V 0 [(0, .long a), (2, .long b), (4, .long c), (6, .long u), (8, .long e)] [] (T, N, I, L, R) 0 0
  refine k_ldc2_w C rfl rfl rfl ?_
  refine k_lload_n C rfl rfl rfl ?_
  refine k_lmul C rfl rfl ?_
  refine k_lload_n C rfl rfl rfl ?_
  refine k_lmul C rfl rfl ?_
  refine k_lload_n C rfl rfl rfl ?_
  refine k_lmul C rfl rfl ?_
  refine k_lload C rfl rfl rfl ?_
  refine k_lmul C rfl rfl ?_
  refine k_lload C rfl rfl rfl ?_
  refine k_lmul C rfl rfl ?_
  refine k_lload C rfl rfl rfl ?_
  refine k_lmul C rfl rfl ?_
  refine k_ldc2_w C rfl rfl rfl ?_
  refine k_lload_n C rfl rfl rfl ?_
  refine k_lmul C rfl rfl ?_
  refine k_lload_n C rfl rfl rfl ?_
  refine k_lmul C rfl rfl ?_
  refine k_lload_n C rfl rfl rfl ?_
  refine k_lmul C rfl rfl ?_
  refine k_lload C rfl rfl rfl ?_
  refine k_lmul C rfl rfl ?_
  refine k_lload C rfl rfl rfl ?_
  refine k_lmul C rfl rfl ?_
  refine k_lload C rfl rfl rfl ?_
  refine k_lmul C rfl rfl ?_
  refine k_lsub C rfl rfl ?_
  refine k_ldc2_w C rfl rfl rfl ?_
  refine k_lload_n C rfl rfl rfl ?_
  refine k_lmul C rfl rfl ?_
  refine k_lload_n C rfl rfl rfl ?_
  refine k_lmul C rfl rfl ?_
  refine k_lload C rfl rfl rfl ?_
  refine k_lmul C rfl rfl ?_
  refine k_lload C rfl rfl rfl ?_
  refine k_lmul C rfl rfl ?_
  refine k_lload C rfl rfl rfl ?_
  refine k_lmul C rfl rfl ?_
  refine k_lload C rfl rfl rfl ?_
  refine k_lmul C rfl rfl ?_
  refine k_lsub C rfl rfl ?_
  refine k_ldc2_w C rfl rfl rfl ?_
  refine k_lload_n C rfl rfl rfl ?_
  refine k_lmul C rfl rfl ?_
  refine k_lload_n C rfl rfl rfl ?_
  refine k_lmul C rfl rfl ?_
  refine k_lload C rfl rfl rfl ?_
  refine k_lmul C rfl rfl ?_
  refine k_lload C rfl rfl rfl ?_
  refine k_lmul C rfl rfl ?_
  refine k_lload C rfl rfl rfl ?_
  refine k_lmul C rfl rfl ?_
  refine k_lload C rfl rfl rfl ?_
  refine k_lmul C rfl rfl ?_
  refine k_ladd C rfl rfl ?_
  refine k_ldc2_w C rfl rfl rfl ?_
  refine k_lload_n C rfl rfl rfl ?_
  refine k_lmul C rfl rfl ?_
  refine k_lload_n C rfl rfl rfl ?_
  refine k_lmul C rfl rfl ?_
  refine k_lload C rfl rfl rfl ?_
  refine k_lmul C rfl rfl ?_
  refine k_lload C rfl rfl rfl ?_
  refine k_lmul C rfl rfl ?_
  refine k_lload C rfl rfl rfl ?_
  refine k_lmul C rfl rfl ?_
  refine k_lload C rfl rfl rfl ?_
  refine k_lmul C rfl rfl ?_
  refine k_lsub C rfl rfl ?_
  refine k_ldc2_w C rfl rfl rfl ?_
  refine k_lload_n C rfl rfl rfl ?_
  refine k_lmul C rfl rfl ?_
  refine k_lload_n C rfl rfl rfl ?_
  refine k_lmul C rfl rfl ?_
  refine k_lload_n C rfl rfl rfl ?_
  refine k_lmul C rfl rfl ?_
  refine k_lload C rfl rfl rfl ?_
  refine k_lmul C rfl rfl ?_
  refine k_lload C rfl rfl rfl ?_
  refine k_lmul C rfl rfl ?_
  refine k_lload C rfl rfl rfl ?_
  refine k_lmul C rfl rfl ?_
  refine k_ladd C rfl rfl ?_
  refine k_ldc2_w C rfl rfl rfl ?_
  refine k_lload_n C rfl rfl rfl ?_
  refine k_lmul C rfl rfl ?_
  refine k_lload_n C rfl rfl rfl ?_
  refine k_lmul C rfl rfl ?_
  refine k_lload_n C rfl rfl rfl ?_
  refine k_lmul C rfl rfl ?_
  refine k_lload C rfl rfl rfl ?_
  refine k_lmul C rfl rfl ?_
  refine k_lload C rfl rfl rfl ?_
  refine k_lmul C rfl rfl ?_
  refine k_lload C rfl rfl rfl ?_
  refine k_lmul C rfl rfl ?_
  refine k_lsub C rfl rfl ?_
  refine k_ldc2_w C rfl rfl rfl ?_
  refine k_lload_n C rfl rfl rfl ?_
  refine k_lmul C rfl rfl ?_
  refine k_lload_n C rfl rfl rfl ?_
  refine k_lmul C rfl rfl ?_
  refine k_lload C rfl rfl rfl ?_
  refine k_lmul C rfl rfl ?_
  refine k_lload C rfl rfl rfl ?_
  refine k_lmul C rfl rfl ?_
  refine k_lload C rfl rfl rfl ?_
  refine k_lmul C rfl rfl ?_
  refine k_lload C rfl rfl rfl ?_
  refine k_lmul C rfl rfl ?_
  refine k_lsub C rfl rfl ?_
  refine k_ldc2_w C rfl rfl rfl ?_
  refine k_lload_n C rfl rfl rfl ?_
  refine k_lmul C rfl rfl ?_
  refine k_lload_n C rfl rfl rfl ?_
  refine k_lmul C rfl rfl ?_
  refine k_lload C rfl rfl rfl ?_
  refine k_lmul C rfl rfl ?_
  refine k_lload C rfl rfl rfl ?_
  refine k_lmul C rfl rfl ?_
  refine k_lload C rfl rfl rfl ?_
  refine k_lmul C rfl rfl ?_
  refine k_lload C rfl rfl rfl ?_
  refine k_lmul C rfl rfl ?_
  refine k_ladd C rfl rfl ?_
  refine k_ldc2_w C rfl rfl rfl ?_
  refine k_lload_n C rfl rfl rfl ?_
  refine k_lmul C rfl rfl ?_
  refine k_lload C rfl rfl rfl ?_
  refine k_lmul C rfl rfl ?_
  refine k_lload C rfl rfl rfl ?_
  refine k_lmul C rfl rfl ?_
  refine k_lload C rfl rfl rfl ?_
  refine k_lmul C rfl rfl ?_
  refine k_lload C rfl rfl rfl ?_
  refine k_lmul C rfl rfl ?_
  refine k_lload C rfl rfl rfl ?_
  refine k_lmul C rfl rfl ?_
  refine k_ladd C rfl rfl ?_
  refine k_ldc2_w C rfl rfl rfl ?_
  refine k_lload_n C rfl rfl rfl ?_
  refine k_lmul C rfl rfl ?_
  refine k_lload C rfl rfl rfl ?_
  refine k_lmul C rfl rfl ?_
  refine k_lload C rfl rfl rfl ?_
  refine k_lmul C rfl rfl ?_
  refine k_lload C rfl rfl rfl ?_
  refine k_lmul C rfl rfl ?_
  refine k_lload C rfl rfl rfl ?_
  refine k_lmul C rfl rfl ?_
  refine k_lload C rfl rfl rfl ?_
  refine k_lmul C rfl rfl ?_
  refine k_lsub C rfl rfl ?_
  refine k_ldc2_w C rfl rfl rfl ?_
  refine k_lload_n C rfl rfl rfl ?_
  refine k_lmul C rfl rfl ?_
  refine k_lload_n C rfl rfl rfl ?_
  refine k_lmul C rfl rfl ?_
  refine k_lload_n C rfl rfl rfl ?_
  refine k_lmul C rfl rfl ?_
  refine k_lload_n C rfl rfl rfl ?_
  refine k_lmul C rfl rfl ?_
  refine k_lload C rfl rfl rfl ?_
  refine k_lmul C rfl rfl ?_
  refine k_lload C rfl rfl rfl ?_
  refine k_lmul C rfl rfl ?_
  refine k_lsub C rfl rfl ?_
  refine k_ldc2_w C rfl rfl rfl ?_
  refine k_lload_n C rfl rfl rfl ?_
  refine k_lmul C rfl rfl ?_
  refine k_lload_n C rfl rfl rfl ?_
  refine k_lmul C rfl rfl ?_
  refine k_lload_n C rfl rfl rfl ?_
  refine k_lmul C rfl rfl ?_
  refine k_lload C rfl rfl rfl ?_
  refine k_lmul C rfl rfl ?_
  refine k_lload C rfl rfl rfl ?_
  refine k_lmul C rfl rfl ?_
  refine k_lload C rfl rfl rfl ?_
  refine k_lmul C rfl rfl ?_
  refine k_ladd C rfl rfl ?_
  refine k_ldc2_w C rfl rfl rfl ?_
  refine k_lload_n C rfl rfl rfl ?_
  refine k_lmul C rfl rfl ?_
  refine k_lload_n C rfl rfl rfl ?_
  refine k_lmul C rfl rfl ?_
  refine k_lload_n C rfl rfl rfl ?_
  refine k_lmul C rfl rfl ?_
  refine k_lload C rfl rfl rfl ?_
  refine k_lmul C rfl rfl ?_
  refine k_lload C rfl rfl rfl ?_
  refine k_lmul C rfl rfl ?_
  refine k_lload C rfl rfl rfl ?_
  refine k_lmul C rfl rfl ?_
  refine k_lsub C rfl rfl ?_
  refine k_ldc2_w C rfl rfl rfl ?_
  refine k_lload_n C rfl rfl rfl ?_
  refine k_lmul C rfl rfl ?_
  refine k_lload_n C rfl rfl rfl ?_
  refine k_lmul C rfl rfl ?_
  refine k_lload C rfl rfl rfl ?_
  refine k_lmul C rfl rfl ?_
  refine k_lload C rfl rfl rfl ?_
  refine k_lmul C rfl rfl ?_
  refine k_lload C rfl rfl rfl ?_
  refine k_lmul C rfl rfl ?_
  refine k_lload C rfl rfl rfl ?_
  refine k_lmul C rfl rfl ?_
  refine k_lsub C rfl rfl ?_
  refine k_lload_n C rfl rfl rfl ?_
  refine k_lload_n C rfl rfl rfl ?_
  refine k_lmul C rfl rfl ?_
  refine k_lload C rfl rfl rfl ?_
  refine k_lmul C rfl rfl ?_
  refine k_lload C rfl rfl rfl ?_
  refine k_lmul C rfl rfl ?_
  refine k_lload C rfl rfl rfl ?_
  refine k_lmul C rfl rfl ?_
  refine k_lload C rfl rfl rfl ?_
  refine k_lmul C rfl rfl ?_
  refine k_ladd C rfl rfl ?_
  exact k_lret C rfl rfl (Nat.le_of_ble_eq_true rfl) (Nat.le_of_ble_eq_true rfl) ⟨_, _, _, rfl, rfl, ⟨rfl, rfl, rfl⟩⟩

theorem e_rootsOfQuartic {d : Nat} {T N : Nat → Nat} {I : IT} {L : LT} {R : RT} {a b c u e : Int64}  {df : Int64} (hdf : dfP a b c u e = df) {sd fo th zr : Int64} (hsd : sdP a b c = sd) (hfo : foP a b c u e = fo) (hth : thP a b c u = th) (hzr : zrP a b c u e = zr) : Ex (d + 2) 124 [.long a, .long b, .long c, .long u, .long e] (T, N, I, L, R) 0 0 (pI T N R (fun x9 I9 L9 => x9 = (qC df sd fo th zr) ∧ I9 = I ∧ L9 = L)) := by
  refine ⟨_, rfl, Nat.le_of_ble_eq_true rfl, fun V C S => ?_⟩
  show V 0 [(0, .long a), (2, .long b), (4, .long c), (6, .long u), (8, .long e)] [] (T, N, I, L, R) 0 0
  refine k_lload_n C rfl rfl rfl ?_
  refine k_lload_n C rfl rfl rfl ?_
  refine k_lload C rfl rfl rfl ?_
  refine k_lload C rfl rfl rfl ?_
  refine k_lload C rfl rfl rfl ?_
  refine c_SL C e_differences rfl rfl rfl rfl rfl rfl rfl (Nat.le_of_ble_eq_true rfl) (Nat.le_of_ble_eq_true rfl) (Nat.le_of_ble_eq_true rfl) ?_
  rintro _ _ _ ⟨hx7, hI8, hL9⟩
  have hx7 := hx7.symm; subst hx7
  have hI8 := hI8.symm; subst hI8; have hL9 := hL9.symm; subst hL9
  rw [hdf]
  refine k_lstore C (lw := [(10, .long _), (0, .long _), (2, .long _), (4, .long _), (6, .long _), (8, .long _)]) rfl rfl (Nat.le_of_ble_eq_true rfl) rfl ?_
  refine k_ldc2_w C rfl rfl rfl ?_
  refine k_lload_n C rfl rfl rfl ?_
  refine k_lmul C rfl rfl ?_
  refine k_lload C rfl rfl rfl ?_
  refine k_lmul C rfl rfl ?_
  refine k_ldc2_w C rfl rfl rfl ?_
  refine k_lload_n C rfl rfl rfl ?_
  refine k_lmul C rfl rfl ?_
  refine k_lload_n C rfl rfl rfl ?_
  refine k_lmul C rfl rfl ?_
  refine k_lsub C rfl rfl ?_
  refine k_lstore C (lw := [(12, .long _), (10, .long _), (0, .long _), (2, .long _), (4, .long _), (6, .long _), (8, .long _)]) rfl rfl (Nat.le_of_ble_eq_true rfl) rfl ?_
  refine k_ldc2_w C rfl rfl rfl ?_
  refine k_lload_n C rfl rfl rfl ?_
  refine k_lmul C rfl rfl ?_
  refine k_lload_n C rfl rfl rfl ?_
  refine k_lmul C rfl rfl ?_
  refine k_lload_n C rfl rfl rfl ?_
  refine k_lmul C rfl rfl ?_
  refine k_lload C rfl rfl rfl ?_
  refine k_lmul C rfl rfl ?_
  refine k_ldc2_w C rfl rfl rfl ?_
  refine k_lload_n C rfl rfl rfl ?_
  refine k_lmul C rfl rfl ?_
  refine k_lload_n C rfl rfl rfl ?_
  refine k_lmul C rfl rfl ?_
  refine k_lload C rfl rfl rfl ?_
  refine k_lmul C rfl rfl ?_
  refine k_lload C rfl rfl rfl ?_
  refine k_lmul C rfl rfl ?_
  refine k_lsub C rfl rfl ?_
  refine k_ldc2_w C rfl rfl rfl ?_
  refine k_lload_n C rfl rfl rfl ?_
  refine k_lmul C rfl rfl ?_
  refine k_lload_n C rfl rfl rfl ?_
  refine k_lmul C rfl rfl ?_
  refine k_lload_n C rfl rfl rfl ?_
  refine k_lmul C rfl rfl ?_
  refine k_lload C rfl rfl rfl ?_
  refine k_lmul C rfl rfl ?_
  refine k_ladd C rfl rfl ?_
  refine k_ldc2_w C rfl rfl rfl ?_
  refine k_lload_n C rfl rfl rfl ?_
  refine k_lmul C rfl rfl ?_
  refine k_lload_n C rfl rfl rfl ?_
  refine k_lmul C rfl rfl ?_
  refine k_lload_n C rfl rfl rfl ?_
  refine k_lmul C rfl rfl ?_
  refine k_lload C rfl rfl rfl ?_
  refine k_lmul C rfl rfl ?_
  refine k_lsub C rfl rfl ?_
  refine k_ldc2_w C rfl rfl rfl ?_
  refine k_lload_n C rfl rfl rfl ?_
  refine k_lmul C rfl rfl ?_
  refine k_lload_n C rfl rfl rfl ?_
  refine k_lmul C rfl rfl ?_
  refine k_lload_n C rfl rfl rfl ?_
  refine k_lmul C rfl rfl ?_
  refine k_lload_n C rfl rfl rfl ?_
  refine k_lmul C rfl rfl ?_
  refine k_lsub C rfl rfl ?_
  refine k_lstore C (lw := [(14, .long _), (12, .long _), (10, .long _), (0, .long _), (2, .long _), (4, .long _), (6, .long _), (8, .long _)]) rfl rfl (Nat.le_of_ble_eq_true rfl) rfl ?_
  show V 97 [(14, .long (foP a b c u e)), (12, .long (sdP a b c)), (10, .long df), (0, .long a), (2, .long b), (4, .long c), (6, .long u), (8, .long e)] [] (T, N, I, L, R) 0 0
  rw [hsd, hfo]
  refine k_lload C rfl rfl rfl ?_
  refine k_lconst C (x := 0) rfl rfl rfl ?_
  refine k_lcmp C rfl rfl ?_
  refine k_if_ge C (t := 106) rfl rfl rfl (fun c101 => ?_) (fun c101 => ?_)
  · skip
    refine k_lload C rfl rfl rfl ?_
    refine k_lconst C (x := 0) rfl rfl rfl ?_
    refine k_lcmp C rfl rfl ?_
    refine k_if_le C (t := 133) rfl rfl rfl (fun c110 => ?_) (fun c110 => ?_)
    · skip
      refine k_lload C rfl rfl rfl ?_
      refine k_lconst C (x := 0) rfl rfl rfl ?_
      refine k_lcmp C rfl rfl ?_
      refine k_if_ne C (t := 177) rfl rfl rfl (fun c137 => ?_) (fun c137 => ?_)
      · skip
        refine k_lload C rfl rfl rfl ?_
        refine k_lload C rfl rfl rfl ?_
        refine k_lmul C rfl rfl ?_
        refine k_ldc2_w C rfl rfl rfl ?_
        refine k_lload_n C rfl rfl rfl ?_
        refine k_lmul C rfl rfl ?_
        refine k_lload C rfl rfl rfl ?_
        refine k_lmul C rfl rfl ?_
        refine k_lsub C rfl rfl ?_
        refine k_ldc2_w C rfl rfl rfl ?_
        refine k_lload_n C rfl rfl rfl ?_
        refine k_lmul C rfl rfl ?_
        refine k_lload C rfl rfl rfl ?_
        refine k_lmul C rfl rfl ?_
        refine k_ladd C rfl rfl ?_
        show V 200 [(14, .long fo), (12, .long sd), (10, .long df), (0, .long a), (2, .long b), (4, .long c), (6, .long u), (8, .long e)] [.long (zrP a b c u e)] (T, N, I, L, R) 0 0
        rw [hzr]
        refine k_lconst C (x := 0) rfl rfl rfl ?_
        refine k_lcmp C rfl rfl ?_
        refine k_if_ne C (t := 207) rfl rfl rfl (fun c202 => ?_) (fun c202 => ?_)
        · skip
          refine k_lload C rfl rfl rfl ?_
          refine k_lconst C (x := 0) rfl rfl rfl ?_
          refine k_lcmp C rfl rfl ?_
          refine k_if_ge C (t := 225) rfl rfl rfl (fun c211 => ?_) (fun c211 => ?_)
          · skip
            refine k_iconst C (x := 1) rfl rfl rfl ?_
            exact k_iret C rfl (Or.inl rfl) (Nat.le_of_ble_eq_true rfl) (Nat.le_of_ble_eq_true rfl) ⟨_, _, _, rfl, rfl, by rw [qC, if_pos c101, if_pos c110, if_pos c137, if_pos c202, if_pos c211], rfl, rfl⟩
          refine k_lload C rfl rfl rfl ?_
          refine k_lconst C (x := 0) rfl rfl rfl ?_
          refine k_lcmp C rfl rfl ?_
          refine k_if_ge C (t := 225) rfl rfl rfl (fun c218 => ?_) (fun c218 => ?_)
          · skip
            refine k_iconst C (x := 1) rfl rfl rfl ?_
            exact k_iret C rfl (Or.inl rfl) (Nat.le_of_ble_eq_true rfl) (Nat.le_of_ble_eq_true rfl) ⟨_, _, _, rfl, rfl, by rw [qC, if_pos c101, if_pos c110, if_pos c137, if_pos c202, if_neg c211, if_pos c218], rfl, rfl⟩
          refine k_iconst C (x := 3) rfl rfl rfl ?_
          refine k_goto C (pc2 := 226) rfl rfl ?_
          exact k_iret C rfl (Or.inl rfl) (Nat.le_of_ble_eq_true rfl) (Nat.le_of_ble_eq_true rfl) ⟨_, _, _, rfl, rfl, by rw [qC, if_pos c101, if_pos c110, if_pos c137, if_pos c202, if_neg c211, if_neg c218], rfl, rfl⟩
        refine k_iconst C (x := 2) rfl rfl rfl ?_
        exact k_iret C rfl (Or.inl rfl) (Nat.le_of_ble_eq_true rfl) (Nat.le_of_ble_eq_true rfl) ⟨_, _, _, rfl, rfl, by rw [qC, if_pos c101, if_pos c110, if_pos c137, if_neg c202], rfl, rfl⟩
      refine k_lload_n C rfl rfl rfl ?_
      refine k_lload_n C rfl rfl rfl ?_
      refine k_lmul C rfl rfl ?_
      refine k_lload_n C rfl rfl rfl ?_
      refine k_lmul C rfl rfl ?_
      refine k_ldc2_w C rfl rfl rfl ?_
      refine k_lload C rfl rfl rfl ?_
      refine k_lmul C rfl rfl ?_
      refine k_lload_n C rfl rfl rfl ?_
      refine k_lmul C rfl rfl ?_
      refine k_lload_n C rfl rfl rfl ?_
      refine k_lmul C rfl rfl ?_
      refine k_ladd C rfl rfl ?_
      refine k_ldc2_w C rfl rfl rfl ?_
      refine k_lload_n C rfl rfl rfl ?_
      refine k_lmul C rfl rfl ?_
      refine k_lload_n C rfl rfl rfl ?_
      refine k_lmul C rfl rfl ?_
      refine k_lload C rfl rfl rfl ?_
      refine k_lmul C rfl rfl ?_
      refine k_lsub C rfl rfl ?_
      refine k_lstore C (lw := [(16, .long _), (14, .long _), (12, .long _), (10, .long _), (0, .long _), (2, .long _), (4, .long _), (6, .long _), (8, .long _)]) rfl rfl (Nat.le_of_ble_eq_true rfl) rfl ?_
      show V 169 [(16, .long (thP a b c u)), (14, .long fo), (12, .long sd), (10, .long df), (0, .long a), (2, .long b), (4, .long c), (6, .long u), (8, .long e)] [] (T, N, I, L, R) 0 0
      rw [hth]
      refine k_lload C rfl rfl rfl ?_
      refine k_lload C rfl rfl rfl ?_
      refine c_SI C e_rootsOfDoubles rfl rfl rfl rfl rfl rfl rfl (Nat.le_of_ble_eq_true rfl) (Nat.le_of_ble_eq_true rfl) (Nat.le_of_ble_eq_true rfl) ?_
      rintro _ _ _ ⟨hx7, hI8, hL9⟩
      have hx7 := hx7.symm; subst hx7
      have hI8 := hI8.symm; subst hI8; have hL9 := hL9.symm; subst hL9
      exact k_iret C rfl (Or.inl rfl) (Nat.le_of_ble_eq_true rfl) (Nat.le_of_ble_eq_true rfl) ⟨_, _, _, rfl, rfl, by rw [qC, if_pos c101, if_pos c110, if_neg c137], rfl, rfl⟩
    refine k_lload C rfl rfl rfl ?_
    refine k_lconst C (x := 0) rfl rfl rfl ?_
    refine k_lcmp C rfl rfl ?_
    refine k_if_ge C (t := 131) rfl rfl rfl (fun c117 => ?_) (fun c117 => ?_)
    · skip
      refine k_iconst C (x := 0) rfl rfl rfl ?_
      exact k_iret C rfl (Or.inl rfl) (Nat.le_of_ble_eq_true rfl) (Nat.le_of_ble_eq_true rfl) ⟨_, _, _, rfl, rfl, by rw [qC, if_pos c101, if_neg c110, if_pos c117], rfl, rfl⟩
    refine k_lload C rfl rfl rfl ?_
    refine k_lconst C (x := 0) rfl rfl rfl ?_
    refine k_lcmp C rfl rfl ?_
    refine k_if_ge C (t := 131) rfl rfl rfl (fun c124 => ?_) (fun c124 => ?_)
    · skip
      refine k_iconst C (x := 0) rfl rfl rfl ?_
      exact k_iret C rfl (Or.inl rfl) (Nat.le_of_ble_eq_true rfl) (Nat.le_of_ble_eq_true rfl) ⟨_, _, _, rfl, rfl, by rw [qC, if_pos c101, if_neg c110, if_neg c117, if_pos c124], rfl, rfl⟩
    refine k_iconst C (x := 4) rfl rfl rfl ?_
    refine k_goto C (pc2 := 132) rfl rfl ?_
    exact k_iret C rfl (Or.inl rfl) (Nat.le_of_ble_eq_true rfl) (Nat.le_of_ble_eq_true rfl) ⟨_, _, _, rfl, rfl, by rw [qC, if_pos c101, if_neg c110, if_neg c117, if_neg c124], rfl, rfl⟩
  refine k_iconst C (x := 2) rfl rfl rfl ?_
  exact k_iret C rfl (Or.inl rfl) (Nat.le_of_ble_eq_true rfl) (Nat.le_of_ble_eq_true rfl) ⟨_, _, _, rfl, rfl, by rw [qC, if_neg c101], rfl, rfl⟩

theorem e_m_realOfQuartic {d : Nat} {T N : Nat → Nat} {I : IT} {L : LT} {R : RT} {a b c u e : Int64} {sd fo th zr : Int64} (hsd : sdP a b c = sd) (hfo : foP a b c u e = fo) (hth : thP a b c u = th) (hzr : zrP a b c u e = zr)  {on ds : Int64} (hon : onP a b c u e = on) (hds : dsP zr on = ds)  : Ex (d + 1) 310 [.long a, .long b, .long c, .long u, .long e] (T, N, I, L, R) 0 0 (pI T N R (fun x9 I9 L9 => x9 = (qM ds sd fo th zr) ∧ I9 = I ∧ L9 = L)) := by
  refine ⟨_, rfl, Nat.le_of_ble_eq_true rfl, fun V C S => ?_⟩
  show V 0 [(0, .long a), (2, .long b), (4, .long c), (6, .long u), (8, .long e)] [] (T, N, I, L, R) 0 0
  refine k_lload C rfl rfl rfl ?_
  refine k_lload C rfl rfl rfl ?_
  refine k_lmul C rfl rfl ?_
  refine k_ldc2_w C rfl rfl rfl ?_
  refine k_lload_n C rfl rfl rfl ?_
  refine k_lmul C rfl rfl ?_
  refine k_lload C rfl rfl rfl ?_
  refine k_lmul C rfl rfl ?_
  refine k_lsub C rfl rfl ?_
  refine k_ldc2_w C rfl rfl rfl ?_
  refine k_lload_n C rfl rfl rfl ?_
  refine k_lmul C rfl rfl ?_
  refine k_lload C rfl rfl rfl ?_
  refine k_lmul C rfl rfl ?_
  refine k_ladd C rfl rfl ?_
  refine k_lstore C (lw := [(10, .long _), (0, .long _), (2, .long _), (4, .long _), (6, .long _), (8, .long _)]) rfl rfl (Nat.le_of_ble_eq_true rfl) rfl ?_
  show V 25 [(10, .long (zrP a b c u e)), (0, .long a), (2, .long b), (4, .long c), (6, .long u), (8, .long e)] [] (T, N, I, L, R) 0 0
  rw [hzr]
  refine k_ldc2_w C rfl rfl rfl ?_
  refine k_lload C rfl rfl rfl ?_
  refine k_lmul C rfl rfl ?_
  refine k_lload C rfl rfl rfl ?_
  refine k_lmul C rfl rfl ?_
  refine k_lload C rfl rfl rfl ?_
  refine k_lmul C rfl rfl ?_
  refine k_ldc2_w C rfl rfl rfl ?_
  refine k_lload_n C rfl rfl rfl ?_
  refine k_lmul C rfl rfl ?_
  refine k_lload C rfl rfl rfl ?_
  refine k_lmul C rfl rfl ?_
  refine k_lload C rfl rfl rfl ?_
  refine k_lmul C rfl rfl ?_
  refine k_lsub C rfl rfl ?_
  refine k_ldc2_w C rfl rfl rfl ?_
  refine k_lload_n C rfl rfl rfl ?_
  refine k_lmul C rfl rfl ?_
  refine k_lload_n C rfl rfl rfl ?_
  refine k_lmul C rfl rfl ?_
  refine k_lload C rfl rfl rfl ?_
  refine k_lmul C rfl rfl ?_
  refine k_ladd C rfl rfl ?_
  refine k_ldc2_w C rfl rfl rfl ?_
  refine k_lload_n C rfl rfl rfl ?_
  refine k_lmul C rfl rfl ?_
  refine k_lload C rfl rfl rfl ?_
  refine k_lmul C rfl rfl ?_
  refine k_lload C rfl rfl rfl ?_
  refine k_lmul C rfl rfl ?_
  refine k_ladd C rfl rfl ?_
  refine k_ldc2_w C rfl rfl rfl ?_
  refine k_lload_n C rfl rfl rfl ?_
  refine k_lmul C rfl rfl ?_
  refine k_lload C rfl rfl rfl ?_
  refine k_lmul C rfl rfl ?_
  refine k_lload C rfl rfl rfl ?_
  refine k_lmul C rfl rfl ?_
  refine k_lsub C rfl rfl ?_
  refine k_lstore C (lw := [(12, .long _), (10, .long _), (0, .long _), (2, .long _), (4, .long _), (6, .long _), (8, .long _)]) rfl rfl (Nat.le_of_ble_eq_true rfl) rfl ?_
  show V 86 [(12, .long (onP a b c u e)), (10, .long zr), (0, .long a), (2, .long b), (4, .long c), (6, .long u), (8, .long e)] [] (T, N, I, L, R) 0 0
  rw [hon]
  refine k_ldc2_w C rfl rfl rfl ?_
  refine k_lload C rfl rfl rfl ?_
  refine k_lmul C rfl rfl ?_
  refine k_lload C rfl rfl rfl ?_
  refine k_lmul C rfl rfl ?_
  refine k_lload C rfl rfl rfl ?_
  refine k_lmul C rfl rfl ?_
  refine k_lload C rfl rfl rfl ?_
  refine k_lload C rfl rfl rfl ?_
  refine k_lmul C rfl rfl ?_
  refine k_lsub C rfl rfl ?_
  refine k_lstore C (lw := [(14, .long _), (12, .long _), (10, .long _), (0, .long _), (2, .long _), (4, .long _), (6, .long _), (8, .long _)]) rfl rfl (Nat.le_of_ble_eq_true rfl) rfl ?_
  show V 106 [(14, .long (dsP zr on)), (12, .long on), (10, .long zr), (0, .long a), (2, .long b), (4, .long c), (6, .long u), (8, .long e)] [] (T, N, I, L, R) 0 0
  rw [hds]
  refine k_ldc2_w C rfl rfl rfl ?_
  refine k_lload_n C rfl rfl rfl ?_
  refine k_lmul C rfl rfl ?_
  refine k_lload C rfl rfl rfl ?_
  refine k_lmul C rfl rfl ?_
  refine k_ldc2_w C rfl rfl rfl ?_
  refine k_lload_n C rfl rfl rfl ?_
  refine k_lmul C rfl rfl ?_
  refine k_lload_n C rfl rfl rfl ?_
  refine k_lmul C rfl rfl ?_
  refine k_lsub C rfl rfl ?_
  refine k_lstore C (lw := [(16, .long _), (14, .long _), (12, .long _), (10, .long _), (0, .long _), (2, .long _), (4, .long _), (6, .long _), (8, .long _)]) rfl rfl (Nat.le_of_ble_eq_true rfl) rfl ?_
  refine k_lload_n C rfl rfl rfl ?_
  refine k_lload_n C rfl rfl rfl ?_
  refine k_lmul C rfl rfl ?_
  refine k_lload_n C rfl rfl rfl ?_
  refine k_lmul C rfl rfl ?_
  refine k_ldc2_w C rfl rfl rfl ?_
  refine k_lload C rfl rfl rfl ?_
  refine k_lmul C rfl rfl ?_
  refine k_lload_n C rfl rfl rfl ?_
  refine k_lmul C rfl rfl ?_
  refine k_lload_n C rfl rfl rfl ?_
  refine k_lmul C rfl rfl ?_
  refine k_ladd C rfl rfl ?_
  refine k_ldc2_w C rfl rfl rfl ?_
  refine k_lload_n C rfl rfl rfl ?_
  refine k_lmul C rfl rfl ?_
  refine k_lload_n C rfl rfl rfl ?_
  refine k_lmul C rfl rfl ?_
  refine k_lload C rfl rfl rfl ?_
  refine k_lmul C rfl rfl ?_
  refine k_lsub C rfl rfl ?_
  refine k_lstore C (lw := [(18, .long _), (16, .long _), (14, .long _), (12, .long _), (10, .long _), (0, .long _), (2, .long _), (4, .long _), (6, .long _), (8, .long _)]) rfl rfl (Nat.le_of_ble_eq_true rfl) rfl ?_
  refine k_ldc2_w C rfl rfl rfl ?_
  refine k_lload_n C rfl rfl rfl ?_
  refine k_lmul C rfl rfl ?_
  refine k_lload_n C rfl rfl rfl ?_
  refine k_lmul C rfl rfl ?_
  refine k_lload_n C rfl rfl rfl ?_
  refine k_lmul C rfl rfl ?_
  refine k_lload C rfl rfl rfl ?_
  refine k_lmul C rfl rfl ?_
  refine k_ldc2_w C rfl rfl rfl ?_
  refine k_lload_n C rfl rfl rfl ?_
  refine k_lmul C rfl rfl ?_
  refine k_lload_n C rfl rfl rfl ?_
  refine k_lmul C rfl rfl ?_
  refine k_lload C rfl rfl rfl ?_
  refine k_lmul C rfl rfl ?_
  refine k_lload C rfl rfl rfl ?_
  refine k_lmul C rfl rfl ?_
  refine k_lsub C rfl rfl ?_
  refine k_ldc2_w C rfl rfl rfl ?_
  refine k_lload_n C rfl rfl rfl ?_
  refine k_lmul C rfl rfl ?_
  refine k_lload_n C rfl rfl rfl ?_
  refine k_lmul C rfl rfl ?_
  refine k_lload_n C rfl rfl rfl ?_
  refine k_lmul C rfl rfl ?_
  refine k_lload C rfl rfl rfl ?_
  refine k_lmul C rfl rfl ?_
  refine k_ladd C rfl rfl ?_
  refine k_ldc2_w C rfl rfl rfl ?_
  refine k_lload_n C rfl rfl rfl ?_
  refine k_lmul C rfl rfl ?_
  refine k_lload_n C rfl rfl rfl ?_
  refine k_lmul C rfl rfl ?_
  refine k_lload_n C rfl rfl rfl ?_
  refine k_lmul C rfl rfl ?_
  refine k_lload C rfl rfl rfl ?_
  refine k_lmul C rfl rfl ?_
  refine k_lsub C rfl rfl ?_
  refine k_ldc2_w C rfl rfl rfl ?_
  refine k_lload_n C rfl rfl rfl ?_
  refine k_lmul C rfl rfl ?_
  refine k_lload_n C rfl rfl rfl ?_
  refine k_lmul C rfl rfl ?_
  refine k_lload_n C rfl rfl rfl ?_
  refine k_lmul C rfl rfl ?_
  refine k_lload_n C rfl rfl rfl ?_
  refine k_lmul C rfl rfl ?_
  refine k_lsub C rfl rfl ?_
  refine k_lstore C (lw := [(20, .long _), (18, .long _), (16, .long _), (14, .long _), (12, .long _), (10, .long _), (0, .long _), (2, .long _), (4, .long _), (6, .long _), (8, .long _)]) rfl rfl (Nat.le_of_ble_eq_true rfl) rfl ?_
  show V 219 [(20, .long (foP a b c u e)), (18, .long (thP a b c u)), (16, .long (sdP a b c)), (14, .long ds), (12, .long on), (10, .long zr), (0, .long a), (2, .long b), (4, .long c), (6, .long u), (8, .long e)] [] (T, N, I, L, R) 0 0
  rw [hfo, hth, hsd]
  refine k_lload C rfl rfl rfl ?_
  refine k_lconst C (x := 0) rfl rfl rfl ?_
  refine k_lcmp C rfl rfl ?_
  refine k_if_ge C (t := 228) rfl rfl rfl (fun c223 => ?_) (fun c223 => ?_)
  · skip
    refine k_lload C rfl rfl rfl ?_
    refine k_lconst C (x := 0) rfl rfl rfl ?_
    refine k_lcmp C rfl rfl ?_
    refine k_if_le C (t := 255) rfl rfl rfl (fun c232 => ?_) (fun c232 => ?_)
    · skip
      refine k_lload C rfl rfl rfl ?_
      refine k_lconst C (x := 0) rfl rfl rfl ?_
      refine k_lcmp C rfl rfl ?_
      refine k_if_ne C (t := 293) rfl rfl rfl (fun c259 => ?_) (fun c259 => ?_)
      · skip
        refine k_lload C rfl rfl rfl ?_
        refine k_lconst C (x := 0) rfl rfl rfl ?_
        refine k_lcmp C rfl rfl ?_
        refine k_if_ne C (t := 302) rfl rfl rfl (fun c297 => ?_) (fun c297 => ?_)
        · skip
          refine k_lload C rfl rfl rfl ?_
          refine k_lconst C (x := 0) rfl rfl rfl ?_
          refine k_lcmp C rfl rfl ?_
          refine k_if_ge C (t := 320) rfl rfl rfl (fun c306 => ?_) (fun c306 => ?_)
          · skip
            refine k_iconst C (x := 1) rfl rfl rfl ?_
            exact k_iret C rfl (Or.inl rfl) (Nat.le_of_ble_eq_true rfl) (Nat.le_of_ble_eq_true rfl) ⟨_, _, _, rfl, rfl, by rw [qM, if_pos c223, if_pos c232, if_pos c259, if_pos c297, if_pos c306], rfl, rfl⟩
          refine k_lload C rfl rfl rfl ?_
          refine k_lconst C (x := 0) rfl rfl rfl ?_
          refine k_lcmp C rfl rfl ?_
          refine k_if_ge C (t := 320) rfl rfl rfl (fun c313 => ?_) (fun c313 => ?_)
          · skip
            refine k_iconst C (x := 1) rfl rfl rfl ?_
            exact k_iret C rfl (Or.inl rfl) (Nat.le_of_ble_eq_true rfl) (Nat.le_of_ble_eq_true rfl) ⟨_, _, _, rfl, rfl, by rw [qM, if_pos c223, if_pos c232, if_pos c259, if_pos c297, if_neg c306, if_pos c313], rfl, rfl⟩
          refine k_iconst C (x := 3) rfl rfl rfl ?_
          refine k_goto C (pc2 := 321) rfl rfl ?_
          exact k_iret C rfl (Or.inl rfl) (Nat.le_of_ble_eq_true rfl) (Nat.le_of_ble_eq_true rfl) ⟨_, _, _, rfl, rfl, by rw [qM, if_pos c223, if_pos c232, if_pos c259, if_pos c297, if_neg c306, if_neg c313], rfl, rfl⟩
        refine k_iconst C (x := 2) rfl rfl rfl ?_
        exact k_iret C rfl (Or.inl rfl) (Nat.le_of_ble_eq_true rfl) (Nat.le_of_ble_eq_true rfl) ⟨_, _, _, rfl, rfl, by rw [qM, if_pos c223, if_pos c232, if_pos c259, if_neg c297], rfl, rfl⟩
      refine k_lload C rfl rfl rfl ?_
      refine k_lconst C (x := 0) rfl rfl rfl ?_
      refine k_lcmp C rfl rfl ?_
      refine k_if_ge C (t := 273) rfl rfl rfl (fun c266 => ?_) (fun c266 => ?_)
      · skip
        refine k_lload C rfl rfl rfl ?_
        refine k_lconst C (x := 0) rfl rfl rfl ?_
        refine k_lcmp C rfl rfl ?_
        refine k_if_eq C (t := 287) rfl rfl rfl (fun c277 => ?_) (fun c277 => ?_)
        · skip
          refine k_iconst C (x := 1) rfl rfl rfl ?_
          refine k_goto C (pc2 := 292) rfl rfl ?_
          exact k_iret C rfl (Or.inl rfl) (Nat.le_of_ble_eq_true rfl) (Nat.le_of_ble_eq_true rfl) ⟨_, _, _, rfl, rfl, by rw [qM, if_pos c223, if_pos c232, if_neg c259, if_pos c266, if_pos c277], rfl, rfl⟩
        refine k_lload C rfl rfl rfl ?_
        refine k_lconst C (x := 0) rfl rfl rfl ?_
        refine k_lcmp C rfl rfl ?_
        refine k_if_eq C (t := 291) rfl rfl rfl (fun c284 => ?_) (fun c284 => ?_)
        · skip
          refine k_iconst C (x := 0) rfl rfl rfl ?_
          exact k_iret C rfl (Or.inl rfl) (Nat.le_of_ble_eq_true rfl) (Nat.le_of_ble_eq_true rfl) ⟨_, _, _, rfl, rfl, by rw [qM, if_pos c223, if_pos c232, if_neg c259, if_pos c266, if_neg c277, if_pos c284], rfl, rfl⟩
        refine k_iconst C (x := 1) rfl rfl rfl ?_
        refine k_goto C (pc2 := 292) rfl rfl ?_
        exact k_iret C rfl (Or.inl rfl) (Nat.le_of_ble_eq_true rfl) (Nat.le_of_ble_eq_true rfl) ⟨_, _, _, rfl, rfl, by rw [qM, if_pos c223, if_pos c232, if_neg c259, if_pos c266, if_neg c277, if_neg c284], rfl, rfl⟩
      refine k_iconst C (x := 2) rfl rfl rfl ?_
      refine k_goto C (pc2 := 292) rfl rfl ?_
      exact k_iret C rfl (Or.inl rfl) (Nat.le_of_ble_eq_true rfl) (Nat.le_of_ble_eq_true rfl) ⟨_, _, _, rfl, rfl, by rw [qM, if_pos c223, if_pos c232, if_neg c259, if_neg c266], rfl, rfl⟩
    refine k_lload C rfl rfl rfl ?_
    refine k_lconst C (x := 0) rfl rfl rfl ?_
    refine k_lcmp C rfl rfl ?_
    refine k_if_ge C (t := 253) rfl rfl rfl (fun c239 => ?_) (fun c239 => ?_)
    · skip
      refine k_iconst C (x := 0) rfl rfl rfl ?_
      exact k_iret C rfl (Or.inl rfl) (Nat.le_of_ble_eq_true rfl) (Nat.le_of_ble_eq_true rfl) ⟨_, _, _, rfl, rfl, by rw [qM, if_pos c223, if_neg c232, if_pos c239], rfl, rfl⟩
    refine k_lload C rfl rfl rfl ?_
    refine k_lconst C (x := 0) rfl rfl rfl ?_
    refine k_lcmp C rfl rfl ?_
    refine k_if_ge C (t := 253) rfl rfl rfl (fun c246 => ?_) (fun c246 => ?_)
    · skip
      refine k_iconst C (x := 0) rfl rfl rfl ?_
      exact k_iret C rfl (Or.inl rfl) (Nat.le_of_ble_eq_true rfl) (Nat.le_of_ble_eq_true rfl) ⟨_, _, _, rfl, rfl, by rw [qM, if_pos c223, if_neg c232, if_neg c239, if_pos c246], rfl, rfl⟩
    refine k_iconst C (x := 4) rfl rfl rfl ?_
    refine k_goto C (pc2 := 254) rfl rfl ?_
    exact k_iret C rfl (Or.inl rfl) (Nat.le_of_ble_eq_true rfl) (Nat.le_of_ble_eq_true rfl) ⟨_, _, _, rfl, rfl, by rw [qM, if_pos c223, if_neg c232, if_neg c239, if_neg c246], rfl, rfl⟩
  refine k_iconst C (x := 2) rfl rfl rfl ?_
  exact k_iret C rfl (Or.inl rfl) (Nat.le_of_ble_eq_true rfl) (Nat.le_of_ble_eq_true rfl) ⟨_, _, _, rfl, rfl, by rw [qM, if_neg c223], rfl, rfl⟩

def dfI (a b c d e : Int) : Int := 256 * a * a * a * e * e * e - 192 * a * a * b * d * e * e - 128 * a * a * c * c * e * e + 144 * a * a * c * d * d * e - 27 * a * a * d * d * d * d + 144 * a * b * b * c * e * e - 6 * a * b * b * d * d * e - 80 * a * b * c * c * d * e + 18 * a * b * c * d * d * d + 16 * a * c * c * c * c * e - 4 * a * c * c * c * d * d - 27 * b * b * b * b * e * e + 18 * b * b * b * c * d * e - 4 * b * b * b * d * d * d - 4 * b * b * c * c * c * e + b * b * c * c * d * d
def sdI (a b c : Int) : Int := 8 * a * c - 3 * b * b
def foI (a b c d e : Int) : Int := 64 * a * a * a * e - 16 * a * a * c * c + 16 * a * b * b * c - 16 * a * a * b * d - 3 * b * b * b * b
def zrI (a b c d e : Int) : Int := c * c - 3 * b * d + 12 * a * e
theorem dfI_eq {a b c d e : Int} : dfP (Int64.ofInt a) (Int64.ofInt b) (Int64.ofInt c) (Int64.ofInt d) (Int64.ofInt e) = Int64.ofInt (dfI a b c d e) := by
  unfold dfP dfI; simp only [Int64.ofInt_add, Int64.ofInt_sub, Int64.ofInt_mul]; rfl
theorem sdI_eq {a b c : Int} : sdP (Int64.ofInt a) (Int64.ofInt b) (Int64.ofInt c) = Int64.ofInt (sdI a b c) := by
  unfold sdP sdI; simp only [Int64.ofInt_add, Int64.ofInt_sub, Int64.ofInt_mul]; rfl
theorem foI_eq {a b c d e : Int} : foP (Int64.ofInt a) (Int64.ofInt b) (Int64.ofInt c) (Int64.ofInt d) (Int64.ofInt e) = Int64.ofInt (foI a b c d e) := by
  unfold foP foI; simp only [Int64.ofInt_add, Int64.ofInt_sub, Int64.ofInt_mul]; rfl
theorem zrI_eq {a b c d e : Int} : zrP (Int64.ofInt a) (Int64.ofInt b) (Int64.ofInt c) (Int64.ofInt d) (Int64.ofInt e) = Int64.ofInt (zrI a b c d e) := by
  unfold zrP zrI; simp only [Int64.ofInt_add, Int64.ofInt_sub, Int64.ofInt_mul]; rfl
theorem ds27 {a b c d e : Int64} : dsP (zrP a b c d e) (onP a b c d e) = 27 * dfP a b c d e := by
  unfold dsP zrP onP dfP; grind
theorem id16 {a b c d e : Int} : 16 * a * a * zrI a b c d e = sdI a b c * sdI a b c + 3 * foI a b c d e := by
  unfold zrI sdI foI; grind
theorem dfI_bd {a b c d e : Int} (ha : -30 ≤ a ∧ a ≤ 30) (hb : -30 ≤ b ∧ b ≤ 30) (hc : -30 ≤ c ∧ c ≤ 30) (hd : -30 ≤ d ∧ d ≤ 30) (he : -30 ≤ e ∧ e ≤ 30) : -800000000000 ≤ 256 * a * a * a * e * e * e - 192 * a * a * b * d * e * e - 128 * a * a * c * c * e * e + 144 * a * a * c * d * d * e - 27 * a * a * d * d * d * d + 144 * a * b * b * c * e * e - 6 * a * b * b * d * d * e - 80 * a * b * c * c * d * e + 18 * a * b * c * d * d * d + 16 * a * c * c * c * c * e - 4 * a * c * c * c * d * d - 27 * b * b * b * b * e * e + 18 * b * b * b * c * d * e - 4 * b * b * b * d * d * d - 4 * b * b * c * c * c * e + b * b * c * c * d * d ∧ 256 * a * a * a * e * e * e - 192 * a * a * b * d * e * e - 128 * a * a * c * c * e * e + 144 * a * a * c * d * d * e - 27 * a * a * d * d * d * d + 144 * a * b * b * c * e * e - 6 * a * b * b * d * d * e - 80 * a * b * c * c * d * e + 18 * a * b * c * d * d * d + 16 * a * c * c * c * c * e - 4 * a * c * c * c * d * d - 27 * b * b * b * b * e * e + 18 * b * b * b * c * d * e - 4 * b * b * b * d * d * d - 4 * b * b * c * c * c * e + b * b * c * c * d * d ≤ 800000000000 := by
  have m0_2 := bdm (x := (256 : Int)) (X := 256) (by omega) ha
  simp only [Int.reduceMul] at m0_2
  have m0_3 := bdm (X := 7680) m0_2 ha
  simp only [Int.reduceMul] at m0_3
  have m0_4 := bdm (X := 230400) m0_3 ha
  simp only [Int.reduceMul] at m0_4
  have m0_5 := bdm (X := 6912000) m0_4 he
  simp only [Int.reduceMul] at m0_5
  have m0_6 := bdm (X := 207360000) m0_5 he
  simp only [Int.reduceMul] at m0_6
  have m0_7 := bdm (X := 6220800000) m0_6 he
  simp only [Int.reduceMul] at m0_7
  have m1_2 := bdm (x := (192 : Int)) (X := 192) (by omega) ha
  simp only [Int.reduceMul] at m1_2
  have m1_3 := bdm (X := 5760) m1_2 ha
  simp only [Int.reduceMul] at m1_3
  have m1_4 := bdm (X := 172800) m1_3 hb
  simp only [Int.reduceMul] at m1_4
  have m1_5 := bdm (X := 5184000) m1_4 hd
  simp only [Int.reduceMul] at m1_5
  have m1_6 := bdm (X := 155520000) m1_5 he
  simp only [Int.reduceMul] at m1_6
  have m1_7 := bdm (X := 4665600000) m1_6 he
  simp only [Int.reduceMul] at m1_7
  have m2_2 := bdm (x := (128 : Int)) (X := 128) (by omega) ha
  simp only [Int.reduceMul] at m2_2
  have m2_3 := bdm (X := 3840) m2_2 ha
  simp only [Int.reduceMul] at m2_3
  have m2_4 := bdm (X := 115200) m2_3 hc
  simp only [Int.reduceMul] at m2_4
  have m2_5 := bdm (X := 3456000) m2_4 hc
  simp only [Int.reduceMul] at m2_5
  have m2_6 := bdm (X := 103680000) m2_5 he
  simp only [Int.reduceMul] at m2_6
  have m2_7 := bdm (X := 3110400000) m2_6 he
  simp only [Int.reduceMul] at m2_7
  have m3_2 := bdm (x := (144 : Int)) (X := 144) (by omega) ha
  simp only [Int.reduceMul] at m3_2
  have m3_3 := bdm (X := 4320) m3_2 ha
  simp only [Int.reduceMul] at m3_3
  have m3_4 := bdm (X := 129600) m3_3 hc
  simp only [Int.reduceMul] at m3_4
  have m3_5 := bdm (X := 3888000) m3_4 hd
  simp only [Int.reduceMul] at m3_5
  have m3_6 := bdm (X := 116640000) m3_5 hd
  simp only [Int.reduceMul] at m3_6
  have m3_7 := bdm (X := 3499200000) m3_6 he
  simp only [Int.reduceMul] at m3_7
  have m4_2 := bdm (x := (27 : Int)) (X := 27) (by omega) ha
  simp only [Int.reduceMul] at m4_2
  have m4_3 := bdm (X := 810) m4_2 ha
  simp only [Int.reduceMul] at m4_3
  have m4_4 := bdm (X := 24300) m4_3 hd
  simp only [Int.reduceMul] at m4_4
  have m4_5 := bdm (X := 729000) m4_4 hd
  simp only [Int.reduceMul] at m4_5
  have m4_6 := bdm (X := 21870000) m4_5 hd
  simp only [Int.reduceMul] at m4_6
  have m4_7 := bdm (X := 656100000) m4_6 hd
  simp only [Int.reduceMul] at m4_7
  have m5_2 := bdm (x := (144 : Int)) (X := 144) (by omega) ha
  simp only [Int.reduceMul] at m5_2
  have m5_3 := bdm (X := 4320) m5_2 hb
  simp only [Int.reduceMul] at m5_3
  have m5_4 := bdm (X := 129600) m5_3 hb
  simp only [Int.reduceMul] at m5_4
  have m5_5 := bdm (X := 3888000) m5_4 hc
  simp only [Int.reduceMul] at m5_5
  have m5_6 := bdm (X := 116640000) m5_5 he
  simp only [Int.reduceMul] at m5_6
  have m5_7 := bdm (X := 3499200000) m5_6 he
  simp only [Int.reduceMul] at m5_7
  have m6_2 := bdm (x := (6 : Int)) (X := 6) (by omega) ha
  simp only [Int.reduceMul] at m6_2
  have m6_3 := bdm (X := 180) m6_2 hb
  simp only [Int.reduceMul] at m6_3
  have m6_4 := bdm (X := 5400) m6_3 hb
  simp only [Int.reduceMul] at m6_4
  have m6_5 := bdm (X := 162000) m6_4 hd
  simp only [Int.reduceMul] at m6_5
  have m6_6 := bdm (X := 4860000) m6_5 hd
  simp only [Int.reduceMul] at m6_6
  have m6_7 := bdm (X := 145800000) m6_6 he
  simp only [Int.reduceMul] at m6_7
  have m7_2 := bdm (x := (80 : Int)) (X := 80) (by omega) ha
  simp only [Int.reduceMul] at m7_2
  have m7_3 := bdm (X := 2400) m7_2 hb
  simp only [Int.reduceMul] at m7_3
  have m7_4 := bdm (X := 72000) m7_3 hc
  simp only [Int.reduceMul] at m7_4
  have m7_5 := bdm (X := 2160000) m7_4 hc
  simp only [Int.reduceMul] at m7_5
  have m7_6 := bdm (X := 64800000) m7_5 hd
  simp only [Int.reduceMul] at m7_6
  have m7_7 := bdm (X := 1944000000) m7_6 he
  simp only [Int.reduceMul] at m7_7
  have m8_2 := bdm (x := (18 : Int)) (X := 18) (by omega) ha
  simp only [Int.reduceMul] at m8_2
  have m8_3 := bdm (X := 540) m8_2 hb
  simp only [Int.reduceMul] at m8_3
  have m8_4 := bdm (X := 16200) m8_3 hc
  simp only [Int.reduceMul] at m8_4
  have m8_5 := bdm (X := 486000) m8_4 hd
  simp only [Int.reduceMul] at m8_5
  have m8_6 := bdm (X := 14580000) m8_5 hd
  simp only [Int.reduceMul] at m8_6
  have m8_7 := bdm (X := 437400000) m8_6 hd
  simp only [Int.reduceMul] at m8_7
  have m9_2 := bdm (x := (16 : Int)) (X := 16) (by omega) ha
  simp only [Int.reduceMul] at m9_2
  have m9_3 := bdm (X := 480) m9_2 hc
  simp only [Int.reduceMul] at m9_3
  have m9_4 := bdm (X := 14400) m9_3 hc
  simp only [Int.reduceMul] at m9_4
  have m9_5 := bdm (X := 432000) m9_4 hc
  simp only [Int.reduceMul] at m9_5
  have m9_6 := bdm (X := 12960000) m9_5 hc
  simp only [Int.reduceMul] at m9_6
  have m9_7 := bdm (X := 388800000) m9_6 he
  simp only [Int.reduceMul] at m9_7
  have m10_2 := bdm (x := (4 : Int)) (X := 4) (by omega) ha
  simp only [Int.reduceMul] at m10_2
  have m10_3 := bdm (X := 120) m10_2 hc
  simp only [Int.reduceMul] at m10_3
  have m10_4 := bdm (X := 3600) m10_3 hc
  simp only [Int.reduceMul] at m10_4
  have m10_5 := bdm (X := 108000) m10_4 hc
  simp only [Int.reduceMul] at m10_5
  have m10_6 := bdm (X := 3240000) m10_5 hd
  simp only [Int.reduceMul] at m10_6
  have m10_7 := bdm (X := 97200000) m10_6 hd
  simp only [Int.reduceMul] at m10_7
  have m11_2 := bdm (x := (27 : Int)) (X := 27) (by omega) hb
  simp only [Int.reduceMul] at m11_2
  have m11_3 := bdm (X := 810) m11_2 hb
  simp only [Int.reduceMul] at m11_3
  have m11_4 := bdm (X := 24300) m11_3 hb
  simp only [Int.reduceMul] at m11_4
  have m11_5 := bdm (X := 729000) m11_4 hb
  simp only [Int.reduceMul] at m11_5
  have m11_6 := bdm (X := 21870000) m11_5 he
  simp only [Int.reduceMul] at m11_6
  have m11_7 := bdm (X := 656100000) m11_6 he
  simp only [Int.reduceMul] at m11_7
  have m12_2 := bdm (x := (18 : Int)) (X := 18) (by omega) hb
  simp only [Int.reduceMul] at m12_2
  have m12_3 := bdm (X := 540) m12_2 hb
  simp only [Int.reduceMul] at m12_3
  have m12_4 := bdm (X := 16200) m12_3 hb
  simp only [Int.reduceMul] at m12_4
  have m12_5 := bdm (X := 486000) m12_4 hc
  simp only [Int.reduceMul] at m12_5
  have m12_6 := bdm (X := 14580000) m12_5 hd
  simp only [Int.reduceMul] at m12_6
  have m12_7 := bdm (X := 437400000) m12_6 he
  simp only [Int.reduceMul] at m12_7
  have m13_2 := bdm (x := (4 : Int)) (X := 4) (by omega) hb
  simp only [Int.reduceMul] at m13_2
  have m13_3 := bdm (X := 120) m13_2 hb
  simp only [Int.reduceMul] at m13_3
  have m13_4 := bdm (X := 3600) m13_3 hb
  simp only [Int.reduceMul] at m13_4
  have m13_5 := bdm (X := 108000) m13_4 hd
  simp only [Int.reduceMul] at m13_5
  have m13_6 := bdm (X := 3240000) m13_5 hd
  simp only [Int.reduceMul] at m13_6
  have m13_7 := bdm (X := 97200000) m13_6 hd
  simp only [Int.reduceMul] at m13_7
  have m14_2 := bdm (x := (4 : Int)) (X := 4) (by omega) hb
  simp only [Int.reduceMul] at m14_2
  have m14_3 := bdm (X := 120) m14_2 hb
  simp only [Int.reduceMul] at m14_3
  have m14_4 := bdm (X := 3600) m14_3 hc
  simp only [Int.reduceMul] at m14_4
  have m14_5 := bdm (X := 108000) m14_4 hc
  simp only [Int.reduceMul] at m14_5
  have m14_6 := bdm (X := 3240000) m14_5 hc
  simp only [Int.reduceMul] at m14_6
  have m14_7 := bdm (X := 97200000) m14_6 he
  simp only [Int.reduceMul] at m14_7
  have m15_2 := bdm (X := 30) hb hb
  simp only [Int.reduceMul] at m15_2
  have m15_3 := bdm (X := 900) m15_2 hc
  simp only [Int.reduceMul] at m15_3
  have m15_4 := bdm (X := 27000) m15_3 hc
  simp only [Int.reduceMul] at m15_4
  have m15_5 := bdm (X := 810000) m15_4 hd
  simp only [Int.reduceMul] at m15_5
  have m15_6 := bdm (X := 24300000) m15_5 hd
  simp only [Int.reduceMul] at m15_6
  clear m0_2 m0_3 m0_4 m0_5 m0_6 m1_2 m1_3 m1_4 m1_5 m1_6 m2_2 m2_3 m2_4 m2_5 m2_6 m3_2 m3_3 m3_4 m3_5 m3_6 m4_2 m4_3 m4_4 m4_5 m4_6 m5_2 m5_3 m5_4 m5_5 m5_6 m6_2 m6_3 m6_4 m6_5 m6_6 m7_2 m7_3 m7_4 m7_5 m7_6 m8_2 m8_3 m8_4 m8_5 m8_6 m9_2 m9_3 m9_4 m9_5 m9_6 m10_2 m10_3 m10_4 m10_5 m10_6 m11_2 m11_3 m11_4 m11_5 m11_6 m12_2 m12_3 m12_4 m12_5 m12_6 m13_2 m13_3 m13_4 m13_5 m13_6 m14_2 m14_3 m14_4 m14_5 m14_6 m15_2 m15_3 m15_4 m15_5
  omega
theorem foI_bd {a b c d e : Int} (ha : -30 ≤ a ∧ a ≤ 30) (hb : -30 ≤ b ∧ b ≤ 30) (hc : -30 ≤ c ∧ c ≤ 30) (hd : -30 ≤ d ∧ d ≤ 30) (he : -30 ≤ e ∧ e ≤ 30) : -100000000 ≤ 64 * a * a * a * e - 16 * a * a * c * c + 16 * a * b * b * c - 16 * a * a * b * d - 3 * b * b * b * b ∧ 64 * a * a * a * e - 16 * a * a * c * c + 16 * a * b * b * c - 16 * a * a * b * d - 3 * b * b * b * b ≤ 100000000 := by
  have m0_2 := bdm (x := (64 : Int)) (X := 64) (by omega) ha
  simp only [Int.reduceMul] at m0_2
  have m0_3 := bdm (X := 1920) m0_2 ha
  simp only [Int.reduceMul] at m0_3
  have m0_4 := bdm (X := 57600) m0_3 ha
  simp only [Int.reduceMul] at m0_4
  have m0_5 := bdm (X := 1728000) m0_4 he
  simp only [Int.reduceMul] at m0_5
  have m1_2 := bdm (x := (16 : Int)) (X := 16) (by omega) ha
  simp only [Int.reduceMul] at m1_2
  have m1_3 := bdm (X := 480) m1_2 ha
  simp only [Int.reduceMul] at m1_3
  have m1_4 := bdm (X := 14400) m1_3 hc
  simp only [Int.reduceMul] at m1_4
  have m1_5 := bdm (X := 432000) m1_4 hc
  simp only [Int.reduceMul] at m1_5
  have m2_2 := bdm (x := (16 : Int)) (X := 16) (by omega) ha
  simp only [Int.reduceMul] at m2_2
  have m2_3 := bdm (X := 480) m2_2 hb
  simp only [Int.reduceMul] at m2_3
  have m2_4 := bdm (X := 14400) m2_3 hb
  simp only [Int.reduceMul] at m2_4
  have m2_5 := bdm (X := 432000) m2_4 hc
  simp only [Int.reduceMul] at m2_5
  have m3_2 := bdm (x := (16 : Int)) (X := 16) (by omega) ha
  simp only [Int.reduceMul] at m3_2
  have m3_3 := bdm (X := 480) m3_2 ha
  simp only [Int.reduceMul] at m3_3
  have m3_4 := bdm (X := 14400) m3_3 hb
  simp only [Int.reduceMul] at m3_4
  have m3_5 := bdm (X := 432000) m3_4 hd
  simp only [Int.reduceMul] at m3_5
  have m4_2 := bdm (x := (3 : Int)) (X := 3) (by omega) hb
  simp only [Int.reduceMul] at m4_2
  have m4_3 := bdm (X := 90) m4_2 hb
  simp only [Int.reduceMul] at m4_3
  have m4_4 := bdm (X := 2700) m4_3 hb
  simp only [Int.reduceMul] at m4_4
  have m4_5 := bdm (X := 81000) m4_4 hb
  simp only [Int.reduceMul] at m4_5
  clear m0_2 m0_3 m0_4 m1_2 m1_3 m1_4 m2_2 m2_3 m2_4 m3_2 m3_3 m3_4 m4_2 m4_3 m4_4
  omega
theorem sdI_bd {a b c d e : Int} (ha : -30 ≤ a ∧ a ≤ 30) (hb : -30 ≤ b ∧ b ≤ 30) (hc : -30 ≤ c ∧ c ≤ 30) (hd : -30 ≤ d ∧ d ≤ 30) (he : -30 ≤ e ∧ e ≤ 30) : -10000 ≤ 8 * a * c - 3 * b * b ∧ 8 * a * c - 3 * b * b ≤ 10000 := by
  have m0_2 := bdm (x := (8 : Int)) (X := 8) (by omega) ha
  simp only [Int.reduceMul] at m0_2
  have m0_3 := bdm (X := 240) m0_2 hc
  simp only [Int.reduceMul] at m0_3
  have m1_2 := bdm (x := (3 : Int)) (X := 3) (by omega) hb
  simp only [Int.reduceMul] at m1_2
  have m1_3 := bdm (X := 90) m1_2 hb
  simp only [Int.reduceMul] at m1_3
  clear m0_2 m1_2
  omega
theorem zrI_bd {a b c d e : Int} (ha : -30 ≤ a ∧ a ≤ 30) (hb : -30 ≤ b ∧ b ≤ 30) (hc : -30 ≤ c ∧ c ≤ 30) (hd : -30 ≤ d ∧ d ≤ 30) (he : -30 ≤ e ∧ e ≤ 30) : -20000 ≤ c * c - 3 * b * d + 12 * a * e ∧ c * c - 3 * b * d + 12 * a * e ≤ 20000 := by
  have m0_2 := bdm (X := 30) hc hc
  simp only [Int.reduceMul] at m0_2
  have m1_2 := bdm (x := (3 : Int)) (X := 3) (by omega) hb
  simp only [Int.reduceMul] at m1_2
  have m1_3 := bdm (X := 90) m1_2 hd
  simp only [Int.reduceMul] at m1_3
  have m2_2 := bdm (x := (12 : Int)) (X := 12) (by omega) ha
  simp only [Int.reduceMul] at m2_2
  have m2_3 := bdm (X := 360) m2_2 he
  simp only [Int.reduceMul] at m2_3
  clear m1_2 m2_2
  omega
theorem oi {p : Int} (h1 : -9000000000000000000 ≤ p) (h2 : p ≤ 9000000000000000000) : (Int64.ofInt p).toInt = p := by
  have z : (Int64.size : Int) = 18446744073709551616 := rfl
  rw [Int64.toInt_ofInt]; exact Int.bmod_eq_of_le (by rw [z]; omega) (by rw [z]; omega)
theorem oi_ge {p : Int} (h1 : -9000000000000000000 ≤ p) (h2 : p ≤ 9000000000000000000) : 0 ≤ Int64.ofInt p ↔ 0 ≤ p := by
  rw [l_le, oi h1 h2]; exact Iff.rfl
theorem oi_le {p : Int} (h1 : -9000000000000000000 ≤ p) (h2 : p ≤ 9000000000000000000) : Int64.ofInt p ≤ 0 ↔ p ≤ 0 := by
  rw [l_le, oi h1 h2]; exact Iff.rfl
theorem oi_eq {p : Int} (h1 : -9000000000000000000 ≤ p) (h2 : p ≤ 9000000000000000000) : Int64.ofInt p = 0 ↔ p = 0 := by
  rw [← Int64.toInt_inj, oi h1 h2]; exact Iff.rfl
theorem real_same {a b c d e : Int} (ha : -30 ≤ a ∧ a ≤ 30) (hb : -30 ≤ b ∧ b ≤ 30) (hc : -30 ≤ c ∧ c ≤ 30) (hd : -30 ≤ d ∧ d ≤ 30) (he : -30 ≤ e ∧ e ≤ 30) (h0 : a ≠ 0) {th : Int64} : qM (dsP (zrP (Int64.ofInt a) (Int64.ofInt b) (Int64.ofInt c) (Int64.ofInt d) (Int64.ofInt e)) (onP (Int64.ofInt a) (Int64.ofInt b) (Int64.ofInt c) (Int64.ofInt d) (Int64.ofInt e))) (sdP (Int64.ofInt a) (Int64.ofInt b) (Int64.ofInt c)) (foP (Int64.ofInt a) (Int64.ofInt b) (Int64.ofInt c) (Int64.ofInt d) (Int64.ofInt e)) th (zrP (Int64.ofInt a) (Int64.ofInt b) (Int64.ofInt c) (Int64.ofInt d) (Int64.ofInt e)) = qC (dfP (Int64.ofInt a) (Int64.ofInt b) (Int64.ofInt c) (Int64.ofInt d) (Int64.ofInt e)) (sdP (Int64.ofInt a) (Int64.ofInt b) (Int64.ofInt c)) (foP (Int64.ofInt a) (Int64.ofInt b) (Int64.ofInt c) (Int64.ofInt d) (Int64.ofInt e)) th (zrP (Int64.ofInt a) (Int64.ofInt b) (Int64.ofInt c) (Int64.ofInt d) (Int64.ofInt e)) := by
  have b1 : -800000000000 ≤ dfI a b c d e ∧ dfI a b c d e ≤ 800000000000 := dfI_bd ha hb hc hd he
  have b2 : -100000000 ≤ foI a b c d e ∧ foI a b c d e ≤ 100000000 := foI_bd ha hb hc hd he
  have b3 : -10000 ≤ sdI a b c ∧ sdI a b c ≤ 10000 := sdI_bd ha hb hc hd he
  have b4 : -20000 ≤ zrI a b c d e ∧ zrI a b c d e ≤ 20000 := zrI_bd ha hb hc hd he
  rw [ds27, dfI_eq, sdI_eq, foI_eq, zrI_eq]
  have e27 : 27 * Int64.ofInt (dfI a b c d e) = Int64.ofInt (27 * dfI a b c d e) := (Int64.ofInt_mul 27 _).symm
  rw [e27]
  apply q_same
  · rw [oi_ge (by omega) (by omega), oi_ge (by omega) (by omega)]; omega
  · rw [oi_le (by omega) (by omega), oi_le (by omega) (by omega)]; omega
  · intro _ hf
    have hf := (oi_eq (by omega) (by omega)).mp hf
    refine Or.inl ?_
    rw [oi_eq (by omega) (by omega), oi_eq (by omega) (by omega)]
    have hi := id16 (a := a) (b := b) (c := c) (d := d) (e := e)
    rw [hf] at hi
    constructor
    · intro h; rw [h] at hi
      have h16 : 16 * a * a ≠ 0 := Int.mul_ne_zero (Int.mul_ne_zero (by decide) h0) h0
      exact (Int.mul_eq_zero.mp (hi.trans (by decide))).resolve_left h16
    · intro h; rw [h] at hi
      have : sdI a b c * sdI a b c = 0 := by omega
      exact (Int.mul_eq_zero.mp this).elim id id
def ok30 (v : Int32) : Prop := -30 ≤ v.toInt ∧ v.toInt ≤ 30
def okReal (a b c u e : Int32) : Prop := (ok30 a ∧ ok30 b ∧ ok30 c ∧ ok30 u ∧ ok30 e) ∧ ¬ (a = 0 ∧ b = 0)
theorem w30 {v : Int32} : (-(30 : Int32) ≤ v ∧ v ≤ 30) ↔ ok30 v := by
  rw [i_le, i_le]; exact Iff.rfl
theorem w30m {v : Int32} : ((-30 : Int32) ≤ v ∧ v ≤ 30) ↔ ok30 v := by
  rw [i_le, i_le]; exact Iff.rfl
def rlV (a b c u e : Int32) : Int32 := if a = 0 then cuC (cuP b.toInt64 c.toInt64 u.toInt64 e.toInt64) b.toInt64 c.toInt64 u.toInt64 else qC (dfP a.toInt64 b.toInt64 c.toInt64 u.toInt64 e.toInt64) (sdP a.toInt64 b.toInt64 c.toInt64) (foP a.toInt64 b.toInt64 c.toInt64 u.toInt64 e.toInt64) (thP a.toInt64 b.toInt64 c.toInt64 u.toInt64) (zrP a.toInt64 b.toInt64 c.toInt64 u.toInt64 e.toInt64)
theorem i64o {a : Int32} : a.toInt64 = Int64.ofInt a.toInt := by rw [← i2l_eq, Int64.ofInt_toInt]
theorem real_i {a b c u e : Int32} (h : okReal a b c u e) (h0 : ¬ a = 0) : qM (dsP (zrP a.toInt64 b.toInt64 c.toInt64 u.toInt64 e.toInt64) (onP a.toInt64 b.toInt64 c.toInt64 u.toInt64 e.toInt64)) (sdP a.toInt64 b.toInt64 c.toInt64) (foP a.toInt64 b.toInt64 c.toInt64 u.toInt64 e.toInt64) (thP a.toInt64 b.toInt64 c.toInt64 u.toInt64) (zrP a.toInt64 b.toInt64 c.toInt64 u.toInt64 e.toInt64) = rlV a b c u e := by
  rw [rlV, if_neg h0]
  obtain ⟨⟨ha, hb, hc, hu, he⟩, _⟩ := h
  have h1 : a.toInt ≠ 0 := fun q => h0 (Int32.toInt_inj.mp q)
  rw [i64o, i64o, i64o, i64o, i64o]
  exact real_same ha hb hc hu he h1
theorem real_c {a b c u e : Int32} (h0 : a = 0) : cuM (cuP b.toInt64 c.toInt64 u.toInt64 e.toInt64) b.toInt64 c.toInt64 u.toInt64 = rlV a b c u e := by
  rw [rlV, if_pos h0, cu_same]
theorem e_real_no {d : Nat} {T N : Nat → Nat} {I : IT} {L : LT} {R : RT} {x : Nat} {a b c u e : Int32} (T_x : T x = 12) (h : ¬ okReal a b c u e) : Ex (d + 2) 173 [.ref x, .int a, .int b, .int c, .int u, .int e] (T, N, I, L, R) 1 6 (pX 0 T N R (fun I9 L9 => I9 = I ∧ L9 = L)) := by
  refine ⟨_, rfl, Nat.le_of_ble_eq_true rfl, fun V C S => ?_⟩
  show V 0 [(0, .ref x), (1, .int a), (2, .int b), (3, .int c), (4, .int u), (5, .int e)] [] (T, N, I, L, R) 0 0
  refine k_iload_n C rfl rfl rfl ?_
  refine k_bipush C (x := 30) rfl rfl rfl ?_
  refine c_SI C e_isWhole rfl rfl rfl rfl rfl rfl rfl (Nat.le_of_ble_eq_true rfl) (Nat.le_of_ble_eq_true rfl) (Nat.le_of_ble_eq_true rfl) ?_
  rintro _ _ _ ⟨hx7, hI8, hL9⟩
  have hx7 := hx7.symm; subst hx7
  have hI8 := hI8.symm; subst hI8; have hL9 := hL9.symm; subst hL9
  refine k_if_eq C (t := 51) rfl rfl rfl (fun c6 => ?_) (fun c6 => ?_)
  · skip
    refine k_iconst C (x := 0) rfl rfl rfl ?_
    refine k_istore C (lw := [(6, .int _), (0, _), (1, .int _), (2, .int _), (3, .int _), (4, .int _), (5, .int _)]) rfl rfl (Nat.le_of_ble_eq_true rfl) rfl ?_
    refine k_iload C rfl rfl rfl ?_
    refine k_if_eq C (t := 67) rfl rfl rfl (fun _ => ?_) (fun c56 => absurd (by decide) c56)
    exact k_throw C rfl rfl rfl rfl rfl rfl (Nat.le_of_ble_eq_true rfl) (Nat.le_of_ble_eq_true rfl) (Nat.le_of_ble_eq_true rfl) ⟨_, _, rfl, rfl, ⟨rfl, rfl⟩⟩
  have qa := w30.mp (inY c6)
  refine k_iload_n C rfl rfl rfl ?_
  refine k_bipush C (x := 30) rfl rfl rfl ?_
  refine c_SI C e_isWhole rfl rfl rfl rfl rfl rfl rfl (Nat.le_of_ble_eq_true rfl) (Nat.le_of_ble_eq_true rfl) (Nat.le_of_ble_eq_true rfl) ?_
  rintro _ _ _ ⟨hx7, hI8, hL9⟩
  have hx7 := hx7.symm; subst hx7
  have hI8 := hI8.symm; subst hI8; have hL9 := hL9.symm; subst hL9
  refine k_if_eq C (t := 51) rfl rfl rfl (fun c15 => ?_) (fun c15 => ?_)
  · skip
    refine k_iconst C (x := 0) rfl rfl rfl ?_
    refine k_istore C (lw := [(6, .int _), (0, _), (1, .int _), (2, .int _), (3, .int _), (4, .int _), (5, .int _)]) rfl rfl (Nat.le_of_ble_eq_true rfl) rfl ?_
    refine k_iload C rfl rfl rfl ?_
    refine k_if_eq C (t := 67) rfl rfl rfl (fun _ => ?_) (fun c56 => absurd (by decide) c56)
    exact k_throw C rfl rfl rfl rfl rfl rfl (Nat.le_of_ble_eq_true rfl) (Nat.le_of_ble_eq_true rfl) (Nat.le_of_ble_eq_true rfl) ⟨_, _, rfl, rfl, ⟨rfl, rfl⟩⟩
  have qb := w30.mp (inY c15)
  refine k_iload_n C rfl rfl rfl ?_
  refine k_bipush C (x := 30) rfl rfl rfl ?_
  refine c_SI C e_isWhole rfl rfl rfl rfl rfl rfl rfl (Nat.le_of_ble_eq_true rfl) (Nat.le_of_ble_eq_true rfl) (Nat.le_of_ble_eq_true rfl) ?_
  rintro _ _ _ ⟨hx7, hI8, hL9⟩
  have hx7 := hx7.symm; subst hx7
  have hI8 := hI8.symm; subst hI8; have hL9 := hL9.symm; subst hL9
  refine k_if_eq C (t := 51) rfl rfl rfl (fun c24 => ?_) (fun c24 => ?_)
  · skip
    refine k_iconst C (x := 0) rfl rfl rfl ?_
    refine k_istore C (lw := [(6, .int _), (0, _), (1, .int _), (2, .int _), (3, .int _), (4, .int _), (5, .int _)]) rfl rfl (Nat.le_of_ble_eq_true rfl) rfl ?_
    refine k_iload C rfl rfl rfl ?_
    refine k_if_eq C (t := 67) rfl rfl rfl (fun _ => ?_) (fun c56 => absurd (by decide) c56)
    exact k_throw C rfl rfl rfl rfl rfl rfl (Nat.le_of_ble_eq_true rfl) (Nat.le_of_ble_eq_true rfl) (Nat.le_of_ble_eq_true rfl) ⟨_, _, rfl, rfl, ⟨rfl, rfl⟩⟩
  have qc := w30.mp (inY c24)
  refine k_iload C rfl rfl rfl ?_
  refine k_bipush C (x := 30) rfl rfl rfl ?_
  refine c_SI C e_isWhole rfl rfl rfl rfl rfl rfl rfl (Nat.le_of_ble_eq_true rfl) (Nat.le_of_ble_eq_true rfl) (Nat.le_of_ble_eq_true rfl) ?_
  rintro _ _ _ ⟨hx7, hI8, hL9⟩
  have hx7 := hx7.symm; subst hx7
  have hI8 := hI8.symm; subst hI8; have hL9 := hL9.symm; subst hL9
  refine k_if_eq C (t := 51) rfl rfl rfl (fun c34 => ?_) (fun c34 => ?_)
  · skip
    refine k_iconst C (x := 0) rfl rfl rfl ?_
    refine k_istore C (lw := [(6, .int _), (0, _), (1, .int _), (2, .int _), (3, .int _), (4, .int _), (5, .int _)]) rfl rfl (Nat.le_of_ble_eq_true rfl) rfl ?_
    refine k_iload C rfl rfl rfl ?_
    refine k_if_eq C (t := 67) rfl rfl rfl (fun _ => ?_) (fun c56 => absurd (by decide) c56)
    exact k_throw C rfl rfl rfl rfl rfl rfl (Nat.le_of_ble_eq_true rfl) (Nat.le_of_ble_eq_true rfl) (Nat.le_of_ble_eq_true rfl) ⟨_, _, rfl, rfl, ⟨rfl, rfl⟩⟩
  have qu := w30.mp (inY c34)
  refine k_iload C rfl rfl rfl ?_
  refine k_bipush C (x := 30) rfl rfl rfl ?_
  refine c_SI C e_isWhole rfl rfl rfl rfl rfl rfl rfl (Nat.le_of_ble_eq_true rfl) (Nat.le_of_ble_eq_true rfl) (Nat.le_of_ble_eq_true rfl) ?_
  rintro _ _ _ ⟨hx7, hI8, hL9⟩
  have hx7 := hx7.symm; subst hx7
  have hI8 := hI8.symm; subst hI8; have hL9 := hL9.symm; subst hL9
  refine k_if_eq C (t := 51) rfl rfl rfl (fun c44 => ?_) (fun c44 => ?_)
  · skip
    refine k_iconst C (x := 0) rfl rfl rfl ?_
    refine k_istore C (lw := [(6, .int _), (0, _), (1, .int _), (2, .int _), (3, .int _), (4, .int _), (5, .int _)]) rfl rfl (Nat.le_of_ble_eq_true rfl) rfl ?_
    refine k_iload C rfl rfl rfl ?_
    refine k_if_eq C (t := 67) rfl rfl rfl (fun _ => ?_) (fun c56 => absurd (by decide) c56)
    exact k_throw C rfl rfl rfl rfl rfl rfl (Nat.le_of_ble_eq_true rfl) (Nat.le_of_ble_eq_true rfl) (Nat.le_of_ble_eq_true rfl) ⟨_, _, rfl, rfl, ⟨rfl, rfl⟩⟩
  have qe := w30.mp (inY c44)
  refine k_iconst C (x := 1) rfl rfl rfl ?_
  refine k_goto C (pc2 := 52) rfl rfl ?_
  refine k_istore C (lw := [(6, .int _), (0, _), (1, .int _), (2, .int _), (3, .int _), (4, .int _), (5, .int _)]) rfl rfl (Nat.le_of_ble_eq_true rfl) rfl ?_
  refine k_iload C rfl rfl rfl ?_
  refine k_if_eq C (t := 67) rfl rfl rfl (fun c56 => absurd c56 (by decide)) (fun _ => ?_)
  refine k_iload_n C rfl rfl rfl ?_
  refine k_if_ne C (t := 75) rfl rfl rfl (fun c60 => ?_) (fun c60 => ?_)
  · skip
    exact absurd ⟨⟨qa, qb, qc, qu, qe⟩, fun z => c60 z.1⟩ h
  refine k_iload_n C rfl rfl rfl ?_
  refine k_if_ne C (t := 75) rfl rfl rfl (fun c64 => ?_) (fun c64 => ?_)
  · skip
    exact absurd ⟨⟨qa, qb, qc, qu, qe⟩, fun z => c64 z.2⟩ h
  exact k_throw C rfl rfl rfl rfl rfl rfl (Nat.le_of_ble_eq_true rfl) (Nat.le_of_ble_eq_true rfl) (Nat.le_of_ble_eq_true rfl) ⟨_, _, rfl, rfl, ⟨rfl, rfl⟩⟩

theorem e_real_yes {d : Nat} {T N : Nat → Nat} {I : IT} {L : LT} {R : RT} {x : Nat} {a b c u e : Int32} (T_x : T x = 12) (hok : okReal a b c u e) : Ex (d + 3) 173 [.ref x, .int a, .int b, .int c, .int u, .int e] (T, N, I, L, R) 1 6 (pI T N R (fun x9 I9 L9 => x9 = (rlV a b c u e) ∧ I9 = I ∧ L9 = L)) := by
  refine ⟨_, rfl, Nat.le_of_ble_eq_true rfl, fun V C S => ?_⟩
  show V 0 [(0, .ref x), (1, .int a), (2, .int b), (3, .int c), (4, .int u), (5, .int e)] [] (T, N, I, L, R) 0 0
  refine k_iload_n C rfl rfl rfl ?_
  refine k_bipush C (x := 30) rfl rfl rfl ?_
  refine c_SI C e_isWhole rfl rfl rfl rfl rfl rfl rfl (Nat.le_of_ble_eq_true rfl) (Nat.le_of_ble_eq_true rfl) (Nat.le_of_ble_eq_true rfl) ?_
  rintro _ _ _ ⟨hx7, hI8, hL9⟩
  have hx7 := hx7.symm; subst hx7
  have hI8 := hI8.symm; subst hI8; have hL9 := hL9.symm; subst hL9
  refine k_if_eq C (t := 51) rfl rfl rfl (fun c6 => ?_) (fun c6 => ?_)
  · skip
    exact absurd c6 (inN (w30.mpr hok.1.1))
  refine k_iload_n C rfl rfl rfl ?_
  refine k_bipush C (x := 30) rfl rfl rfl ?_
  refine c_SI C e_isWhole rfl rfl rfl rfl rfl rfl rfl (Nat.le_of_ble_eq_true rfl) (Nat.le_of_ble_eq_true rfl) (Nat.le_of_ble_eq_true rfl) ?_
  rintro _ _ _ ⟨hx7, hI8, hL9⟩
  have hx7 := hx7.symm; subst hx7
  have hI8 := hI8.symm; subst hI8; have hL9 := hL9.symm; subst hL9
  refine k_if_eq C (t := 51) rfl rfl rfl (fun c15 => ?_) (fun c15 => ?_)
  · skip
    exact absurd c15 (inN (w30.mpr hok.1.2.1))
  refine k_iload_n C rfl rfl rfl ?_
  refine k_bipush C (x := 30) rfl rfl rfl ?_
  refine c_SI C e_isWhole rfl rfl rfl rfl rfl rfl rfl (Nat.le_of_ble_eq_true rfl) (Nat.le_of_ble_eq_true rfl) (Nat.le_of_ble_eq_true rfl) ?_
  rintro _ _ _ ⟨hx7, hI8, hL9⟩
  have hx7 := hx7.symm; subst hx7
  have hI8 := hI8.symm; subst hI8; have hL9 := hL9.symm; subst hL9
  refine k_if_eq C (t := 51) rfl rfl rfl (fun c24 => ?_) (fun c24 => ?_)
  · skip
    exact absurd c24 (inN (w30.mpr hok.1.2.2.1))
  refine k_iload C rfl rfl rfl ?_
  refine k_bipush C (x := 30) rfl rfl rfl ?_
  refine c_SI C e_isWhole rfl rfl rfl rfl rfl rfl rfl (Nat.le_of_ble_eq_true rfl) (Nat.le_of_ble_eq_true rfl) (Nat.le_of_ble_eq_true rfl) ?_
  rintro _ _ _ ⟨hx7, hI8, hL9⟩
  have hx7 := hx7.symm; subst hx7
  have hI8 := hI8.symm; subst hI8; have hL9 := hL9.symm; subst hL9
  refine k_if_eq C (t := 51) rfl rfl rfl (fun c34 => ?_) (fun c34 => ?_)
  · skip
    exact absurd c34 (inN (w30.mpr hok.1.2.2.2.1))
  refine k_iload C rfl rfl rfl ?_
  refine k_bipush C (x := 30) rfl rfl rfl ?_
  refine c_SI C e_isWhole rfl rfl rfl rfl rfl rfl rfl (Nat.le_of_ble_eq_true rfl) (Nat.le_of_ble_eq_true rfl) (Nat.le_of_ble_eq_true rfl) ?_
  rintro _ _ _ ⟨hx7, hI8, hL9⟩
  have hx7 := hx7.symm; subst hx7
  have hI8 := hI8.symm; subst hI8; have hL9 := hL9.symm; subst hL9
  refine k_if_eq C (t := 51) rfl rfl rfl (fun c44 => ?_) (fun c44 => ?_)
  · skip
    exact absurd c44 (inN (w30.mpr hok.1.2.2.2.2))
  refine k_iconst C (x := 1) rfl rfl rfl ?_
  refine k_goto C (pc2 := 52) rfl rfl ?_
  refine k_istore C (lw := [(6, .int _), (0, _), (1, .int _), (2, .int _), (3, .int _), (4, .int _), (5, .int _)]) rfl rfl (Nat.le_of_ble_eq_true rfl) rfl ?_
  refine k_iload C rfl rfl rfl ?_
  refine k_if_eq C (t := 67) rfl rfl rfl (fun c56 => absurd c56 (by decide)) (fun _ => ?_)
  refine k_iload_n C rfl rfl rfl ?_
  refine k_if_ne C (t := 75) rfl rfl rfl (fun c60 => ?_) (fun c60 => ?_)
  · skip
    refine k_iload_n C rfl rfl rfl ?_
    refine k_if_ne C (t := 95) rfl rfl rfl (fun c76 => ?_) (fun c76 => ?_)
    · skip
      refine k_iload_n C rfl rfl rfl ?_
      refine k_i2l C rfl rfl ?_
      refine k_iload_n C rfl rfl rfl ?_
      refine k_i2l C rfl rfl ?_
      refine k_iload_n C rfl rfl rfl ?_
      refine k_i2l C rfl rfl ?_
      refine k_iload C rfl rfl rfl ?_
      refine k_i2l C rfl rfl ?_
      refine k_iload C rfl rfl rfl ?_
      refine k_i2l C rfl rfl ?_
      refine c_SI C (e_rootsOfQuartic  rfl rfl rfl rfl rfl) rfl rfl rfl rfl rfl rfl rfl (Nat.le_of_ble_eq_true rfl) (Nat.le_of_ble_eq_true rfl) (Nat.le_of_ble_eq_true rfl) ?_
      rintro _ _ _ ⟨hx7, hI8, hL9⟩
      have hx7 := hx7.symm; subst hx7
      have hI8 := hI8.symm; subst hI8; have hL9 := hL9.symm; subst hL9
      exact k_iret C rfl (Or.inl rfl) (Nat.le_of_ble_eq_true rfl) (Nat.le_of_ble_eq_true rfl) ⟨_, _, _, rfl, rfl, by rw [rlV, if_neg c76], rfl, rfl⟩
    refine k_iload_n C rfl rfl rfl ?_
    refine k_i2l C rfl rfl ?_
    refine k_iload_n C rfl rfl rfl ?_
    refine k_i2l C rfl rfl ?_
    refine k_iload C rfl rfl rfl ?_
    refine k_i2l C rfl rfl ?_
    refine k_iload C rfl rfl rfl ?_
    refine k_i2l C rfl rfl ?_
    refine c_SI C (e_rootsOfCubic  rfl) rfl rfl rfl rfl rfl rfl rfl (Nat.le_of_ble_eq_true rfl) (Nat.le_of_ble_eq_true rfl) (Nat.le_of_ble_eq_true rfl) ?_
    rintro _ _ _ ⟨hx7, hI8, hL9⟩
    have hx7 := hx7.symm; subst hx7
    have hI8 := hI8.symm; subst hI8; have hL9 := hL9.symm; subst hL9
    refine k_goto C (pc2 := 110) rfl rfl ?_
    exact k_iret C rfl (Or.inl rfl) (Nat.le_of_ble_eq_true rfl) (Nat.le_of_ble_eq_true rfl) ⟨_, _, _, rfl, rfl, by rw [rlV, if_pos (Decidable.not_not.mp c76)], rfl, rfl⟩
  refine k_iload_n C rfl rfl rfl ?_
  refine k_if_ne C (t := 75) rfl rfl rfl (fun c64 => ?_) (fun c64 => ?_)
  · skip
    refine k_iload_n C rfl rfl rfl ?_
    refine k_if_ne C (t := 95) rfl rfl rfl (fun c76 => ?_) (fun c76 => ?_)
    · skip
      refine k_iload_n C rfl rfl rfl ?_
      refine k_i2l C rfl rfl ?_
      refine k_iload_n C rfl rfl rfl ?_
      refine k_i2l C rfl rfl ?_
      refine k_iload_n C rfl rfl rfl ?_
      refine k_i2l C rfl rfl ?_
      refine k_iload C rfl rfl rfl ?_
      refine k_i2l C rfl rfl ?_
      refine k_iload C rfl rfl rfl ?_
      refine k_i2l C rfl rfl ?_
      refine c_SI C (e_rootsOfQuartic  rfl rfl rfl rfl rfl) rfl rfl rfl rfl rfl rfl rfl (Nat.le_of_ble_eq_true rfl) (Nat.le_of_ble_eq_true rfl) (Nat.le_of_ble_eq_true rfl) ?_
      rintro _ _ _ ⟨hx7, hI8, hL9⟩
      have hx7 := hx7.symm; subst hx7
      have hI8 := hI8.symm; subst hI8; have hL9 := hL9.symm; subst hL9
      exact k_iret C rfl (Or.inl rfl) (Nat.le_of_ble_eq_true rfl) (Nat.le_of_ble_eq_true rfl) ⟨_, _, _, rfl, rfl, by rw [rlV, if_neg c76], rfl, rfl⟩
    refine k_iload_n C rfl rfl rfl ?_
    refine k_i2l C rfl rfl ?_
    refine k_iload_n C rfl rfl rfl ?_
    refine k_i2l C rfl rfl ?_
    refine k_iload C rfl rfl rfl ?_
    refine k_i2l C rfl rfl ?_
    refine k_iload C rfl rfl rfl ?_
    refine k_i2l C rfl rfl ?_
    refine c_SI C (e_rootsOfCubic  rfl) rfl rfl rfl rfl rfl rfl rfl (Nat.le_of_ble_eq_true rfl) (Nat.le_of_ble_eq_true rfl) (Nat.le_of_ble_eq_true rfl) ?_
    rintro _ _ _ ⟨hx7, hI8, hL9⟩
    have hx7 := hx7.symm; subst hx7
    have hI8 := hI8.symm; subst hI8; have hL9 := hL9.symm; subst hL9
    refine k_goto C (pc2 := 110) rfl rfl ?_
    exact k_iret C rfl (Or.inl rfl) (Nat.le_of_ble_eq_true rfl) (Nat.le_of_ble_eq_true rfl) ⟨_, _, _, rfl, rfl, by rw [rlV, if_pos (Decidable.not_not.mp c76)], rfl, rfl⟩
  exact absurd ⟨Decidable.not_not.mp c60, Decidable.not_not.mp c64⟩ hok.2

theorem e_m_isThirty {d : Nat} {T N : Nat → Nat} {I : IT} {L : LT} {R : RT} {v : Int32}  : Ex (d + 2) 311 [.int v] (T, N, I, L, R) 0 0 (pI T N R (fun x9 I9 L9 => x9 = (if (-30 : Int32) ≤ v ∧ v ≤ 30 then (1 : Int32) else 0) ∧ I9 = I ∧ L9 = L)) := by
  refine ⟨_, rfl, Nat.le_of_ble_eq_true rfl, fun V C S => ?_⟩
  show V 0 [(0, .int v)] [] (T, N, I, L, R) 0 0
  refine k_iload_n C rfl rfl rfl ?_
  refine k_bipush C (x := -30) rfl rfl rfl ?_
  refine k_bipush C (x := 30) rfl rfl rfl ?_
  refine c_SI C e_in rfl rfl rfl rfl rfl rfl rfl (Nat.le_of_ble_eq_true rfl) (Nat.le_of_ble_eq_true rfl) (Nat.le_of_ble_eq_true rfl) ?_
  rintro _ _ _ ⟨hx7, hI8, hL9⟩
  have hx7 := hx7.symm; subst hx7
  have hI8 := hI8.symm; subst hI8; have hL9 := hL9.symm; subst hL9
  exact k_iret C rfl (Or.inr ⟨rfl, by by_cases h : (-30 : Int32) ≤ v ∧ v ≤ 30; exact Or.inr (if_pos h); exact Or.inl (if_neg h)⟩) (Nat.le_of_ble_eq_true rfl) (Nat.le_of_ble_eq_true rfl) ⟨_, _, _, rfl, rfl, ⟨rfl, rfl, rfl⟩⟩

theorem e_m_real_no {d : Nat} {T N : Nat → Nat} {I : IT} {L : LT} {R : RT} {A : Nat → Prop} {m : Nat} {a b c u e : Int32} (T_m : T m = 13) (A_m : A m) (h : ¬ okReal a b c u e) : Ex (d + 3) 312 [.ref m, .int a, .int b, .int c, .int u, .int e] (T, N, I, L, R) 0 0 (pI T N R (fun x9 I9 L9 => Fr A I L I9 L9 ∧ I9 m 0 = 1 ∧ IKm m I I9)) := by
  refine ⟨_, rfl, Nat.le_of_ble_eq_true rfl, fun V C S => ?_⟩
  show V 0 [(0, .ref m), (1, .int a), (2, .int b), (3, .int c), (4, .int u), (5, .int e)] [] (T, N, I, L, R) 0 0
  refine k_aload_n C rfl rfl rfl ?_
  refine k_iconst C (x := 0) rfl rfl rfl ?_
  refine p_I C rfl rfl rfl T_m (Or.inr rfl) rfl ?_
  refine k_iload_n C rfl rfl rfl ?_
  refine c_SI C e_m_isThirty rfl rfl rfl rfl rfl rfl rfl (Nat.le_of_ble_eq_true rfl) (Nat.le_of_ble_eq_true rfl) (Nat.le_of_ble_eq_true rfl) ?_
  rintro _ _ _ ⟨hx7, hI8, hL9⟩
  have hx7 := hx7.symm; subst hx7
  have hI8 := hI8.symm; subst hI8; have hL9 := hL9.symm; subst hL9
  refine k_if_eq C (t := 46) rfl rfl rfl (fun c9 => ?_) (fun c9 => ?_)
  · skip
    refine k_iconst C (x := 0) rfl rfl rfl ?_
    refine k_istore C (lw := [(6, .int _), (0, _), (1, .int _), (2, .int _), (3, .int _), (4, .int _), (5, .int _)]) rfl rfl (Nat.le_of_ble_eq_true rfl) rfl ?_
    refine k_aload_n C rfl rfl rfl ?_
    refine k_iload C rfl rfl rfl ?_
    refine k_if_eq C (t := 63) rfl rfl rfl (fun _ => ?_) (fun c52 => absurd (by decide) c52)
    refine k_iconst C (x := 1) rfl rfl rfl ?_
    refine k_goto C (pc2 := 68) rfl rfl ?_
    refine k_iconst C (x := 1) rfl rfl rfl ?_
    refine c_VI C (e_throwsIf1 T_m rfl) rfl rfl rfl rfl rfl ⟨_, rfl, rfl, T_m, Nat.le_of_ble_eq_true rfl⟩ rfl rfl (Nat.le_of_ble_eq_true rfl) (Nat.le_of_ble_eq_true rfl) (Nat.le_of_ble_eq_true rfl) ?_
    rintro _ _ _ ⟨hx7, hI8, hL9⟩
    have hx7 := hx7.symm; subst hx7
    have hI8 := hI8.symm; subst hI8; have hL9 := hL9.symm; subst hL9
    refine k_if_eq C (t := 77) rfl rfl rfl (fun c72 => absurd c72 (by decide)) (fun _ => ?_)
    refine k_iconst C (x := 0) rfl rfl rfl ?_
    exact k_iret C rfl (Or.inl rfl) (Nat.le_of_ble_eq_true rfl) (Nat.le_of_ble_eq_true rfl) ⟨_, _, _, rfl, rfl, ⟨(Fr.i (Fr.i Fr.rf A_m) A_m), u2_s, (by first | exact IKm.i IKm.rf | exact IKm.i (IKm.i IKm.rf))⟩⟩
  have qa := w30m.mp (inY c9)
  refine k_iload_n C rfl rfl rfl ?_
  refine c_SI C e_m_isThirty rfl rfl rfl rfl rfl rfl rfl (Nat.le_of_ble_eq_true rfl) (Nat.le_of_ble_eq_true rfl) (Nat.le_of_ble_eq_true rfl) ?_
  rintro _ _ _ ⟨hx7, hI8, hL9⟩
  have hx7 := hx7.symm; subst hx7
  have hI8 := hI8.symm; subst hI8; have hL9 := hL9.symm; subst hL9
  refine k_if_eq C (t := 46) rfl rfl rfl (fun c16 => ?_) (fun c16 => ?_)
  · skip
    refine k_iconst C (x := 0) rfl rfl rfl ?_
    refine k_istore C (lw := [(6, .int _), (0, _), (1, .int _), (2, .int _), (3, .int _), (4, .int _), (5, .int _)]) rfl rfl (Nat.le_of_ble_eq_true rfl) rfl ?_
    refine k_aload_n C rfl rfl rfl ?_
    refine k_iload C rfl rfl rfl ?_
    refine k_if_eq C (t := 63) rfl rfl rfl (fun _ => ?_) (fun c52 => absurd (by decide) c52)
    refine k_iconst C (x := 1) rfl rfl rfl ?_
    refine k_goto C (pc2 := 68) rfl rfl ?_
    refine k_iconst C (x := 1) rfl rfl rfl ?_
    refine c_VI C (e_throwsIf1 T_m rfl) rfl rfl rfl rfl rfl ⟨_, rfl, rfl, T_m, Nat.le_of_ble_eq_true rfl⟩ rfl rfl (Nat.le_of_ble_eq_true rfl) (Nat.le_of_ble_eq_true rfl) (Nat.le_of_ble_eq_true rfl) ?_
    rintro _ _ _ ⟨hx7, hI8, hL9⟩
    have hx7 := hx7.symm; subst hx7
    have hI8 := hI8.symm; subst hI8; have hL9 := hL9.symm; subst hL9
    refine k_if_eq C (t := 77) rfl rfl rfl (fun c72 => absurd c72 (by decide)) (fun _ => ?_)
    refine k_iconst C (x := 0) rfl rfl rfl ?_
    exact k_iret C rfl (Or.inl rfl) (Nat.le_of_ble_eq_true rfl) (Nat.le_of_ble_eq_true rfl) ⟨_, _, _, rfl, rfl, ⟨(Fr.i (Fr.i Fr.rf A_m) A_m), u2_s, (by first | exact IKm.i IKm.rf | exact IKm.i (IKm.i IKm.rf))⟩⟩
  have qb := w30m.mp (inY c16)
  refine k_iload_n C rfl rfl rfl ?_
  refine c_SI C e_m_isThirty rfl rfl rfl rfl rfl rfl rfl (Nat.le_of_ble_eq_true rfl) (Nat.le_of_ble_eq_true rfl) (Nat.le_of_ble_eq_true rfl) ?_
  rintro _ _ _ ⟨hx7, hI8, hL9⟩
  have hx7 := hx7.symm; subst hx7
  have hI8 := hI8.symm; subst hI8; have hL9 := hL9.symm; subst hL9
  refine k_if_eq C (t := 46) rfl rfl rfl (fun c23 => ?_) (fun c23 => ?_)
  · skip
    refine k_iconst C (x := 0) rfl rfl rfl ?_
    refine k_istore C (lw := [(6, .int _), (0, _), (1, .int _), (2, .int _), (3, .int _), (4, .int _), (5, .int _)]) rfl rfl (Nat.le_of_ble_eq_true rfl) rfl ?_
    refine k_aload_n C rfl rfl rfl ?_
    refine k_iload C rfl rfl rfl ?_
    refine k_if_eq C (t := 63) rfl rfl rfl (fun _ => ?_) (fun c52 => absurd (by decide) c52)
    refine k_iconst C (x := 1) rfl rfl rfl ?_
    refine k_goto C (pc2 := 68) rfl rfl ?_
    refine k_iconst C (x := 1) rfl rfl rfl ?_
    refine c_VI C (e_throwsIf1 T_m rfl) rfl rfl rfl rfl rfl ⟨_, rfl, rfl, T_m, Nat.le_of_ble_eq_true rfl⟩ rfl rfl (Nat.le_of_ble_eq_true rfl) (Nat.le_of_ble_eq_true rfl) (Nat.le_of_ble_eq_true rfl) ?_
    rintro _ _ _ ⟨hx7, hI8, hL9⟩
    have hx7 := hx7.symm; subst hx7
    have hI8 := hI8.symm; subst hI8; have hL9 := hL9.symm; subst hL9
    refine k_if_eq C (t := 77) rfl rfl rfl (fun c72 => absurd c72 (by decide)) (fun _ => ?_)
    refine k_iconst C (x := 0) rfl rfl rfl ?_
    exact k_iret C rfl (Or.inl rfl) (Nat.le_of_ble_eq_true rfl) (Nat.le_of_ble_eq_true rfl) ⟨_, _, _, rfl, rfl, ⟨(Fr.i (Fr.i Fr.rf A_m) A_m), u2_s, (by first | exact IKm.i IKm.rf | exact IKm.i (IKm.i IKm.rf))⟩⟩
  have qc := w30m.mp (inY c23)
  refine k_iload C rfl rfl rfl ?_
  refine c_SI C e_m_isThirty rfl rfl rfl rfl rfl rfl rfl (Nat.le_of_ble_eq_true rfl) (Nat.le_of_ble_eq_true rfl) (Nat.le_of_ble_eq_true rfl) ?_
  rintro _ _ _ ⟨hx7, hI8, hL9⟩
  have hx7 := hx7.symm; subst hx7
  have hI8 := hI8.symm; subst hI8; have hL9 := hL9.symm; subst hL9
  refine k_if_eq C (t := 46) rfl rfl rfl (fun c31 => ?_) (fun c31 => ?_)
  · skip
    refine k_iconst C (x := 0) rfl rfl rfl ?_
    refine k_istore C (lw := [(6, .int _), (0, _), (1, .int _), (2, .int _), (3, .int _), (4, .int _), (5, .int _)]) rfl rfl (Nat.le_of_ble_eq_true rfl) rfl ?_
    refine k_aload_n C rfl rfl rfl ?_
    refine k_iload C rfl rfl rfl ?_
    refine k_if_eq C (t := 63) rfl rfl rfl (fun _ => ?_) (fun c52 => absurd (by decide) c52)
    refine k_iconst C (x := 1) rfl rfl rfl ?_
    refine k_goto C (pc2 := 68) rfl rfl ?_
    refine k_iconst C (x := 1) rfl rfl rfl ?_
    refine c_VI C (e_throwsIf1 T_m rfl) rfl rfl rfl rfl rfl ⟨_, rfl, rfl, T_m, Nat.le_of_ble_eq_true rfl⟩ rfl rfl (Nat.le_of_ble_eq_true rfl) (Nat.le_of_ble_eq_true rfl) (Nat.le_of_ble_eq_true rfl) ?_
    rintro _ _ _ ⟨hx7, hI8, hL9⟩
    have hx7 := hx7.symm; subst hx7
    have hI8 := hI8.symm; subst hI8; have hL9 := hL9.symm; subst hL9
    refine k_if_eq C (t := 77) rfl rfl rfl (fun c72 => absurd c72 (by decide)) (fun _ => ?_)
    refine k_iconst C (x := 0) rfl rfl rfl ?_
    exact k_iret C rfl (Or.inl rfl) (Nat.le_of_ble_eq_true rfl) (Nat.le_of_ble_eq_true rfl) ⟨_, _, _, rfl, rfl, ⟨(Fr.i (Fr.i Fr.rf A_m) A_m), u2_s, (by first | exact IKm.i IKm.rf | exact IKm.i (IKm.i IKm.rf))⟩⟩
  have qu := w30m.mp (inY c31)
  refine k_iload C rfl rfl rfl ?_
  refine c_SI C e_m_isThirty rfl rfl rfl rfl rfl rfl rfl (Nat.le_of_ble_eq_true rfl) (Nat.le_of_ble_eq_true rfl) (Nat.le_of_ble_eq_true rfl) ?_
  rintro _ _ _ ⟨hx7, hI8, hL9⟩
  have hx7 := hx7.symm; subst hx7
  have hI8 := hI8.symm; subst hI8; have hL9 := hL9.symm; subst hL9
  refine k_if_eq C (t := 46) rfl rfl rfl (fun c39 => ?_) (fun c39 => ?_)
  · skip
    refine k_iconst C (x := 0) rfl rfl rfl ?_
    refine k_istore C (lw := [(6, .int _), (0, _), (1, .int _), (2, .int _), (3, .int _), (4, .int _), (5, .int _)]) rfl rfl (Nat.le_of_ble_eq_true rfl) rfl ?_
    refine k_aload_n C rfl rfl rfl ?_
    refine k_iload C rfl rfl rfl ?_
    refine k_if_eq C (t := 63) rfl rfl rfl (fun _ => ?_) (fun c52 => absurd (by decide) c52)
    refine k_iconst C (x := 1) rfl rfl rfl ?_
    refine k_goto C (pc2 := 68) rfl rfl ?_
    refine k_iconst C (x := 1) rfl rfl rfl ?_
    refine c_VI C (e_throwsIf1 T_m rfl) rfl rfl rfl rfl rfl ⟨_, rfl, rfl, T_m, Nat.le_of_ble_eq_true rfl⟩ rfl rfl (Nat.le_of_ble_eq_true rfl) (Nat.le_of_ble_eq_true rfl) (Nat.le_of_ble_eq_true rfl) ?_
    rintro _ _ _ ⟨hx7, hI8, hL9⟩
    have hx7 := hx7.symm; subst hx7
    have hI8 := hI8.symm; subst hI8; have hL9 := hL9.symm; subst hL9
    refine k_if_eq C (t := 77) rfl rfl rfl (fun c72 => absurd c72 (by decide)) (fun _ => ?_)
    refine k_iconst C (x := 0) rfl rfl rfl ?_
    exact k_iret C rfl (Or.inl rfl) (Nat.le_of_ble_eq_true rfl) (Nat.le_of_ble_eq_true rfl) ⟨_, _, _, rfl, rfl, ⟨(Fr.i (Fr.i Fr.rf A_m) A_m), u2_s, (by first | exact IKm.i IKm.rf | exact IKm.i (IKm.i IKm.rf))⟩⟩
  have qe := w30m.mp (inY c39)
  refine k_iconst C (x := 1) rfl rfl rfl ?_
  refine k_goto C (pc2 := 47) rfl rfl ?_
  refine k_istore C (lw := [(6, .int _), (0, _), (1, .int _), (2, .int _), (3, .int _), (4, .int _), (5, .int _)]) rfl rfl (Nat.le_of_ble_eq_true rfl) rfl ?_
  refine k_aload_n C rfl rfl rfl ?_
  refine k_iload C rfl rfl rfl ?_
  refine k_if_eq C (t := 63) rfl rfl rfl (fun c52 => absurd c52 (by decide)) (fun _ => ?_)
  refine k_iload_n C rfl rfl rfl ?_
  refine k_if_ne C (t := 67) rfl rfl rfl (fun c56 => ?_) (fun c56 => ?_)
  · skip
    exact absurd ⟨⟨qa, qb, qc, qu, qe⟩, fun z => c56 z.1⟩ h
  refine k_iload_n C rfl rfl rfl ?_
  refine k_if_ne C (t := 67) rfl rfl rfl (fun c60 => ?_) (fun c60 => ?_)
  · skip
    exact absurd ⟨⟨qa, qb, qc, qu, qe⟩, fun z => c60 z.2⟩ h
  refine k_iconst C (x := 1) rfl rfl rfl ?_
  refine k_goto C (pc2 := 68) rfl rfl ?_
  refine k_iconst C (x := 1) rfl rfl rfl ?_
  refine c_VI C (e_throwsIf1 T_m rfl) rfl rfl rfl rfl rfl ⟨_, rfl, rfl, T_m, Nat.le_of_ble_eq_true rfl⟩ rfl rfl (Nat.le_of_ble_eq_true rfl) (Nat.le_of_ble_eq_true rfl) (Nat.le_of_ble_eq_true rfl) ?_
  rintro _ _ _ ⟨hx7, hI8, hL9⟩
  have hx7 := hx7.symm; subst hx7
  have hI8 := hI8.symm; subst hI8; have hL9 := hL9.symm; subst hL9
  refine k_if_eq C (t := 77) rfl rfl rfl (fun c72 => absurd c72 (by decide)) (fun _ => ?_)
  refine k_iconst C (x := 0) rfl rfl rfl ?_
  exact k_iret C rfl (Or.inl rfl) (Nat.le_of_ble_eq_true rfl) (Nat.le_of_ble_eq_true rfl) ⟨_, _, _, rfl, rfl, ⟨(Fr.i (Fr.i Fr.rf A_m) A_m), u2_s, (by first | exact IKm.i IKm.rf | exact IKm.i (IKm.i IKm.rf))⟩⟩

theorem e_m_real_yes {d : Nat} {T N : Nat → Nat} {I : IT} {L : LT} {R : RT} {A : Nat → Prop} {m : Nat} {a b c u e : Int32} (T_m : T m = 13) (A_m : A m) (hok : okReal a b c u e) : Ex (d + 3) 312 [.ref m, .int a, .int b, .int c, .int u, .int e] (T, N, I, L, R) 0 0 (pI T N R (fun x9 I9 L9 => x9 = rlV a b c u e ∧ Fr A I L I9 L9 ∧ I9 m 0 = 0 ∧ IKm m I I9)) := by
  refine ⟨_, rfl, Nat.le_of_ble_eq_true rfl, fun V C S => ?_⟩
  show V 0 [(0, .ref m), (1, .int a), (2, .int b), (3, .int c), (4, .int u), (5, .int e)] [] (T, N, I, L, R) 0 0
  refine k_aload_n C rfl rfl rfl ?_
  refine k_iconst C (x := 0) rfl rfl rfl ?_
  refine p_I C rfl rfl rfl T_m (Or.inr rfl) rfl ?_
  refine k_iload_n C rfl rfl rfl ?_
  refine c_SI C e_m_isThirty rfl rfl rfl rfl rfl rfl rfl (Nat.le_of_ble_eq_true rfl) (Nat.le_of_ble_eq_true rfl) (Nat.le_of_ble_eq_true rfl) ?_
  rintro _ _ _ ⟨hx7, hI8, hL9⟩
  have hx7 := hx7.symm; subst hx7
  have hI8 := hI8.symm; subst hI8; have hL9 := hL9.symm; subst hL9
  refine k_if_eq C (t := 46) rfl rfl rfl (fun c9 => ?_) (fun c9 => ?_)
  · skip
    exact absurd c9 (inN (w30m.mpr hok.1.1))
  refine k_iload_n C rfl rfl rfl ?_
  refine c_SI C e_m_isThirty rfl rfl rfl rfl rfl rfl rfl (Nat.le_of_ble_eq_true rfl) (Nat.le_of_ble_eq_true rfl) (Nat.le_of_ble_eq_true rfl) ?_
  rintro _ _ _ ⟨hx7, hI8, hL9⟩
  have hx7 := hx7.symm; subst hx7
  have hI8 := hI8.symm; subst hI8; have hL9 := hL9.symm; subst hL9
  refine k_if_eq C (t := 46) rfl rfl rfl (fun c16 => ?_) (fun c16 => ?_)
  · skip
    exact absurd c16 (inN (w30m.mpr hok.1.2.1))
  refine k_iload_n C rfl rfl rfl ?_
  refine c_SI C e_m_isThirty rfl rfl rfl rfl rfl rfl rfl (Nat.le_of_ble_eq_true rfl) (Nat.le_of_ble_eq_true rfl) (Nat.le_of_ble_eq_true rfl) ?_
  rintro _ _ _ ⟨hx7, hI8, hL9⟩
  have hx7 := hx7.symm; subst hx7
  have hI8 := hI8.symm; subst hI8; have hL9 := hL9.symm; subst hL9
  refine k_if_eq C (t := 46) rfl rfl rfl (fun c23 => ?_) (fun c23 => ?_)
  · skip
    exact absurd c23 (inN (w30m.mpr hok.1.2.2.1))
  refine k_iload C rfl rfl rfl ?_
  refine c_SI C e_m_isThirty rfl rfl rfl rfl rfl rfl rfl (Nat.le_of_ble_eq_true rfl) (Nat.le_of_ble_eq_true rfl) (Nat.le_of_ble_eq_true rfl) ?_
  rintro _ _ _ ⟨hx7, hI8, hL9⟩
  have hx7 := hx7.symm; subst hx7
  have hI8 := hI8.symm; subst hI8; have hL9 := hL9.symm; subst hL9
  refine k_if_eq C (t := 46) rfl rfl rfl (fun c31 => ?_) (fun c31 => ?_)
  · skip
    exact absurd c31 (inN (w30m.mpr hok.1.2.2.2.1))
  refine k_iload C rfl rfl rfl ?_
  refine c_SI C e_m_isThirty rfl rfl rfl rfl rfl rfl rfl (Nat.le_of_ble_eq_true rfl) (Nat.le_of_ble_eq_true rfl) (Nat.le_of_ble_eq_true rfl) ?_
  rintro _ _ _ ⟨hx7, hI8, hL9⟩
  have hx7 := hx7.symm; subst hx7
  have hI8 := hI8.symm; subst hI8; have hL9 := hL9.symm; subst hL9
  refine k_if_eq C (t := 46) rfl rfl rfl (fun c39 => ?_) (fun c39 => ?_)
  · skip
    exact absurd c39 (inN (w30m.mpr hok.1.2.2.2.2))
  refine k_iconst C (x := 1) rfl rfl rfl ?_
  refine k_goto C (pc2 := 47) rfl rfl ?_
  refine k_istore C (lw := [(6, .int _), (0, _), (1, .int _), (2, .int _), (3, .int _), (4, .int _), (5, .int _)]) rfl rfl (Nat.le_of_ble_eq_true rfl) rfl ?_
  refine k_aload_n C rfl rfl rfl ?_
  refine k_iload C rfl rfl rfl ?_
  refine k_if_eq C (t := 63) rfl rfl rfl (fun c52 => absurd c52 (by decide)) (fun _ => ?_)
  refine k_iload_n C rfl rfl rfl ?_
  refine k_if_ne C (t := 67) rfl rfl rfl (fun c56 => ?_) (fun c56 => ?_)
  · skip
    refine k_iconst C (x := 0) rfl rfl rfl ?_
    refine k_iconst C (x := 1) rfl rfl rfl ?_
    refine c_VI C (e_throwsIf0 T_m rfl) rfl rfl rfl rfl rfl ⟨_, rfl, rfl, T_m, Nat.le_of_ble_eq_true rfl⟩ rfl rfl (Nat.le_of_ble_eq_true rfl) (Nat.le_of_ble_eq_true rfl) (Nat.le_of_ble_eq_true rfl) ?_
    rintro _ _ _ ⟨hx7, hI8, hL9⟩
    have hx7 := hx7.symm; subst hx7
    have hI8 := hI8.symm; subst hI8; have hL9 := hL9.symm; subst hL9
    refine k_if_eq C (t := 77) rfl rfl rfl (fun _ => ?_) (fun c72 => absurd (by decide) c72)
    refine k_iload_n C rfl rfl rfl ?_
    refine k_if_ne C (t := 97) rfl rfl rfl (fun c78 => ?_) (fun c78 => ?_)
    · skip
      refine k_iload_n C rfl rfl rfl ?_
      refine k_i2l C rfl rfl ?_
      refine k_iload_n C rfl rfl rfl ?_
      refine k_i2l C rfl rfl ?_
      refine k_iload_n C rfl rfl rfl ?_
      refine k_i2l C rfl rfl ?_
      refine k_iload C rfl rfl rfl ?_
      refine k_i2l C rfl rfl ?_
      refine k_iload C rfl rfl rfl ?_
      refine k_i2l C rfl rfl ?_
      refine c_SI C (e_m_realOfQuartic  rfl rfl rfl rfl rfl rfl) rfl rfl rfl rfl rfl rfl rfl (Nat.le_of_ble_eq_true rfl) (Nat.le_of_ble_eq_true rfl) (Nat.le_of_ble_eq_true rfl) ?_
      rintro _ _ _ ⟨hx7, hI8, hL9⟩
      have hx7 := hx7.symm; subst hx7
      have hI8 := hI8.symm; subst hI8; have hL9 := hL9.symm; subst hL9
      exact k_iret C rfl (Or.inl rfl) (Nat.le_of_ble_eq_true rfl) (Nat.le_of_ble_eq_true rfl) ⟨_, _, _, rfl, rfl, real_i hok c78, Fr.i Fr.rf A_m, u2_s, (by first | exact IKm.i IKm.rf | exact IKm.i (IKm.i IKm.rf))⟩
    refine k_iload_n C rfl rfl rfl ?_
    refine k_i2l C rfl rfl ?_
    refine k_iload_n C rfl rfl rfl ?_
    refine k_i2l C rfl rfl ?_
    refine k_iload C rfl rfl rfl ?_
    refine k_i2l C rfl rfl ?_
    refine k_iload C rfl rfl rfl ?_
    refine k_i2l C rfl rfl ?_
    refine c_SI C (e_m_realOfCubic  rfl) rfl rfl rfl rfl rfl rfl rfl (Nat.le_of_ble_eq_true rfl) (Nat.le_of_ble_eq_true rfl) (Nat.le_of_ble_eq_true rfl) ?_
    rintro _ _ _ ⟨hx7, hI8, hL9⟩
    have hx7 := hx7.symm; subst hx7
    have hI8 := hI8.symm; subst hI8; have hL9 := hL9.symm; subst hL9
    refine k_goto C (pc2 := 112) rfl rfl ?_
    exact k_iret C rfl (Or.inl rfl) (Nat.le_of_ble_eq_true rfl) (Nat.le_of_ble_eq_true rfl) ⟨_, _, _, rfl, rfl, real_c (Decidable.not_not.mp c78), Fr.i Fr.rf A_m, u2_s, (by first | exact IKm.i IKm.rf | exact IKm.i (IKm.i IKm.rf))⟩
  refine k_iload_n C rfl rfl rfl ?_
  refine k_if_ne C (t := 67) rfl rfl rfl (fun c60 => ?_) (fun c60 => ?_)
  · skip
    refine k_iconst C (x := 0) rfl rfl rfl ?_
    refine k_iconst C (x := 1) rfl rfl rfl ?_
    refine c_VI C (e_throwsIf0 T_m rfl) rfl rfl rfl rfl rfl ⟨_, rfl, rfl, T_m, Nat.le_of_ble_eq_true rfl⟩ rfl rfl (Nat.le_of_ble_eq_true rfl) (Nat.le_of_ble_eq_true rfl) (Nat.le_of_ble_eq_true rfl) ?_
    rintro _ _ _ ⟨hx7, hI8, hL9⟩
    have hx7 := hx7.symm; subst hx7
    have hI8 := hI8.symm; subst hI8; have hL9 := hL9.symm; subst hL9
    refine k_if_eq C (t := 77) rfl rfl rfl (fun _ => ?_) (fun c72 => absurd (by decide) c72)
    refine k_iload_n C rfl rfl rfl ?_
    refine k_if_ne C (t := 97) rfl rfl rfl (fun c78 => ?_) (fun c78 => ?_)
    · skip
      refine k_iload_n C rfl rfl rfl ?_
      refine k_i2l C rfl rfl ?_
      refine k_iload_n C rfl rfl rfl ?_
      refine k_i2l C rfl rfl ?_
      refine k_iload_n C rfl rfl rfl ?_
      refine k_i2l C rfl rfl ?_
      refine k_iload C rfl rfl rfl ?_
      refine k_i2l C rfl rfl ?_
      refine k_iload C rfl rfl rfl ?_
      refine k_i2l C rfl rfl ?_
      refine c_SI C (e_m_realOfQuartic  rfl rfl rfl rfl rfl rfl) rfl rfl rfl rfl rfl rfl rfl (Nat.le_of_ble_eq_true rfl) (Nat.le_of_ble_eq_true rfl) (Nat.le_of_ble_eq_true rfl) ?_
      rintro _ _ _ ⟨hx7, hI8, hL9⟩
      have hx7 := hx7.symm; subst hx7
      have hI8 := hI8.symm; subst hI8; have hL9 := hL9.symm; subst hL9
      exact k_iret C rfl (Or.inl rfl) (Nat.le_of_ble_eq_true rfl) (Nat.le_of_ble_eq_true rfl) ⟨_, _, _, rfl, rfl, real_i hok c78, Fr.i Fr.rf A_m, u2_s, (by first | exact IKm.i IKm.rf | exact IKm.i (IKm.i IKm.rf))⟩
    refine k_iload_n C rfl rfl rfl ?_
    refine k_i2l C rfl rfl ?_
    refine k_iload_n C rfl rfl rfl ?_
    refine k_i2l C rfl rfl ?_
    refine k_iload C rfl rfl rfl ?_
    refine k_i2l C rfl rfl ?_
    refine k_iload C rfl rfl rfl ?_
    refine k_i2l C rfl rfl ?_
    refine c_SI C (e_m_realOfCubic  rfl) rfl rfl rfl rfl rfl rfl rfl (Nat.le_of_ble_eq_true rfl) (Nat.le_of_ble_eq_true rfl) (Nat.le_of_ble_eq_true rfl) ?_
    rintro _ _ _ ⟨hx7, hI8, hL9⟩
    have hx7 := hx7.symm; subst hx7
    have hI8 := hI8.symm; subst hI8; have hL9 := hL9.symm; subst hL9
    refine k_goto C (pc2 := 112) rfl rfl ?_
    exact k_iret C rfl (Or.inl rfl) (Nat.le_of_ble_eq_true rfl) (Nat.le_of_ble_eq_true rfl) ⟨_, _, _, rfl, rfl, real_c (Decidable.not_not.mp c78), Fr.i Fr.rf A_m, u2_s, (by first | exact IKm.i IKm.rf | exact IKm.i (IKm.i IKm.rf))⟩
  exact absurd ⟨Decidable.not_not.mp c56, Decidable.not_not.mp c60⟩ hok.2
end
