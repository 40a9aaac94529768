/-! basis: exactly -/
theorem s_X11_basis_x {d : Nat} {T N : Nat → Nat} {I : IT} {L : LT} {R : RT} {A B : Nat → Prop} {r0 : Nat} {n1 n2 n3 : Int32} (hS : SUB B A) (hI : IX A T I) (H_r0 : (hs_LF T N R A B) r0) (hU : UPR T R) (hp0 : rA R (rA R (rA R r0 7) 0) 0 = (rA R r0 1)) (hp1 : rA R (rA R (rA R (rA R r0 7) 1) 0) 0 = (rA R r0 1)) (hp2 : ∀ j : Nat, j < 8 → (j : Int) < (I (rA R r0 1) 3).toInt → (0 ≤ (I (SA R (rA R r0 1) j) 2).toInt ∧ (I (SA R (rA R r0 1) j) 2).toInt ≤ 160) ∧ HOV (STL R I (SA R (rA R r0 1) j)) 0) (hp3 : PRM (I (rA R r0 1) 0).toInt) : Ex (d + 8) 154 [.ref r0, .int n1, .int n2, .int n3] (T, N, I, L, R) 1 6 (pW2 [0] T N R (pI T N R (fun x9 I9 L9 => (¬ (n2.toInt < 1 ∨ 8 < n2.toInt)) ∧ (SPQ x9 (SPF (I (rA R r0 1) 0).toInt n3 n2.toInt n1.toInt (I (rA R r0 1) 3).toInt (SL5 R I (rA R r0 1)) 8)) ∧ (IX A T I9 ∧ Chg B T [(2, 5), (3, 0), (6, 6), (6, 7), (6, 8)] I L I9 L9))) (fun e9 I9 L9 => (IX A T I9 ∧ Chg B T [(2, 5), (3, 0), (6, 6), (6, 7), (6, 8)] I L I9 L9) ∧ (e9 = 0 → n2.toInt < 1 ∨ 8 < n2.toInt))) := by
  refine ⟨_, rfl, Nat.le_of_ble_eq_true rfl, fun V C S => ?_⟩
  show V 0 [(0, .ref r0), (1, .int n1), (2, .int n2), (3, .int n3)] [] (T, N, I, L, R) 0 0
  have gn1 := rg n1
  have gn2 := rg n2
  have gn3 := rg n3
  obtain ⟨T_r0, A_r0, B_r0, ⟨r0_0, R_r0_0, H_r0_0⟩, ⟨r0_1, R_r0_1, H_r0_1⟩, ⟨r0_2, R_r0_2, H_r0_2⟩, ⟨r0_5, R_r0_5, H_r0_5⟩, ⟨r0_6, R_r0_6, H_r0_6⟩, ⟨r0_7, R_r0_7, H_r0_7⟩, ⟨r0_8, R_r0_8, H_r0_8⟩, ⟨r0_9, R_r0_9, H_r0_9⟩, ⟨r0_10, R_r0_10, H_r0_10⟩, ⟨r0_11, R_r0_11, H_r0_11⟩, ⟨r0_12, R_r0_12, H_r0_12⟩, ⟨r0_13, R_r0_13, H_r0_13⟩⟩ := id H_r0
  have z_r0_0 : rA R r0 0 = r0_0 := rA_e R_r0_0
  have z_r0_1 : rA R r0 1 = r0_1 := rA_e R_r0_1
  have z_r0_2 : rA R r0 2 = r0_2 := rA_e R_r0_2
  have z_r0_5 : rA R r0 5 = r0_5 := rA_e R_r0_5
  have z_r0_6 : rA R r0 6 = r0_6 := rA_e R_r0_6
  have z_r0_7 : rA R r0 7 = r0_7 := rA_e R_r0_7
  have z_r0_8 : rA R r0 8 = r0_8 := rA_e R_r0_8
  have z_r0_9 : rA R r0 9 = r0_9 := rA_e R_r0_9
  have z_r0_10 : rA R r0 10 = r0_10 := rA_e R_r0_10
  have z_r0_11 : rA R r0 11 = r0_11 := rA_e R_r0_11
  have z_r0_12 : rA R r0 12 = r0_12 := rA_e R_r0_12
  have z_r0_13 : rA R r0 13 = r0_13 := rA_e R_r0_13
  obtain ⟨T_r0_1, A_r0_1, B_r0_1, ⟨r0_1_6, R_r0_1_6, H_r0_1_6⟩, ⟨r0_1_7, R_r0_1_7, H_r0_1_7⟩, ⟨r0_1_8, R_r0_1_8, H_r0_1_8⟩, ⟨r0_1_9, R_r0_1_9, H_r0_1_9⟩, ⟨r0_1_10, R_r0_1_10, H_r0_1_10⟩⟩ := id H_r0_1
  have z_r0_1_6 : rA R r0_1 6 = r0_1_6 := rA_e R_r0_1_6
  have z_r0_1_7 : rA R r0_1 7 = r0_1_7 := rA_e R_r0_1_7
  have z_r0_1_8 : rA R r0_1 8 = r0_1_8 := rA_e R_r0_1_8
  have z_r0_1_9 : rA R r0_1 9 = r0_1_9 := rA_e R_r0_1_9
  have z_r0_1_10 : rA R r0_1 10 = r0_1_10 := rA_e R_r0_1_10
  try simp only [z_r0_0, z_r0_1, z_r0_2, z_r0_5, z_r0_6, z_r0_7, z_r0_8, z_r0_9, z_r0_10, z_r0_11, z_r0_12, z_r0_13, z_r0_1_6, z_r0_1_7, z_r0_1_8, z_r0_1_9, z_r0_1_10] at hp0
  try simp only [z_r0_0, z_r0_1, z_r0_2, z_r0_5, z_r0_6, z_r0_7, z_r0_8, z_r0_9, z_r0_10, z_r0_11, z_r0_12, z_r0_13, z_r0_1_6, z_r0_1_7, z_r0_1_8, z_r0_1_9, z_r0_1_10] at hp1
  try simp only [z_r0_0, z_r0_1, z_r0_2, z_r0_5, z_r0_6, z_r0_7, z_r0_8, z_r0_9, z_r0_10, z_r0_11, z_r0_12, z_r0_13, z_r0_1_6, z_r0_1_7, z_r0_1_8, z_r0_1_9, z_r0_1_10] at hp2
  try simp only [z_r0_0, z_r0_1, z_r0_2, z_r0_5, z_r0_6, z_r0_7, z_r0_8, z_r0_9, z_r0_10, z_r0_11, z_r0_12, z_r0_13, z_r0_1_6, z_r0_1_7, z_r0_1_8, z_r0_1_9, z_r0_1_10] at hp3
  obtain ⟨w_r0_1_0, k0_r0_1_0⟩ : ∃ x, I r0_1 0 = x := ⟨_, rfl⟩
  have gw_r0_1_0 := rg w_r0_1_0
  have ow_r0_1_0 := IX.p hI A_r0_1 T_r0_1 k0_r0_1_0
  obtain ⟨w_r0_1_3, k0_r0_1_3⟩ : ∃ x, I r0_1 3 = x := ⟨_, rfl⟩
  have gw_r0_1_3 := rg w_r0_1_3
  try simp only [k0_r0_1_0, k0_r0_1_3] at hp0
  try simp only [k0_r0_1_0, k0_r0_1_3] at hp1
  try simp only [k0_r0_1_0, k0_r0_1_3] at hp2
  try simp only [k0_r0_1_0, k0_r0_1_3] at hp3
  refine k_iload_n C rfl rfl rfl ?_
  refine z_iconst C (z := 1) rfl rfl rfl (fun x1 ex1 => ?_)
  refine b_icmp_lt C (t := 11) rfl rfl rfl (fun c2 => ?_) (fun c2 => ?_)
  · skip
    exact k_throw C rfl rfl rfl rfl rfl rfl (Nat.le_of_ble_eq_true rfl) (Nat.le_of_ble_eq_true rfl) (Nat.le_of_ble_eq_true rfl) (Or.inr ⟨_, _, _, (by decide : 0 ∈ [0]), rfl, rfl, ⟨⟨hI, Chg.rf⟩, (fun _ => by first | omega | (simp only [k0_r0_1_0, k0_r0_1_3, and_true, true_and, or_true, true_or, and_false, false_and, or_false, false_or] <;> omega))⟩⟩)
  refine k_iload_n C rfl rfl rfl ?_
  refine z_bipush C (z := 8) rfl rfl rfl (fun x3 ex3 => ?_)
  refine b_icmp_le C (t := 19) rfl rfl rfl (fun c4 => ?_) (fun c4 => ?_)
  · skip
    refine k_aload_n C rfl rfl rfl ?_
    refine g_R C rfl rfl rfl T_r0 rfl R_r0_7 ?_
    refine k_aload_n C rfl rfl rfl ?_
    refine g_R C rfl rfl rfl T_r0 rfl R_r0_1 ?_
    refine k_iload_n C rfl rfl rfl ?_
    refine k_iload_n C rfl rfl rfl ?_
    refine k_iload_n C rfl rfl rfl ?_
    obtain ⟨T_r0_7, A_r0_7, B_r0_7, ⟨r0_7_0, R_r0_7_0, H_r0_7_0⟩, ⟨r0_7_1, R_r0_7_1, H_r0_7_1⟩, ⟨r0_7_2, R_r0_7_2, H_r0_7_2⟩, ⟨r0_7_3, R_r0_7_3, H_r0_7_3⟩, ⟨r0_7_4, R_r0_7_4, H_r0_7_4⟩, ⟨r0_7_5, R_r0_7_5, H_r0_7_5⟩⟩ := id H_r0_7
    have z_r0_7_0 : rA R r0_7 0 = r0_7_0 := rA_e R_r0_7_0
    have z_r0_7_1 : rA R r0_7 1 = r0_7_1 := rA_e R_r0_7_1
    have z_r0_7_2 : rA R r0_7 2 = r0_7_2 := rA_e R_r0_7_2
    have z_r0_7_3 : rA R r0_7 3 = r0_7_3 := rA_e R_r0_7_3
    have z_r0_7_4 : rA R r0_7 4 = r0_7_4 := rA_e R_r0_7_4
    have z_r0_7_5 : rA R r0_7 5 = r0_7_5 := rA_e R_r0_7_5
    refine c_VI C (s_X5_independent_x hS hI H_r0_7 H_r0_1 (by omega) (by omega) hU (by first | exact hp0 | (rw [← z_r0_7, ← z_r0_1]; exact hp0)) (by first | exact hp1 | (rw [← z_r0_7, ← z_r0_1]; exact hp1)) (by first | exact hp2 | (rw [k0_r0_1_3]; exact hp2)) (by first | exact hp3 | (rw [k0_r0_1_0]; exact hp3))) rfl rfl rfl rfl rfl ⟨_, rfl, rfl, T_r0_7, Nat.le_of_ble_eq_true rfl⟩ rfl rfl (Nat.le_of_ble_eq_true rfl) (Nat.le_of_ble_eq_true rfl) (Nat.le_of_ble_eq_true rfl) ?_
    rintro x5 I6 L7 ⟨p0x5, hI6, S8⟩
    try simp only [z_r0_0, z_r0_1, z_r0_2, z_r0_5, z_r0_6, z_r0_7, z_r0_8, z_r0_9, z_r0_10, z_r0_11, z_r0_12, z_r0_13, z_r0_1_6, z_r0_1_7, z_r0_1_8, z_r0_1_9, z_r0_1_10, z_r0_7_0, z_r0_7_1, z_r0_7_2, z_r0_7_3, z_r0_7_4, z_r0_7_5] at S8
    have e9 := Chg.k S8 T_r0_1 (by decide) (by decide) k0_r0_1_0
    have e10 := Chg.k S8 T_r0_1 (by decide) (by decide) k0_r0_1_3
    have gx5 := rg x5
    try simp only [z_r0_0, z_r0_1, z_r0_2, z_r0_5, z_r0_6, z_r0_7, z_r0_8, z_r0_9, z_r0_10, z_r0_11, z_r0_12, z_r0_13, z_r0_1_6, z_r0_1_7, z_r0_1_8, z_r0_1_9, z_r0_1_10, z_r0_7_0, z_r0_7_1, z_r0_7_2, z_r0_7_3, z_r0_7_4, z_r0_7_5] at p0x5
    try simp only [k0_r0_1_0, k0_r0_1_3] at p0x5
    try have q0x5 := congrArg Int32.toInt p0x5
    have hsp := p0x5; (try simp only [z_r0_0, z_r0_1, z_r0_2, z_r0_5, z_r0_6, z_r0_7, z_r0_8, z_r0_9, z_r0_10, z_r0_11, z_r0_12, z_r0_13, z_r0_1_6, z_r0_1_7, z_r0_1_8, z_r0_1_9, z_r0_1_10, z_r0_7_0, z_r0_7_1, z_r0_7_2, z_r0_7_3, z_r0_7_4, z_r0_7_5] at hsp)
    exact k_iret C rfl (Or.inl rfl) (Nat.le_of_ble_eq_true rfl) (Nat.le_of_ble_eq_true rfl) (Or.inl ⟨_, _, _, rfl, rfl, by (try simp only [z_r0_0, z_r0_1, z_r0_2, z_r0_5, z_r0_6, z_r0_7, z_r0_8, z_r0_9, z_r0_10, z_r0_11, z_r0_12, z_r0_13, z_r0_1_6, z_r0_1_7, z_r0_1_8, z_r0_1_9, z_r0_1_10, z_r0_7_0, z_r0_7_1, z_r0_7_2, z_r0_7_3, z_r0_7_4, z_r0_7_5]); omega, by (try simp only [z_r0_0, z_r0_1, z_r0_2, z_r0_5, z_r0_6, z_r0_7, z_r0_8, z_r0_9, z_r0_10, z_r0_11, z_r0_12, z_r0_13, z_r0_1_6, z_r0_1_7, z_r0_1_8, z_r0_1_9, z_r0_1_10, z_r0_7_0, z_r0_7_1, z_r0_7_2, z_r0_7_3, z_r0_7_4, z_r0_7_5]); (try simp only [z_r0_0, z_r0_1, z_r0_2, z_r0_5, z_r0_6, z_r0_7, z_r0_8, z_r0_9, z_r0_10, z_r0_11, z_r0_12, z_r0_13, z_r0_1_6, z_r0_1_7, z_r0_1_8, z_r0_1_9, z_r0_1_10, z_r0_7_0, z_r0_7_1, z_r0_7_2, z_r0_7_3, z_r0_7_4, z_r0_7_5]); simp only [k0_r0_1_0, k0_r0_1_3]; exact hsp, hI6, (Chg.mono (Chg.up S8 (ISX.b H_r0_7)) (by decide))⟩)
  exact k_throw C rfl rfl rfl rfl rfl rfl (Nat.le_of_ble_eq_true rfl) (Nat.le_of_ble_eq_true rfl) (Nat.le_of_ble_eq_true rfl) (Or.inr ⟨_, _, _, (by decide : 0 ∈ [0]), rfl, rfl, ⟨⟨hI, Chg.rf⟩, (fun _ => by first | omega | (simp only [k0_r0_1_0, k0_r0_1_3, and_true, true_and, or_true, true_or, and_false, false_and, or_false, false_or] <;> omega))⟩⟩)

