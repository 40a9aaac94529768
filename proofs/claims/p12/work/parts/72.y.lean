/-! the image back, signs told: what is asked but where it is used, what changes exactly -/
theorem hs_Rd_n9 {T N : Nat → Nat} {R : RT} {A B : Nat → Prop} {r : Nat} (h : hs_Rd T N R A B r) : hs_Rd T N R A (fun a => B a ∧ T a ≠ 9) r := by
  obtain ⟨h1, h2, h3, ⟨b, b1, g1, g2, g3, ⟨c, c1, c2, c3, c4⟩, ⟨d, d1, d2, d3, d4⟩⟩, h5⟩ := h
  exact ⟨h1, h2, ⟨h3, by omega⟩, ⟨b, b1, g1, g2, ⟨g3, by omega⟩, ⟨c, c1, c2, c3, c4, by omega⟩, ⟨d, d1, d2, d3, d4, by omega⟩⟩, h5⟩
theorem s_X11_back_y {d : Nat} {T N : Nat → Nat} {I : IT} {L : LT} {R : RT} {A B : Nat → Prop} {r0 : Nat} (hS : SUB B A) (hI : IX A T I) (H_r0 : (hs_LF T N R A B) r0) (hU : UPR T R) (hp0 : (rA R r0 1) ≠ (rA R r0 2)) (hp1 : (I r0 3).toInt ≠ 0 → (I (rA R r0 2) 1).toInt ≤ 16) (hp2 : (I r0 3).toInt ≠ 0 → (I (rA R r0 2) 2).toInt ≤ 8) : Ex (d + 5) 175 [.ref r0] (T, N, I, L, R) 0 0 (pI T N R (fun x9 I9 L9 => (0 ≤ x9.toInt) ∧ (x9.toInt ≤ 1) ∧ (BKX R I9 I (rA R r0 1) (rA R r0 2) x9.toInt (I r0 3).toInt) ∧ (IX A T I9 ∧ Chg (OWN R (rA R r0 1)) T [(3, 0), (8, 2), (9, 0), (9, 1), (9, 2), (9, 3), (9, 4), (9, 5), (10, 0), (10, 1), (10, 2), (10, 3)] I L I9 L9))) := by
  refine ⟨_, rfl, Nat.le_of_ble_eq_true rfl, fun V C S => ?_⟩
  show V 0 [(0, .ref r0)] [] (T, N, I, L, R) 0 0
  obtain ⟨T_r0, A_r0, B_r0, ⟨r0_0, R_r0_0, H_r0_0⟩, ⟨r0_1, R_r0_1, H_r0_1⟩, ⟨r0_2, R_r0_2, H_r0_2⟩, ⟨r0_5, R_r0_5, H_r0_5⟩, ⟨r0_6, R_r0_6, H_r0_6⟩, ⟨r0_7, R_r0_7, H_r0_7⟩, ⟨r0_8, R_r0_8, H_r0_8⟩, ⟨r0_9, R_r0_9, H_r0_9⟩, ⟨r0_10, R_r0_10, H_r0_10⟩, ⟨r0_11, R_r0_11, H_r0_11⟩, ⟨r0_12, R_r0_12, H_r0_12⟩, ⟨r0_13, R_r0_13, H_r0_13⟩⟩ := id H_r0
  have z_r0_0 : rA R r0 0 = r0_0 := rA_e R_r0_0
  have z_r0_1 : rA R r0 1 = r0_1 := rA_e R_r0_1
  have z_r0_2 : rA R r0 2 = r0_2 := rA_e R_r0_2
  have z_r0_5 : rA R r0 5 = r0_5 := rA_e R_r0_5
  have z_r0_6 : rA R r0 6 = r0_6 := rA_e R_r0_6
  have z_r0_7 : rA R r0 7 = r0_7 := rA_e R_r0_7
  have z_r0_8 : rA R r0 8 = r0_8 := rA_e R_r0_8
  have z_r0_9 : rA R r0 9 = r0_9 := rA_e R_r0_9
  have z_r0_10 : rA R r0 10 = r0_10 := rA_e R_r0_10
  have z_r0_11 : rA R r0 11 = r0_11 := rA_e R_r0_11
  have z_r0_12 : rA R r0 12 = r0_12 := rA_e R_r0_12
  have z_r0_13 : rA R r0 13 = r0_13 := rA_e R_r0_13
  obtain ⟨T_r0_1, A_r0_1, B_r0_1, ⟨r0_1_6, R_r0_1_6, H_r0_1_6⟩, ⟨r0_1_7, R_r0_1_7, H_r0_1_7⟩, ⟨r0_1_8, R_r0_1_8, H_r0_1_8⟩, ⟨r0_1_9, R_r0_1_9, H_r0_1_9⟩, ⟨r0_1_10, R_r0_1_10, H_r0_1_10⟩⟩ := id H_r0_1
  have z_r0_1_6 : rA R r0_1 6 = r0_1_6 := rA_e R_r0_1_6
  have z_r0_1_7 : rA R r0_1 7 = r0_1_7 := rA_e R_r0_1_7
  have z_r0_1_8 : rA R r0_1 8 = r0_1_8 := rA_e R_r0_1_8
  have z_r0_1_9 : rA R r0_1 9 = r0_1_9 := rA_e R_r0_1_9
  have z_r0_1_10 : rA R r0_1 10 = r0_1_10 := rA_e R_r0_1_10
  obtain ⟨T_r0_2, A_r0_2, B_r0_2, ⟨r0_2_6, R_r0_2_6, H_r0_2_6⟩, ⟨r0_2_7, R_r0_2_7, H_r0_2_7⟩, ⟨r0_2_8, R_r0_2_8, H_r0_2_8⟩, ⟨r0_2_9, R_r0_2_9, H_r0_2_9⟩, ⟨r0_2_10, R_r0_2_10, H_r0_2_10⟩⟩ := id H_r0_2
  have z_r0_2_6 : rA R r0_2 6 = r0_2_6 := rA_e R_r0_2_6
  have z_r0_2_7 : rA R r0_2 7 = r0_2_7 := rA_e R_r0_2_7
  have z_r0_2_8 : rA R r0_2 8 = r0_2_8 := rA_e R_r0_2_8
  have z_r0_2_9 : rA R r0_2 9 = r0_2_9 := rA_e R_r0_2_9
  have z_r0_2_10 : rA R r0_2 10 = r0_2_10 := rA_e R_r0_2_10
  try simp only [z_r0_0, z_r0_1, z_r0_2, z_r0_5, z_r0_6, z_r0_7, z_r0_8, z_r0_9, z_r0_10, z_r0_11, z_r0_12, z_r0_13, z_r0_1_6, z_r0_1_7, z_r0_1_8, z_r0_1_9, z_r0_1_10, z_r0_2_6, z_r0_2_7, z_r0_2_8, z_r0_2_9, z_r0_2_10] at hp0
  try simp only [z_r0_0, z_r0_1, z_r0_2, z_r0_5, z_r0_6, z_r0_7, z_r0_8, z_r0_9, z_r0_10, z_r0_11, z_r0_12, z_r0_13, z_r0_1_6, z_r0_1_7, z_r0_1_8, z_r0_1_9, z_r0_1_10, z_r0_2_6, z_r0_2_7, z_r0_2_8, z_r0_2_9, z_r0_2_10] at hp1
  try simp only [z_r0_0, z_r0_1, z_r0_2, z_r0_5, z_r0_6, z_r0_7, z_r0_8, z_r0_9, z_r0_10, z_r0_11, z_r0_12, z_r0_13, z_r0_1_6, z_r0_1_7, z_r0_1_8, z_r0_1_9, z_r0_1_10, z_r0_2_6, z_r0_2_7, z_r0_2_8, z_r0_2_9, z_r0_2_10] at hp2
  obtain ⟨w_r0_2_0, k0_r0_2_0⟩ : ∃ x, I r0_2 0 = x := ⟨_, rfl⟩
  have gw_r0_2_0 := rg w_r0_2_0
  have ow_r0_2_0 := IX.p hI A_r0_2 T_r0_2 k0_r0_2_0
  obtain ⟨w_r0_2_1, k0_r0_2_1⟩ : ∃ x, I r0_2 1 = x := ⟨_, rfl⟩
  have gw_r0_2_1 := rg w_r0_2_1
  obtain ⟨w_r0_2_2, k0_r0_2_2⟩ : ∃ x, I r0_2 2 = x := ⟨_, rfl⟩
  have gw_r0_2_2 := rg w_r0_2_2
  obtain ⟨w_r0_2_3, k0_r0_2_3⟩ : ∃ x, I r0_2 3 = x := ⟨_, rfl⟩
  have gw_r0_2_3 := rg w_r0_2_3
  obtain ⟨w_r0_2_4, k0_r0_2_4⟩ : ∃ x, I r0_2 4 = x := ⟨_, rfl⟩
  have gw_r0_2_4 := rg w_r0_2_4
  obtain ⟨w_r0_2_5, k0_r0_2_5⟩ : ∃ x, I r0_2 5 = x := ⟨_, rfl⟩
  have gw_r0_2_5 := rg w_r0_2_5
  obtain ⟨w_r0_3, k0_r0_3⟩ : ∃ x, I r0 3 = x := ⟨_, rfl⟩
  have gw_r0_3 := rg w_r0_3
  try simp only [k0_r0_2_0, k0_r0_2_1, k0_r0_2_2, k0_r0_2_3, k0_r0_2_4, k0_r0_2_5, k0_r0_3] at hp0
  try simp only [k0_r0_2_0, k0_r0_2_1, k0_r0_2_2, k0_r0_2_3, k0_r0_2_4, k0_r0_2_5, k0_r0_3] at hp1
  try simp only [k0_r0_2_0, k0_r0_2_1, k0_r0_2_2, k0_r0_2_3, k0_r0_2_4, k0_r0_2_5, k0_r0_3] at hp2
  refine k_aload_n C rfl rfl rfl ?_
  refine g_I C rfl rfl rfl T_r0 rfl k0_r0_3 ?_
  refine b_if_ne C (t := 9) rfl rfl rfl (fun c1 => ?_) (fun c1 => ?_)
  · skip
    have hp1 := hp1 (by omega)
    have hp2 := hp2 (by omega)
    refine k_aload_n C rfl rfl rfl ?_
    refine g_R C rfl rfl rfl T_r0 rfl R_r0_1 ?_
    refine k_aload_n C rfl rfl rfl ?_
    refine g_R C rfl rfl rfl T_r0 rfl R_r0_2 ?_
    refine c_VV C (s_X8_copyFrom_x hS hI H_r0_1 H_r0_2 hU hp0 (by rw [k0_r0_2_1]; omega) (by rw [k0_r0_2_2]; omega)) rfl rfl rfl rfl rfl ⟨_, rfl, rfl, T_r0_1, Nat.le_of_ble_eq_true rfl⟩ rfl rfl (Nat.le_of_ble_eq_true rfl) (Nat.le_of_ble_eq_true rfl) (Nat.le_of_ble_eq_true rfl) ?_
    rintro I3 L4 ⟨p0v2, p1v2, p2v2, p3v2, p4v2, p5v2, p6v2, p7v2, p8v2, hI3, S5⟩
    try simp only [z_r0_0, z_r0_1, z_r0_2, z_r0_5, z_r0_6, z_r0_7, z_r0_8, z_r0_9, z_r0_10, z_r0_11, z_r0_12, z_r0_13, z_r0_1_6, z_r0_1_7, z_r0_1_8, z_r0_1_9, z_r0_1_10, z_r0_2_6, z_r0_2_7, z_r0_2_8, z_r0_2_9, z_r0_2_10] at S5
    have e6 := Chg.k S5 T_r0 (by decide) (by decide) k0_r0_3
    obtain ⟨x7, e8⟩ : ∃ x, I3 r0_1 0 = x := ⟨_, rfl⟩
    have gx7 := rg x7
    have ox7 := IX.p hI3 A_r0_1 T_r0_1 e8
    obtain ⟨x9, e10⟩ : ∃ x, I3 r0_1 1 = x := ⟨_, rfl⟩
    have gx9 := rg x9
    obtain ⟨x11, e12⟩ : ∃ x, I3 r0_1 2 = x := ⟨_, rfl⟩
    have gx11 := rg x11
    obtain ⟨x13, e14⟩ : ∃ x, I3 r0_1 3 = x := ⟨_, rfl⟩
    have gx13 := rg x13
    obtain ⟨x15, e16⟩ : ∃ x, I3 r0_1 4 = x := ⟨_, rfl⟩
    have gx15 := rg x15
    obtain ⟨x17, e18⟩ : ∃ x, I3 r0_1 5 = x := ⟨_, rfl⟩
    have gx17 := rg x17
    try simp only [z_r0_0, z_r0_1, z_r0_2, z_r0_5, z_r0_6, z_r0_7, z_r0_8, z_r0_9, z_r0_10, z_r0_11, z_r0_12, z_r0_13, z_r0_1_6, z_r0_1_7, z_r0_1_8, z_r0_1_9, z_r0_1_10, z_r0_2_6, z_r0_2_7, z_r0_2_8, z_r0_2_9, z_r0_2_10] at p0v2
    try simp only [z_r0_0, z_r0_1, z_r0_2, z_r0_5, z_r0_6, z_r0_7, z_r0_8, z_r0_9, z_r0_10, z_r0_11, z_r0_12, z_r0_13, z_r0_1_6, z_r0_1_7, z_r0_1_8, z_r0_1_9, z_r0_1_10, z_r0_2_6, z_r0_2_7, z_r0_2_8, z_r0_2_9, z_r0_2_10] at p1v2
    try simp only [z_r0_0, z_r0_1, z_r0_2, z_r0_5, z_r0_6, z_r0_7, z_r0_8, z_r0_9, z_r0_10, z_r0_11, z_r0_12, z_r0_13, z_r0_1_6, z_r0_1_7, z_r0_1_8, z_r0_1_9, z_r0_1_10, z_r0_2_6, z_r0_2_7, z_r0_2_8, z_r0_2_9, z_r0_2_10] at p2v2
    try simp only [z_r0_0, z_r0_1, z_r0_2, z_r0_5, z_r0_6, z_r0_7, z_r0_8, z_r0_9, z_r0_10, z_r0_11, z_r0_12, z_r0_13, z_r0_1_6, z_r0_1_7, z_r0_1_8, z_r0_1_9, z_r0_1_10, z_r0_2_6, z_r0_2_7, z_r0_2_8, z_r0_2_9, z_r0_2_10] at p3v2
    try simp only [z_r0_0, z_r0_1, z_r0_2, z_r0_5, z_r0_6, z_r0_7, z_r0_8, z_r0_9, z_r0_10, z_r0_11, z_r0_12, z_r0_13, z_r0_1_6, z_r0_1_7, z_r0_1_8, z_r0_1_9, z_r0_1_10, z_r0_2_6, z_r0_2_7, z_r0_2_8, z_r0_2_9, z_r0_2_10] at p4v2
    try simp only [z_r0_0, z_r0_1, z_r0_2, z_r0_5, z_r0_6, z_r0_7, z_r0_8, z_r0_9, z_r0_10, z_r0_11, z_r0_12, z_r0_13, z_r0_1_6, z_r0_1_7, z_r0_1_8, z_r0_1_9, z_r0_1_10, z_r0_2_6, z_r0_2_7, z_r0_2_8, z_r0_2_9, z_r0_2_10] at p5v2
    try simp only [z_r0_0, z_r0_1, z_r0_2, z_r0_5, z_r0_6, z_r0_7, z_r0_8, z_r0_9, z_r0_10, z_r0_11, z_r0_12, z_r0_13, z_r0_1_6, z_r0_1_7, z_r0_1_8, z_r0_1_9, z_r0_1_10, z_r0_2_6, z_r0_2_7, z_r0_2_8, z_r0_2_9, z_r0_2_10] at p6v2
    try simp only [z_r0_0, z_r0_1, z_r0_2, z_r0_5, z_r0_6, z_r0_7, z_r0_8, z_r0_9, z_r0_10, z_r0_11, z_r0_12, z_r0_13, z_r0_1_6, z_r0_1_7, z_r0_1_8, z_r0_1_9, z_r0_1_10, z_r0_2_6, z_r0_2_7, z_r0_2_8, z_r0_2_9, z_r0_2_10] at p7v2
    try simp only [z_r0_0, z_r0_1, z_r0_2, z_r0_5, z_r0_6, z_r0_7, z_r0_8, z_r0_9, z_r0_10, z_r0_11, z_r0_12, z_r0_13, z_r0_1_6, z_r0_1_7, z_r0_1_8, z_r0_1_9, z_r0_1_10, z_r0_2_6, z_r0_2_7, z_r0_2_8, z_r0_2_9, z_r0_2_10] at p8v2
    try simp only [k0_r0_2_0, k0_r0_2_1, k0_r0_2_2, k0_r0_2_3, k0_r0_2_4, k0_r0_2_5, k0_r0_3, e8, e10, e12, e14, e16, e18] at p0v2
    try have q0v2 := congrArg Int32.toInt p0v2
    try simp only [k0_r0_2_0, k0_r0_2_1, k0_r0_2_2, k0_r0_2_3, k0_r0_2_4, k0_r0_2_5, k0_r0_3, e8, e10, e12, e14, e16, e18] at p1v2
    try have q1v2 := congrArg Int32.toInt p1v2
    try simp only [k0_r0_2_0, k0_r0_2_1, k0_r0_2_2, k0_r0_2_3, k0_r0_2_4, k0_r0_2_5, k0_r0_3, e8, e10, e12, e14, e16, e18] at p2v2
    try have q2v2 := congrArg Int32.toInt p2v2
    try simp only [k0_r0_2_0, k0_r0_2_1, k0_r0_2_2, k0_r0_2_3, k0_r0_2_4, k0_r0_2_5, k0_r0_3, e8, e10, e12, e14, e16, e18] at p3v2
    try have q3v2 := congrArg Int32.toInt p3v2
    try simp only [k0_r0_2_0, k0_r0_2_1, k0_r0_2_2, k0_r0_2_3, k0_r0_2_4, k0_r0_2_5, k0_r0_3, e8, e10, e12, e14, e16, e18] at p4v2
    try have q4v2 := congrArg Int32.toInt p4v2
    try simp only [k0_r0_2_0, k0_r0_2_1, k0_r0_2_2, k0_r0_2_3, k0_r0_2_4, k0_r0_2_5, k0_r0_3, e8, e10, e12, e14, e16, e18] at p5v2
    try have q5v2 := congrArg Int32.toInt p5v2
    try simp only [k0_r0_2_0, k0_r0_2_1, k0_r0_2_2, k0_r0_2_3, k0_r0_2_4, k0_r0_2_5, k0_r0_3, e8, e10, e12, e14, e16, e18] at p6v2
    try have q6v2 := congrArg Int32.toInt p6v2
    try simp only [k0_r0_2_0, k0_r0_2_1, k0_r0_2_2, k0_r0_2_3, k0_r0_2_4, k0_r0_2_5, k0_r0_3, e8, e10, e12, e14, e16, e18] at p7v2
    try have q7v2 := congrArg Int32.toInt p7v2
    try simp only [k0_r0_2_0, k0_r0_2_1, k0_r0_2_2, k0_r0_2_3, k0_r0_2_4, k0_r0_2_5, k0_r0_3, e8, e10, e12, e14, e16, e18] at p8v2
    try have q8v2 := congrArg Int32.toInt p8v2
    have hca := p6v2; have hfl := p7v2; have htl := p8v2
    refine z_iconst C (z := 1) rfl rfl rfl (fun x19 ex19 => ?_)
    exact k_iret C rfl (Or.inr ⟨rfl, z01 (by omega) (by omega)⟩) (Nat.le_of_ble_eq_true rfl) (Nat.le_of_ble_eq_true rfl) ⟨_, _, _, rfl, rfl, by omega, by omega, by (try simp only [z_r0_0, z_r0_1, z_r0_2, z_r0_5, z_r0_6, z_r0_7, z_r0_8, z_r0_9, z_r0_10, z_r0_11, z_r0_12, z_r0_13, z_r0_1_6, z_r0_1_7, z_r0_1_8, z_r0_1_9, z_r0_1_10, z_r0_2_6, z_r0_2_7, z_r0_2_8, z_r0_2_9, z_r0_2_10]); simp only [k0_r0_3]; exact ⟨fun q => by omega, fun _ => ⟨by omega, k6 (by rw [e8, k0_r0_2_0]; omega) (by rw [e10, k0_r0_2_1]; omega) (by rw [e12, k0_r0_2_2]; omega) (by rw [e14, k0_r0_2_3]; omega) (by rw [e16, k0_r0_2_4]; omega) (by rw [e18, k0_r0_2_5]; omega), hca, (by rw [k0_r0_2_1]; exact hfl), (by rw [k0_r0_2_2]; exact htl)⟩⟩, hI3, (by (try simp only [z_r0_0, z_r0_1, z_r0_2, z_r0_5, z_r0_6, z_r0_7, z_r0_8, z_r0_9, z_r0_10, z_r0_11, z_r0_12, z_r0_13, z_r0_1_6, z_r0_1_7, z_r0_1_8, z_r0_1_9, z_r0_1_10, z_r0_2_6, z_r0_2_7, z_r0_2_8, z_r0_2_9, z_r0_2_10]); exact (Chg.mono (Chg.up S5 (fun _ h => h)) (by decide)))⟩
  refine z_iconst C (z := 0) rfl rfl rfl (fun x20 ex20 => ?_)
  exact k_iret C rfl (Or.inr ⟨rfl, z01 (by omega) (by omega)⟩) (Nat.le_of_ble_eq_true rfl) (Nat.le_of_ble_eq_true rfl) ⟨_, _, _, rfl, rfl, by omega, by omega, by (try simp only [z_r0_0, z_r0_1, z_r0_2, z_r0_5, z_r0_6, z_r0_7, z_r0_8, z_r0_9, z_r0_10, z_r0_11, z_r0_12, z_r0_13, z_r0_1_6, z_r0_1_7, z_r0_1_8, z_r0_1_9, z_r0_1_10, z_r0_2_6, z_r0_2_7, z_r0_2_8, z_r0_2_9, z_r0_2_10]); simp only [k0_r0_3]; exact ⟨fun _ => ⟨by omega, rfl⟩, fun q => by omega⟩, hI, (by (try simp only [z_r0_0, z_r0_1, z_r0_2, z_r0_5, z_r0_6, z_r0_7, z_r0_8, z_r0_9, z_r0_10, z_r0_11, z_r0_12, z_r0_13, z_r0_1_6, z_r0_1_7, z_r0_1_8, z_r0_1_9, z_r0_1_10, z_r0_2_6, z_r0_2_7, z_r0_2_8, z_r0_2_9, z_r0_2_10]); exact Chg.rf)⟩
theorem s_X11_signs_y {d : Nat} {T N : Nat → Nat} {I : IT} {L : LT} {R : RT} {A B : Nat → Prop} {r0 : Nat} (hS : SUB B A) (hI : IX A T I) (H_r0 : (hs_LF T N R A B) r0) (hU : UPR T R) (hp0 : 0 ≤ (I (rA R r0 1) 3).toInt) (hp1 : (I (rA R r0 1) 3).toInt ≤ 8) : Ex (d + 31) 131 [.ref r0] (T, N, I, L, R) 1 6 (pW2 [0, 2] T N R (pI T N R (fun x9 I9 L9 => ((I9 (rA R r0 0) 1).toInt = 0) ∧ ((I (rA R r0 1) 3).toInt < 8 ∧ x9.toInt = (I (rA R r0 1) 3).toInt) ∧ ((I9 (rA R r0 1) 3).toInt = (I (rA R r0 1) 3).toInt + 1) ∧ (IX A T I9 ∧ Chg (fun a => (B a ∧ (T a ≠ 9 ∨ a = (rA R r0 1))) ∨ ∃ j, j < 8 ∧ (a = SA R (rA R r0 1) j ∨ a = rA R (SA R (rA R r0 1) j) 0 ∨ a = rA R (SA R (rA R r0 1) j) 1)) T [(5, 1), (5, 3), (5, 4), (5, 5), (8, 2), (9, 3), (12, 4)] I L I9 L9))) (fun e9 I9 L9 => (IX A T I9 ∧ Chg (fun a => (B a ∧ (T a ≠ 9 ∨ a = (rA R r0 1))) ∨ ∃ j, j < 8 ∧ (a = SA R (rA R r0 1) j ∨ a = rA R (SA R (rA R r0 1) j) 0 ∨ a = rA R (SA R (rA R r0 1) j) 1)) T [(5, 1), (5, 3), (5, 4), (5, 5), (8, 2), (9, 3), (12, 4)] I L I9 L9) ∧ (e9 = 0 → (I9 (rA R r0 0) 1).toInt = 0) ∧ (e9 = 0 → (I9 (rA R r0 1) 3).toInt = (I (rA R r0 1) 3).toInt) ∧ (e9 = 2 → (I9 (rA R r0 0) 1).toInt = 0) ∧ (e9 = 2 → 8 ≤ (I (rA R r0 1) 3).toInt) ∧ (e9 = 2 → (I9 (rA R r0 1) 3).toInt = (I (rA R r0 1) 3).toInt))) := by
  refine ⟨_, rfl, Nat.le_of_ble_eq_true rfl, fun V C S => ?_⟩
  show V 0 [(0, .ref r0)] [] (T, N, I, L, R) 0 0
  obtain ⟨T_r0, A_r0, B_r0, ⟨r0_0, R_r0_0, H_r0_0⟩, ⟨r0_1, R_r0_1, H_r0_1⟩, ⟨r0_2, R_r0_2, H_r0_2⟩, ⟨r0_5, R_r0_5, H_r0_5⟩, ⟨r0_6, R_r0_6, H_r0_6⟩, ⟨r0_7, R_r0_7, H_r0_7⟩, ⟨r0_8, R_r0_8, H_r0_8⟩, ⟨r0_9, R_r0_9, H_r0_9⟩, ⟨r0_10, R_r0_10, H_r0_10⟩, ⟨r0_11, R_r0_11, H_r0_11⟩, ⟨r0_12, R_r0_12, H_r0_12⟩, ⟨r0_13, R_r0_13, H_r0_13⟩⟩ := id H_r0
  have z_r0_0 : rA R r0 0 = r0_0 := rA_e R_r0_0
  have z_r0_1 : rA R r0 1 = r0_1 := rA_e R_r0_1
  have z_r0_2 : rA R r0 2 = r0_2 := rA_e R_r0_2
  have z_r0_5 : rA R r0 5 = r0_5 := rA_e R_r0_5
  have z_r0_6 : rA R r0 6 = r0_6 := rA_e R_r0_6
  have z_r0_7 : rA R r0 7 = r0_7 := rA_e R_r0_7
  have z_r0_8 : rA R r0 8 = r0_8 := rA_e R_r0_8
  have z_r0_9 : rA R r0 9 = r0_9 := rA_e R_r0_9
  have z_r0_10 : rA R r0 10 = r0_10 := rA_e R_r0_10
  have z_r0_11 : rA R r0 11 = r0_11 := rA_e R_r0_11
  have z_r0_12 : rA R r0 12 = r0_12 := rA_e R_r0_12
  have z_r0_13 : rA R r0 13 = r0_13 := rA_e R_r0_13
  obtain ⟨T_r0_0, A_r0_0, B_r0_0, ⟨r0_0_0, R_r0_0_0, H_r0_0_0⟩, ⟨r0_0_2, R_r0_0_2, H_r0_0_2⟩⟩ := id H_r0_0
  have z_r0_0_0 : rA R r0_0 0 = r0_0_0 := rA_e R_r0_0_0
  have z_r0_0_2 : rA R r0_0 2 = r0_0_2 := rA_e R_r0_0_2
  obtain ⟨T_r0_1, A_r0_1, B_r0_1, ⟨r0_1_6, R_r0_1_6, H_r0_1_6⟩, ⟨r0_1_7, R_r0_1_7, H_r0_1_7⟩, ⟨r0_1_8, R_r0_1_8, H_r0_1_8⟩, ⟨r0_1_9, R_r0_1_9, H_r0_1_9⟩, ⟨r0_1_10, R_r0_1_10, H_r0_1_10⟩⟩ := id H_r0_1
  have z_r0_1_6 : rA R r0_1 6 = r0_1_6 := rA_e R_r0_1_6
  have z_r0_1_7 : rA R r0_1 7 = r0_1_7 := rA_e R_r0_1_7
  have z_r0_1_8 : rA R r0_1 8 = r0_1_8 := rA_e R_r0_1_8
  have z_r0_1_9 : rA R r0_1 9 = r0_1_9 := rA_e R_r0_1_9
  have z_r0_1_10 : rA R r0_1 10 = r0_1_10 := rA_e R_r0_1_10
  obtain ⟨T_r0_1_10, N_r0_1_10, A_r0_1_10, E_r0_1_10⟩ := id H_r0_1_10
  have hG := GS.of H_r0_1
  try simp only [z_r0_0, z_r0_1, z_r0_2, z_r0_5, z_r0_6, z_r0_7, z_r0_8, z_r0_9, z_r0_10, z_r0_11, z_r0_12, z_r0_13, z_r0_0_0, z_r0_0_2, z_r0_1_6, z_r0_1_7, z_r0_1_8, z_r0_1_9, z_r0_1_10] at hp0
  try simp only [z_r0_0, z_r0_1, z_r0_2, z_r0_5, z_r0_6, z_r0_7, z_r0_8, z_r0_9, z_r0_10, z_r0_11, z_r0_12, z_r0_13, z_r0_0_0, z_r0_0_2, z_r0_1_6, z_r0_1_7, z_r0_1_8, z_r0_1_9, z_r0_1_10] at hp1
  obtain ⟨w_r0_1_3, k0_r0_1_3⟩ : ∃ x, I r0_1 3 = x := ⟨_, rfl⟩
  have gw_r0_1_3 := rg w_r0_1_3
  try simp only [k0_r0_1_3] at hp0
  try simp only [k0_r0_1_3] at hp1
  refine k_aload_n C rfl rfl rfl ?_
  refine k_aload_n C rfl rfl rfl ?_
  refine g_R C rfl rfl rfl T_r0 rfl R_r0_0 ?_
  refine k_aload_n C rfl rfl rfl ?_
  refine g_R C rfl rfl rfl T_r0 rfl R_r0_0 ?_
  refine c_VI C (s_X4_useUp_x hS hI H_r0_0) rfl rfl rfl rfl rfl ⟨_, rfl, rfl, T_r0_0, Nat.le_of_ble_eq_true rfl⟩ rfl rfl (Nat.le_of_ble_eq_true rfl) (Nat.le_of_ble_eq_true rfl) (Nat.le_of_ble_eq_true rfl) ?_
  rintro x1 I2 L3 ⟨p0x1, p1x1, hI2, S4⟩
  try simp only [z_r0_0, z_r0_1, z_r0_2, z_r0_5, z_r0_6, z_r0_7, z_r0_8, z_r0_9, z_r0_10, z_r0_11, z_r0_12, z_r0_13, z_r0_0_0, z_r0_0_2, z_r0_1_6, z_r0_1_7, z_r0_1_8, z_r0_1_9, z_r0_1_10] at S4
  have e5 := Chg.k S4 T_r0_1 (by decide) (by decide) k0_r0_1_3
  have gx1 := rg x1
  obtain ⟨x6, e7⟩ : ∃ x, I2 r0_0 1 = x := ⟨_, rfl⟩
  have gx6 := rg x6
  try simp only [z_r0_0, z_r0_1, z_r0_2, z_r0_5, z_r0_6, z_r0_7, z_r0_8, z_r0_9, z_r0_10, z_r0_11, z_r0_12, z_r0_13, z_r0_0_0, z_r0_0_2, z_r0_1_6, z_r0_1_7, z_r0_1_8, z_r0_1_9, z_r0_1_10] at p0x1
  try simp only [z_r0_0, z_r0_1, z_r0_2, z_r0_5, z_r0_6, z_r0_7, z_r0_8, z_r0_9, z_r0_10, z_r0_11, z_r0_12, z_r0_13, z_r0_0_0, z_r0_0_2, z_r0_1_6, z_r0_1_7, z_r0_1_8, z_r0_1_9, z_r0_1_10] at p1x1
  try simp only [k0_r0_1_3, e7] at p0x1
  try have q0x1 := congrArg Int32.toInt p0x1
  try simp only [k0_r0_1_3, e7] at p1x1
  try have q1x1 := congrArg Int32.toInt p1x1
  refine c_VI C (s_X4_read (B := fun a => B a ∧ T a ≠ 9) (fun a h => hS a h.1) hI2 (hs_Rd_n9 H_r0_0)) rfl rfl rfl rfl rfl ⟨_, rfl, rfl, T_r0_0, Nat.le_of_ble_eq_true rfl⟩ rfl rfl (Nat.le_of_ble_eq_true rfl) (Nat.le_of_ble_eq_true rfl) (Nat.le_of_ble_eq_true rfl) ?_
  rintro x8 I9 L10 ⟨hI9, S11⟩
  try simp only [z_r0_0, z_r0_1, z_r0_2, z_r0_5, z_r0_6, z_r0_7, z_r0_8, z_r0_9, z_r0_10, z_r0_11, z_r0_12, z_r0_13, z_r0_0_0, z_r0_0_2, z_r0_1_6, z_r0_1_7, z_r0_1_8, z_r0_1_9, z_r0_1_10] at S11
  have e12 := Chg.k S11 T_r0_1 (by decide) (by decide) e5
  have e13 := Chg.k S11 T_r0_0 (by decide) (by decide) e7
  have gx8 := rg x8
  refine z_pI C rfl rfl rfl T_r0 (Or.inr rfl) rfl (fun I14 uI14 => ?_)
  have hI14 : IX A T I14 := IX.f hI9 T_r0 (boX.tr (by decide) (by decide)) uI14
  have S15 : Chg (SL [r0]) T [(12, 4)] I9 L10 I14 L10 := Chg.f List.mem_cons_self T_r0 uI14
  have e16 := u2_j uI14 (by decide) e12
  have e17 := u2_j uI14 (by decide) e13
  have e18 := u2_e uI14
  refine k_aload_n C rfl rfl rfl ?_
  refine g_I C rfl rfl rfl T_r0 rfl e18 ?_
  refine z_iconst C (z := -1) rfl rfl rfl (fun x19 ex19 => ?_)
  refine b_icmp_eq C (t := 34) rfl rfl rfl (fun c20 => ?_) (fun c20 => ?_)
  · skip
    refine k_aload_n C rfl rfl rfl ?_
    refine g_R C rfl rfl rfl T_r0 rfl R_r0_1 ?_
    refine c_VR C (s_X8_nextSigns_x hS hI14 H_r0_1 (by first | omega | (simp only [e16, e17, e18, and_true, true_and, or_true, true_or, and_false, false_and, or_false, false_or] <;> omega))) rfl rfl rfl rfl rfl ⟨_, rfl, rfl, T_r0_1, Nat.le_of_ble_eq_true rfl⟩ rfl rfl (Nat.le_of_ble_eq_true rfl) (Nat.le_of_ble_eq_true rfl) (Nat.le_of_ble_eq_true rfl) ?_
    rintro yy21 I22 L23 ⟨hyy21, p0yy21, hI22, S24⟩
    try simp only [z_r0_0, z_r0_1, z_r0_2, z_r0_5, z_r0_6, z_r0_7, z_r0_8, z_r0_9, z_r0_10, z_r0_11, z_r0_12, z_r0_13, z_r0_0_0, z_r0_0_2, z_r0_1_6, z_r0_1_7, z_r0_1_8, z_r0_1_9, z_r0_1_10] at S24
    have e25 := Chg.k S24 T_r0_0 (by decide) (by decide) e17
    have e26 := Chg.k S24 T_r0 (by decide) (by decide) e18
    obtain ⟨x27, e28⟩ : ∃ x, I22 r0_1 3 = x := ⟨_, rfl⟩
    have gx27 := rg x27
    try simp only [z_r0_0, z_r0_1, z_r0_2, z_r0_5, z_r0_6, z_r0_7, z_r0_8, z_r0_9, z_r0_10, z_r0_11, z_r0_12, z_r0_13, z_r0_0_0, z_r0_0_2, z_r0_1_6, z_r0_1_7, z_r0_1_8, z_r0_1_9, z_r0_1_10] at p0yy21
    try simp only [e16, e17, e18, e28] at p0yy21
    try have q0yy21 := congrArg Int32.toInt p0yy21
    have hnt := p0yy21
    refine k_astore_nV C (x := yy21) (lw := [(1, va_rf yy21), (0, .ref r0)]) rfl rfl (Nat.le_of_ble_eq_true rfl) rfl ?_
    refine k_aload_nV C (x := yy21) rfl rfl rfl ?_
    refine k_ifnonnull C (x := yy21) (t := 54) rfl rfl rfl (fun c29 => ?_) (fun rr30 c29 => ?_)
    · skip
      subst c29
      have hnx := NXD.no hnt E_r0_1_10 (by omega)
      exact k_throw C rfl rfl rfl rfl rfl rfl (Nat.le_of_ble_eq_true rfl) (Nat.le_of_ble_eq_true rfl) (Nat.le_of_ble_eq_true rfl) (Or.inr ⟨_, _, _, (by decide : 2 ∈ [0, 2]), rfl, rfl, ⟨⟨hI22, (by (try simp only [z_r0_0, z_r0_1, z_r0_2, z_r0_5, z_r0_6, z_r0_7, z_r0_8, z_r0_9, z_r0_10, z_r0_11, z_r0_12, z_r0_13, z_r0_0_0, z_r0_0_2, z_r0_1_6, z_r0_1_7, z_r0_1_8, z_r0_1_9, z_r0_1_10]); exact (Chg.cons (Chg.up S4 (sl_1 (Or.inl ⟨B_r0_0, Or.inl (by rw [T_r0_0]; decide)⟩))) (Chg.cons (Chg.up S11 (fun _ h => Or.inl ⟨h.1, Or.inl h.2⟩)) (Chg.cons (Chg.up S15 (sl_1 (Or.inl ⟨B_r0, Or.inl (by rw [T_r0]; decide)⟩))) (Chg.mono (Chg.up S24 (sl_1 (Or.inl ⟨B_r0_1, Or.inr rfl⟩))) (by decide)) (by decide)) (by decide)) (by decide)))⟩, (fun h9 => absurd h9 (by decide)), (fun h9 => absurd h9 (by decide)), (fun _ => by simp only [z_r0_0, z_r0_1, z_r0_2, z_r0_5, z_r0_6, z_r0_7, z_r0_8, z_r0_9, z_r0_10, z_r0_11, z_r0_12, z_r0_13, z_r0_0_0, z_r0_0_2, z_r0_1_6, z_r0_1_7, z_r0_1_8, z_r0_1_9, z_r0_1_10]; rw [e25]; omega), (fun _ => by simp only [z_r0_0, z_r0_1, z_r0_2, z_r0_5, z_r0_6, z_r0_7, z_r0_8, z_r0_9, z_r0_10, z_r0_11, z_r0_12, z_r0_13, z_r0_0_0, z_r0_0_2, z_r0_1_6, z_r0_1_7, z_r0_1_8, z_r0_1_9, z_r0_1_10, k0_r0_1_3]; omega), (fun _ => by simp only [z_r0_0, z_r0_1, z_r0_2, z_r0_5, z_r0_6, z_r0_7, z_r0_8, z_r0_9, z_r0_10, z_r0_11, z_r0_12, z_r0_13, z_r0_0_0, z_r0_0_2, z_r0_1_6, z_r0_1_7, z_r0_1_8, z_r0_1_9, z_r0_1_10]; rw [e28, k0_r0_1_3]; exact (hnt.2 hnx).2)⟩⟩)
    subst c29
    have H_rr30 := hyy21 rr30 rfl
    have hnx := NXD.yes hnt (by omega); have oN := SA_e z_r0_1_10 hnx.2.1; have nN := ncn (n := 8) (j := w_r0_1_3) (by omega) hnx.1
    refine k_aload_n C rfl rfl rfl ?_
    refine k_aload_n C rfl rfl rfl ?_
    refine g_R C rfl rfl rfl T_r0 rfl R_r0_0 ?_
    refine g_R C rfl rfl rfl T_r0_0 rfl R_r0_0_0 ?_
    obtain ⟨T_rr30, A_rr30, ⟨rr30_0, R_rr30_0, H_rr30_0⟩, ⟨rr30_1, R_rr30_1, H_rr30_1⟩⟩ := id H_rr30
    have z_rr30_0 : rA R rr30 0 = rr30_0 := rA_e R_rr30_0
    have z_rr30_1 : rA R rr30 1 = rr30_1 := rA_e R_rr30_1
    refine c_VV C (s_X7_copyFrom_x hS hI22 H_rr30 (hs_SuSg hS H_r0_0_0)) rfl rfl rfl rfl rfl ⟨_, rfl, rfl, T_rr30, Nat.le_of_ble_eq_true rfl⟩ rfl rfl (Nat.le_of_ble_eq_true rfl) (Nat.le_of_ble_eq_true rfl) (Nat.le_of_ble_eq_true rfl) ?_
    rintro I32 L33 ⟨hI32, S34⟩
    try simp only [z_r0_0, z_r0_1, z_r0_2, z_r0_5, z_r0_6, z_r0_7, z_r0_8, z_r0_9, z_r0_10, z_r0_11, z_r0_12, z_r0_13, z_r0_0_0, z_r0_0_2, z_r0_1_6, z_r0_1_7, z_r0_1_8, z_r0_1_9, z_r0_1_10, z_rr30_0, z_rr30_1] at S34
    have e35 := Chg.k S34 T_r0_0 (by decide) (by decide) e25
    have e36 := Chg.k S34 T_r0 (by decide) (by decide) e26
    have e37 := Chg.k S34 T_r0_1 (by decide) (by decide) e28
    refine k_aload_n C rfl rfl rfl ?_
    refine g_R C rfl rfl rfl T_r0 rfl R_r0_1 ?_
    refine g_I C rfl rfl rfl T_r0_1 rfl e37 ?_
    refine z_iconst C (z := 1) rfl rfl rfl (fun x38 ex38 => ?_)
    refine z_isub C rfl rfl ⟨by omega, by omega⟩ (fun x39 ex39 => ?_)
    exact k_iret C rfl (Or.inl rfl) (Nat.le_of_ble_eq_true rfl) (Nat.le_of_ble_eq_true rfl) (Or.inl ⟨_, _, _, rfl, rfl, by (try simp only [z_r0_0, z_r0_1, z_r0_2, z_r0_5, z_r0_6, z_r0_7, z_r0_8, z_r0_9, z_r0_10, z_r0_11, z_r0_12, z_r0_13, z_r0_0_0, z_r0_0_2, z_r0_1_6, z_r0_1_7, z_r0_1_8, z_r0_1_9, z_r0_1_10, z_rr30_0, z_rr30_1]); rw [e35]; omega, by (try simp only [z_r0_0, z_r0_1, z_r0_2, z_r0_5, z_r0_6, z_r0_7, z_r0_8, z_r0_9, z_r0_10, z_r0_11, z_r0_12, z_r0_13, z_r0_0_0, z_r0_0_2, z_r0_1_6, z_r0_1_7, z_r0_1_8, z_r0_1_9, z_r0_1_10, z_rr30_0, z_rr30_1]); simp only [k0_r0_1_3]; omega, by (try simp only [z_r0_0, z_r0_1, z_r0_2, z_r0_5, z_r0_6, z_r0_7, z_r0_8, z_r0_9, z_r0_10, z_r0_11, z_r0_12, z_r0_13, z_r0_0_0, z_r0_0_2, z_r0_1_6, z_r0_1_7, z_r0_1_8, z_r0_1_9, z_r0_1_10, z_rr30_0, z_rr30_1]); rw [e37]; simp only [k0_r0_1_3]; omega, hI32, (by (try simp only [z_r0_0, z_r0_1, z_r0_2, z_r0_5, z_r0_6, z_r0_7, z_r0_8, z_r0_9, z_r0_10, z_r0_11, z_r0_12, z_r0_13, z_r0_0_0, z_r0_0_2, z_r0_1_6, z_r0_1_7, z_r0_1_8, z_r0_1_9, z_r0_1_10, z_rr30_0, z_rr30_1]); exact (Chg.cons (Chg.up S4 (sl_1 (Or.inl ⟨B_r0_0, Or.inl (by rw [T_r0_0]; decide)⟩))) (Chg.cons (Chg.up S11 (fun _ h => Or.inl ⟨h.1, Or.inl h.2⟩)) (Chg.cons (Chg.up S15 (sl_1 (Or.inl ⟨B_r0, Or.inl (by rw [T_r0]; decide)⟩))) (Chg.cons (Chg.up S24 (sl_1 (Or.inl ⟨B_r0_1, Or.inr rfl⟩))) (Chg.mono (Chg.up S34 (sl_3 (Or.inr ⟨_, nN, Or.inl oN.symm⟩) (Or.inr ⟨_, nN, Or.inr (Or.inl (z_rr30_0.symm.trans (by rw [oN])))⟩) (Or.inr ⟨_, nN, Or.inr (Or.inr (z_rr30_1.symm.trans (by rw [oN])))⟩))) (by decide)) (by decide)) (by decide)) (by decide)) (by decide)))⟩)
  exact k_throw C rfl rfl rfl rfl rfl rfl (Nat.le_of_ble_eq_true rfl) (Nat.le_of_ble_eq_true rfl) (Nat.le_of_ble_eq_true rfl) (Or.inr ⟨_, _, _, (by decide : 0 ∈ [0, 2]), rfl, rfl, ⟨⟨hI14, (by (try simp only [z_r0_0, z_r0_1, z_r0_2, z_r0_5, z_r0_6, z_r0_7, z_r0_8, z_r0_9, z_r0_10, z_r0_11, z_r0_12, z_r0_13, z_r0_0_0, z_r0_0_2, z_r0_1_6, z_r0_1_7, z_r0_1_8, z_r0_1_9, z_r0_1_10]); exact (Chg.cons (Chg.up S4 (sl_1 (Or.inl ⟨B_r0_0, Or.inl (by rw [T_r0_0]; decide)⟩))) (Chg.cons (Chg.up S11 (fun _ h => Or.inl ⟨h.1, Or.inl h.2⟩)) (Chg.mono (Chg.up S15 (sl_1 (Or.inl ⟨B_r0, Or.inl (by rw [T_r0]; decide)⟩))) (by decide)) (by decide)) (by decide)))⟩, (fun _ => by simp only [z_r0_0, z_r0_1, z_r0_2, z_r0_5, z_r0_6, z_r0_7, z_r0_8, z_r0_9, z_r0_10, z_r0_11, z_r0_12, z_r0_13, z_r0_0_0, z_r0_0_2, z_r0_1_6, z_r0_1_7, z_r0_1_8, z_r0_1_9, z_r0_1_10]; rw [e17]; omega), (fun _ => by simp only [z_r0_0, z_r0_1, z_r0_2, z_r0_5, z_r0_6, z_r0_7, z_r0_8, z_r0_9, z_r0_10, z_r0_11, z_r0_12, z_r0_13, z_r0_0_0, z_r0_0_2, z_r0_1_6, z_r0_1_7, z_r0_1_8, z_r0_1_9, z_r0_1_10]; rw [e16, k0_r0_1_3]), (fun h9 => absurd h9 (by decide)), (fun h9 => absurd h9 (by decide)), (fun h9 => absurd h9 (by decide))⟩⟩)
