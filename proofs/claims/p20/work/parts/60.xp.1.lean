/-! on -/
theorem s_X4_readProduct_6_x {d : Nat} {T N : Nat → Nat} {I : IT} {L : LT} {R : RT} {A B : Nat → Prop} {r0 : Nat} {n1 : Int32} (hS : SUB B A) (hI : IX A T I) (H_r0 : (hs_Rd T N R A B) r0) (b0_n1 : 6 ≤ n1.toInt) (b1_n1 : n1.toInt ≤ 6) (hU : UPR T R) (hp0 : 0 ≤ (I r0 4).toInt) (hp1 : (I r0 4).toInt ≤ (I r0 3).toInt) (hp2 : (I r0 3).toInt ≤ 400) (hp3 : 0 ≤ (I r0 5).toInt) (hp4 : (I r0 5).toInt ≤ 40) (hp5 : 0 ≤ (I (rA R r0 0) 2).toInt ∧ (I (rA R r0 0) 2).toInt ≤ 160) : Ex (d + 4) 72 [.ref r0, .int n1] (T, N, I, L, R) 0 0 (pI T N R (fun x9 I9 L9 => (0 ≤ x9.toInt) ∧ (x9.toInt ≤ 1) ∧ (RES x9.toInt (RPR 160 (RCH R I r0) (RPT 160 (RCH R I r0) 0) (RDT R I r0)) (RDT R I9 r0)) ∧ (0 ≤ (I9 (rA R r0 0) 2).toInt ∧ (I9 (rA R r0 0) 2).toInt ≤ 160) ∧ (x9.toInt = 1 → (I9 r0 4).toInt ≤ (I r0 3).toInt ∧ (I r0 5).toInt ≤ (I9 r0 5).toInt ∧ (I9 r0 5).toInt ≤ 40) ∧ (0 ≤ (I9 r0 4).toInt ∧ 0 ≤ (I9 r0 5).toInt) ∧ (IX A T I9 ∧ Chg (SL [r0, (rA R r0 0), (rA R (rA R r0 0) 0), (rA R (rA R r0 0) 1)]) T [(5, 4), (5, 5), (8, 2)] I L I9 L9))) := by
  refine ⟨_, rfl, Nat.le_of_ble_eq_true rfl, fun V C S => ?_⟩
  show V 0 [(0, .ref r0), (1, .int n1)] [] (T, N, I, L, R) 0 0
  have gn1 := rg n1
  obtain ⟨T_r0, A_r0, B_r0, ⟨r0_0, R_r0_0, H_r0_0⟩, ⟨r0_2, R_r0_2, H_r0_2⟩⟩ := id H_r0
  have z_r0_0 : rA R r0 0 = r0_0 := rA_e R_r0_0
  have z_r0_2 : rA R r0 2 = r0_2 := rA_e R_r0_2
  obtain ⟨T_r0_0, A_r0_0, B_r0_0, ⟨r0_0_0, R_r0_0_0, H_r0_0_0⟩, ⟨r0_0_1, R_r0_0_1, H_r0_0_1⟩⟩ := id H_r0_0
  have z_r0_0_0 : rA R r0_0 0 = r0_0_0 := rA_e R_r0_0_0
  have z_r0_0_1 : rA R r0_0 1 = r0_0_1 := rA_e R_r0_0_1
  obtain ⟨T_r0_2, N_r0_2, A_r0_2⟩ := id H_r0_2
  obtain ⟨T_r0_0_0, N_r0_0_0, A_r0_0_0⟩ := id H_r0_0_0
  obtain ⟨T_r0_0_1, N_r0_0_1, A_r0_0_1⟩ := id H_r0_0_1
  have nq20 : NQ8 r0_2 r0_0_0 := hU.ne (t20 T_r0_2) R_r0_2 R_r0_0_0 (Or.inl (t_nq T_r0 T_r0_0 (by decide)))
  have nq21 : NQ8 r0_2 r0_0_1 := hU.ne (t20 T_r0_2) R_r0_2 R_r0_0_1 (Or.inl (t_nq T_r0 T_r0_0 (by decide)))
  have nq01 : NQ8 r0_0_0 r0_0_1 := hU.ne (t20 T_r0_0_0) R_r0_0_0 R_r0_0_1 (Or.inr (by decide))
  try simp only [z_r0_0, z_r0_2, z_r0_0_0, z_r0_0_1] at hp0
  try simp only [z_r0_0, z_r0_2, z_r0_0_0, z_r0_0_1] at hp1
  try simp only [z_r0_0, z_r0_2, z_r0_0_0, z_r0_0_1] at hp2
  try simp only [z_r0_0, z_r0_2, z_r0_0_0, z_r0_0_1] at hp3
  try simp only [z_r0_0, z_r0_2, z_r0_0_0, z_r0_0_1] at hp4
  try simp only [z_r0_0, z_r0_2, z_r0_0_0, z_r0_0_1] at hp5
  obtain ⟨w_r0_3, k0_r0_3⟩ : ∃ x, I r0 3 = x := ⟨_, rfl⟩
  have gw_r0_3 := rg w_r0_3
  obtain ⟨w_r0_4, k0_r0_4⟩ : ∃ x, I r0 4 = x := ⟨_, rfl⟩
  have gw_r0_4 := rg w_r0_4
  obtain ⟨w_r0_5, k0_r0_5⟩ : ∃ x, I r0 5 = x := ⟨_, rfl⟩
  have gw_r0_5 := rg w_r0_5
  obtain ⟨w_r0_0_2, k0_r0_0_2⟩ : ∃ x, I r0_0 2 = x := ⟨_, rfl⟩
  have gw_r0_0_2 := rg w_r0_0_2
  try simp only [k0_r0_3, k0_r0_4, k0_r0_5, k0_r0_0_2] at hp0
  try simp only [k0_r0_3, k0_r0_4, k0_r0_5, k0_r0_0_2] at hp1
  try simp only [k0_r0_3, k0_r0_4, k0_r0_5, k0_r0_0_2] at hp2
  try simp only [k0_r0_3, k0_r0_4, k0_r0_5, k0_r0_0_2] at hp3
  try simp only [k0_r0_3, k0_r0_4, k0_r0_5, k0_r0_0_2] at hp4
  try simp only [k0_r0_3, k0_r0_4, k0_r0_5, k0_r0_0_2] at hp5
  obtain ⟨cc, hcc⟩ : ∃ c, RCH R I r0 = c := ⟨_, rfl⟩
  have hc40 : C40 cc := by rw [← hcc]; exact RCH.c40 (by rw [k0_r0_3]; omega)
  obtain ⟨s0, hs0⟩ : ∃ s, RDT R I r0 = s := ⟨_, rfl⟩
  have hp0 := RDT.c1 hs0 k0_r0_4 (by omega)
  have ht0 := RDT.c2 hs0 k0_r0_5 (by omega)
  refine k_aload_n C rfl rfl rfl ?_
  refine k_iload_n C rfl rfl rfl ?_
  have c2 : RCH R I r0 = cc := (RCH.mv (Chg.at (Chg.rf : Chg (SL [r0, r0_0, r0_0_0, r0_0_1]) T [(5, 4), (5, 5), (8, 2)] I L I L) (nm_4 (t_nq T_r0_2 T_r0 (by decide)) (t_nq T_r0_2 T_r0_0 (by decide)) (by first | exact nq20 | exact fun e => nq20 e.symm) (by first | exact nq21 | exact fun e => nq21 e.symm))) k0_r0_3 k0_r0_3 z_r0_2).trans hcc
  refine c_VI C (s_X4_readPart_6_x hS hI H_r0 (by omega) (by omega) hU (by (try simp only [z_r0_0, z_r0_2, z_r0_0_0, z_r0_0_1]); first | omega | (simp only [k0_r0_3, k0_r0_4, k0_r0_5, k0_r0_0_2, and_true, true_and, or_true, true_or, and_false, false_and, or_false, false_or] <;> omega)) (by (try simp only [z_r0_0, z_r0_2, z_r0_0_0, z_r0_0_1]); first | omega | (simp only [k0_r0_3, k0_r0_4, k0_r0_5, k0_r0_0_2, and_true, true_and, or_true, true_or, and_false, false_and, or_false, false_or] <;> omega)) (by (try simp only [z_r0_0, z_r0_2, z_r0_0_0, z_r0_0_1]); first | omega | (simp only [k0_r0_3, k0_r0_4, k0_r0_5, k0_r0_0_2, and_true, true_and, or_true, true_or, and_false, false_and, or_false, false_or] <;> omega)) (by (try simp only [z_r0_0, z_r0_2, z_r0_0_0, z_r0_0_1]); first | omega | (simp only [k0_r0_3, k0_r0_4, k0_r0_5, k0_r0_0_2, and_true, true_and, or_true, true_or, and_false, false_and, or_false, false_or] <;> omega)) (by (try simp only [z_r0_0, z_r0_2, z_r0_0_0, z_r0_0_1]); first | omega | (simp only [k0_r0_3, k0_r0_4, k0_r0_5, k0_r0_0_2, and_true, true_and, or_true, true_or, and_false, false_and, or_false, false_or] <;> omega)) (by (try simp only [z_r0_0, z_r0_2, z_r0_0_0, z_r0_0_1]); first | omega | (simp only [k0_r0_3, k0_r0_4, k0_r0_5, k0_r0_0_2, and_true, true_and, or_true, true_or, and_false, false_and, or_false, false_or] <;> omega))) rfl rfl rfl rfl rfl ⟨_, rfl, rfl, T_r0, Nat.le_of_ble_eq_true rfl⟩ rfl rfl (Nat.le_of_ble_eq_true rfl) (Nat.le_of_ble_eq_true rfl) (Nat.le_of_ble_eq_true rfl) ?_
  rintro x1 I2 L3 ⟨o0x1, o1x1, p0x1, p1x1, p2x1, p3x1, hI2, S4⟩
  try simp only [z_r0_0, z_r0_2, z_r0_0_0, z_r0_0_1] at S4
  have e5 := Chg.k S4 T_r0 (by decide) (by decide) k0_r0_3
  have gx1 := rg x1
  obtain ⟨x6, e7⟩ : ∃ x, I2 r0 4 = x := ⟨_, rfl⟩
  have gx6 := rg x6
  obtain ⟨x8, e9⟩ : ∃ x, I2 r0 5 = x := ⟨_, rfl⟩
  have gx8 := rg x8
  obtain ⟨x10, e11⟩ : ∃ x, I2 r0_0 2 = x := ⟨_, rfl⟩
  have gx10 := rg x10
  try simp only [z_r0_0, z_r0_2, z_r0_0_0, z_r0_0_1] at p0x1
  try simp only [z_r0_0, z_r0_2, z_r0_0_0, z_r0_0_1] at p1x1
  try simp only [z_r0_0, z_r0_2, z_r0_0_0, z_r0_0_1] at p2x1
  try simp only [z_r0_0, z_r0_2, z_r0_0_0, z_r0_0_1] at p3x1
  try simp only [k0_r0_3, k0_r0_4, k0_r0_5, k0_r0_0_2, e7, e9, e11] at p0x1
  try have q0x1 := congrArg Int32.toInt p0x1
  try simp only [k0_r0_3, k0_r0_4, k0_r0_5, k0_r0_0_2, e7, e9, e11] at p1x1
  try have q1x1 := congrArg Int32.toInt p1x1
  try simp only [k0_r0_3, k0_r0_4, k0_r0_5, k0_r0_0_2, e7, e9, e11] at p2x1
  try have q2x1 := congrArg Int32.toInt p2x1
  try simp only [k0_r0_3, k0_r0_4, k0_r0_5, k0_r0_0_2, e7, e9, e11] at p3x1
  try have q3x1 := congrArg Int32.toInt p3x1
  have h2 := p0x1; rw [c2, hs0] at h2; obtain ⟨t2, ht2⟩ : ∃ t, RDT R I2 r0 = t := ⟨_, rfl⟩; rw [ht2] at h2; have hd2 := RDT.c2 ht2 e9 (by omega)
  refine b_if_ne C (t := 10) rfl rfl rfl (fun c12 => ?_) (fun c12 => ?_)
  · skip
    refine z_iconst C (z := 0) rfl rfl rfl (fun x13 ex13 => ?_)
    have J14 : ∀ (nn15 : Nat) (I16 : IT) (L17 : LT) (x18 : Int32) (x23 : Int32) (x27 : Int32) (x31 : Int32), (MN (400 - x18.toInt) nn15) → (IX A T I16) → (Chg (SL [r0, r0_0, r0_0_0, r0_0_1]) T [(5, 4), (5, 5), (8, 2)] I2 L3 I16 L17) → (0 ≤ x18.toInt) → (x18.toInt ≤ 400) → (I16 r0 4 = x23) → (0 ≤ x23.toInt) → (x23.toInt ≤ 400) → (I16 r0 5 = x27) → (0 ≤ x27.toInt) → (x27.toInt ≤ 40) → (I16 r0_0 2 = x31) → (0 ≤ x31.toInt) → (x31.toInt ≤ 160) → (LPI 160 cc 42 3 (RPT 160 cc 0) (RPR 160 cc (RPT 160 cc 0) s0) (RDT R I16 r0) x18.toInt) → (w_r0_5.toInt ≤ x27.toInt) → (x23.toInt ≤ w_r0_3.toInt) → V 12 [(0, .ref r0), (1, .int n1), (2, .int x18)] [] (T, N, I16, L17, R) 0 0 := by
      intro nn15
      induction nn15 using Nat.strongRecOn with
      | _ nn15 ihJ14 =>
        intro I16 L17 x18 x23 x27 x31 hmnn15 hI22 S21 b19 b20 e24 b25 b26 e28 b29 b30 e32 b33 b34 ff12_0 ff12_1 ff12_2
        have gx18 := rg x18
        have gx23 := rg x23
        have gx27 := rg x27
        have gx31 := rg x31
        have e38 := Chg.k S21 T_r0 (by decide) (by decide) e5
        obtain ⟨t12, ht12⟩ : ∃ t, RDT R I16 r0 = t := ⟨_, rfl⟩
        rw [ht12] at ff12_0
        have htn := ff12_0.tn
        refine k_iload_n C rfl rfl rfl ?_
        refine z_sipush C (z := 400) rfl rfl rfl (fun x39 ex39 => ?_)
        refine b_icmp_ge C (t := 72) rfl rfl rfl (fun c40 => ?_) (fun c40 => ?_)
        · skip
          refine z_iconst C (z := 1) rfl rfl rfl (fun x41 ex41 => ?_)
          exact k_iret C rfl (Or.inr ⟨rfl, z01 (by omega) (by omega)⟩) (Nat.le_of_ble_eq_true rfl) (Nat.le_of_ble_eq_true rfl) ⟨_, _, _, rfl, rfl, by omega, by omega, by (try simp only [z_r0_0, z_r0_2, z_r0_0_0, z_r0_0_1]); rw [hcc, hs0]; first | (exfalso; omega) | (refine RES.t (by omega) ?_; rw [hs20]; exact ff12_0.out (by omega)), by (try simp only [z_r0_0, z_r0_2, z_r0_0_0, z_r0_0_1]); first | omega | (simp only [e38, e24, e28, e32, k0_r0_3, k0_r0_4, k0_r0_5, k0_r0_0_2, and_true, true_and] <;> omega), by (try simp only [z_r0_0, z_r0_2, z_r0_0_0, z_r0_0_1]); intro h9; first | omega | (simp only [e38, e24, e28, e32, k0_r0_3, k0_r0_4, k0_r0_5, k0_r0_0_2, and_true, true_and] <;> omega), by (try simp only [z_r0_0, z_r0_2, z_r0_0_0, z_r0_0_1]); first | omega | (simp only [e38, e24, e28, e32, k0_r0_3, k0_r0_4, k0_r0_5, k0_r0_0_2, and_true, true_and] <;> omega), hI22, (by (try simp only [z_r0_0, z_r0_2, z_r0_0_0, z_r0_0_1]); exact (Chg.cons (Chg.up S4 (List.forall_mem_cons.mpr ⟨List.mem_of_getElem? (i := 0) rfl, List.forall_mem_cons.mpr ⟨List.mem_of_getElem? (i := 1) rfl, List.forall_mem_cons.mpr ⟨List.mem_of_getElem? (i := 2) rfl, List.forall_mem_cons.mpr ⟨List.mem_of_getElem? (i := 3) rfl, fun _ h => nomatch h⟩⟩⟩⟩)) (Chg.mono S21 (by decide)) (by decide)))⟩
        refine k_aload_n C rfl rfl rfl ?_
        have c20 : RCH R I16 r0 = cc := (RCH.mv (Chg.at ((Chg.cons (Chg.up S4 (List.forall_mem_cons.mpr ⟨List.mem_of_getElem? (i := 0) rfl, List.forall_mem_cons.mpr ⟨List.mem_of_getElem? (i := 1) rfl, List.forall_mem_cons.mpr ⟨List.mem_of_getElem? (i := 2) rfl, List.forall_mem_cons.mpr ⟨List.mem_of_getElem? (i := 3) rfl, fun _ h => nomatch h⟩⟩⟩⟩)) (Chg.mono S21 (by decide)) (by decide)) : Chg (SL [r0, r0_0, r0_0_0, r0_0_1]) T [(5, 4), (5, 5), (8, 2)] I L I16 L17) (nm_4 (t_nq T_r0_2 T_r0 (by decide)) (t_nq T_r0_2 T_r0_0 (by decide)) (by first | exact nq20 | exact fun e => nq20 e.symm) (by first | exact nq21 | exact fun e => nq21 e.symm))) e38 k0_r0_3 z_r0_2).trans hcc
        have hc12 := RDT.c2 ht12 e28 (by omega)
        refine c_VI C (s_X4_next_x hS hI22 H_r0 (by (try simp only [z_r0_0, z_r0_2, z_r0_0_0, z_r0_0_1]); first | omega | (simp only [e38, e24, e28, e32, and_true, true_and, or_true, true_or, and_false, false_and, or_false, false_or] <;> omega)) (by (try simp only [z_r0_0, z_r0_2, z_r0_0_0, z_r0_0_1]); first | omega | (simp only [e38, e24, e28, e32, and_true, true_and, or_true, true_or, and_false, false_and, or_false, false_or] <;> omega)) (by (try simp only [z_r0_0, z_r0_2, z_r0_0_0, z_r0_0_1]); first | omega | (simp only [e38, e24, e28, e32, and_true, true_and, or_true, true_or, and_false, false_and, or_false, false_or] <;> omega)) (by (try simp only [z_r0_0, z_r0_2, z_r0_0_0, z_r0_0_1]); first | omega | (simp only [e38, e24, e28, e32, and_true, true_and, or_true, true_or, and_false, false_and, or_false, false_or] <;> omega))) rfl rfl rfl rfl rfl ⟨_, rfl, rfl, T_r0, Nat.le_of_ble_eq_true rfl⟩ rfl rfl (Nat.le_of_ble_eq_true rfl) (Nat.le_of_ble_eq_true rfl) (Nat.le_of_ble_eq_true rfl) ?_
        rintro x42 I43 L44 ⟨p0x42, p1x42, p2x42, p3x42, hI43, S45⟩
        try simp only [z_r0_0, z_r0_2, z_r0_0_0, z_r0_0_1] at S45
        have e46 := Chg.k S45 T_r0 (by decide) (by decide) e38
        have e47 := Chg.k S45 T_r0 (by decide) (by decide) e28
        have e48 := Chg.k S45 T_r0_0 (by decide) (by decide) e32
        have gx42 := rg x42
        obtain ⟨x49, e50⟩ : ∃ x, I43 r0 4 = x := ⟨_, rfl⟩
        have gx49 := rg x49
        try simp only [z_r0_0, z_r0_2, z_r0_0_0, z_r0_0_1] at p0x42
        try simp only [z_r0_0, z_r0_2, z_r0_0_0, z_r0_0_1] at p1x42
        try simp only [z_r0_0, z_r0_2, z_r0_0_0, z_r0_0_1] at p2x42
        try simp only [z_r0_0, z_r0_2, z_r0_0_0, z_r0_0_1] at p3x42
        try simp only [e38, e24, e28, e32, e50] at p0x42
        try have q0x42 := congrArg Int32.toInt p0x42
        try simp only [e38, e24, e28, e32, e50] at p1x42
        try have q1x42 := congrArg Int32.toInt p1x42
        try simp only [e38, e24, e28, e32, e50] at p2x42
        try have q2x42 := congrArg Int32.toInt p2x42
        try simp only [e38, e24, e28, e32, e50] at p3x42
        try have q3x42 := congrArg Int32.toInt p3x42
        have hx20 := p0x42; have hs20 := p1x42; rw [c20, ht12] at hx20 hs20; have hq20 := RDT.c1 hs20 e50 (by omega)
        refine z_bipush C (z := 42) rfl rfl rfl (fun x51 ex51 => ?_)
        refine b_icmp_ne C (t := 72) rfl rfl rfl (fun c52 => ?_) (fun c52 => ?_)
        · skip
          refine z_iconst C (z := 1) rfl rfl rfl (fun x53 ex53 => ?_)
          exact k_iret C rfl (Or.inr ⟨rfl, z01 (by omega) (by omega)⟩) (Nat.le_of_ble_eq_true rfl) (Nat.le_of_ble_eq_true rfl) ⟨_, _, _, rfl, rfl, by omega, by omega, by (try simp only [z_r0_0, z_r0_2, z_r0_0_0, z_r0_0_1]); rw [hcc, hs0]; first | (exfalso; omega) | (refine RES.t (by omega) ?_; rw [hs20]; exact ff12_0.out (by omega)), by (try simp only [z_r0_0, z_r0_2, z_r0_0_0, z_r0_0_1]); first | omega | (simp only [e46, e47, e48, e50, k0_r0_3, k0_r0_4, k0_r0_5, k0_r0_0_2, and_true, true_and] <;> omega), by (try simp only [z_r0_0, z_r0_2, z_r0_0_0, z_r0_0_1]); intro h9; first | omega | (simp only [e46, e47, e48, e50, k0_r0_3, k0_r0_4, k0_r0_5, k0_r0_0_2, and_true, true_and] <;> omega), by (try simp only [z_r0_0, z_r0_2, z_r0_0_0, z_r0_0_1]); first | omega | (simp only [e46, e47, e48, e50, k0_r0_3, k0_r0_4, k0_r0_5, k0_r0_0_2, and_true, true_and] <;> omega), hI43, (by (try simp only [z_r0_0, z_r0_2, z_r0_0_0, z_r0_0_1]); exact (Chg.cons (Chg.up S4 (List.forall_mem_cons.mpr ⟨List.mem_of_getElem? (i := 0) rfl, List.forall_mem_cons.mpr ⟨List.mem_of_getElem? (i := 1) rfl, List.forall_mem_cons.mpr ⟨List.mem_of_getElem? (i := 2) rfl, List.forall_mem_cons.mpr ⟨List.mem_of_getElem? (i := 3) rfl, fun _ h => nomatch h⟩⟩⟩⟩)) (Chg.cons S21 (Chg.mono (Chg.up S45 (List.forall_mem_cons.mpr ⟨List.mem_of_getElem? (i := 0) rfl, fun _ h => nomatch h⟩)) (by decide)) (by decide)) (by decide)))⟩
        refine k_aload_n C rfl rfl rfl ?_
        refine c_VI C (s_X4_isThingMore_x hS hI43 H_r0 (by (try simp only [z_r0_0, z_r0_2, z_r0_0_0, z_r0_0_1]); first | omega | (simp only [e46, e47, e48, e50, and_true, true_and, or_true, true_or, and_false, false_and, or_false, false_or] <;> omega)) (by (try simp only [z_r0_0, z_r0_2, z_r0_0_0, z_r0_0_1]); first | omega | (simp only [e46, e47, e48, e50, and_true, true_and, or_true, true_or, and_false, false_and, or_false, false_or] <;> omega))) rfl rfl rfl rfl rfl ⟨_, rfl, rfl, T_r0, Nat.le_of_ble_eq_true rfl⟩ rfl rfl (Nat.le_of_ble_eq_true rfl) (Nat.le_of_ble_eq_true rfl) (Nat.le_of_ble_eq_true rfl) ?_
        rintro x54 I55 L56 ⟨o0x54, o1x54, p0x54, p1x54, p2x54, p3x54, hI55, S57⟩
        try simp only [z_r0_0, z_r0_2, z_r0_0_0, z_r0_0_1] at S57
        have e58 := Chg.k S57 T_r0 (by decide) (by decide) e46
        have e59 := Chg.k S57 T_r0_0 (by decide) (by decide) e48
        have e60 := Chg.k S57 T_r0 (by decide) (by decide) e50
        have gx54 := rg x54
        obtain ⟨x61, e62⟩ : ∃ x, I55 r0 5 = x := ⟨_, rfl⟩
        have gx61 := rg x61
        try simp only [z_r0_0, z_r0_2, z_r0_0_0, z_r0_0_1] at p0x54
        try simp only [z_r0_0, z_r0_2, z_r0_0_0, z_r0_0_1] at p1x54
        try simp only [z_r0_0, z_r0_2, z_r0_0_0, z_r0_0_1] at p2x54
        try simp only [z_r0_0, z_r0_2, z_r0_0_0, z_r0_0_1] at p3x54
        try simp only [e46, e47, e48, e50, e62] at p0x54
        try have q0x54 := congrArg Int32.toInt p0x54
        try simp only [e46, e47, e48, e50, e62] at p1x54
        try have q1x54 := congrArg Int32.toInt p1x54
        try simp only [e46, e47, e48, e50, e62] at p2x54
        try have q2x54 := congrArg Int32.toInt p2x54
        try simp only [e46, e47, e48, e50, e62] at p3x54
        try have q3x54 := congrArg Int32.toInt p3x54
        have hs29 := p0x54; rw [hs20] at hs29; have hy29 := p1x54; have hn29 := p2x54
        refine b_if_ne C (t := 37) rfl rfl rfl (fun c63 => ?_) (fun c63 => ?_)
        · skip
          refine k_aload_n C rfl rfl rfl ?_
          refine k_dup C rfl rfl rfl ?_
          refine g_I C rfl rfl rfl T_r0 rfl e60 ?_
          refine z_iconst C (z := 1) rfl rfl rfl (fun x64 ex64 => ?_)
          refine z_iadd C rfl rfl ⟨by omega, by omega⟩ (fun x65 ex65 => ?_)
          refine z_pI C rfl rfl rfl T_r0 (Or.inr rfl) rfl (fun I66 uI66 => ?_)
          have hI66 : IX A T I66 := IX.f hI55 T_r0 (boX.tr (by decide) (by decide)) uI66
          have S67 : Chg (SL [r0]) T [(5, 4)] I55 L56 I66 L56 := Chg.f List.mem_cons_self T_r0 uI66
          have e68 := u2_j uI66 (by decide) e58
          have e69 := u2_j uI66 (by decide) e59
          have e70 := u2_j uI66 (by decide) e62
          have e71 := u2_e uI66
          have hq44 := uI66
          refine k_aload_n C rfl rfl rfl ?_
          refine k_iload_n C rfl rfl rfl ?_
          have hs44 := (RDT.nx (I1 := I66) hs29 z_r0_0 (p := SKP cc t12.1 + 1) (by rw [hq44, u2_k (by decide)]) (STL.fr z_r0_0_0 z_r0_0_1 (by rw [hq44, u2_r (t_nq T_r0_0 T_r0 (by decide))]) (by rw [hq44, u2_r (t_nq T_r0_0_0 T_r0 (by decide))]) (by rw [hq44, u2_r (t_nq T_r0_0_1 T_r0 (by decide))])) (by rw [e71]; omega))
          have c49 : RCH R I66 r0 = cc := (RCH.mv (Chg.at ((Chg.cons (Chg.up S4 (List.forall_mem_cons.mpr ⟨List.mem_of_getElem? (i := 0) rfl, List.forall_mem_cons.mpr ⟨List.mem_of_getElem? (i := 1) rfl, List.forall_mem_cons.mpr ⟨List.mem_of_getElem? (i := 2) rfl, List.forall_mem_cons.mpr ⟨List.mem_of_getElem? (i := 3) rfl, fun _ h => nomatch h⟩⟩⟩⟩)) (Chg.cons S21 (Chg.cons (Chg.up S45 (List.forall_mem_cons.mpr ⟨List.mem_of_getElem? (i := 0) rfl, fun _ h => nomatch h⟩)) (Chg.cons (Chg.up S57 (List.forall_mem_cons.mpr ⟨List.mem_of_getElem? (i := 0) rfl, fun _ h => nomatch h⟩)) (Chg.mono (Chg.up S67 (List.forall_mem_cons.mpr ⟨List.mem_of_getElem? (i := 0) rfl, fun _ h => nomatch h⟩)) (by decide)) (by decide)) (by decide)) (by decide)) (by decide)) : Chg (SL [r0, r0_0, r0_0_0, r0_0_1]) T [(5, 4), (5, 5), (8, 2)] I L I66 L56) (nm_4 (t_nq T_r0_2 T_r0 (by decide)) (t_nq T_r0_2 T_r0_0 (by decide)) (by first | exact nq20 | exact fun e => nq20 e.symm) (by first | exact nq21 | exact fun e => nq21 e.symm))) e68 k0_r0_3 z_r0_2).trans hcc
          refine c_VI C (s_X4_readPart_6_x hS hI66 H_r0 (by omega) (by omega) hU (by (try simp only [z_r0_0, z_r0_2, z_r0_0_0, z_r0_0_1]); first | omega | (simp only [e68, e69, e70, e71, and_true, true_and, or_true, true_or, and_false, false_and, or_false, false_or] <;> omega)) (by (try simp only [z_r0_0, z_r0_2, z_r0_0_0, z_r0_0_1]); first | omega | (simp only [e68, e69, e70, e71, and_true, true_and, or_true, true_or, and_false, false_and, or_false, false_or] <;> omega)) (by (try simp only [z_r0_0, z_r0_2, z_r0_0_0, z_r0_0_1]); first | omega | (simp only [e68, e69, e70, e71, and_true, true_and, or_true, true_or, and_false, false_and, or_false, false_or] <;> omega)) (by (try simp only [z_r0_0, z_r0_2, z_r0_0_0, z_r0_0_1]); first | omega | (simp only [e68, e69, e70, e71, and_true, true_and, or_true, true_or, and_false, false_and, or_false, false_or] <;> omega)) (by (try simp only [z_r0_0, z_r0_2, z_r0_0_0, z_r0_0_1]); first | omega | (simp only [e68, e69, e70, e71, and_true, true_and, or_true, true_or, and_false, false_and, or_false, false_or] <;> omega)) (by (try simp only [z_r0_0, z_r0_2, z_r0_0_0, z_r0_0_1]); first | omega | (simp only [e68, e69, e70, e71, and_true, true_and, or_true, true_or, and_false, false_and, or_false, false_or] <;> omega))) rfl rfl rfl rfl rfl ⟨_, rfl, rfl, T_r0, Nat.le_of_ble_eq_true rfl⟩ rfl rfl (Nat.le_of_ble_eq_true rfl) (Nat.le_of_ble_eq_true rfl) (Nat.le_of_ble_eq_true rfl) ?_
          rintro x72 I73 L74 ⟨o0x72, o1x72, p0x72, p1x72, p2x72, p3x72, hI73, S75⟩
          try simp only [z_r0_0, z_r0_2, z_r0_0_0, z_r0_0_1] at S75
          have e76 := Chg.k S75 T_r0 (by decide) (by decide) e68
          have gx72 := rg x72
          obtain ⟨x77, e78⟩ : ∃ x, I73 r0 4 = x := ⟨_, rfl⟩
          have gx77 := rg x77
          obtain ⟨x79, e80⟩ : ∃ x, I73 r0 5 = x := ⟨_, rfl⟩
          have gx79 := rg x79
          obtain ⟨x81, e82⟩ : ∃ x, I73 r0_0 2 = x := ⟨_, rfl⟩
          have gx81 := rg x81
          try simp only [z_r0_0, z_r0_2, z_r0_0_0, z_r0_0_1] at p0x72
          try simp only [z_r0_0, z_r0_2, z_r0_0_0, z_r0_0_1] at p1x72
          try simp only [z_r0_0, z_r0_2, z_r0_0_0, z_r0_0_1] at p2x72
          try simp only [z_r0_0, z_r0_2, z_r0_0_0, z_r0_0_1] at p3x72
          try simp only [e68, e69, e70, e71, e78, e80, e82] at p0x72
          try have q0x72 := congrArg Int32.toInt p0x72
          try simp only [e68, e69, e70, e71, e78, e80, e82] at p1x72
          try have q1x72 := congrArg Int32.toInt p1x72
          try simp only [e68, e69, e70, e71, e78, e80, e82] at p2x72
          try have q2x72 := congrArg Int32.toInt p2x72
          try simp only [e68, e69, e70, e71, e78, e80, e82] at p3x72
          try have q3x72 := congrArg Int32.toInt p3x72
          have h49 := p0x72; rw [c49, hs44] at h49; obtain ⟨t49, ht49⟩ : ∃ t, RDT R I73 r0 = t := ⟨_, rfl⟩; rw [ht49] at h49; have hd49 := RDT.c2 ht49 e80 (by omega)
          refine b_if_ne C (t := 57) rfl rfl rfl (fun c83 => ?_) (fun c83 => ?_)
          · skip
            refine k_aload_n C rfl rfl rfl ?_
            refine g_R C rfl rfl rfl T_r0 rfl R_r0_0 ?_
            refine z_iconst C (z := 3) rfl rfl rfl (fun x84 ex84 => ?_)
            refine z_iconst C (z := 0) rfl rfl rfl (fun x85 ex85 => ?_)
            refine c_VV C (s_X7_put_p hS hI73 (hs_SuSg hS H_r0_0) hU (by (try simp only [z_r0_0, z_r0_2, z_r0_0_0, z_r0_0_1]); first | omega | (simp only [e76, e78, e80, e82, and_true, true_and, or_true, true_or, and_false, false_and, or_false, false_or] <;> omega)) (by (try simp only [z_r0_0, z_r0_2, z_r0_0_0, z_r0_0_1]); first | omega | (simp only [e76, e78, e80, e82, and_true, true_and, or_true, true_or, and_false, false_and, or_false, false_or] <;> omega))) rfl rfl rfl rfl rfl ⟨_, rfl, rfl, T_r0_0, Nat.le_of_ble_eq_true rfl⟩ rfl rfl (Nat.le_of_ble_eq_true rfl) (Nat.le_of_ble_eq_true rfl) (Nat.le_of_ble_eq_true rfl) ?_
            rintro I87 L88 ⟨p0v86, p1v86, hI87, S89⟩
            try simp only [z_r0_0, z_r0_2, z_r0_0_0, z_r0_0_1] at S89
            have e90 := Chg.k S89 T_r0 (by decide) (by decide) e76
            have e91 := Chg.k S89 T_r0 (by decide) (by decide) e78
            have e92 := Chg.k S89 T_r0 (by decide) (by decide) e80
            obtain ⟨x93, e94⟩ : ∃ x, I87 r0_0 2 = x := ⟨_, rfl⟩
            have gx93 := rg x93
            try simp only [z_r0_0, z_r0_2, z_r0_0_0, z_r0_0_1] at p0v86
            try simp only [z_r0_0, z_r0_2, z_r0_0_0, z_r0_0_1] at p1v86
            try simp only [e76, e78, e80, e82, e94] at p0v86
            try have q0v86 := congrArg Int32.toInt p0v86
            try simp only [e76, e78, e80, e82, e94] at p1v86
            try have q1v86 := congrArg Int32.toInt p1v86
            have hs63 := RDT.ap ht49 z_r0_0 (Chg.at S89 (nm_3 (t_nq T_r0 T_r0_0 (by decide)) (t_nq T_r0 T_r0_0_0 (by decide)) (t_nq T_r0 T_r0_0_1 (by decide)))) p0v86 (a' := 3) (b' := 0) (by omega) (by omega)
            refine z_iinc C (z := 1) (lw := fun x95 => [(2, .int x95), (0, .ref r0), (1, .int n1)]) rfl rfl rfl (Nat.le_of_ble_eq_true rfl) rfl ⟨by omega, by omega⟩ (fun _ => rfl) (fun x95 ex95 => ?_)
            show V 69 [(2, .int x95), (0, .ref r0), (1, .int n1)] _ _ _ _
            refine k_goto C (pc2 := 12) rfl rfl ?_
            refine k_sub S [(0, .ref r0), (1, .int n1), (2, .int x95)] (List.forall_mem_cons.mpr ⟨List.mem_of_getElem? (i := 1) rfl, List.forall_mem_cons.mpr ⟨List.mem_of_getElem? (i := 2) rfl, List.forall_mem_cons.mpr ⟨List.mem_of_getElem? (i := 0) rfl, fun _ h => nomatch h⟩⟩⟩) ?_
            exact ihJ14 _ (MN.lt hmnn15 (by omega) (by omega)) I87 L88 x95 x77 x79 x93 rfl hI87 (Chg.cons S21 (Chg.cons (Chg.up S45 (List.forall_mem_cons.mpr ⟨List.mem_of_getElem? (i := 0) rfl, fun _ h => nomatch h⟩)) (Chg.cons (Chg.up S57 (List.forall_mem_cons.mpr ⟨List.mem_of_getElem? (i := 0) rfl, fun _ h => nomatch h⟩)) (Chg.cons (Chg.up S67 (List.forall_mem_cons.mpr ⟨List.mem_of_getElem? (i := 0) rfl, fun _ h => nomatch h⟩)) (Chg.cons (Chg.up S75 (List.forall_mem_cons.mpr ⟨List.mem_of_getElem? (i := 0) rfl, List.forall_mem_cons.mpr ⟨List.mem_of_getElem? (i := 1) rfl, List.forall_mem_cons.mpr ⟨List.mem_of_getElem? (i := 2) rfl, List.forall_mem_cons.mpr ⟨List.mem_of_getElem? (i := 3) rfl, fun _ h => nomatch h⟩⟩⟩⟩)) (Chg.mono (Chg.up S89 (List.forall_mem_cons.mpr ⟨List.mem_of_getElem? (i := 1) rfl, List.forall_mem_cons.mpr ⟨List.mem_of_getElem? (i := 2) rfl, List.forall_mem_cons.mpr ⟨List.mem_of_getElem? (i := 3) rfl, fun _ h => nomatch h⟩⟩⟩)) (by decide)) (by decide)) (by decide)) (by decide)) (by decide)) (by decide)) (by omega) (by omega) e91 (by omega) (by omega) e92 (by omega) (by omega) e94 (by omega) (by omega) (by rw [hs63]; exact LPI.s ff12_0 (by omega) (by omega) (h49.y (by omega)) (by omega) (by omega) rfl (by omega)) (by omega) (by omega)
          refine z_iconst C (z := 0) rfl rfl rfl (fun x96 ex96 => ?_)
          exact k_iret C rfl (Or.inr ⟨rfl, z01 (by omega) (by omega)⟩) (Nat.le_of_ble_eq_true rfl) (Nat.le_of_ble_eq_true rfl) ⟨_, _, _, rfl, rfl, by omega, by omega, by (try simp only [z_r0_0, z_r0_2, z_r0_0_0, z_r0_0_1]); rw [hcc, hs0]; exact RES.f (by omega) (ff12_0.no2 (by omega) (by omega) (h49.no (by omega))), by (try simp only [z_r0_0, z_r0_2, z_r0_0_0, z_r0_0_1]); first | omega | (simp only [e76, e78, e80, e82, k0_r0_3, k0_r0_4, k0_r0_5, k0_r0_0_2, and_true, true_and] <;> omega), by (try simp only [z_r0_0, z_r0_2, z_r0_0_0, z_r0_0_1]); intro h9; first | omega | (simp only [e76, e78, e80, e82, k0_r0_3, k0_r0_4, k0_r0_5, k0_r0_0_2, and_true, true_and] <;> omega), by (try simp only [z_r0_0, z_r0_2, z_r0_0_0, z_r0_0_1]); first | omega | (simp only [e76, e78, e80, e82, k0_r0_3, k0_r0_4, k0_r0_5, k0_r0_0_2, and_true, true_and] <;> omega), hI73, (by (try simp only [z_r0_0, z_r0_2, z_r0_0_0, z_r0_0_1]); exact (Chg.cons (Chg.up S4 (List.forall_mem_cons.mpr ⟨List.mem_of_getElem? (i := 0) rfl, List.forall_mem_cons.mpr ⟨List.mem_of_getElem? (i := 1) rfl, List.forall_mem_cons.mpr ⟨List.mem_of_getElem? (i := 2) rfl, List.forall_mem_cons.mpr ⟨List.mem_of_getElem? (i := 3) rfl, fun _ h => nomatch h⟩⟩⟩⟩)) (Chg.cons S21 (Chg.cons (Chg.up S45 (List.forall_mem_cons.mpr ⟨List.mem_of_getElem? (i := 0) rfl, fun _ h => nomatch h⟩)) (Chg.cons (Chg.up S57 (List.forall_mem_cons.mpr ⟨List.mem_of_getElem? (i := 0) rfl, fun _ h => nomatch h⟩)) (Chg.cons (Chg.up S67 (List.forall_mem_cons.mpr ⟨List.mem_of_getElem? (i := 0) rfl, fun _ h => nomatch h⟩)) (Chg.mono (Chg.up S75 (List.forall_mem_cons.mpr ⟨List.mem_of_getElem? (i := 0) rfl, List.forall_mem_cons.mpr ⟨List.mem_of_getElem? (i := 1) rfl, List.forall_mem_cons.mpr ⟨List.mem_of_getElem? (i := 2) rfl, List.forall_mem_cons.mpr ⟨List.mem_of_getElem? (i := 3) rfl, fun _ h => nomatch h⟩⟩⟩⟩)) (by decide)) (by decide)) (by decide)) (by decide)) (by decide)) (by decide)))⟩
        refine z_iconst C (z := 0) rfl rfl rfl (fun x97 ex97 => ?_)
        exact k_iret C rfl (Or.inr ⟨rfl, z01 (by omega) (by omega)⟩) (Nat.le_of_ble_eq_true rfl) (Nat.le_of_ble_eq_true rfl) ⟨_, _, _, rfl, rfl, by omega, by omega, by (try simp only [z_r0_0, z_r0_2, z_r0_0_0, z_r0_0_1]); rw [hcc, hs0]; exact RES.f (by omega) (ff12_0.no (by omega) (by omega)), by (try simp only [z_r0_0, z_r0_2, z_r0_0_0, z_r0_0_1]); first | omega | (simp only [e58, e59, e60, e62, k0_r0_3, k0_r0_4, k0_r0_5, k0_r0_0_2, and_true, true_and] <;> omega), by (try simp only [z_r0_0, z_r0_2, z_r0_0_0, z_r0_0_1]); intro h9; first | omega | (simp only [e58, e59, e60, e62, k0_r0_3, k0_r0_4, k0_r0_5, k0_r0_0_2, and_true, true_and] <;> omega), by (try simp only [z_r0_0, z_r0_2, z_r0_0_0, z_r0_0_1]); first | omega | (simp only [e58, e59, e60, e62, k0_r0_3, k0_r0_4, k0_r0_5, k0_r0_0_2, and_true, true_and] <;> omega), hI55, (by (try simp only [z_r0_0, z_r0_2, z_r0_0_0, z_r0_0_1]); exact (Chg.cons (Chg.up S4 (List.forall_mem_cons.mpr ⟨List.mem_of_getElem? (i := 0) rfl, List.forall_mem_cons.mpr ⟨List.mem_of_getElem? (i := 1) rfl, List.forall_mem_cons.mpr ⟨List.mem_of_getElem? (i := 2) rfl, List.forall_mem_cons.mpr ⟨List.mem_of_getElem? (i := 3) rfl, fun _ h => nomatch h⟩⟩⟩⟩)) (Chg.cons S21 (Chg.cons (Chg.up S45 (List.forall_mem_cons.mpr ⟨List.mem_of_getElem? (i := 0) rfl, fun _ h => nomatch h⟩)) (Chg.mono (Chg.up S57 (List.forall_mem_cons.mpr ⟨List.mem_of_getElem? (i := 0) rfl, fun _ h => nomatch h⟩)) (by decide)) (by decide)) (by decide)) (by decide)))⟩
    refine k_istore_n C (lw := [(2, .int x13), (0, .ref r0), (1, .int n1)]) rfl rfl (Nat.le_of_ble_eq_true rfl) rfl ?_
    refine k_sub S [(0, .ref r0), (1, .int n1), (2, .int x13)] (List.forall_mem_cons.mpr ⟨List.mem_of_getElem? (i := 1) rfl, List.forall_mem_cons.mpr ⟨List.mem_of_getElem? (i := 2) rfl, List.forall_mem_cons.mpr ⟨List.mem_of_getElem? (i := 0) rfl, fun _ h => nomatch h⟩⟩⟩) ?_
    exact J14 _ I2 L3 x13 x6 x8 x10 rfl hI2 Chg.rf (by omega) (by omega) e7 (by omega) (by omega) e9 (by omega) (by omega) e11 (by omega) (by omega) (by rw [ht2]; exact LPI.z (h2.y (by omega)) rfl (by omega) (by omega)) (by omega) (by omega)
  refine z_iconst C (z := 0) rfl rfl rfl (fun x98 ex98 => ?_)
  exact k_iret C rfl (Or.inr ⟨rfl, z01 (by omega) (by omega)⟩) (Nat.le_of_ble_eq_true rfl) (Nat.le_of_ble_eq_true rfl) ⟨_, _, _, rfl, rfl, by omega, by omega, by (try simp only [z_r0_0, z_r0_2, z_r0_0_0, z_r0_0_1]); rw [hcc, hs0]; exact RES.f (by omega) (by unfold RPR; rw [h2.no (by omega)]; rfl), by (try simp only [z_r0_0, z_r0_2, z_r0_0_0, z_r0_0_1]); first | omega | (simp only [e5, e7, e9, e11, k0_r0_3, k0_r0_4, k0_r0_5, k0_r0_0_2, and_true, true_and] <;> omega), by (try simp only [z_r0_0, z_r0_2, z_r0_0_0, z_r0_0_1]); intro h9; first | omega | (simp only [e5, e7, e9, e11, k0_r0_3, k0_r0_4, k0_r0_5, k0_r0_0_2, and_true, true_and] <;> omega), by (try simp only [z_r0_0, z_r0_2, z_r0_0_0, z_r0_0_1]); first | omega | (simp only [e5, e7, e9, e11, k0_r0_3, k0_r0_4, k0_r0_5, k0_r0_0_2, and_true, true_and] <;> omega), hI2, (by (try simp only [z_r0_0, z_r0_2, z_r0_0_0, z_r0_0_1]); exact (Chg.mono (Chg.up S4 (List.forall_mem_cons.mpr ⟨List.mem_of_getElem? (i := 0) rfl, List.forall_mem_cons.mpr ⟨List.mem_of_getElem? (i := 1) rfl, List.forall_mem_cons.mpr ⟨List.mem_of_getElem? (i := 2) rfl, List.forall_mem_cons.mpr ⟨List.mem_of_getElem? (i := 3) rfl, fun _ h => nomatch h⟩⟩⟩⟩)) (by decide)))⟩

theorem s_X4_readSum_6_x {d : Nat} {T N : Nat → Nat} {I : IT} {L : LT} {R : RT} {A B : Nat → Prop} {r0 : Nat} {n1 : Int32} (hS : SUB B A) (hI : IX A T I) (H_r0 : (hs_Rd T N R A B) r0) (b0_n1 : 6 ≤ n1.toInt) (b1_n1 : n1.toInt ≤ 6) (hU : UPR T R) (hp0 : 0 ≤ (I r0 4).toInt) (hp1 : (I r0 4).toInt ≤ (I r0 3).toInt) (hp2 : (I r0 3).toInt ≤ 400) (hp3 : 0 ≤ (I r0 5).toInt) (hp4 : (I r0 5).toInt ≤ 40) (hp5 : 0 ≤ (I (rA R r0 0) 2).toInt ∧ (I (rA R r0 0) 2).toInt ≤ 160) : Ex (d + 5) 73 [.ref r0, .int n1] (T, N, I, L, R) 0 0 (pI T N R (fun x9 I9 L9 => (0 ≤ x9.toInt) ∧ (x9.toInt ≤ 1) ∧ (RES x9.toInt (RSU 160 (RCH R I r0) (RPT 160 (RCH R I r0) 0) (RDT R I r0)) (RDT R I9 r0)) ∧ (0 ≤ (I9 (rA R r0 0) 2).toInt ∧ (I9 (rA R r0 0) 2).toInt ≤ 160) ∧ (x9.toInt = 1 → (I9 r0 4).toInt ≤ (I r0 3).toInt ∧ (I r0 5).toInt ≤ (I9 r0 5).toInt ∧ (I9 r0 5).toInt ≤ 40) ∧ (0 ≤ (I9 r0 4).toInt ∧ 0 ≤ (I9 r0 5).toInt) ∧ (IX A T I9 ∧ Chg (SL [r0, (rA R r0 0), (rA R (rA R r0 0) 0), (rA R (rA R r0 0) 1)]) T [(5, 4), (5, 5), (8, 2)] I L I9 L9))) := by
  refine ⟨_, rfl, Nat.le_of_ble_eq_true rfl, fun V C S => ?_⟩
  show V 0 [(0, .ref r0), (1, .int n1)] [] (T, N, I, L, R) 0 0
  have gn1 := rg n1
  obtain ⟨T_r0, A_r0, B_r0, ⟨r0_0, R_r0_0, H_r0_0⟩, ⟨r0_2, R_r0_2, H_r0_2⟩⟩ := id H_r0
  have z_r0_0 : rA R r0 0 = r0_0 := rA_e R_r0_0
  have z_r0_2 : rA R r0 2 = r0_2 := rA_e R_r0_2
  obtain ⟨T_r0_0, A_r0_0, B_r0_0, ⟨r0_0_0, R_r0_0_0, H_r0_0_0⟩, ⟨r0_0_1, R_r0_0_1, H_r0_0_1⟩⟩ := id H_r0_0
  have z_r0_0_0 : rA R r0_0 0 = r0_0_0 := rA_e R_r0_0_0
  have z_r0_0_1 : rA R r0_0 1 = r0_0_1 := rA_e R_r0_0_1
  obtain ⟨T_r0_2, N_r0_2, A_r0_2⟩ := id H_r0_2
  obtain ⟨T_r0_0_0, N_r0_0_0, A_r0_0_0⟩ := id H_r0_0_0
  obtain ⟨T_r0_0_1, N_r0_0_1, A_r0_0_1⟩ := id H_r0_0_1
  have nq20 : NQ8 r0_2 r0_0_0 := hU.ne (t20 T_r0_2) R_r0_2 R_r0_0_0 (Or.inl (t_nq T_r0 T_r0_0 (by decide)))
  have nq21 : NQ8 r0_2 r0_0_1 := hU.ne (t20 T_r0_2) R_r0_2 R_r0_0_1 (Or.inl (t_nq T_r0 T_r0_0 (by decide)))
  have nq01 : NQ8 r0_0_0 r0_0_1 := hU.ne (t20 T_r0_0_0) R_r0_0_0 R_r0_0_1 (Or.inr (by decide))
  try simp only [z_r0_0, z_r0_2, z_r0_0_0, z_r0_0_1] at hp0
  try simp only [z_r0_0, z_r0_2, z_r0_0_0, z_r0_0_1] at hp1
  try simp only [z_r0_0, z_r0_2, z_r0_0_0, z_r0_0_1] at hp2
  try simp only [z_r0_0, z_r0_2, z_r0_0_0, z_r0_0_1] at hp3
  try simp only [z_r0_0, z_r0_2, z_r0_0_0, z_r0_0_1] at hp4
  try simp only [z_r0_0, z_r0_2, z_r0_0_0, z_r0_0_1] at hp5
  obtain ⟨w_r0_3, k0_r0_3⟩ : ∃ x, I r0 3 = x := ⟨_, rfl⟩
  have gw_r0_3 := rg w_r0_3
  obtain ⟨w_r0_4, k0_r0_4⟩ : ∃ x, I r0 4 = x := ⟨_, rfl⟩
  have gw_r0_4 := rg w_r0_4
  obtain ⟨w_r0_5, k0_r0_5⟩ : ∃ x, I r0 5 = x := ⟨_, rfl⟩
  have gw_r0_5 := rg w_r0_5
  obtain ⟨w_r0_0_2, k0_r0_0_2⟩ : ∃ x, I r0_0 2 = x := ⟨_, rfl⟩
  have gw_r0_0_2 := rg w_r0_0_2
  try simp only [k0_r0_3, k0_r0_4, k0_r0_5, k0_r0_0_2] at hp0
  try simp only [k0_r0_3, k0_r0_4, k0_r0_5, k0_r0_0_2] at hp1
  try simp only [k0_r0_3, k0_r0_4, k0_r0_5, k0_r0_0_2] at hp2
  try simp only [k0_r0_3, k0_r0_4, k0_r0_5, k0_r0_0_2] at hp3
  try simp only [k0_r0_3, k0_r0_4, k0_r0_5, k0_r0_0_2] at hp4
  try simp only [k0_r0_3, k0_r0_4, k0_r0_5, k0_r0_0_2] at hp5
  obtain ⟨cc, hcc⟩ : ∃ c, RCH R I r0 = c := ⟨_, rfl⟩
  have hc40 : C40 cc := by rw [← hcc]; exact RCH.c40 (by rw [k0_r0_3]; omega)
  obtain ⟨s0, hs0⟩ : ∃ s, RDT R I r0 = s := ⟨_, rfl⟩
  have hp0 := RDT.c1 hs0 k0_r0_4 (by omega)
  have ht0 := RDT.c2 hs0 k0_r0_5 (by omega)
  refine k_aload_n C rfl rfl rfl ?_
  refine k_iload_n C rfl rfl rfl ?_
  have c2 : RCH R I r0 = cc := (RCH.mv (Chg.at (Chg.rf : Chg (SL [r0, r0_0, r0_0_0, r0_0_1]) T [(5, 4), (5, 5), (8, 2)] I L I L) (nm_4 (t_nq T_r0_2 T_r0 (by decide)) (t_nq T_r0_2 T_r0_0 (by decide)) (by first | exact nq20 | exact fun e => nq20 e.symm) (by first | exact nq21 | exact fun e => nq21 e.symm))) k0_r0_3 k0_r0_3 z_r0_2).trans hcc
  refine c_VI C (s_X4_readProduct_6_x hS hI H_r0 (by omega) (by omega) hU (by (try simp only [z_r0_0, z_r0_2, z_r0_0_0, z_r0_0_1]); first | omega | (simp only [k0_r0_3, k0_r0_4, k0_r0_5, k0_r0_0_2, and_true, true_and, or_true, true_or, and_false, false_and, or_false, false_or] <;> omega)) (by (try simp only [z_r0_0, z_r0_2, z_r0_0_0, z_r0_0_1]); first | omega | (simp only [k0_r0_3, k0_r0_4, k0_r0_5, k0_r0_0_2, and_true, true_and, or_true, true_or, and_false, false_and, or_false, false_or] <;> omega)) (by (try simp only [z_r0_0, z_r0_2, z_r0_0_0, z_r0_0_1]); first | omega | (simp only [k0_r0_3, k0_r0_4, k0_r0_5, k0_r0_0_2, and_true, true_and, or_true, true_or, and_false, false_and, or_false, false_or] <;> omega)) (by (try simp only [z_r0_0, z_r0_2, z_r0_0_0, z_r0_0_1]); first | omega | (simp only [k0_r0_3, k0_r0_4, k0_r0_5, k0_r0_0_2, and_true, true_and, or_true, true_or, and_false, false_and, or_false, false_or] <;> omega)) (by (try simp only [z_r0_0, z_r0_2, z_r0_0_0, z_r0_0_1]); first | omega | (simp only [k0_r0_3, k0_r0_4, k0_r0_5, k0_r0_0_2, and_true, true_and, or_true, true_or, and_false, false_and, or_false, false_or] <;> omega)) (by (try simp only [z_r0_0, z_r0_2, z_r0_0_0, z_r0_0_1]); first | omega | (simp only [k0_r0_3, k0_r0_4, k0_r0_5, k0_r0_0_2, and_true, true_and, or_true, true_or, and_false, false_and, or_false, false_or] <;> omega))) rfl rfl rfl rfl rfl ⟨_, rfl, rfl, T_r0, Nat.le_of_ble_eq_true rfl⟩ rfl rfl (Nat.le_of_ble_eq_true rfl) (Nat.le_of_ble_eq_true rfl) (Nat.le_of_ble_eq_true rfl) ?_
  rintro x1 I2 L3 ⟨o0x1, o1x1, p0x1, p1x1, p2x1, p3x1, hI2, S4⟩
  try simp only [z_r0_0, z_r0_2, z_r0_0_0, z_r0_0_1] at S4
  have e5 := Chg.k S4 T_r0 (by decide) (by decide) k0_r0_3
  have gx1 := rg x1
  obtain ⟨x6, e7⟩ : ∃ x, I2 r0 4 = x := ⟨_, rfl⟩
  have gx6 := rg x6
  obtain ⟨x8, e9⟩ : ∃ x, I2 r0 5 = x := ⟨_, rfl⟩
  have gx8 := rg x8
  obtain ⟨x10, e11⟩ : ∃ x, I2 r0_0 2 = x := ⟨_, rfl⟩
  have gx10 := rg x10
  try simp only [z_r0_0, z_r0_2, z_r0_0_0, z_r0_0_1] at p0x1
  try simp only [z_r0_0, z_r0_2, z_r0_0_0, z_r0_0_1] at p1x1
  try simp only [z_r0_0, z_r0_2, z_r0_0_0, z_r0_0_1] at p2x1
  try simp only [z_r0_0, z_r0_2, z_r0_0_0, z_r0_0_1] at p3x1
  try simp only [k0_r0_3, k0_r0_4, k0_r0_5, k0_r0_0_2, e7, e9, e11] at p0x1
  try have q0x1 := congrArg Int32.toInt p0x1
  try simp only [k0_r0_3, k0_r0_4, k0_r0_5, k0_r0_0_2, e7, e9, e11] at p1x1
  try have q1x1 := congrArg Int32.toInt p1x1
  try simp only [k0_r0_3, k0_r0_4, k0_r0_5, k0_r0_0_2, e7, e9, e11] at p2x1
  try have q2x1 := congrArg Int32.toInt p2x1
  try simp only [k0_r0_3, k0_r0_4, k0_r0_5, k0_r0_0_2, e7, e9, e11] at p3x1
  try have q3x1 := congrArg Int32.toInt p3x1
  have h2 := p0x1; rw [c2, hs0] at h2; obtain ⟨t2, ht2⟩ : ∃ t, RDT R I2 r0 = t := ⟨_, rfl⟩; rw [ht2] at h2; have hd2 := RDT.c2 ht2 e9 (by omega)
  refine b_if_ne C (t := 10) rfl rfl rfl (fun c12 => ?_) (fun c12 => ?_)
  · skip
    refine z_iconst C (z := 0) rfl rfl rfl (fun x13 ex13 => ?_)
    have J14 : ∀ (nn15 : Nat) (I16 : IT) (L17 : LT) (x18 : Int32) (x23 : Int32) (x27 : Int32) (x31 : Int32), (MN (400 - x18.toInt) nn15) → (IX A T I16) → (Chg (SL [r0, r0_0, r0_0_0, r0_0_1]) T [(5, 4), (5, 5), (8, 2)] I2 L3 I16 L17) → (0 ≤ x18.toInt) → (x18.toInt ≤ 400) → (I16 r0 4 = x23) → (0 ≤ x23.toInt) → (x23.toInt ≤ 400) → (I16 r0 5 = x27) → (0 ≤ x27.toInt) → (x27.toInt ≤ 40) → (I16 r0_0 2 = x31) → (0 ≤ x31.toInt) → (x31.toInt ≤ 160) → (LPI 160 cc 43 2 (RPR 160 cc (RPT 160 cc 0)) (RSU 160 cc (RPT 160 cc 0) s0) (RDT R I16 r0) x18.toInt) → (w_r0_5.toInt ≤ x27.toInt) → (x23.toInt ≤ w_r0_3.toInt) → V 12 [(0, .ref r0), (1, .int n1), (2, .int x18)] [] (T, N, I16, L17, R) 0 0 := by
      intro nn15
      induction nn15 using Nat.strongRecOn with
      | _ nn15 ihJ14 =>
        intro I16 L17 x18 x23 x27 x31 hmnn15 hI22 S21 b19 b20 e24 b25 b26 e28 b29 b30 e32 b33 b34 ff12_0 ff12_1 ff12_2
        have gx18 := rg x18
        have gx23 := rg x23
        have gx27 := rg x27
        have gx31 := rg x31
        have e38 := Chg.k S21 T_r0 (by decide) (by decide) e5
        obtain ⟨t12, ht12⟩ : ∃ t, RDT R I16 r0 = t := ⟨_, rfl⟩
        rw [ht12] at ff12_0
        have htn := ff12_0.tn
        refine k_iload_n C rfl rfl rfl ?_
        refine z_sipush C (z := 400) rfl rfl rfl (fun x39 ex39 => ?_)
        refine b_icmp_ge C (t := 72) rfl rfl rfl (fun c40 => ?_) (fun c40 => ?_)
        · skip
          refine z_iconst C (z := 1) rfl rfl rfl (fun x41 ex41 => ?_)
          exact k_iret C rfl (Or.inr ⟨rfl, z01 (by omega) (by omega)⟩) (Nat.le_of_ble_eq_true rfl) (Nat.le_of_ble_eq_true rfl) ⟨_, _, _, rfl, rfl, by omega, by omega, by (try simp only [z_r0_0, z_r0_2, z_r0_0_0, z_r0_0_1]); rw [hcc, hs0]; first | (exfalso; omega) | (refine RES.t (by omega) ?_; rw [hs20]; exact ff12_0.out (by omega)), by (try simp only [z_r0_0, z_r0_2, z_r0_0_0, z_r0_0_1]); first | omega | (simp only [e38, e24, e28, e32, k0_r0_3, k0_r0_4, k0_r0_5, k0_r0_0_2, and_true, true_and] <;> omega), by (try simp only [z_r0_0, z_r0_2, z_r0_0_0, z_r0_0_1]); intro h9; first | omega | (simp only [e38, e24, e28, e32, k0_r0_3, k0_r0_4, k0_r0_5, k0_r0_0_2, and_true, true_and] <;> omega), by (try simp only [z_r0_0, z_r0_2, z_r0_0_0, z_r0_0_1]); first | omega | (simp only [e38, e24, e28, e32, k0_r0_3, k0_r0_4, k0_r0_5, k0_r0_0_2, and_true, true_and] <;> omega), hI22, (by (try simp only [z_r0_0, z_r0_2, z_r0_0_0, z_r0_0_1]); exact (Chg.cons (Chg.up S4 (List.forall_mem_cons.mpr ⟨List.mem_of_getElem? (i := 0) rfl, List.forall_mem_cons.mpr ⟨List.mem_of_getElem? (i := 1) rfl, List.forall_mem_cons.mpr ⟨List.mem_of_getElem? (i := 2) rfl, List.forall_mem_cons.mpr ⟨List.mem_of_getElem? (i := 3) rfl, fun _ h => nomatch h⟩⟩⟩⟩)) (Chg.mono S21 (by decide)) (by decide)))⟩
        refine k_aload_n C rfl rfl rfl ?_
        have c20 : RCH R I16 r0 = cc := (RCH.mv (Chg.at ((Chg.cons (Chg.up S4 (List.forall_mem_cons.mpr ⟨List.mem_of_getElem? (i := 0) rfl, List.forall_mem_cons.mpr ⟨List.mem_of_getElem? (i := 1) rfl, List.forall_mem_cons.mpr ⟨List.mem_of_getElem? (i := 2) rfl, List.forall_mem_cons.mpr ⟨List.mem_of_getElem? (i := 3) rfl, fun _ h => nomatch h⟩⟩⟩⟩)) (Chg.mono S21 (by decide)) (by decide)) : Chg (SL [r0, r0_0, r0_0_0, r0_0_1]) T [(5, 4), (5, 5), (8, 2)] I L I16 L17) (nm_4 (t_nq T_r0_2 T_r0 (by decide)) (t_nq T_r0_2 T_r0_0 (by decide)) (by first | exact nq20 | exact fun e => nq20 e.symm) (by first | exact nq21 | exact fun e => nq21 e.symm))) e38 k0_r0_3 z_r0_2).trans hcc
        have hc12 := RDT.c2 ht12 e28 (by omega)
        refine c_VI C (s_X4_next_x hS hI22 H_r0 (by (try simp only [z_r0_0, z_r0_2, z_r0_0_0, z_r0_0_1]); first | omega | (simp only [e38, e24, e28, e32, and_true, true_and, or_true, true_or, and_false, false_and, or_false, false_or] <;> omega)) (by (try simp only [z_r0_0, z_r0_2, z_r0_0_0, z_r0_0_1]); first | omega | (simp only [e38, e24, e28, e32, and_true, true_and, or_true, true_or, and_false, false_and, or_false, false_or] <;> omega)) (by (try simp only [z_r0_0, z_r0_2, z_r0_0_0, z_r0_0_1]); first | omega | (simp only [e38, e24, e28, e32, and_true, true_and, or_true, true_or, and_false, false_and, or_false, false_or] <;> omega)) (by (try simp only [z_r0_0, z_r0_2, z_r0_0_0, z_r0_0_1]); first | omega | (simp only [e38, e24, e28, e32, and_true, true_and, or_true, true_or, and_false, false_and, or_false, false_or] <;> omega))) rfl rfl rfl rfl rfl ⟨_, rfl, rfl, T_r0, Nat.le_of_ble_eq_true rfl⟩ rfl rfl (Nat.le_of_ble_eq_true rfl) (Nat.le_of_ble_eq_true rfl) (Nat.le_of_ble_eq_true rfl) ?_
        rintro x42 I43 L44 ⟨p0x42, p1x42, p2x42, p3x42, hI43, S45⟩
        try simp only [z_r0_0, z_r0_2, z_r0_0_0, z_r0_0_1] at S45
        have e46 := Chg.k S45 T_r0 (by decide) (by decide) e38
        have e47 := Chg.k S45 T_r0 (by decide) (by decide) e28
        have e48 := Chg.k S45 T_r0_0 (by decide) (by decide) e32
        have gx42 := rg x42
        obtain ⟨x49, e50⟩ : ∃ x, I43 r0 4 = x := ⟨_, rfl⟩
        have gx49 := rg x49
        try simp only [z_r0_0, z_r0_2, z_r0_0_0, z_r0_0_1] at p0x42
        try simp only [z_r0_0, z_r0_2, z_r0_0_0, z_r0_0_1] at p1x42
        try simp only [z_r0_0, z_r0_2, z_r0_0_0, z_r0_0_1] at p2x42
        try simp only [z_r0_0, z_r0_2, z_r0_0_0, z_r0_0_1] at p3x42
        try simp only [e38, e24, e28, e32, e50] at p0x42
        try have q0x42 := congrArg Int32.toInt p0x42
        try simp only [e38, e24, e28, e32, e50] at p1x42
        try have q1x42 := congrArg Int32.toInt p1x42
        try simp only [e38, e24, e28, e32, e50] at p2x42
        try have q2x42 := congrArg Int32.toInt p2x42
        try simp only [e38, e24, e28, e32, e50] at p3x42
        try have q3x42 := congrArg Int32.toInt p3x42
        have hx20 := p0x42; have hs20 := p1x42; rw [c20, ht12] at hx20 hs20; have hq20 := RDT.c1 hs20 e50 (by omega)
        refine z_bipush C (z := 43) rfl rfl rfl (fun x51 ex51 => ?_)
        refine b_icmp_ne C (t := 72) rfl rfl rfl (fun c52 => ?_) (fun c52 => ?_)
        · skip
          refine z_iconst C (z := 1) rfl rfl rfl (fun x53 ex53 => ?_)
          exact k_iret C rfl (Or.inr ⟨rfl, z01 (by omega) (by omega)⟩) (Nat.le_of_ble_eq_true rfl) (Nat.le_of_ble_eq_true rfl) ⟨_, _, _, rfl, rfl, by omega, by omega, by (try simp only [z_r0_0, z_r0_2, z_r0_0_0, z_r0_0_1]); rw [hcc, hs0]; first | (exfalso; omega) | (refine RES.t (by omega) ?_; rw [hs20]; exact ff12_0.out (by omega)), by (try simp only [z_r0_0, z_r0_2, z_r0_0_0, z_r0_0_1]); first | omega | (simp only [e46, e47, e48, e50, k0_r0_3, k0_r0_4, k0_r0_5, k0_r0_0_2, and_true, true_and] <;> omega), by (try simp only [z_r0_0, z_r0_2, z_r0_0_0, z_r0_0_1]); intro h9; first | omega | (simp only [e46, e47, e48, e50, k0_r0_3, k0_r0_4, k0_r0_5, k0_r0_0_2, and_true, true_and] <;> omega), by (try simp only [z_r0_0, z_r0_2, z_r0_0_0, z_r0_0_1]); first | omega | (simp only [e46, e47, e48, e50, k0_r0_3, k0_r0_4, k0_r0_5, k0_r0_0_2, and_true, true_and] <;> omega), hI43, (by (try simp only [z_r0_0, z_r0_2, z_r0_0_0, z_r0_0_1]); exact (Chg.cons (Chg.up S4 (List.forall_mem_cons.mpr ⟨List.mem_of_getElem? (i := 0) rfl, List.forall_mem_cons.mpr ⟨List.mem_of_getElem? (i := 1) rfl, List.forall_mem_cons.mpr ⟨List.mem_of_getElem? (i := 2) rfl, List.forall_mem_cons.mpr ⟨List.mem_of_getElem? (i := 3) rfl, fun _ h => nomatch h⟩⟩⟩⟩)) (Chg.cons S21 (Chg.mono (Chg.up S45 (List.forall_mem_cons.mpr ⟨List.mem_of_getElem? (i := 0) rfl, fun _ h => nomatch h⟩)) (by decide)) (by decide)) (by decide)))⟩
        refine k_aload_n C rfl rfl rfl ?_
        refine c_VI C (s_X4_isThingMore_x hS hI43 H_r0 (by (try simp only [z_r0_0, z_r0_2, z_r0_0_0, z_r0_0_1]); first | omega | (simp only [e46, e47, e48, e50, and_true, true_and, or_true, true_or, and_false, false_and, or_false, false_or] <;> omega)) (by (try simp only [z_r0_0, z_r0_2, z_r0_0_0, z_r0_0_1]); first | omega | (simp only [e46, e47, e48, e50, and_true, true_and, or_true, true_or, and_false, false_and, or_false, false_or] <;> omega))) rfl rfl rfl rfl rfl ⟨_, rfl, rfl, T_r0, Nat.le_of_ble_eq_true rfl⟩ rfl rfl (Nat.le_of_ble_eq_true rfl) (Nat.le_of_ble_eq_true rfl) (Nat.le_of_ble_eq_true rfl) ?_
        rintro x54 I55 L56 ⟨o0x54, o1x54, p0x54, p1x54, p2x54, p3x54, hI55, S57⟩
        try simp only [z_r0_0, z_r0_2, z_r0_0_0, z_r0_0_1] at S57
        have e58 := Chg.k S57 T_r0 (by decide) (by decide) e46
        have e59 := Chg.k S57 T_r0_0 (by decide) (by decide) e48
        have e60 := Chg.k S57 T_r0 (by decide) (by decide) e50
        have gx54 := rg x54
        obtain ⟨x61, e62⟩ : ∃ x, I55 r0 5 = x := ⟨_, rfl⟩
        have gx61 := rg x61
        try simp only [z_r0_0, z_r0_2, z_r0_0_0, z_r0_0_1] at p0x54
        try simp only [z_r0_0, z_r0_2, z_r0_0_0, z_r0_0_1] at p1x54
        try simp only [z_r0_0, z_r0_2, z_r0_0_0, z_r0_0_1] at p2x54
        try simp only [z_r0_0, z_r0_2, z_r0_0_0, z_r0_0_1] at p3x54
        try simp only [e46, e47, e48, e50, e62] at p0x54
        try have q0x54 := congrArg Int32.toInt p0x54
        try simp only [e46, e47, e48, e50, e62] at p1x54
        try have q1x54 := congrArg Int32.toInt p1x54
        try simp only [e46, e47, e48, e50, e62] at p2x54
        try have q2x54 := congrArg Int32.toInt p2x54
        try simp only [e46, e47, e48, e50, e62] at p3x54
        try have q3x54 := congrArg Int32.toInt p3x54
        have hs29 := p0x54; rw [hs20] at hs29; have hy29 := p1x54; have hn29 := p2x54
        refine b_if_ne C (t := 37) rfl rfl rfl (fun c63 => ?_) (fun c63 => ?_)
        · skip
          refine k_aload_n C rfl rfl rfl ?_
          refine k_dup C rfl rfl rfl ?_
          refine g_I C rfl rfl rfl T_r0 rfl e60 ?_
          refine z_iconst C (z := 1) rfl rfl rfl (fun x64 ex64 => ?_)
          refine z_iadd C rfl rfl ⟨by omega, by omega⟩ (fun x65 ex65 => ?_)
          refine z_pI C rfl rfl rfl T_r0 (Or.inr rfl) rfl (fun I66 uI66 => ?_)
          have hI66 : IX A T I66 := IX.f hI55 T_r0 (boX.tr (by decide) (by decide)) uI66
          have S67 : Chg (SL [r0]) T [(5, 4)] I55 L56 I66 L56 := Chg.f List.mem_cons_self T_r0 uI66
          have e68 := u2_j uI66 (by decide) e58
          have e69 := u2_j uI66 (by decide) e59
          have e70 := u2_j uI66 (by decide) e62
          have e71 := u2_e uI66
          have hq44 := uI66
          refine k_aload_n C rfl rfl rfl ?_
          refine k_iload_n C rfl rfl rfl ?_
          have hs44 := (RDT.nx (I1 := I66) hs29 z_r0_0 (p := SKP cc t12.1 + 1) (by rw [hq44, u2_k (by decide)]) (STL.fr z_r0_0_0 z_r0_0_1 (by rw [hq44, u2_r (t_nq T_r0_0 T_r0 (by decide))]) (by rw [hq44, u2_r (t_nq T_r0_0_0 T_r0 (by decide))]) (by rw [hq44, u2_r (t_nq T_r0_0_1 T_r0 (by decide))])) (by rw [e71]; omega))
          have c49 : RCH R I66 r0 = cc := (RCH.mv (Chg.at ((Chg.cons (Chg.up S4 (List.forall_mem_cons.mpr ⟨List.mem_of_getElem? (i := 0) rfl, List.forall_mem_cons.mpr ⟨List.mem_of_getElem? (i := 1) rfl, List.forall_mem_cons.mpr ⟨List.mem_of_getElem? (i := 2) rfl, List.forall_mem_cons.mpr ⟨List.mem_of_getElem? (i := 3) rfl, fun _ h => nomatch h⟩⟩⟩⟩)) (Chg.cons S21 (Chg.cons (Chg.up S45 (List.forall_mem_cons.mpr ⟨List.mem_of_getElem? (i := 0) rfl, fun _ h => nomatch h⟩)) (Chg.cons (Chg.up S57 (List.forall_mem_cons.mpr ⟨List.mem_of_getElem? (i := 0) rfl, fun _ h => nomatch h⟩)) (Chg.mono (Chg.up S67 (List.forall_mem_cons.mpr ⟨List.mem_of_getElem? (i := 0) rfl, fun _ h => nomatch h⟩)) (by decide)) (by decide)) (by decide)) (by decide)) (by decide)) : Chg (SL [r0, r0_0, r0_0_0, r0_0_1]) T [(5, 4), (5, 5), (8, 2)] I L I66 L56) (nm_4 (t_nq T_r0_2 T_r0 (by decide)) (t_nq T_r0_2 T_r0_0 (by decide)) (by first | exact nq20 | exact fun e => nq20 e.symm) (by first | exact nq21 | exact fun e => nq21 e.symm))) e68 k0_r0_3 z_r0_2).trans hcc
          refine c_VI C (s_X4_readProduct_6_x hS hI66 H_r0 (by omega) (by omega) hU (by (try simp only [z_r0_0, z_r0_2, z_r0_0_0, z_r0_0_1]); first | omega | (simp only [e68, e69, e70, e71, and_true, true_and, or_true, true_or, and_false, false_and, or_false, false_or] <;> omega)) (by (try simp only [z_r0_0, z_r0_2, z_r0_0_0, z_r0_0_1]); first | omega | (simp only [e68, e69, e70, e71, and_true, true_and, or_true, true_or, and_false, false_and, or_false, false_or] <;> omega)) (by (try simp only [z_r0_0, z_r0_2, z_r0_0_0, z_r0_0_1]); first | omega | (simp only [e68, e69, e70, e71, and_true, true_and, or_true, true_or, and_false, false_and, or_false, false_or] <;> omega)) (by (try simp only [z_r0_0, z_r0_2, z_r0_0_0, z_r0_0_1]); first | omega | (simp only [e68, e69, e70, e71, and_true, true_and, or_true, true_or, and_false, false_and, or_false, false_or] <;> omega)) (by (try simp only [z_r0_0, z_r0_2, z_r0_0_0, z_r0_0_1]); first | omega | (simp only [e68, e69, e70, e71, and_true, true_and, or_true, true_or, and_false, false_and, or_false, false_or] <;> omega)) (by (try simp only [z_r0_0, z_r0_2, z_r0_0_0, z_r0_0_1]); first | omega | (simp only [e68, e69, e70, e71, and_true, true_and, or_true, true_or, and_false, false_and, or_false, false_or] <;> omega))) rfl rfl rfl rfl rfl ⟨_, rfl, rfl, T_r0, Nat.le_of_ble_eq_true rfl⟩ rfl rfl (Nat.le_of_ble_eq_true rfl) (Nat.le_of_ble_eq_true rfl) (Nat.le_of_ble_eq_true rfl) ?_
          rintro x72 I73 L74 ⟨o0x72, o1x72, p0x72, p1x72, p2x72, p3x72, hI73, S75⟩
          try simp only [z_r0_0, z_r0_2, z_r0_0_0, z_r0_0_1] at S75
          have e76 := Chg.k S75 T_r0 (by decide) (by decide) e68
          have gx72 := rg x72
          obtain ⟨x77, e78⟩ : ∃ x, I73 r0 4 = x := ⟨_, rfl⟩
          have gx77 := rg x77
          obtain ⟨x79, e80⟩ : ∃ x, I73 r0 5 = x := ⟨_, rfl⟩
          have gx79 := rg x79
          obtain ⟨x81, e82⟩ : ∃ x, I73 r0_0 2 = x := ⟨_, rfl⟩
          have gx81 := rg x81
          try simp only [z_r0_0, z_r0_2, z_r0_0_0, z_r0_0_1] at p0x72
          try simp only [z_r0_0, z_r0_2, z_r0_0_0, z_r0_0_1] at p1x72
          try simp only [z_r0_0, z_r0_2, z_r0_0_0, z_r0_0_1] at p2x72
          try simp only [z_r0_0, z_r0_2, z_r0_0_0, z_r0_0_1] at p3x72
          try simp only [e68, e69, e70, e71, e78, e80, e82] at p0x72
          try have q0x72 := congrArg Int32.toInt p0x72
          try simp only [e68, e69, e70, e71, e78, e80, e82] at p1x72
          try have q1x72 := congrArg Int32.toInt p1x72
          try simp only [e68, e69, e70, e71, e78, e80, e82] at p2x72
          try have q2x72 := congrArg Int32.toInt p2x72
          try simp only [e68, e69, e70, e71, e78, e80, e82] at p3x72
          try have q3x72 := congrArg Int32.toInt p3x72
          have h49 := p0x72; rw [c49, hs44] at h49; obtain ⟨t49, ht49⟩ : ∃ t, RDT R I73 r0 = t := ⟨_, rfl⟩; rw [ht49] at h49; have hd49 := RDT.c2 ht49 e80 (by omega)
          refine b_if_ne C (t := 57) rfl rfl rfl (fun c83 => ?_) (fun c83 => ?_)
          · skip
            refine k_aload_n C rfl rfl rfl ?_
            refine g_R C rfl rfl rfl T_r0 rfl R_r0_0 ?_
            refine z_iconst C (z := 2) rfl rfl rfl (fun x84 ex84 => ?_)
            refine z_iconst C (z := 0) rfl rfl rfl (fun x85 ex85 => ?_)
            refine c_VV C (s_X7_put_p hS hI73 (hs_SuSg hS H_r0_0) hU (by (try simp only [z_r0_0, z_r0_2, z_r0_0_0, z_r0_0_1]); first | omega | (simp only [e76, e78, e80, e82, and_true, true_and, or_true, true_or, and_false, false_and, or_false, false_or] <;> omega)) (by (try simp only [z_r0_0, z_r0_2, z_r0_0_0, z_r0_0_1]); first | omega | (simp only [e76, e78, e80, e82, and_true, true_and, or_true, true_or, and_false, false_and, or_false, false_or] <;> omega))) rfl rfl rfl rfl rfl ⟨_, rfl, rfl, T_r0_0, Nat.le_of_ble_eq_true rfl⟩ rfl rfl (Nat.le_of_ble_eq_true rfl) (Nat.le_of_ble_eq_true rfl) (Nat.le_of_ble_eq_true rfl) ?_
            rintro I87 L88 ⟨p0v86, p1v86, hI87, S89⟩
            try simp only [z_r0_0, z_r0_2, z_r0_0_0, z_r0_0_1] at S89
            have e90 := Chg.k S89 T_r0 (by decide) (by decide) e76
            have e91 := Chg.k S89 T_r0 (by decide) (by decide) e78
            have e92 := Chg.k S89 T_r0 (by decide) (by decide) e80
            obtain ⟨x93, e94⟩ : ∃ x, I87 r0_0 2 = x := ⟨_, rfl⟩
            have gx93 := rg x93
            try simp only [z_r0_0, z_r0_2, z_r0_0_0, z_r0_0_1] at p0v86
            try simp only [z_r0_0, z_r0_2, z_r0_0_0, z_r0_0_1] at p1v86
            try simp only [e76, e78, e80, e82, e94] at p0v86
            try have q0v86 := congrArg Int32.toInt p0v86
            try simp only [e76, e78, e80, e82, e94] at p1v86
            try have q1v86 := congrArg Int32.toInt p1v86
            have hs63 := RDT.ap ht49 z_r0_0 (Chg.at S89 (nm_3 (t_nq T_r0 T_r0_0 (by decide)) (t_nq T_r0 T_r0_0_0 (by decide)) (t_nq T_r0 T_r0_0_1 (by decide)))) p0v86 (a' := 2) (b' := 0) (by omega) (by omega)
            refine z_iinc C (z := 1) (lw := fun x95 => [(2, .int x95), (0, .ref r0), (1, .int n1)]) rfl rfl rfl (Nat.le_of_ble_eq_true rfl) rfl ⟨by omega, by omega⟩ (fun _ => rfl) (fun x95 ex95 => ?_)
            show V 69 [(2, .int x95), (0, .ref r0), (1, .int n1)] _ _ _ _
            refine k_goto C (pc2 := 12) rfl rfl ?_
            refine k_sub S [(0, .ref r0), (1, .int n1), (2, .int x95)] (List.forall_mem_cons.mpr ⟨List.mem_of_getElem? (i := 1) rfl, List.forall_mem_cons.mpr ⟨List.mem_of_getElem? (i := 2) rfl, List.forall_mem_cons.mpr ⟨List.mem_of_getElem? (i := 0) rfl, fun _ h => nomatch h⟩⟩⟩) ?_
            exact ihJ14 _ (MN.lt hmnn15 (by omega) (by omega)) I87 L88 x95 x77 x79 x93 rfl hI87 (Chg.cons S21 (Chg.cons (Chg.up S45 (List.forall_mem_cons.mpr ⟨List.mem_of_getElem? (i := 0) rfl, fun _ h => nomatch h⟩)) (Chg.cons (Chg.up S57 (List.forall_mem_cons.mpr ⟨List.mem_of_getElem? (i := 0) rfl, fun _ h => nomatch h⟩)) (Chg.cons (Chg.up S67 (List.forall_mem_cons.mpr ⟨List.mem_of_getElem? (i := 0) rfl, fun _ h => nomatch h⟩)) (Chg.cons (Chg.up S75 (List.forall_mem_cons.mpr ⟨List.mem_of_getElem? (i := 0) rfl, List.forall_mem_cons.mpr ⟨List.mem_of_getElem? (i := 1) rfl, List.forall_mem_cons.mpr ⟨List.mem_of_getElem? (i := 2) rfl, List.forall_mem_cons.mpr ⟨List.mem_of_getElem? (i := 3) rfl, fun _ h => nomatch h⟩⟩⟩⟩)) (Chg.mono (Chg.up S89 (List.forall_mem_cons.mpr ⟨List.mem_of_getElem? (i := 1) rfl, List.forall_mem_cons.mpr ⟨List.mem_of_getElem? (i := 2) rfl, List.forall_mem_cons.mpr ⟨List.mem_of_getElem? (i := 3) rfl, fun _ h => nomatch h⟩⟩⟩)) (by decide)) (by decide)) (by decide)) (by decide)) (by decide)) (by decide)) (by omega) (by omega) e91 (by omega) (by omega) e92 (by omega) (by omega) e94 (by omega) (by omega) (by rw [hs63]; exact LPI.s ff12_0 (by omega) (by omega) (h49.y (by omega)) (by omega) (by omega) rfl (by omega)) (by omega) (by omega)
          refine z_iconst C (z := 0) rfl rfl rfl (fun x96 ex96 => ?_)
          exact k_iret C rfl (Or.inr ⟨rfl, z01 (by omega) (by omega)⟩) (Nat.le_of_ble_eq_true rfl) (Nat.le_of_ble_eq_true rfl) ⟨_, _, _, rfl, rfl, by omega, by omega, by (try simp only [z_r0_0, z_r0_2, z_r0_0_0, z_r0_0_1]); rw [hcc, hs0]; exact RES.f (by omega) (ff12_0.no2 (by omega) (by omega) (h49.no (by omega))), by (try simp only [z_r0_0, z_r0_2, z_r0_0_0, z_r0_0_1]); first | omega | (simp only [e76, e78, e80, e82, k0_r0_3, k0_r0_4, k0_r0_5, k0_r0_0_2, and_true, true_and] <;> omega), by (try simp only [z_r0_0, z_r0_2, z_r0_0_0, z_r0_0_1]); intro h9; first | omega | (simp only [e76, e78, e80, e82, k0_r0_3, k0_r0_4, k0_r0_5, k0_r0_0_2, and_true, true_and] <;> omega), by (try simp only [z_r0_0, z_r0_2, z_r0_0_0, z_r0_0_1]); first | omega | (simp only [e76, e78, e80, e82, k0_r0_3, k0_r0_4, k0_r0_5, k0_r0_0_2, and_true, true_and] <;> omega), hI73, (by (try simp only [z_r0_0, z_r0_2, z_r0_0_0, z_r0_0_1]); exact (Chg.cons (Chg.up S4 (List.forall_mem_cons.mpr ⟨List.mem_of_getElem? (i := 0) rfl, List.forall_mem_cons.mpr ⟨List.mem_of_getElem? (i := 1) rfl, List.forall_mem_cons.mpr ⟨List.mem_of_getElem? (i := 2) rfl, List.forall_mem_cons.mpr ⟨List.mem_of_getElem? (i := 3) rfl, fun _ h => nomatch h⟩⟩⟩⟩)) (Chg.cons S21 (Chg.cons (Chg.up S45 (List.forall_mem_cons.mpr ⟨List.mem_of_getElem? (i := 0) rfl, fun _ h => nomatch h⟩)) (Chg.cons (Chg.up S57 (List.forall_mem_cons.mpr ⟨List.mem_of_getElem? (i := 0) rfl, fun _ h => nomatch h⟩)) (Chg.cons (Chg.up S67 (List.forall_mem_cons.mpr ⟨List.mem_of_getElem? (i := 0) rfl, fun _ h => nomatch h⟩)) (Chg.mono (Chg.up S75 (List.forall_mem_cons.mpr ⟨List.mem_of_getElem? (i := 0) rfl, List.forall_mem_cons.mpr ⟨List.mem_of_getElem? (i := 1) rfl, List.forall_mem_cons.mpr ⟨List.mem_of_getElem? (i := 2) rfl, List.forall_mem_cons.mpr ⟨List.mem_of_getElem? (i := 3) rfl, fun _ h => nomatch h⟩⟩⟩⟩)) (by decide)) (by decide)) (by decide)) (by decide)) (by decide)) (by decide)))⟩
        refine z_iconst C (z := 0) rfl rfl rfl (fun x97 ex97 => ?_)
        exact k_iret C rfl (Or.inr ⟨rfl, z01 (by omega) (by omega)⟩) (Nat.le_of_ble_eq_true rfl) (Nat.le_of_ble_eq_true rfl) ⟨_, _, _, rfl, rfl, by omega, by omega, by (try simp only [z_r0_0, z_r0_2, z_r0_0_0, z_r0_0_1]); rw [hcc, hs0]; exact RES.f (by omega) (ff12_0.no (by omega) (by omega)), by (try simp only [z_r0_0, z_r0_2, z_r0_0_0, z_r0_0_1]); first | omega | (simp only [e58, e59, e60, e62, k0_r0_3, k0_r0_4, k0_r0_5, k0_r0_0_2, and_true, true_and] <;> omega), by (try simp only [z_r0_0, z_r0_2, z_r0_0_0, z_r0_0_1]); intro h9; first | omega | (simp only [e58, e59, e60, e62, k0_r0_3, k0_r0_4, k0_r0_5, k0_r0_0_2, and_true, true_and] <;> omega), by (try simp only [z_r0_0, z_r0_2, z_r0_0_0, z_r0_0_1]); first | omega | (simp only [e58, e59, e60, e62, k0_r0_3, k0_r0_4, k0_r0_5, k0_r0_0_2, and_true, true_and] <;> omega), hI55, (by (try simp only [z_r0_0, z_r0_2, z_r0_0_0, z_r0_0_1]); exact (Chg.cons (Chg.up S4 (List.forall_mem_cons.mpr ⟨List.mem_of_getElem? (i := 0) rfl, List.forall_mem_cons.mpr ⟨List.mem_of_getElem? (i := 1) rfl, List.forall_mem_cons.mpr ⟨List.mem_of_getElem? (i := 2) rfl, List.forall_mem_cons.mpr ⟨List.mem_of_getElem? (i := 3) rfl, fun _ h => nomatch h⟩⟩⟩⟩)) (Chg.cons S21 (Chg.cons (Chg.up S45 (List.forall_mem_cons.mpr ⟨List.mem_of_getElem? (i := 0) rfl, fun _ h => nomatch h⟩)) (Chg.mono (Chg.up S57 (List.forall_mem_cons.mpr ⟨List.mem_of_getElem? (i := 0) rfl, fun _ h => nomatch h⟩)) (by decide)) (by decide)) (by decide)) (by decide)))⟩
    refine k_istore_n C (lw := [(2, .int x13), (0, .ref r0), (1, .int n1)]) rfl rfl (Nat.le_of_ble_eq_true rfl) rfl ?_
    refine k_sub S [(0, .ref r0), (1, .int n1), (2, .int x13)] (List.forall_mem_cons.mpr ⟨List.mem_of_getElem? (i := 1) rfl, List.forall_mem_cons.mpr ⟨List.mem_of_getElem? (i := 2) rfl, List.forall_mem_cons.mpr ⟨List.mem_of_getElem? (i := 0) rfl, fun _ h => nomatch h⟩⟩⟩) ?_
    exact J14 _ I2 L3 x13 x6 x8 x10 rfl hI2 Chg.rf (by omega) (by omega) e7 (by omega) (by omega) e9 (by omega) (by omega) e11 (by omega) (by omega) (by rw [ht2]; exact LPI.z (h2.y (by omega)) rfl (by omega) (by omega)) (by omega) (by omega)
  refine z_iconst C (z := 0) rfl rfl rfl (fun x98 ex98 => ?_)
  exact k_iret C rfl (Or.inr ⟨rfl, z01 (by omega) (by omega)⟩) (Nat.le_of_ble_eq_true rfl) (Nat.le_of_ble_eq_true rfl) ⟨_, _, _, rfl, rfl, by omega, by omega, by (try simp only [z_r0_0, z_r0_2, z_r0_0_0, z_r0_0_1]); rw [hcc, hs0]; exact RES.f (by omega) (by unfold RSU; rw [h2.no (by omega)]; rfl), by (try simp only [z_r0_0, z_r0_2, z_r0_0_0, z_r0_0_1]); first | omega | (simp only [e5, e7, e9, e11, k0_r0_3, k0_r0_4, k0_r0_5, k0_r0_0_2, and_true, true_and] <;> omega), by (try simp only [z_r0_0, z_r0_2, z_r0_0_0, z_r0_0_1]); intro h9; first | omega | (simp only [e5, e7, e9, e11, k0_r0_3, k0_r0_4, k0_r0_5, k0_r0_0_2, and_true, true_and] <;> omega), by (try simp only [z_r0_0, z_r0_2, z_r0_0_0, z_r0_0_1]); first | omega | (simp only [e5, e7, e9, e11, k0_r0_3, k0_r0_4, k0_r0_5, k0_r0_0_2, and_true, true_and] <;> omega), hI2, (by (try simp only [z_r0_0, z_r0_2, z_r0_0_0, z_r0_0_1]); exact (Chg.mono (Chg.up S4 (List.forall_mem_cons.mpr ⟨List.mem_of_getElem? (i := 0) rfl, List.forall_mem_cons.mpr ⟨List.mem_of_getElem? (i := 1) rfl, List.forall_mem_cons.mpr ⟨List.mem_of_getElem? (i := 2) rfl, List.forall_mem_cons.mpr ⟨List.mem_of_getElem? (i := 3) rfl, fun _ h => nomatch h⟩⟩⟩⟩)) (by decide)))⟩

theorem s_X4_readOverlap_6_x {d : Nat} {T N : Nat → Nat} {I : IT} {L : LT} {R : RT} {A B : Nat → Prop} {r0 : Nat} {n1 : Int32} (hS : SUB B A) (hI : IX A T I) (H_r0 : (hs_Rd T N R A B) r0) (b0_n1 : 6 ≤ n1.toInt) (b1_n1 : n1.toInt ≤ 6) (hU : UPR T R) (hp0 : 0 ≤ (I r0 4).toInt) (hp1 : (I r0 4).toInt ≤ (I r0 3).toInt) (hp2 : (I r0 3).toInt ≤ 400) (hp3 : 0 ≤ (I r0 5).toInt) (hp4 : (I r0 5).toInt ≤ 40) (hp5 : 0 ≤ (I (rA R r0 0) 2).toInt ∧ (I (rA R r0 0) 2).toInt ≤ 160) (hp6 : (I r0 4).toInt < (I r0 3).toInt) : Ex (d + 6) 70 [.ref r0, .int n1] (T, N, I, L, R) 0 0 (pI T N R (fun x9 I9 L9 => (0 ≤ x9.toInt) ∧ (x9.toInt ≤ 1) ∧ (RES x9.toInt (ROV 160 (RCH R I r0) (RSU 160 (RCH R I r0) (RPT 160 (RCH R I r0) 0)) (RDT R I r0)) (RDT R I9 r0)) ∧ (0 ≤ (I9 (rA R r0 0) 2).toInt ∧ (I9 (rA R r0 0) 2).toInt ≤ 160) ∧ (x9.toInt = 1 → (I9 r0 4).toInt ≤ (I r0 3).toInt ∧ (I r0 5).toInt ≤ (I9 r0 5).toInt ∧ (I9 r0 5).toInt ≤ 40) ∧ (0 ≤ (I9 r0 4).toInt ∧ 0 ≤ (I9 r0 5).toInt) ∧ (IX A T I9 ∧ Chg (SL [r0, (rA R r0 0), (rA R (rA R r0 0) 0), (rA R (rA R r0 0) 1)]) T [(5, 4), (5, 5), (8, 2)] I L I9 L9))) := by
  refine ⟨_, rfl, Nat.le_of_ble_eq_true rfl, fun V C S => ?_⟩
  show V 0 [(0, .ref r0), (1, .int n1)] [] (T, N, I, L, R) 0 0
  have gn1 := rg n1
  obtain ⟨T_r0, A_r0, B_r0, ⟨r0_0, R_r0_0, H_r0_0⟩, ⟨r0_2, R_r0_2, H_r0_2⟩⟩ := id H_r0
  have z_r0_0 : rA R r0 0 = r0_0 := rA_e R_r0_0
  have z_r0_2 : rA R r0 2 = r0_2 := rA_e R_r0_2
  obtain ⟨T_r0_0, A_r0_0, B_r0_0, ⟨r0_0_0, R_r0_0_0, H_r0_0_0⟩, ⟨r0_0_1, R_r0_0_1, H_r0_0_1⟩⟩ := id H_r0_0
  have z_r0_0_0 : rA R r0_0 0 = r0_0_0 := rA_e R_r0_0_0
  have z_r0_0_1 : rA R r0_0 1 = r0_0_1 := rA_e R_r0_0_1
  obtain ⟨T_r0_2, N_r0_2, A_r0_2⟩ := id H_r0_2
  obtain ⟨T_r0_0_0, N_r0_0_0, A_r0_0_0⟩ := id H_r0_0_0
  obtain ⟨T_r0_0_1, N_r0_0_1, A_r0_0_1⟩ := id H_r0_0_1
  have nq20 : NQ8 r0_2 r0_0_0 := hU.ne (t20 T_r0_2) R_r0_2 R_r0_0_0 (Or.inl (t_nq T_r0 T_r0_0 (by decide)))
  have nq21 : NQ8 r0_2 r0_0_1 := hU.ne (t20 T_r0_2) R_r0_2 R_r0_0_1 (Or.inl (t_nq T_r0 T_r0_0 (by decide)))
  have nq01 : NQ8 r0_0_0 r0_0_1 := hU.ne (t20 T_r0_0_0) R_r0_0_0 R_r0_0_1 (Or.inr (by decide))
  try simp only [z_r0_0, z_r0_2, z_r0_0_0, z_r0_0_1] at hp0
  try simp only [z_r0_0, z_r0_2, z_r0_0_0, z_r0_0_1] at hp1
  try simp only [z_r0_0, z_r0_2, z_r0_0_0, z_r0_0_1] at hp2
  try simp only [z_r0_0, z_r0_2, z_r0_0_0, z_r0_0_1] at hp3
  try simp only [z_r0_0, z_r0_2, z_r0_0_0, z_r0_0_1] at hp4
  try simp only [z_r0_0, z_r0_2, z_r0_0_0, z_r0_0_1] at hp5
  try simp only [z_r0_0, z_r0_2, z_r0_0_0, z_r0_0_1] at hp6
  obtain ⟨w_r0_3, k0_r0_3⟩ : ∃ x, I r0 3 = x := ⟨_, rfl⟩
  have gw_r0_3 := rg w_r0_3
  obtain ⟨w_r0_4, k0_r0_4⟩ : ∃ x, I r0 4 = x := ⟨_, rfl⟩
  have gw_r0_4 := rg w_r0_4
  obtain ⟨w_r0_5, k0_r0_5⟩ : ∃ x, I r0 5 = x := ⟨_, rfl⟩
  have gw_r0_5 := rg w_r0_5
  obtain ⟨w_r0_0_2, k0_r0_0_2⟩ : ∃ x, I r0_0 2 = x := ⟨_, rfl⟩
  have gw_r0_0_2 := rg w_r0_0_2
  try simp only [k0_r0_3, k0_r0_4, k0_r0_5, k0_r0_0_2] at hp0
  try simp only [k0_r0_3, k0_r0_4, k0_r0_5, k0_r0_0_2] at hp1
  try simp only [k0_r0_3, k0_r0_4, k0_r0_5, k0_r0_0_2] at hp2
  try simp only [k0_r0_3, k0_r0_4, k0_r0_5, k0_r0_0_2] at hp3
  try simp only [k0_r0_3, k0_r0_4, k0_r0_5, k0_r0_0_2] at hp4
  try simp only [k0_r0_3, k0_r0_4, k0_r0_5, k0_r0_0_2] at hp5
  try simp only [k0_r0_3, k0_r0_4, k0_r0_5, k0_r0_0_2] at hp6
  obtain ⟨cc, hcc⟩ : ∃ c, RCH R I r0 = c := ⟨_, rfl⟩
  have hc40 : C40 cc := by rw [← hcc]; exact RCH.c40 (by rw [k0_r0_3]; omega)
  obtain ⟨s0, hs0⟩ : ∃ s, RDT R I r0 = s := ⟨_, rfl⟩
  have hp0 := RDT.c1 hs0 k0_r0_4 (by omega)
  have ht0 := RDT.c2 hs0 k0_r0_5 (by omega)
  refine k_aload_n C rfl rfl rfl ?_
  refine c_VI C (s_X4_isThingMore_x hS hI H_r0 (by (try simp only [z_r0_0, z_r0_2, z_r0_0_0, z_r0_0_1]); first | omega | (simp only [k0_r0_3, k0_r0_4, k0_r0_5, k0_r0_0_2, and_true, true_and, or_true, true_or, and_false, false_and, or_false, false_or] <;> omega)) (by (try simp only [z_r0_0, z_r0_2, z_r0_0_0, z_r0_0_1]); first | omega | (simp only [k0_r0_3, k0_r0_4, k0_r0_5, k0_r0_0_2, and_true, true_and, or_true, true_or, and_false, false_and, or_false, false_or] <;> omega))) rfl rfl rfl rfl rfl ⟨_, rfl, rfl, T_r0, Nat.le_of_ble_eq_true rfl⟩ rfl rfl (Nat.le_of_ble_eq_true rfl) (Nat.le_of_ble_eq_true rfl) (Nat.le_of_ble_eq_true rfl) ?_
  rintro x1 I2 L3 ⟨o0x1, o1x1, p0x1, p1x1, p2x1, p3x1, hI2, S4⟩
  try simp only [z_r0_0, z_r0_2, z_r0_0_0, z_r0_0_1] at S4
  have e5 := Chg.k S4 T_r0 (by decide) (by decide) k0_r0_3
  have e6 := Chg.k S4 T_r0 (by decide) (by decide) k0_r0_4
  have e7 := Chg.k S4 T_r0_0 (by decide) (by decide) k0_r0_0_2
  have gx1 := rg x1
  obtain ⟨x8, e9⟩ : ∃ x, I2 r0 5 = x := ⟨_, rfl⟩
  have gx8 := rg x8
  try simp only [z_r0_0, z_r0_2, z_r0_0_0, z_r0_0_1] at p0x1
  try simp only [z_r0_0, z_r0_2, z_r0_0_0, z_r0_0_1] at p1x1
  try simp only [z_r0_0, z_r0_2, z_r0_0_0, z_r0_0_1] at p2x1
  try simp only [z_r0_0, z_r0_2, z_r0_0_0, z_r0_0_1] at p3x1
  try simp only [k0_r0_3, k0_r0_4, k0_r0_5, k0_r0_0_2, e9] at p0x1
  try have q0x1 := congrArg Int32.toInt p0x1
  try simp only [k0_r0_3, k0_r0_4, k0_r0_5, k0_r0_0_2, e9] at p1x1
  try have q1x1 := congrArg Int32.toInt p1x1
  try simp only [k0_r0_3, k0_r0_4, k0_r0_5, k0_r0_0_2, e9] at p2x1
  try have q2x1 := congrArg Int32.toInt p2x1
  try simp only [k0_r0_3, k0_r0_4, k0_r0_5, k0_r0_0_2, e9] at p3x1
  try have q3x1 := congrArg Int32.toInt p3x1
  have hs1 := p0x1; rw [hs0] at hs1; have hy1 := p1x1; have hn1 := p2x1
  refine b_if_ne C (t := 9) rfl rfl rfl (fun c10 => ?_) (fun c10 => ?_)
  · skip
    refine k_aload_n C rfl rfl rfl ?_
    refine k_dup C rfl rfl rfl ?_
    refine g_I C rfl rfl rfl T_r0 rfl e6 ?_
    refine z_iconst C (z := 1) rfl rfl rfl (fun x11 ex11 => ?_)
    refine z_iadd C rfl rfl ⟨by omega, by omega⟩ (fun x12 ex12 => ?_)
    refine z_pI C rfl rfl rfl T_r0 (Or.inr rfl) rfl (fun I13 uI13 => ?_)
    have hI13 : IX A T I13 := IX.f hI2 T_r0 (boX.tr (by decide) (by decide)) uI13
    have S14 : Chg (SL [r0]) T [(5, 4)] I2 L3 I13 L3 := Chg.f List.mem_cons_self T_r0 uI13
    have e15 := u2_j uI13 (by decide) e5
    have e16 := u2_j uI13 (by decide) e7
    have e17 := u2_j uI13 (by decide) e9
    have e18 := u2_e uI13
    have hq16 := uI13
    refine k_aload_n C rfl rfl rfl ?_
    refine k_iload_n C rfl rfl rfl ?_
    have hs16 := (RDT.nx (I1 := I13) hs1 z_r0_0 (p := s0.1 + 1) (by rw [hq16, u2_k (by decide)]) (STL.fr z_r0_0_0 z_r0_0_1 (by rw [hq16, u2_r (t_nq T_r0_0 T_r0 (by decide))]) (by rw [hq16, u2_r (t_nq T_r0_0_0 T_r0 (by decide))]) (by rw [hq16, u2_r (t_nq T_r0_0_1 T_r0 (by decide))])) (by rw [e18]; omega))
    have c21 : RCH R I13 r0 = cc := (RCH.mv (Chg.at ((Chg.cons (Chg.up S4 (List.forall_mem_cons.mpr ⟨List.mem_of_getElem? (i := 0) rfl, fun _ h => nomatch h⟩)) (Chg.mono (Chg.up S14 (List.forall_mem_cons.mpr ⟨List.mem_of_getElem? (i := 0) rfl, fun _ h => nomatch h⟩)) (by decide)) (by decide)) : Chg (SL [r0, r0_0, r0_0_0, r0_0_1]) T [(5, 4), (5, 5), (8, 2)] I L I13 L3) (nm_4 (t_nq T_r0_2 T_r0 (by decide)) (t_nq T_r0_2 T_r0_0 (by decide)) (by first | exact nq20 | exact fun e => nq20 e.symm) (by first | exact nq21 | exact fun e => nq21 e.symm))) e15 k0_r0_3 z_r0_2).trans hcc
    refine c_VI C (s_X4_readSum_6_x hS hI13 H_r0 (by omega) (by omega) hU (by (try simp only [z_r0_0, z_r0_2, z_r0_0_0, z_r0_0_1]); first | omega | (simp only [e15, e16, e17, e18, and_true, true_and, or_true, true_or, and_false, false_and, or_false, false_or] <;> omega)) (by (try simp only [z_r0_0, z_r0_2, z_r0_0_0, z_r0_0_1]); first | omega | (simp only [e15, e16, e17, e18, and_true, true_and, or_true, true_or, and_false, false_and, or_false, false_or] <;> omega)) (by (try simp only [z_r0_0, z_r0_2, z_r0_0_0, z_r0_0_1]); first | omega | (simp only [e15, e16, e17, e18, and_true, true_and, or_true, true_or, and_false, false_and, or_false, false_or] <;> omega)) (by (try simp only [z_r0_0, z_r0_2, z_r0_0_0, z_r0_0_1]); first | omega | (simp only [e15, e16, e17, e18, and_true, true_and, or_true, true_or, and_false, false_and, or_false, false_or] <;> omega)) (by (try simp only [z_r0_0, z_r0_2, z_r0_0_0, z_r0_0_1]); first | omega | (simp only [e15, e16, e17, e18, and_true, true_and, or_true, true_or, and_false, false_and, or_false, false_or] <;> omega)) (by (try simp only [z_r0_0, z_r0_2, z_r0_0_0, z_r0_0_1]); first | omega | (simp only [e15, e16, e17, e18, and_true, true_and, or_true, true_or, and_false, false_and, or_false, false_or] <;> omega))) rfl rfl rfl rfl rfl ⟨_, rfl, rfl, T_r0, Nat.le_of_ble_eq_true rfl⟩ rfl rfl (Nat.le_of_ble_eq_true rfl) (Nat.le_of_ble_eq_true rfl) (Nat.le_of_ble_eq_true rfl) ?_
    rintro x19 I20 L21 ⟨o0x19, o1x19, p0x19, p1x19, p2x19, p3x19, hI20, S22⟩
    try simp only [z_r0_0, z_r0_2, z_r0_0_0, z_r0_0_1] at S22
    have e23 := Chg.k S22 T_r0 (by decide) (by decide) e15
    have gx19 := rg x19
    obtain ⟨x24, e25⟩ : ∃ x, I20 r0 4 = x := ⟨_, rfl⟩
    have gx24 := rg x24
    obtain ⟨x26, e27⟩ : ∃ x, I20 r0 5 = x := ⟨_, rfl⟩
    have gx26 := rg x26
    obtain ⟨x28, e29⟩ : ∃ x, I20 r0_0 2 = x := ⟨_, rfl⟩
    have gx28 := rg x28
    try simp only [z_r0_0, z_r0_2, z_r0_0_0, z_r0_0_1] at p0x19
    try simp only [z_r0_0, z_r0_2, z_r0_0_0, z_r0_0_1] at p1x19
    try simp only [z_r0_0, z_r0_2, z_r0_0_0, z_r0_0_1] at p2x19
    try simp only [z_r0_0, z_r0_2, z_r0_0_0, z_r0_0_1] at p3x19
    try simp only [e15, e16, e17, e18, e25, e27, e29] at p0x19
    try have q0x19 := congrArg Int32.toInt p0x19
    try simp only [e15, e16, e17, e18, e25, e27, e29] at p1x19
    try have q1x19 := congrArg Int32.toInt p1x19
    try simp only [e15, e16, e17, e18, e25, e27, e29] at p2x19
    try have q2x19 := congrArg Int32.toInt p2x19
    try simp only [e15, e16, e17, e18, e25, e27, e29] at p3x19
    try have q3x19 := congrArg Int32.toInt p3x19
    have h21 := p0x19; rw [c21, hs16] at h21; obtain ⟨t21, ht21⟩ : ∃ t, RDT R I20 r0 = t := ⟨_, rfl⟩; rw [ht21] at h21
    refine b_if_eq C (t := 53) rfl rfl rfl (fun c30 => ?_) (fun c30 => ?_)
    · skip
      refine z_iconst C (z := 0) rfl rfl rfl (fun x31 ex31 => ?_)
      exact k_iret C rfl (Or.inr ⟨rfl, z01 (by omega) (by omega)⟩) (Nat.le_of_ble_eq_true rfl) (Nat.le_of_ble_eq_true rfl) ⟨_, _, _, rfl, rfl, by omega, by omega, by (try simp only [z_r0_0, z_r0_2, z_r0_0_0, z_r0_0_1]); rw [hcc, hs0]; first | exact RES.f (by omega) (ROV.n1 (show s0.2.1 < 40 from by omega) (h21.no (by omega))) | exact RES.f (by omega) (ROV.n2 (show s0.2.1 < 40 from by omega) (h21.y (by omega)) (h30.no (by omega))) | exact RES.f (by omega) (ROV.n3 (show s0.2.1 < 40 from by omega) (h21.y (by omega)) (h30.y (by omega)) (h38.no (by omega))) | exact RES.f (by omega) ((ROV.y (show s0.2.1 < 40 from by omega) (h21.y (by omega)) (h30.y (by omega)) (h38.y (by omega))).trans (by rw [h47.no (by omega)]; rfl)), by (try simp only [z_r0_0, z_r0_2, z_r0_0_0, z_r0_0_1]); first | omega | (simp only [e23, e25, e27, e29, k0_r0_3, k0_r0_4, k0_r0_5, k0_r0_0_2, and_true, true_and] <;> omega), by (try simp only [z_r0_0, z_r0_2, z_r0_0_0, z_r0_0_1]); intro h9; first | omega | (simp only [e23, e25, e27, e29, k0_r0_3, k0_r0_4, k0_r0_5, k0_r0_0_2, and_true, true_and] <;> omega), by (try simp only [z_r0_0, z_r0_2, z_r0_0_0, z_r0_0_1]); first | omega | (simp only [e23, e25, e27, e29, k0_r0_3, k0_r0_4, k0_r0_5, k0_r0_0_2, and_true, true_and] <;> omega), hI20, (by (try simp only [z_r0_0, z_r0_2, z_r0_0_0, z_r0_0_1]); exact (Chg.cons (Chg.up S4 (List.forall_mem_cons.mpr ⟨List.mem_of_getElem? (i := 0) rfl, fun _ h => nomatch h⟩)) (Chg.cons (Chg.up S14 (List.forall_mem_cons.mpr ⟨List.mem_of_getElem? (i := 0) rfl, fun _ h => nomatch h⟩)) (Chg.mono (Chg.up S22 (List.forall_mem_cons.mpr ⟨List.mem_of_getElem? (i := 0) rfl, List.forall_mem_cons.mpr ⟨List.mem_of_getElem? (i := 1) rfl, List.forall_mem_cons.mpr ⟨List.mem_of_getElem? (i := 2) rfl, List.forall_mem_cons.mpr ⟨List.mem_of_getElem? (i := 3) rfl, fun _ h => nomatch h⟩⟩⟩⟩)) (by decide)) (by decide)) (by decide)))⟩
    refine k_aload_n C rfl rfl rfl ?_
    refine z_bipush C (z := 44) rfl rfl rfl (fun x32 ex32 => ?_)
    have c30 : RCH R I20 r0 = cc := (RCH.mv (Chg.at ((Chg.cons (Chg.up S4 (List.forall_mem_cons.mpr ⟨List.mem_of_getElem? (i := 0) rfl, fun _ h => nomatch h⟩)) (Chg.cons (Chg.up S14 (List.forall_mem_cons.mpr ⟨List.mem_of_getElem? (i := 0) rfl, fun _ h => nomatch h⟩)) (Chg.mono (Chg.up S22 (List.forall_mem_cons.mpr ⟨List.mem_of_getElem? (i := 0) rfl, List.forall_mem_cons.mpr ⟨List.mem_of_getElem? (i := 1) rfl, List.forall_mem_cons.mpr ⟨List.mem_of_getElem? (i := 2) rfl, List.forall_mem_cons.mpr ⟨List.mem_of_getElem? (i := 3) rfl, fun _ h => nomatch h⟩⟩⟩⟩)) (by decide)) (by decide)) (by decide)) : Chg (SL [r0, r0_0, r0_0_0, r0_0_1]) T [(5, 4), (5, 5), (8, 2)] I L I20 L21) (nm_4 (t_nq T_r0_2 T_r0 (by decide)) (t_nq T_r0_2 T_r0_0 (by decide)) (by first | exact nq20 | exact fun e => nq20 e.symm) (by first | exact nq21 | exact fun e => nq21 e.symm))) e23 k0_r0_3 z_r0_2).trans hcc
    refine c_VI C (s_X4_take_x hS hI20 H_r0 (by omega) (by omega) hU (by (try simp only [z_r0_0, z_r0_2, z_r0_0_0, z_r0_0_1]); first | omega | (simp only [e23, e25, e27, e29, and_true, true_and, or_true, true_or, and_false, false_and, or_false, false_or] <;> omega)) (by (try simp only [z_r0_0, z_r0_2, z_r0_0_0, z_r0_0_1]); first | omega | (simp only [e23, e25, e27, e29, and_true, true_and, or_true, true_or, and_false, false_and, or_false, false_or] <;> omega)) (by (try simp only [z_r0_0, z_r0_2, z_r0_0_0, z_r0_0_1]); first | omega | (simp only [e23, e25, e27, e29, and_true, true_and, or_true, true_or, and_false, false_and, or_false, false_or] <;> omega)) (by (try simp only [z_r0_0, z_r0_2, z_r0_0_0, z_r0_0_1]); first | omega | (simp only [e23, e25, e27, e29, and_true, true_and, or_true, true_or, and_false, false_and, or_false, false_or] <;> omega)) (by (try simp only [z_r0_0, z_r0_2, z_r0_0_0, z_r0_0_1]); first | omega | (simp only [e23, e25, e27, e29, and_true, true_and, or_true, true_or, and_false, false_and, or_false, false_or] <;> omega)) (by (try simp only [z_r0_0, z_r0_2, z_r0_0_0, z_r0_0_1]); first | omega | (simp only [e23, e25, e27, e29, and_true, true_and, or_true, true_or, and_false, false_and, or_false, false_or] <;> omega))) rfl rfl rfl rfl rfl ⟨_, rfl, rfl, T_r0, Nat.le_of_ble_eq_true rfl⟩ rfl rfl (Nat.le_of_ble_eq_true rfl) (Nat.le_of_ble_eq_true rfl) (Nat.le_of_ble_eq_true rfl) ?_
    rintro x33 I34 L35 ⟨o0x33, o1x33, p0x33, p1x33, p2x33, p3x33, hI34, S36⟩
    try simp only [z_r0_0, z_r0_2, z_r0_0_0, z_r0_0_1] at S36
    have e37 := Chg.k S36 T_r0 (by decide) (by decide) e23
    have e38 := Chg.k S36 T_r0 (by decide) (by decide) e27
    have e39 := Chg.k S36 T_r0_0 (by decide) (by decide) e29
    have gx33 := rg x33
    obtain ⟨x40, e41⟩ : ∃ x, I34 r0 4 = x := ⟨_, rfl⟩
    have gx40 := rg x40
    obtain ⟨x42, e43⟩ : ∃ x, I34 r0 5 = x := ⟨_, rfl⟩
    have gx42 := rg x42
    obtain ⟨x44, e45⟩ : ∃ x, I34 r0_0 2 = x := ⟨_, rfl⟩
    have gx44 := rg x44
    try simp only [z_r0_0, z_r0_2, z_r0_0_0, z_r0_0_1] at p0x33
    try simp only [z_r0_0, z_r0_2, z_r0_0_0, z_r0_0_1] at p1x33
    try simp only [z_r0_0, z_r0_2, z_r0_0_0, z_r0_0_1] at p2x33
    try simp only [z_r0_0, z_r0_2, z_r0_0_0, z_r0_0_1] at p3x33
    try simp only [e23, e25, e27, e29, e41, e43, e45] at p0x33
    try have q0x33 := congrArg Int32.toInt p0x33
    try simp only [e23, e25, e27, e29, e41, e43, e45] at p1x33
    try have q1x33 := congrArg Int32.toInt p1x33
    try simp only [e23, e25, e27, e29, e41, e43, e45] at p2x33
    try have q2x33 := congrArg Int32.toInt p2x33
    try simp only [e23, e25, e27, e29, e41, e43, e45] at p3x33
    try have q3x33 := congrArg Int32.toInt p3x33
    have h30 := p0x33; rw [c30, ht21] at h30; have h30 := h30.tk (b := 44) (by omega); obtain ⟨t30, ht30⟩ : ∃ t, RDT R I34 r0 = t := ⟨_, rfl⟩; rw [ht30] at h30
    refine b_if_eq C (t := 53) rfl rfl rfl (fun c46 => ?_) (fun c46 => ?_)
    · skip
      refine z_iconst C (z := 0) rfl rfl rfl (fun x47 ex47 => ?_)
      exact k_iret C rfl (Or.inr ⟨rfl, z01 (by omega) (by omega)⟩) (Nat.le_of_ble_eq_true rfl) (Nat.le_of_ble_eq_true rfl) ⟨_, _, _, rfl, rfl, by omega, by omega, by (try simp only [z_r0_0, z_r0_2, z_r0_0_0, z_r0_0_1]); rw [hcc, hs0]; first | exact RES.f (by omega) (ROV.n1 (show s0.2.1 < 40 from by omega) (h21.no (by omega))) | exact RES.f (by omega) (ROV.n2 (show s0.2.1 < 40 from by omega) (h21.y (by omega)) (h30.no (by omega))) | exact RES.f (by omega) (ROV.n3 (show s0.2.1 < 40 from by omega) (h21.y (by omega)) (h30.y (by omega)) (h38.no (by omega))) | exact RES.f (by omega) ((ROV.y (show s0.2.1 < 40 from by omega) (h21.y (by omega)) (h30.y (by omega)) (h38.y (by omega))).trans (by rw [h47.no (by omega)]; rfl)), by (try simp only [z_r0_0, z_r0_2, z_r0_0_0, z_r0_0_1]); first | omega | (simp only [e37, e43, e45, e41, k0_r0_3, k0_r0_4, k0_r0_5, k0_r0_0_2, and_true, true_and] <;> omega), by (try simp only [z_r0_0, z_r0_2, z_r0_0_0, z_r0_0_1]); intro h9; first | omega | (simp only [e37, e43, e45, e41, k0_r0_3, k0_r0_4, k0_r0_5, k0_r0_0_2, and_true, true_and] <;> omega), by (try simp only [z_r0_0, z_r0_2, z_r0_0_0, z_r0_0_1]); first | omega | (simp only [e37, e43, e45, e41, k0_r0_3, k0_r0_4, k0_r0_5, k0_r0_0_2, and_true, true_and] <;> omega), hI34, (by (try simp only [z_r0_0, z_r0_2, z_r0_0_0, z_r0_0_1]); exact (Chg.cons (Chg.up S4 (List.forall_mem_cons.mpr ⟨List.mem_of_getElem? (i := 0) rfl, fun _ h => nomatch h⟩)) (Chg.cons (Chg.up S14 (List.forall_mem_cons.mpr ⟨List.mem_of_getElem? (i := 0) rfl, fun _ h => nomatch h⟩)) (Chg.cons (Chg.up S22 (List.forall_mem_cons.mpr ⟨List.mem_of_getElem? (i := 0) rfl, List.forall_mem_cons.mpr ⟨List.mem_of_getElem? (i := 1) rfl, List.forall_mem_cons.mpr ⟨List.mem_of_getElem? (i := 2) rfl, List.forall_mem_cons.mpr ⟨List.mem_of_getElem? (i := 3) rfl, fun _ h => nomatch h⟩⟩⟩⟩)) (Chg.mono (Chg.up S36 (List.forall_mem_cons.mpr ⟨List.mem_of_getElem? (i := 0) rfl, fun _ h => nomatch h⟩)) (by decide)) (by decide)) (by decide)) (by decide)))⟩
    refine k_aload_n C rfl rfl rfl ?_
    refine k_iload_n C rfl rfl rfl ?_
    have c38 : RCH R I34 r0 = cc := (RCH.mv (Chg.at ((Chg.cons (Chg.up S4 (List.forall_mem_cons.mpr ⟨List.mem_of_getElem? (i := 0) rfl, fun _ h => nomatch h⟩)) (Chg.cons (Chg.up S14 (List.forall_mem_cons.mpr ⟨List.mem_of_getElem? (i := 0) rfl, fun _ h => nomatch h⟩)) (Chg.cons (Chg.up S22 (List.forall_mem_cons.mpr ⟨List.mem_of_getElem? (i := 0) rfl, List.forall_mem_cons.mpr ⟨List.mem_of_getElem? (i := 1) rfl, List.forall_mem_cons.mpr ⟨List.mem_of_getElem? (i := 2) rfl, List.forall_mem_cons.mpr ⟨List.mem_of_getElem? (i := 3) rfl, fun _ h => nomatch h⟩⟩⟩⟩)) (Chg.mono (Chg.up S36 (List.forall_mem_cons.mpr ⟨List.mem_of_getElem? (i := 0) rfl, fun _ h => nomatch h⟩)) (by decide)) (by decide)) (by decide)) (by decide)) : Chg (SL [r0, r0_0, r0_0_0, r0_0_1]) T [(5, 4), (5, 5), (8, 2)] I L I34 L35) (nm_4 (t_nq T_r0_2 T_r0 (by decide)) (t_nq T_r0_2 T_r0_0 (by decide)) (by first | exact nq20 | exact fun e => nq20 e.symm) (by first | exact nq21 | exact fun e => nq21 e.symm))) e37 k0_r0_3 z_r0_2).trans hcc
    refine c_VI C (s_X4_readSum_6_x hS hI34 H_r0 (by omega) (by omega) hU (by (try simp only [z_r0_0, z_r0_2, z_r0_0_0, z_r0_0_1]); first | omega | (simp only [e37, e43, e45, e41, and_true, true_and, or_true, true_or, and_false, false_and, or_false, false_or] <;> omega)) (by (try simp only [z_r0_0, z_r0_2, z_r0_0_0, z_r0_0_1]); first | omega | (simp only [e37, e43, e45, e41, and_true, true_and, or_true, true_or, and_false, false_and, or_false, false_or] <;> omega)) (by (try simp only [z_r0_0, z_r0_2, z_r0_0_0, z_r0_0_1]); first | omega | (simp only [e37, e43, e45, e41, and_true, true_and, or_true, true_or, and_false, false_and, or_false, false_or] <;> omega)) (by (try simp only [z_r0_0, z_r0_2, z_r0_0_0, z_r0_0_1]); first | omega | (simp only [e37, e43, e45, e41, and_true, true_and, or_true, true_or, and_false, false_and, or_false, false_or] <;> omega)) (by (try simp only [z_r0_0, z_r0_2, z_r0_0_0, z_r0_0_1]); first | omega | (simp only [e37, e43, e45, e41, and_true, true_and, or_true, true_or, and_false, false_and, or_false, false_or] <;> omega)) (by (try simp only [z_r0_0, z_r0_2, z_r0_0_0, z_r0_0_1]); first | omega | (simp only [e37, e43, e45, e41, and_true, true_and, or_true, true_or, and_false, false_and, or_false, false_or] <;> omega))) rfl rfl rfl rfl rfl ⟨_, rfl, rfl, T_r0, Nat.le_of_ble_eq_true rfl⟩ rfl rfl (Nat.le_of_ble_eq_true rfl) (Nat.le_of_ble_eq_true rfl) (Nat.le_of_ble_eq_true rfl) ?_
    rintro x48 I49 L50 ⟨o0x48, o1x48, p0x48, p1x48, p2x48, p3x48, hI49, S51⟩
    try simp only [z_r0_0, z_r0_2, z_r0_0_0, z_r0_0_1] at S51
    have e52 := Chg.k S51 T_r0 (by decide) (by decide) e37
    have gx48 := rg x48
    obtain ⟨x53, e54⟩ : ∃ x, I49 r0 4 = x := ⟨_, rfl⟩
    have gx53 := rg x53
    obtain ⟨x55, e56⟩ : ∃ x, I49 r0 5 = x := ⟨_, rfl⟩
    have gx55 := rg x55
    obtain ⟨x57, e58⟩ : ∃ x, I49 r0_0 2 = x := ⟨_, rfl⟩
    have gx57 := rg x57
    try simp only [z_r0_0, z_r0_2, z_r0_0_0, z_r0_0_1] at p0x48
    try simp only [z_r0_0, z_r0_2, z_r0_0_0, z_r0_0_1] at p1x48
    try simp only [z_r0_0, z_r0_2, z_r0_0_0, z_r0_0_1] at p2x48
    try simp only [z_r0_0, z_r0_2, z_r0_0_0, z_r0_0_1] at p3x48
    try simp only [e37, e43, e45, e41, e54, e56, e58] at p0x48
    try have q0x48 := congrArg Int32.toInt p0x48
    try simp only [e37, e43, e45, e41, e54, e56, e58] at p1x48
    try have q1x48 := congrArg Int32.toInt p1x48
    try simp only [e37, e43, e45, e41, e54, e56, e58] at p2x48
    try have q2x48 := congrArg Int32.toInt p2x48
    try simp only [e37, e43, e45, e41, e54, e56, e58] at p3x48
    try have q3x48 := congrArg Int32.toInt p3x48
    have h38 := p0x48; rw [c38, ht30] at h38; obtain ⟨t38, ht38⟩ : ∃ t, RDT R I49 r0 = t := ⟨_, rfl⟩; rw [ht38] at h38
    refine b_if_eq C (t := 53) rfl rfl rfl (fun c59 => ?_) (fun c59 => ?_)
    · skip
      refine z_iconst C (z := 0) rfl rfl rfl (fun x60 ex60 => ?_)
      exact k_iret C rfl (Or.inr ⟨rfl, z01 (by omega) (by omega)⟩) (Nat.le_of_ble_eq_true rfl) (Nat.le_of_ble_eq_true rfl) ⟨_, _, _, rfl, rfl, by omega, by omega, by (try simp only [z_r0_0, z_r0_2, z_r0_0_0, z_r0_0_1]); rw [hcc, hs0]; first | exact RES.f (by omega) (ROV.n1 (show s0.2.1 < 40 from by omega) (h21.no (by omega))) | exact RES.f (by omega) (ROV.n2 (show s0.2.1 < 40 from by omega) (h21.y (by omega)) (h30.no (by omega))) | exact RES.f (by omega) (ROV.n3 (show s0.2.1 < 40 from by omega) (h21.y (by omega)) (h30.y (by omega)) (h38.no (by omega))) | exact RES.f (by omega) ((ROV.y (show s0.2.1 < 40 from by omega) (h21.y (by omega)) (h30.y (by omega)) (h38.y (by omega))).trans (by rw [h47.no (by omega)]; rfl)), by (try simp only [z_r0_0, z_r0_2, z_r0_0_0, z_r0_0_1]); first | omega | (simp only [e52, e54, e56, e58, k0_r0_3, k0_r0_4, k0_r0_5, k0_r0_0_2, and_true, true_and] <;> omega), by (try simp only [z_r0_0, z_r0_2, z_r0_0_0, z_r0_0_1]); intro h9; first | omega | (simp only [e52, e54, e56, e58, k0_r0_3, k0_r0_4, k0_r0_5, k0_r0_0_2, and_true, true_and] <;> omega), by (try simp only [z_r0_0, z_r0_2, z_r0_0_0, z_r0_0_1]); first | omega | (simp only [e52, e54, e56, e58, k0_r0_3, k0_r0_4, k0_r0_5, k0_r0_0_2, and_true, true_and] <;> omega), hI49, (by (try simp only [z_r0_0, z_r0_2, z_r0_0_0, z_r0_0_1]); exact (Chg.cons (Chg.up S4 (List.forall_mem_cons.mpr ⟨List.mem_of_getElem? (i := 0) rfl, fun _ h => nomatch h⟩)) (Chg.cons (Chg.up S14 (List.forall_mem_cons.mpr ⟨List.mem_of_getElem? (i := 0) rfl, fun _ h => nomatch h⟩)) (Chg.cons (Chg.up S22 (List.forall_mem_cons.mpr ⟨List.mem_of_getElem? (i := 0) rfl, List.forall_mem_cons.mpr ⟨List.mem_of_getElem? (i := 1) rfl, List.forall_mem_cons.mpr ⟨List.mem_of_getElem? (i := 2) rfl, List.forall_mem_cons.mpr ⟨List.mem_of_getElem? (i := 3) rfl, fun _ h => nomatch h⟩⟩⟩⟩)) (Chg.cons (Chg.up S36 (List.forall_mem_cons.mpr ⟨List.mem_of_getElem? (i := 0) rfl, fun _ h => nomatch h⟩)) (Chg.mono (Chg.up S51 (List.forall_mem_cons.mpr ⟨List.mem_of_getElem? (i := 0) rfl, List.forall_mem_cons.mpr ⟨List.mem_of_getElem? (i := 1) rfl, List.forall_mem_cons.mpr ⟨List.mem_of_getElem? (i := 2) rfl, List.forall_mem_cons.mpr ⟨List.mem_of_getElem? (i := 3) rfl, fun _ h => nomatch h⟩⟩⟩⟩)) (by decide)) (by decide)) (by decide)) (by decide)) (by decide)))⟩
    refine k_aload_n C rfl rfl rfl ?_
    refine z_bipush C (z := 93) rfl rfl rfl (fun x61 ex61 => ?_)
    have c47 : RCH R I49 r0 = cc := (RCH.mv (Chg.at ((Chg.cons (Chg.up S4 (List.forall_mem_cons.mpr ⟨List.mem_of_getElem? (i := 0) rfl, fun _ h => nomatch h⟩)) (Chg.cons (Chg.up S14 (List.forall_mem_cons.mpr ⟨List.mem_of_getElem? (i := 0) rfl, fun _ h => nomatch h⟩)) (Chg.cons (Chg.up S22 (List.forall_mem_cons.mpr ⟨List.mem_of_getElem? (i := 0) rfl, List.forall_mem_cons.mpr ⟨List.mem_of_getElem? (i := 1) rfl, List.forall_mem_cons.mpr ⟨List.mem_of_getElem? (i := 2) rfl, List.forall_mem_cons.mpr ⟨List.mem_of_getElem? (i := 3) rfl, fun _ h => nomatch h⟩⟩⟩⟩)) (Chg.cons (Chg.up S36 (List.forall_mem_cons.mpr ⟨List.mem_of_getElem? (i := 0) rfl, fun _ h => nomatch h⟩)) (Chg.mono (Chg.up S51 (List.forall_mem_cons.mpr ⟨List.mem_of_getElem? (i := 0) rfl, List.forall_mem_cons.mpr ⟨List.mem_of_getElem? (i := 1) rfl, List.forall_mem_cons.mpr ⟨List.mem_of_getElem? (i := 2) rfl, List.forall_mem_cons.mpr ⟨List.mem_of_getElem? (i := 3) rfl, fun _ h => nomatch h⟩⟩⟩⟩)) (by decide)) (by decide)) (by decide)) (by decide)) (by decide)) : Chg (SL [r0, r0_0, r0_0_0, r0_0_1]) T [(5, 4), (5, 5), (8, 2)] I L I49 L50) (nm_4 (t_nq T_r0_2 T_r0 (by decide)) (t_nq T_r0_2 T_r0_0 (by decide)) (by first | exact nq20 | exact fun e => nq20 e.symm) (by first | exact nq21 | exact fun e => nq21 e.symm))) e52 k0_r0_3 z_r0_2).trans hcc
    refine c_VI C (s_X4_take_x hS hI49 H_r0 (by omega) (by omega) hU (by (try simp only [z_r0_0, z_r0_2, z_r0_0_0, z_r0_0_1]); first | omega | (simp only [e52, e54, e56, e58, and_true, true_and, or_true, true_or, and_false, false_and, or_false, false_or] <;> omega)) (by (try simp only [z_r0_0, z_r0_2, z_r0_0_0, z_r0_0_1]); first | omega | (simp only [e52, e54, e56, e58, and_true, true_and, or_true, true_or, and_false, false_and, or_false, false_or] <;> omega)) (by (try simp only [z_r0_0, z_r0_2, z_r0_0_0, z_r0_0_1]); first | omega | (simp only [e52, e54, e56, e58, and_true, true_and, or_true, true_or, and_false, false_and, or_false, false_or] <;> omega)) (by (try simp only [z_r0_0, z_r0_2, z_r0_0_0, z_r0_0_1]); first | omega | (simp only [e52, e54, e56, e58, and_true, true_and, or_true, true_or, and_false, false_and, or_false, false_or] <;> omega)) (by (try simp only [z_r0_0, z_r0_2, z_r0_0_0, z_r0_0_1]); first | omega | (simp only [e52, e54, e56, e58, and_true, true_and, or_true, true_or, and_false, false_and, or_false, false_or] <;> omega)) (by (try simp only [z_r0_0, z_r0_2, z_r0_0_0, z_r0_0_1]); first | omega | (simp only [e52, e54, e56, e58, and_true, true_and, or_true, true_or, and_false, false_and, or_false, false_or] <;> omega))) rfl rfl rfl rfl rfl ⟨_, rfl, rfl, T_r0, Nat.le_of_ble_eq_true rfl⟩ rfl rfl (Nat.le_of_ble_eq_true rfl) (Nat.le_of_ble_eq_true rfl) (Nat.le_of_ble_eq_true rfl) ?_
    rintro x62 I63 L64 ⟨o0x62, o1x62, p0x62, p1x62, p2x62, p3x62, hI63, S65⟩
    try simp only [z_r0_0, z_r0_2, z_r0_0_0, z_r0_0_1] at S65
    have e66 := Chg.k S65 T_r0 (by decide) (by decide) e52
    have e67 := Chg.k S65 T_r0 (by decide) (by decide) e56
    have e68 := Chg.k S65 T_r0_0 (by decide) (by decide) e58
    have gx62 := rg x62
    obtain ⟨x69, e70⟩ : ∃ x, I63 r0 4 = x := ⟨_, rfl⟩
    have gx69 := rg x69
    obtain ⟨x71, e72⟩ : ∃ x, I63 r0 5 = x := ⟨_, rfl⟩
    have gx71 := rg x71
    obtain ⟨x73, e74⟩ : ∃ x, I63 r0_0 2 = x := ⟨_, rfl⟩
    have gx73 := rg x73
    try simp only [z_r0_0, z_r0_2, z_r0_0_0, z_r0_0_1] at p0x62
    try simp only [z_r0_0, z_r0_2, z_r0_0_0, z_r0_0_1] at p1x62
    try simp only [z_r0_0, z_r0_2, z_r0_0_0, z_r0_0_1] at p2x62
    try simp only [z_r0_0, z_r0_2, z_r0_0_0, z_r0_0_1] at p3x62
    try simp only [e52, e54, e56, e58, e70, e72, e74] at p0x62
    try have q0x62 := congrArg Int32.toInt p0x62
    try simp only [e52, e54, e56, e58, e70, e72, e74] at p1x62
    try have q1x62 := congrArg Int32.toInt p1x62
    try simp only [e52, e54, e56, e58, e70, e72, e74] at p2x62
    try have q2x62 := congrArg Int32.toInt p2x62
    try simp only [e52, e54, e56, e58, e70, e72, e74] at p3x62
    try have q3x62 := congrArg Int32.toInt p3x62
    have h47 := p0x62; rw [c47, ht38] at h47; have h47 := h47.tk (b := 93) (by omega); obtain ⟨t47, ht47⟩ : ∃ t, RDT R I63 r0 = t := ⟨_, rfl⟩; rw [ht47] at h47
    refine b_if_ne C (t := 55) rfl rfl rfl (fun c75 => ?_) (fun c75 => ?_)
    · skip
      refine k_aload_n C rfl rfl rfl ?_
      have c56 : RCH R I63 r0 = cc := (RCH.mv (Chg.at ((Chg.cons (Chg.up S4 (List.forall_mem_cons.mpr ⟨List.mem_of_getElem? (i := 0) rfl, fun _ h => nomatch h⟩)) (Chg.cons (Chg.up S14 (List.forall_mem_cons.mpr ⟨List.mem_of_getElem? (i := 0) rfl, fun _ h => nomatch h⟩)) (Chg.cons (Chg.up S22 (List.forall_mem_cons.mpr ⟨List.mem_of_getElem? (i := 0) rfl, List.forall_mem_cons.mpr ⟨List.mem_of_getElem? (i := 1) rfl, List.forall_mem_cons.mpr ⟨List.mem_of_getElem? (i := 2) rfl, List.forall_mem_cons.mpr ⟨List.mem_of_getElem? (i := 3) rfl, fun _ h => nomatch h⟩⟩⟩⟩)) (Chg.cons (Chg.up S36 (List.forall_mem_cons.mpr ⟨List.mem_of_getElem? (i := 0) rfl, fun _ h => nomatch h⟩)) (Chg.cons (Chg.up S51 (List.forall_mem_cons.mpr ⟨List.mem_of_getElem? (i := 0) rfl, List.forall_mem_cons.mpr ⟨List.mem_of_getElem? (i := 1) rfl, List.forall_mem_cons.mpr ⟨List.mem_of_getElem? (i := 2) rfl, List.forall_mem_cons.mpr ⟨List.mem_of_getElem? (i := 3) rfl, fun _ h => nomatch h⟩⟩⟩⟩)) (Chg.mono (Chg.up S65 (List.forall_mem_cons.mpr ⟨List.mem_of_getElem? (i := 0) rfl, fun _ h => nomatch h⟩)) (by decide)) (by decide)) (by decide)) (by decide)) (by decide)) (by decide)) : Chg (SL [r0, r0_0, r0_0_0, r0_0_1]) T [(5, 4), (5, 5), (8, 2)] I L I63 L64) (nm_4 (t_nq T_r0_2 T_r0 (by decide)) (t_nq T_r0_2 T_r0_0 (by decide)) (by first | exact nq20 | exact fun e => nq20 e.symm) (by first | exact nq21 | exact fun e => nq21 e.symm))) e66 k0_r0_3 z_r0_2).trans hcc
      refine c_VI C (s_X4_next_x hS hI63 H_r0 (by (try simp only [z_r0_0, z_r0_2, z_r0_0_0, z_r0_0_1]); first | omega | (simp only [e66, e72, e74, e70, and_true, true_and, or_true, true_or, and_false, false_and, or_false, false_or] <;> omega)) (by (try simp only [z_r0_0, z_r0_2, z_r0_0_0, z_r0_0_1]); first | omega | (simp only [e66, e72, e74, e70, and_true, true_and, or_true, true_or, and_false, false_and, or_false, false_or] <;> omega)) (by (try simp only [z_r0_0, z_r0_2, z_r0_0_0, z_r0_0_1]); first | omega | (simp only [e66, e72, e74, e70, and_true, true_and, or_true, true_or, and_false, false_and, or_false, false_or] <;> omega)) (by (try simp only [z_r0_0, z_r0_2, z_r0_0_0, z_r0_0_1]); first | omega | (simp only [e66, e72, e74, e70, and_true, true_and, or_true, true_or, and_false, false_and, or_false, false_or] <;> omega))) rfl rfl rfl rfl rfl ⟨_, rfl, rfl, T_r0, Nat.le_of_ble_eq_true rfl⟩ rfl rfl (Nat.le_of_ble_eq_true rfl) (Nat.le_of_ble_eq_true rfl) (Nat.le_of_ble_eq_true rfl) ?_
      rintro x76 I77 L78 ⟨p0x76, p1x76, p2x76, p3x76, hI77, S79⟩
      try simp only [z_r0_0, z_r0_2, z_r0_0_0, z_r0_0_1] at S79
      have e80 := Chg.k S79 T_r0 (by decide) (by decide) e66
      have e81 := Chg.k S79 T_r0 (by decide) (by decide) e72
      have e82 := Chg.k S79 T_r0_0 (by decide) (by decide) e74
      have gx76 := rg x76
      obtain ⟨x83, e84⟩ : ∃ x, I77 r0 4 = x := ⟨_, rfl⟩
      have gx83 := rg x83
      try simp only [z_r0_0, z_r0_2, z_r0_0_0, z_r0_0_1] at p0x76
      try simp only [z_r0_0, z_r0_2, z_r0_0_0, z_r0_0_1] at p1x76
      try simp only [z_r0_0, z_r0_2, z_r0_0_0, z_r0_0_1] at p2x76
      try simp only [z_r0_0, z_r0_2, z_r0_0_0, z_r0_0_1] at p3x76
      try simp only [e66, e72, e74, e70, e84] at p0x76
      try have q0x76 := congrArg Int32.toInt p0x76
      try simp only [e66, e72, e74, e70, e84] at p1x76
      try have q1x76 := congrArg Int32.toInt p1x76
      try simp only [e66, e72, e74, e70, e84] at p2x76
      try have q2x76 := congrArg Int32.toInt p2x76
      try simp only [e66, e72, e74, e70, e84] at p3x76
      try have q3x76 := congrArg Int32.toInt p3x76
      have hx56 := p0x76; have hs56 := p1x76; rw [c56, ht47] at hx56 hs56
      refine c_SI C (s_X4_isDigit_x hS hI77 ) rfl rfl rfl rfl rfl rfl rfl (Nat.le_of_ble_eq_true rfl) (Nat.le_of_ble_eq_true rfl) (Nat.le_of_ble_eq_true rfl) ?_
      rintro x85 _ _ ⟨o0x85, o1x85, p0x85, p1x85, rfl, rfl⟩
      have gx85 := rg x85
      try simp only [z_r0_0, z_r0_2, z_r0_0_0, z_r0_0_1] at p0x85
      try simp only [z_r0_0, z_r0_2, z_r0_0_0, z_r0_0_1] at p1x85
      try simp only [e80, e81, e82, e84] at p0x85
      try have q0x85 := congrArg Int32.toInt p0x85
      try simp only [e80, e81, e82, e84] at p1x85
      try have q1x85 := congrArg Int32.toInt p1x85
      have hd59 := p0x85; have hnd59 := p1x85
      refine b_if_eq C (t := 79) rfl rfl rfl (fun c86 => ?_) (fun c86 => ?_)
      · skip
        refine z_iconst C (z := 0) rfl rfl rfl (fun x87 ex87 => ?_)
        exact k_iret C rfl (Or.inr ⟨rfl, z01 (by omega) (by omega)⟩) (Nat.le_of_ble_eq_true rfl) (Nat.le_of_ble_eq_true rfl) ⟨_, _, _, rfl, rfl, by omega, by omega, by (try simp only [z_r0_0, z_r0_2, z_r0_0_0, z_r0_0_1]); rw [hcc, hs0]; have hro := (ROV.y (show s0.2.1 < 40 from by omega) (h21.y (by omega)) (h30.y (by omega)) (h38.y (by omega))).trans (show _ = (some t47).bind (fun t => NUB 160 cc 4 8 (SKP cc t.1, t.2)) from (by rw [h47.y (by omega)])); first | exact RES.f (by omega) (hro.trans (NUB.z (s := (SKP cc t47.1, t47.2)) (by show ¬ (48 ≤ cc (SKP cc t47.1) ∧ cc (SKP cc t47.1) ≤ 57); rw [← hx56]; exact hnd59 (by omega)))) | exact ((h69.nb (a' := 4) (b' := 8) (by omega) (by omega)).x (by omega)).b hro, by (try simp only [z_r0_0, z_r0_2, z_r0_0_0, z_r0_0_1]); first | omega | (simp only [e80, e81, e82, e84, k0_r0_3, k0_r0_4, k0_r0_5, k0_r0_0_2, and_true, true_and] <;> omega), by (try simp only [z_r0_0, z_r0_2, z_r0_0_0, z_r0_0_1]); intro h9; first | omega | (simp only [e80, e81, e82, e84, k0_r0_3, k0_r0_4, k0_r0_5, k0_r0_0_2, and_true, true_and] <;> omega), by (try simp only [z_r0_0, z_r0_2, z_r0_0_0, z_r0_0_1]); first | omega | (simp only [e80, e81, e82, e84, k0_r0_3, k0_r0_4, k0_r0_5, k0_r0_0_2, and_true, true_and] <;> omega), hI77, (by (try simp only [z_r0_0, z_r0_2, z_r0_0_0, z_r0_0_1]); exact (Chg.cons (Chg.up S4 (List.forall_mem_cons.mpr ⟨List.mem_of_getElem? (i := 0) rfl, fun _ h => nomatch h⟩)) (Chg.cons (Chg.up S14 (List.forall_mem_cons.mpr ⟨List.mem_of_getElem? (i := 0) rfl, fun _ h => nomatch h⟩)) (Chg.cons (Chg.up S22 (List.forall_mem_cons.mpr ⟨List.mem_of_getElem? (i := 0) rfl, List.forall_mem_cons.mpr ⟨List.mem_of_getElem? (i := 1) rfl, List.forall_mem_cons.mpr ⟨List.mem_of_getElem? (i := 2) rfl, List.forall_mem_cons.mpr ⟨List.mem_of_getElem? (i := 3) rfl, fun _ h => nomatch h⟩⟩⟩⟩)) (Chg.cons (Chg.up S36 (List.forall_mem_cons.mpr ⟨List.mem_of_getElem? (i := 0) rfl, fun _ h => nomatch h⟩)) (Chg.cons (Chg.up S51 (List.forall_mem_cons.mpr ⟨List.mem_of_getElem? (i := 0) rfl, List.forall_mem_cons.mpr ⟨List.mem_of_getElem? (i := 1) rfl, List.forall_mem_cons.mpr ⟨List.mem_of_getElem? (i := 2) rfl, List.forall_mem_cons.mpr ⟨List.mem_of_getElem? (i := 3) rfl, fun _ h => nomatch h⟩⟩⟩⟩)) (Chg.cons (Chg.up S65 (List.forall_mem_cons.mpr ⟨List.mem_of_getElem? (i := 0) rfl, fun _ h => nomatch h⟩)) (Chg.mono (Chg.up S79 (List.forall_mem_cons.mpr ⟨List.mem_of_getElem? (i := 0) rfl, fun _ h => nomatch h⟩)) (by decide)) (by decide)) (by decide)) (by decide)) (by decide)) (by decide)) (by decide)))⟩
      refine k_aload_n C rfl rfl rfl ?_
      refine z_iconst C (z := 4) rfl rfl rfl (fun x88 ex88 => ?_)
      refine z_bipush C (z := 8) rfl rfl rfl (fun x89 ex89 => ?_)
      have c69 : RCH R I77 r0 = cc := (RCH.mv (Chg.at ((Chg.cons (Chg.up S4 (List.forall_mem_cons.mpr ⟨List.mem_of_getElem? (i := 0) rfl, fun _ h => nomatch h⟩)) (Chg.cons (Chg.up S14 (List.forall_mem_cons.mpr ⟨List.mem_of_getElem? (i := 0) rfl, fun _ h => nomatch h⟩)) (Chg.cons (Chg.up S22 (List.forall_mem_cons.mpr ⟨List.mem_of_getElem? (i := 0) rfl, List.forall_mem_cons.mpr ⟨List.mem_of_getElem? (i := 1) rfl, List.forall_mem_cons.mpr ⟨List.mem_of_getElem? (i := 2) rfl, List.forall_mem_cons.mpr ⟨List.mem_of_getElem? (i := 3) rfl, fun _ h => nomatch h⟩⟩⟩⟩)) (Chg.cons (Chg.up S36 (List.forall_mem_cons.mpr ⟨List.mem_of_getElem? (i := 0) rfl, fun _ h => nomatch h⟩)) (Chg.cons (Chg.up S51 (List.forall_mem_cons.mpr ⟨List.mem_of_getElem? (i := 0) rfl, List.forall_mem_cons.mpr ⟨List.mem_of_getElem? (i := 1) rfl, List.forall_mem_cons.mpr ⟨List.mem_of_getElem? (i := 2) rfl, List.forall_mem_cons.mpr ⟨List.mem_of_getElem? (i := 3) rfl, fun _ h => nomatch h⟩⟩⟩⟩)) (Chg.cons (Chg.up S65 (List.forall_mem_cons.mpr ⟨List.mem_of_getElem? (i := 0) rfl, fun _ h => nomatch h⟩)) (Chg.mono (Chg.up S79 (List.forall_mem_cons.mpr ⟨List.mem_of_getElem? (i := 0) rfl, fun _ h => nomatch h⟩)) (by decide)) (by decide)) (by decide)) (by decide)) (by decide)) (by decide)) (by decide)) : Chg (SL [r0, r0_0, r0_0_0, r0_0_1]) T [(5, 4), (5, 5), (8, 2)] I L I77 L78) (nm_4 (t_nq T_r0_2 T_r0 (by decide)) (t_nq T_r0_2 T_r0_0 (by decide)) (by first | exact nq20 | exact fun e => nq20 e.symm) (by first | exact nq21 | exact fun e => nq21 e.symm))) e80 k0_r0_3 z_r0_2).trans hcc
      refine c_VI C (s_X4_readNumber_x hS hI77 H_r0 (by omega) (by omega) hU (by (try simp only [z_r0_0, z_r0_2, z_r0_0_0, z_r0_0_1]); first | omega | (simp only [e80, e81, e82, e84, and_true, true_and, or_true, true_or, and_false, false_and, or_false, false_or] <;> omega)) (by (try simp only [z_r0_0, z_r0_2, z_r0_0_0, z_r0_0_1]); first | omega | (simp only [e80, e81, e82, e84, and_true, true_and, or_true, true_or, and_false, false_and, or_false, false_or] <;> omega)) (by (try simp only [z_r0_0, z_r0_2, z_r0_0_0, z_r0_0_1]); first | omega | (simp only [e80, e81, e82, e84, and_true, true_and, or_true, true_or, and_false, false_and, or_false, false_or] <;> omega)) (by (try simp only [z_r0_0, z_r0_2, z_r0_0_0, z_r0_0_1]); first | omega | (simp only [e80, e81, e82, e84, and_true, true_and, or_true, true_or, and_false, false_and, or_false, false_or] <;> omega)) (by (try simp only [z_r0_0, z_r0_2, z_r0_0_0, z_r0_0_1]); first | omega | (simp only [e80, e81, e82, e84, and_true, true_and, or_true, true_or, and_false, false_and, or_false, false_or] <;> omega)) (by (try simp only [z_r0_0, z_r0_2, z_r0_0_0, z_r0_0_1]); first | omega | (simp only [e80, e81, e82, e84, and_true, true_and, or_true, true_or, and_false, false_and, or_false, false_or] <;> omega)) (by rw [c69, hs56]; show 48 ≤ cc (SKP cc t47.1) ∧ cc (SKP cc t47.1) ≤ 57; rw [← hx56]; exact hd59 (by omega))) rfl rfl rfl rfl rfl ⟨_, rfl, rfl, T_r0, Nat.le_of_ble_eq_true rfl⟩ rfl rfl (Nat.le_of_ble_eq_true rfl) (Nat.le_of_ble_eq_true rfl) (Nat.le_of_ble_eq_true rfl) ?_
      rintro x90 I91 L92 ⟨o0x90, o1x90, p0x90, p1x90, p2x90, p3x90, hI91, S93⟩
      try simp only [z_r0_0, z_r0_2, z_r0_0_0, z_r0_0_1] at S93
      have e94 := Chg.k S93 T_r0 (by decide) (by decide) e80
      have e95 := Chg.k S93 T_r0 (by decide) (by decide) e81
      have gx90 := rg x90
      obtain ⟨x96, e97⟩ : ∃ x, I91 r0 4 = x := ⟨_, rfl⟩
      have gx96 := rg x96
      obtain ⟨x98, e99⟩ : ∃ x, I91 r0 5 = x := ⟨_, rfl⟩
      have gx98 := rg x98
      obtain ⟨x100, e101⟩ : ∃ x, I91 r0_0 2 = x := ⟨_, rfl⟩
      have gx100 := rg x100
      try simp only [z_r0_0, z_r0_2, z_r0_0_0, z_r0_0_1] at p0x90
      try simp only [z_r0_0, z_r0_2, z_r0_0_0, z_r0_0_1] at p1x90
      try simp only [z_r0_0, z_r0_2, z_r0_0_0, z_r0_0_1] at p2x90
      try simp only [z_r0_0, z_r0_2, z_r0_0_0, z_r0_0_1] at p3x90
      try simp only [e80, e81, e82, e84, e97, e99, e101] at p0x90
      try have q0x90 := congrArg Int32.toInt p0x90
      try simp only [e80, e81, e82, e84, e97, e99, e101] at p1x90
      try have q1x90 := congrArg Int32.toInt p1x90
      try simp only [e80, e81, e82, e84, e97, e99, e101] at p2x90
      try have q2x90 := congrArg Int32.toInt p2x90
      try simp only [e80, e81, e82, e84, e97, e99, e101] at p3x90
      try have q3x90 := congrArg Int32.toInt p3x90
      have h69 := p0x90; rw [c69, hs56] at h69
      refine b_if_eq C (t := 79) rfl rfl rfl (fun c102 => ?_) (fun c102 => ?_)
      · skip
        refine z_iconst C (z := 0) rfl rfl rfl (fun x103 ex103 => ?_)
        exact k_iret C rfl (Or.inr ⟨rfl, z01 (by omega) (by omega)⟩) (Nat.le_of_ble_eq_true rfl) (Nat.le_of_ble_eq_true rfl) ⟨_, _, _, rfl, rfl, by omega, by omega, by (try simp only [z_r0_0, z_r0_2, z_r0_0_0, z_r0_0_1]); rw [hcc, hs0]; have hro := (ROV.y (show s0.2.1 < 40 from by omega) (h21.y (by omega)) (h30.y (by omega)) (h38.y (by omega))).trans (show _ = (some t47).bind (fun t => NUB 160 cc 4 8 (SKP cc t.1, t.2)) from (by rw [h47.y (by omega)])); first | exact RES.f (by omega) (hro.trans (NUB.z (s := (SKP cc t47.1, t47.2)) (by show ¬ (48 ≤ cc (SKP cc t47.1) ∧ cc (SKP cc t47.1) ≤ 57); rw [← hx56]; exact hnd59 (by omega)))) | exact ((h69.nb (a' := 4) (b' := 8) (by omega) (by omega)).x (by omega)).b hro, by (try simp only [z_r0_0, z_r0_2, z_r0_0_0, z_r0_0_1]); first | omega | (simp only [e94, e99, e97, e101, k0_r0_3, k0_r0_4, k0_r0_5, k0_r0_0_2, and_true, true_and] <;> omega), by (try simp only [z_r0_0, z_r0_2, z_r0_0_0, z_r0_0_1]); intro h9; first | omega | (simp only [e94, e99, e97, e101, k0_r0_3, k0_r0_4, k0_r0_5, k0_r0_0_2, and_true, true_and] <;> omega), by (try simp only [z_r0_0, z_r0_2, z_r0_0_0, z_r0_0_1]); first | omega | (simp only [e94, e99, e97, e101, k0_r0_3, k0_r0_4, k0_r0_5, k0_r0_0_2, and_true, true_and] <;> omega), hI91, (by (try simp only [z_r0_0, z_r0_2, z_r0_0_0, z_r0_0_1]); exact (Chg.cons (Chg.up S4 (List.forall_mem_cons.mpr ⟨List.mem_of_getElem? (i := 0) rfl, fun _ h => nomatch h⟩)) (Chg.cons (Chg.up S14 (List.forall_mem_cons.mpr ⟨List.mem_of_getElem? (i := 0) rfl, fun _ h => nomatch h⟩)) (Chg.cons (Chg.up S22 (List.forall_mem_cons.mpr ⟨List.mem_of_getElem? (i := 0) rfl, List.forall_mem_cons.mpr ⟨List.mem_of_getElem? (i := 1) rfl, List.forall_mem_cons.mpr ⟨List.mem_of_getElem? (i := 2) rfl, List.forall_mem_cons.mpr ⟨List.mem_of_getElem? (i := 3) rfl, fun _ h => nomatch h⟩⟩⟩⟩)) (Chg.cons (Chg.up S36 (List.forall_mem_cons.mpr ⟨List.mem_of_getElem? (i := 0) rfl, fun _ h => nomatch h⟩)) (Chg.cons (Chg.up S51 (List.forall_mem_cons.mpr ⟨List.mem_of_getElem? (i := 0) rfl, List.forall_mem_cons.mpr ⟨List.mem_of_getElem? (i := 1) rfl, List.forall_mem_cons.mpr ⟨List.mem_of_getElem? (i := 2) rfl, List.forall_mem_cons.mpr ⟨List.mem_of_getElem? (i := 3) rfl, fun _ h => nomatch h⟩⟩⟩⟩)) (Chg.cons (Chg.up S65 (List.forall_mem_cons.mpr ⟨List.mem_of_getElem? (i := 0) rfl, fun _ h => nomatch h⟩)) (Chg.cons (Chg.up S79 (List.forall_mem_cons.mpr ⟨List.mem_of_getElem? (i := 0) rfl, fun _ h => nomatch h⟩)) (Chg.mono (Chg.up S93 (List.forall_mem_cons.mpr ⟨List.mem_of_getElem? (i := 0) rfl, List.forall_mem_cons.mpr ⟨List.mem_of_getElem? (i := 1) rfl, List.forall_mem_cons.mpr ⟨List.mem_of_getElem? (i := 2) rfl, List.forall_mem_cons.mpr ⟨List.mem_of_getElem? (i := 3) rfl, fun _ h => nomatch h⟩⟩⟩⟩)) (by decide)) (by decide)) (by decide)) (by decide)) (by decide)) (by decide)) (by decide)) (by decide)))⟩
      refine z_iconst C (z := 1) rfl rfl rfl (fun x104 ex104 => ?_)
      refine k_goto C (pc2 := 80) rfl rfl ?_
      exact k_iret C rfl (Or.inr ⟨rfl, z01 (by omega) (by omega)⟩) (Nat.le_of_ble_eq_true rfl) (Nat.le_of_ble_eq_true rfl) ⟨_, _, _, rfl, rfl, by omega, by omega, by (try simp only [z_r0_0, z_r0_2, z_r0_0_0, z_r0_0_1]); rw [hcc, hs0]; have hro := (ROV.y (show s0.2.1 < 40 from by omega) (h21.y (by omega)) (h30.y (by omega)) (h38.y (by omega))).trans (show _ = (some t47).bind (fun t => NUB 160 cc 4 8 (SKP cc t.1, t.2)) from (by rw [h47.y (by omega)])); first | exact RES.f (by omega) (hro.trans (NUB.z (s := (SKP cc t47.1, t47.2)) (by show ¬ (48 ≤ cc (SKP cc t47.1) ∧ cc (SKP cc t47.1) ≤ 57); rw [← hx56]; exact hnd59 (by omega)))) | exact ((h69.nb (a' := 4) (b' := 8) (by omega) (by omega)).x (by omega)).b hro, by (try simp only [z_r0_0, z_r0_2, z_r0_0_0, z_r0_0_1]); first | omega | (simp only [e94, e99, e97, e101, k0_r0_3, k0_r0_4, k0_r0_5, k0_r0_0_2, and_true, true_and] <;> omega), by (try simp only [z_r0_0, z_r0_2, z_r0_0_0, z_r0_0_1]); intro h9; first | omega | (simp only [e94, e99, e97, e101, k0_r0_3, k0_r0_4, k0_r0_5, k0_r0_0_2, and_true, true_and] <;> omega), by (try simp only [z_r0_0, z_r0_2, z_r0_0_0, z_r0_0_1]); first | omega | (simp only [e94, e99, e97, e101, k0_r0_3, k0_r0_4, k0_r0_5, k0_r0_0_2, and_true, true_and] <;> omega), hI91, (by (try simp only [z_r0_0, z_r0_2, z_r0_0_0, z_r0_0_1]); exact (Chg.cons (Chg.up S4 (List.forall_mem_cons.mpr ⟨List.mem_of_getElem? (i := 0) rfl, fun _ h => nomatch h⟩)) (Chg.cons (Chg.up S14 (List.forall_mem_cons.mpr ⟨List.mem_of_getElem? (i := 0) rfl, fun _ h => nomatch h⟩)) (Chg.cons (Chg.up S22 (List.forall_mem_cons.mpr ⟨List.mem_of_getElem? (i := 0) rfl, List.forall_mem_cons.mpr ⟨List.mem_of_getElem? (i := 1) rfl, List.forall_mem_cons.mpr ⟨List.mem_of_getElem? (i := 2) rfl, List.forall_mem_cons.mpr ⟨List.mem_of_getElem? (i := 3) rfl, fun _ h => nomatch h⟩⟩⟩⟩)) (Chg.cons (Chg.up S36 (List.forall_mem_cons.mpr ⟨List.mem_of_getElem? (i := 0) rfl, fun _ h => nomatch h⟩)) (Chg.cons (Chg.up S51 (List.forall_mem_cons.mpr ⟨List.mem_of_getElem? (i := 0) rfl, List.forall_mem_cons.mpr ⟨List.mem_of_getElem? (i := 1) rfl, List.forall_mem_cons.mpr ⟨List.mem_of_getElem? (i := 2) rfl, List.forall_mem_cons.mpr ⟨List.mem_of_getElem? (i := 3) rfl, fun _ h => nomatch h⟩⟩⟩⟩)) (Chg.cons (Chg.up S65 (List.forall_mem_cons.mpr ⟨List.mem_of_getElem? (i := 0) rfl, fun _ h => nomatch h⟩)) (Chg.cons (Chg.up S79 (List.forall_mem_cons.mpr ⟨List.mem_of_getElem? (i := 0) rfl, fun _ h => nomatch h⟩)) (Chg.mono (Chg.up S93 (List.forall_mem_cons.mpr ⟨List.mem_of_getElem? (i := 0) rfl, List.forall_mem_cons.mpr ⟨List.mem_of_getElem? (i := 1) rfl, List.forall_mem_cons.mpr ⟨List.mem_of_getElem? (i := 2) rfl, List.forall_mem_cons.mpr ⟨List.mem_of_getElem? (i := 3) rfl, fun _ h => nomatch h⟩⟩⟩⟩)) (by decide)) (by decide)) (by decide)) (by decide)) (by decide)) (by decide)) (by decide)) (by decide)))⟩
    refine z_iconst C (z := 0) rfl rfl rfl (fun x105 ex105 => ?_)
    exact k_iret C rfl (Or.inr ⟨rfl, z01 (by omega) (by omega)⟩) (Nat.le_of_ble_eq_true rfl) (Nat.le_of_ble_eq_true rfl) ⟨_, _, _, rfl, rfl, by omega, by omega, by (try simp only [z_r0_0, z_r0_2, z_r0_0_0, z_r0_0_1]); rw [hcc, hs0]; first | exact RES.f (by omega) (ROV.n1 (show s0.2.1 < 40 from by omega) (h21.no (by omega))) | exact RES.f (by omega) (ROV.n2 (show s0.2.1 < 40 from by omega) (h21.y (by omega)) (h30.no (by omega))) | exact RES.f (by omega) (ROV.n3 (show s0.2.1 < 40 from by omega) (h21.y (by omega)) (h30.y (by omega)) (h38.no (by omega))) | exact RES.f (by omega) ((ROV.y (show s0.2.1 < 40 from by omega) (h21.y (by omega)) (h30.y (by omega)) (h38.y (by omega))).trans (by rw [h47.no (by omega)]; rfl)), by (try simp only [z_r0_0, z_r0_2, z_r0_0_0, z_r0_0_1]); first | omega | (simp only [e66, e72, e74, e70, k0_r0_3, k0_r0_4, k0_r0_5, k0_r0_0_2, and_true, true_and] <;> omega), by (try simp only [z_r0_0, z_r0_2, z_r0_0_0, z_r0_0_1]); intro h9; first | omega | (simp only [e66, e72, e74, e70, k0_r0_3, k0_r0_4, k0_r0_5, k0_r0_0_2, and_true, true_and] <;> omega), by (try simp only [z_r0_0, z_r0_2, z_r0_0_0, z_r0_0_1]); first | omega | (simp only [e66, e72, e74, e70, k0_r0_3, k0_r0_4, k0_r0_5, k0_r0_0_2, and_true, true_and] <;> omega), hI63, (by (try simp only [z_r0_0, z_r0_2, z_r0_0_0, z_r0_0_1]); exact (Chg.cons (Chg.up S4 (List.forall_mem_cons.mpr ⟨List.mem_of_getElem? (i := 0) rfl, fun _ h => nomatch h⟩)) (Chg.cons (Chg.up S14 (List.forall_mem_cons.mpr ⟨List.mem_of_getElem? (i := 0) rfl, fun _ h => nomatch h⟩)) (Chg.cons (Chg.up S22 (List.forall_mem_cons.mpr ⟨List.mem_of_getElem? (i := 0) rfl, List.forall_mem_cons.mpr ⟨List.mem_of_getElem? (i := 1) rfl, List.forall_mem_cons.mpr ⟨List.mem_of_getElem? (i := 2) rfl, List.forall_mem_cons.mpr ⟨List.mem_of_getElem? (i := 3) rfl, fun _ h => nomatch h⟩⟩⟩⟩)) (Chg.cons (Chg.up S36 (List.forall_mem_cons.mpr ⟨List.mem_of_getElem? (i := 0) rfl, fun _ h => nomatch h⟩)) (Chg.cons (Chg.up S51 (List.forall_mem_cons.mpr ⟨List.mem_of_getElem? (i := 0) rfl, List.forall_mem_cons.mpr ⟨List.mem_of_getElem? (i := 1) rfl, List.forall_mem_cons.mpr ⟨List.mem_of_getElem? (i := 2) rfl, List.forall_mem_cons.mpr ⟨List.mem_of_getElem? (i := 3) rfl, fun _ h => nomatch h⟩⟩⟩⟩)) (Chg.mono (Chg.up S65 (List.forall_mem_cons.mpr ⟨List.mem_of_getElem? (i := 0) rfl, fun _ h => nomatch h⟩)) (by decide)) (by decide)) (by decide)) (by decide)) (by decide)) (by decide)))⟩
  refine z_iconst C (z := 0) rfl rfl rfl (fun x106 ex106 => ?_)
  exact k_iret C rfl (Or.inr ⟨rfl, z01 (by omega) (by omega)⟩) (Nat.le_of_ble_eq_true rfl) (Nat.le_of_ble_eq_true rfl) ⟨_, _, _, rfl, rfl, by omega, by omega, by (try simp only [z_r0_0, z_r0_2, z_r0_0_0, z_r0_0_1]); rw [hcc, hs0]; exact RES.f (by omega) (ROV.n0 (by omega)), by (try simp only [z_r0_0, z_r0_2, z_r0_0_0, z_r0_0_1]); first | omega | (simp only [e5, e6, e7, e9, k0_r0_3, k0_r0_4, k0_r0_5, k0_r0_0_2, and_true, true_and] <;> omega), by (try simp only [z_r0_0, z_r0_2, z_r0_0_0, z_r0_0_1]); intro h9; first | omega | (simp only [e5, e6, e7, e9, k0_r0_3, k0_r0_4, k0_r0_5, k0_r0_0_2, and_true, true_and] <;> omega), by (try simp only [z_r0_0, z_r0_2, z_r0_0_0, z_r0_0_1]); first | omega | (simp only [e5, e6, e7, e9, k0_r0_3, k0_r0_4, k0_r0_5, k0_r0_0_2, and_true, true_and] <;> omega), hI2, (by (try simp only [z_r0_0, z_r0_2, z_r0_0_0, z_r0_0_1]); exact (Chg.mono (Chg.up S4 (List.forall_mem_cons.mpr ⟨List.mem_of_getElem? (i := 0) rfl, fun _ h => nomatch h⟩)) (by decide)))⟩

def CS_Part (e : Nat) (l : Int) (m : Nat) : Prop := ∀ {T N : Nat → Nat} {I : IT} {L : LT} {R : RT} {A B : Nat → Prop} {r0 : Nat} {n1 : Int32} (hS : SUB B A) (hI : IX A T I) (H_r0 : (hs_Rd T N R A B) r0) (b0_n1 : l ≤ n1.toInt) (b1_n1 : n1.toInt ≤ l) (hU : UPR T R) (hp0 : 0 ≤ (I r0 4).toInt) (hp1 : (I r0 4).toInt ≤ (I r0 3).toInt) (hp2 : (I r0 3).toInt ≤ 400) (hp3 : 0 ≤ (I r0 5).toInt) (hp4 : (I r0 5).toInt ≤ 40) (hp5 : 0 ≤ (I (rA R r0 0) 2).toInt ∧ (I (rA R r0 0) 2).toInt ≤ 160), Ex e 71 [.ref r0, .int n1] (T, N, I, L, R) 0 0 (pI T N R (fun x9 I9 L9 => (0 ≤ x9.toInt) ∧ (x9.toInt ≤ 1) ∧ (RES x9.toInt (RPT 160 (RCH R I r0) m (RDT R I r0)) (RDT R I9 r0)) ∧ (0 ≤ (I9 (rA R r0 0) 2).toInt ∧ (I9 (rA R r0 0) 2).toInt ≤ 160) ∧ (x9.toInt = 1 → (I9 r0 4).toInt ≤ (I r0 3).toInt ∧ (I r0 5).toInt ≤ (I9 r0 5).toInt ∧ (I9 r0 5).toInt ≤ 40) ∧ (0 ≤ (I9 r0 4).toInt ∧ 0 ≤ (I9 r0 5).toInt) ∧ (IX A T I9 ∧ Chg (SL [r0, (rA R r0 0), (rA R (rA R r0 0) 0), (rA R (rA R r0 0) 1)]) T [(5, 4), (5, 5), (8, 2)] I L I9 L9)))
def CS_Product (e : Nat) (l : Int) (m : Nat) : Prop := ∀ {T N : Nat → Nat} {I : IT} {L : LT} {R : RT} {A B : Nat → Prop} {r0 : Nat} {n1 : Int32} (hS : SUB B A) (hI : IX A T I) (H_r0 : (hs_Rd T N R A B) r0) (b0_n1 : l ≤ n1.toInt) (b1_n1 : n1.toInt ≤ l) (hU : UPR T R) (hp0 : 0 ≤ (I r0 4).toInt) (hp1 : (I r0 4).toInt ≤ (I r0 3).toInt) (hp2 : (I r0 3).toInt ≤ 400) (hp3 : 0 ≤ (I r0 5).toInt) (hp4 : (I r0 5).toInt ≤ 40) (hp5 : 0 ≤ (I (rA R r0 0) 2).toInt ∧ (I (rA R r0 0) 2).toInt ≤ 160), Ex e 72 [.ref r0, .int n1] (T, N, I, L, R) 0 0 (pI T N R (fun x9 I9 L9 => (0 ≤ x9.toInt) ∧ (x9.toInt ≤ 1) ∧ (RES x9.toInt (RPR 160 (RCH R I r0) (RPT 160 (RCH R I r0) m) (RDT R I r0)) (RDT R I9 r0)) ∧ (0 ≤ (I9 (rA R r0 0) 2).toInt ∧ (I9 (rA R r0 0) 2).toInt ≤ 160) ∧ (x9.toInt = 1 → (I9 r0 4).toInt ≤ (I r0 3).toInt ∧ (I r0 5).toInt ≤ (I9 r0 5).toInt ∧ (I9 r0 5).toInt ≤ 40) ∧ (0 ≤ (I9 r0 4).toInt ∧ 0 ≤ (I9 r0 5).toInt) ∧ (IX A T I9 ∧ Chg (SL [r0, (rA R r0 0), (rA R (rA R r0 0) 0), (rA R (rA R r0 0) 1)]) T [(5, 4), (5, 5), (8, 2)] I L I9 L9)))
def CS_Sum (e : Nat) (l : Int) (m : Nat) : Prop := ∀ {T N : Nat → Nat} {I : IT} {L : LT} {R : RT} {A B : Nat → Prop} {r0 : Nat} {n1 : Int32} (hS : SUB B A) (hI : IX A T I) (H_r0 : (hs_Rd T N R A B) r0) (b0_n1 : l ≤ n1.toInt) (b1_n1 : n1.toInt ≤ l) (hU : UPR T R) (hp0 : 0 ≤ (I r0 4).toInt) (hp1 : (I r0 4).toInt ≤ (I r0 3).toInt) (hp2 : (I r0 3).toInt ≤ 400) (hp3 : 0 ≤ (I r0 5).toInt) (hp4 : (I r0 5).toInt ≤ 40) (hp5 : 0 ≤ (I (rA R r0 0) 2).toInt ∧ (I (rA R r0 0) 2).toInt ≤ 160), Ex e 73 [.ref r0, .int n1] (T, N, I, L, R) 0 0 (pI T N R (fun x9 I9 L9 => (0 ≤ x9.toInt) ∧ (x9.toInt ≤ 1) ∧ (RES x9.toInt (RSU 160 (RCH R I r0) (RPT 160 (RCH R I r0) m) (RDT R I r0)) (RDT R I9 r0)) ∧ (0 ≤ (I9 (rA R r0 0) 2).toInt ∧ (I9 (rA R r0 0) 2).toInt ≤ 160) ∧ (x9.toInt = 1 → (I9 r0 4).toInt ≤ (I r0 3).toInt ∧ (I r0 5).toInt ≤ (I9 r0 5).toInt ∧ (I9 r0 5).toInt ≤ 40) ∧ (0 ≤ (I9 r0 4).toInt ∧ 0 ≤ (I9 r0 5).toInt) ∧ (IX A T I9 ∧ Chg (SL [r0, (rA R r0 0), (rA R (rA R r0 0) 0), (rA R (rA R r0 0) 1)]) T [(5, 4), (5, 5), (8, 2)] I L I9 L9)))
def CS_Overlap (e : Nat) (l : Int) (m : Nat) : Prop := ∀ {T N : Nat → Nat} {I : IT} {L : LT} {R : RT} {A B : Nat → Prop} {r0 : Nat} {n1 : Int32} (hS : SUB B A) (hI : IX A T I) (H_r0 : (hs_Rd T N R A B) r0) (b0_n1 : l ≤ n1.toInt) (b1_n1 : n1.toInt ≤ l) (hU : UPR T R) (hp0 : 0 ≤ (I r0 4).toInt) (hp1 : (I r0 4).toInt ≤ (I r0 3).toInt) (hp2 : (I r0 3).toInt ≤ 400) (hp3 : 0 ≤ (I r0 5).toInt) (hp4 : (I r0 5).toInt ≤ 40) (hp5 : 0 ≤ (I (rA R r0 0) 2).toInt ∧ (I (rA R r0 0) 2).toInt ≤ 160) (hp6 : (I r0 4).toInt < (I r0 3).toInt), Ex e 70 [.ref r0, .int n1] (T, N, I, L, R) 0 0 (pI T N R (fun x9 I9 L9 => (0 ≤ x9.toInt) ∧ (x9.toInt ≤ 1) ∧ (RES x9.toInt (ROV 160 (RCH R I r0) (RSU 160 (RCH R I r0) (RPT 160 (RCH R I r0) m)) (RDT R I r0)) (RDT R I9 r0)) ∧ (0 ≤ (I9 (rA R r0 0) 2).toInt ∧ (I9 (rA R r0 0) 2).toInt ≤ 160) ∧ (x9.toInt = 1 → (I9 r0 4).toInt ≤ (I r0 3).toInt ∧ (I r0 5).toInt ≤ (I9 r0 5).toInt ∧ (I9 r0 5).toInt ≤ 40) ∧ (0 ≤ (I9 r0 4).toInt ∧ 0 ≤ (I9 r0 5).toInt) ∧ (IX A T I9 ∧ Chg (SL [r0, (rA R r0 0), (rA R (rA R r0 0) 0), (rA R (rA R r0 0) 1)]) T [(5, 4), (5, 5), (8, 2)] I L I9 L9)))
