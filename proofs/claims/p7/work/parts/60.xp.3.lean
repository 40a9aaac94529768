/-! on -/
theorem s_X4_readOverlap_5_x {d : Nat} {T N : Nat → Nat} {I : IT} {L : LT} {R : RT} {A B : Nat → Prop} {r0 : Nat} {n1 : Int32} (hS : SUB B A) (hI : IX A T I) (H_r0 : (hs_Rd T N R A B) r0) (b0_n1 : 5 ≤ n1.toInt) (b1_n1 : n1.toInt ≤ 5) (hU : UPR T R) (hp0 : 0 ≤ (I r0 4).toInt) (hp1 : (I r0 4).toInt ≤ (I r0 3).toInt) (hp2 : (I r0 3).toInt ≤ 400) (hp3 : 0 ≤ (I r0 5).toInt) (hp4 : (I r0 5).toInt ≤ 40) (hp5 : 0 ≤ (I (rA R r0 0) 2).toInt ∧ (I (rA R r0 0) 2).toInt ≤ 160) (hp6 : (I r0 4).toInt < (I r0 3).toInt) : Ex (d + 10) 70 [.ref r0, .int n1] (T, N, I, L, R) 0 0 (pI T N R (fun x9 I9 L9 => (0 ≤ x9.toInt) ∧ (x9.toInt ≤ 1) ∧ (RES x9.toInt (ROV 160 (RCH R I r0) (RSU 160 (RCH R I r0) (RPT 160 (RCH R I r0) 1)) (RDT R I r0)) (RDT R I9 r0)) ∧ (0 ≤ (I9 (rA R r0 0) 2).toInt ∧ (I9 (rA R r0 0) 2).toInt ≤ 160) ∧ (x9.toInt = 1 → (I9 r0 4).toInt ≤ (I r0 3).toInt ∧ (I r0 5).toInt ≤ (I9 r0 5).toInt ∧ (I9 r0 5).toInt ≤ 40) ∧ (0 ≤ (I9 r0 4).toInt ∧ 0 ≤ (I9 r0 5).toInt) ∧ (IX A T I9 ∧ Chg (SL [r0, (rA R r0 0), (rA R (rA R r0 0) 0), (rA R (rA R r0 0) 1)]) T [(5, 4), (5, 5), (8, 2)] I L I9 L9))) := by
  refine ⟨_, rfl, Nat.le_of_ble_eq_true rfl, fun V C S => ?_⟩
  show V 0 [(0, .ref r0), (1, .int n1)] [] (T, N, I, L, R) 0 0
  have gn1 := rg n1
  obtain ⟨T_r0, A_r0, B_r0, ⟨r0_0, R_r0_0, H_r0_0⟩, ⟨r0_2, R_r0_2, H_r0_2⟩⟩ := id H_r0
  have z_r0_0 : rA R r0 0 = r0_0 := rA_e R_r0_0
  have z_r0_2 : rA R r0 2 = r0_2 := rA_e R_r0_2
  obtain ⟨T_r0_0, A_r0_0, B_r0_0, ⟨r0_0_0, R_r0_0_0, H_r0_0_0⟩, ⟨r0_0_1, R_r0_0_1, H_r0_0_1⟩⟩ := id H_r0_0
  have z_r0_0_0 : rA R r0_0 0 = r0_0_0 := rA_e R_r0_0_0
  have z_r0_0_1 : rA R r0_0 1 = r0_0_1 := rA_e R_r0_0_1
  obtain ⟨T_r0_2, N_r0_2, A_r0_2⟩ := id H_r0_2
  obtain ⟨T_r0_0_0, N_r0_0_0, A_r0_0_0⟩ := id H_r0_0_0
  obtain ⟨T_r0_0_1, N_r0_0_1, A_r0_0_1⟩ := id H_r0_0_1
  have nq20 : NQ8 r0_2 r0_0_0 := hU.ne (t20 T_r0_2) R_r0_2 R_r0_0_0 (Or.inl (t_nq T_r0 T_r0_0 (by decide)))
  have nq21 : NQ8 r0_2 r0_0_1 := hU.ne (t20 T_r0_2) R_r0_2 R_r0_0_1 (Or.inl (t_nq T_r0 T_r0_0 (by decide)))
  have nq01 : NQ8 r0_0_0 r0_0_1 := hU.ne (t20 T_r0_0_0) R_r0_0_0 R_r0_0_1 (Or.inr (by decide))
  try simp only [z_r0_0, z_r0_2, z_r0_0_0, z_r0_0_1] at hp0
  try simp only [z_r0_0, z_r0_2, z_r0_0_0, z_r0_0_1] at hp1
  try simp only [z_r0_0, z_r0_2, z_r0_0_0, z_r0_0_1] at hp2
  try simp only [z_r0_0, z_r0_2, z_r0_0_0, z_r0_0_1] at hp3
  try simp only [z_r0_0, z_r0_2, z_r0_0_0, z_r0_0_1] at hp4
  try simp only [z_r0_0, z_r0_2, z_r0_0_0, z_r0_0_1] at hp5
  try simp only [z_r0_0, z_r0_2, z_r0_0_0, z_r0_0_1] at hp6
  obtain ⟨w_r0_3, k0_r0_3⟩ : ∃ x, I r0 3 = x := ⟨_, rfl⟩
  have gw_r0_3 := rg w_r0_3
  obtain ⟨w_r0_4, k0_r0_4⟩ : ∃ x, I r0 4 = x := ⟨_, rfl⟩
  have gw_r0_4 := rg w_r0_4
  obtain ⟨w_r0_5, k0_r0_5⟩ : ∃ x, I r0 5 = x := ⟨_, rfl⟩
  have gw_r0_5 := rg w_r0_5
  obtain ⟨w_r0_0_2, k0_r0_0_2⟩ : ∃ x, I r0_0 2 = x := ⟨_, rfl⟩
  have gw_r0_0_2 := rg w_r0_0_2
  try simp only [k0_r0_3, k0_r0_4, k0_r0_5, k0_r0_0_2] at hp0
  try simp only [k0_r0_3, k0_r0_4, k0_r0_5, k0_r0_0_2] at hp1
  try simp only [k0_r0_3, k0_r0_4, k0_r0_5, k0_r0_0_2] at hp2
  try simp only [k0_r0_3, k0_r0_4, k0_r0_5, k0_r0_0_2] at hp3
  try simp only [k0_r0_3, k0_r0_4, k0_r0_5, k0_r0_0_2] at hp4
  try simp only [k0_r0_3, k0_r0_4, k0_r0_5, k0_r0_0_2] at hp5
  try simp only [k0_r0_3, k0_r0_4, k0_r0_5, k0_r0_0_2] at hp6
  obtain ⟨cc, hcc⟩ : ∃ c, RCH R I r0 = c := ⟨_, rfl⟩
  have hc40 : C40 cc := by rw [← hcc]; exact RCH.c40 (by rw [k0_r0_3]; omega)
  obtain ⟨s0, hs0⟩ : ∃ s, RDT R I r0 = s := ⟨_, rfl⟩
  have hp0 := RDT.c1 hs0 k0_r0_4 (by omega)
  have ht0 := RDT.c2 hs0 k0_r0_5 (by omega)
  refine k_aload_n C rfl rfl rfl ?_
  refine c_VI C (s_X4_isThingMore_x hS hI H_r0 (by (try simp only [z_r0_0, z_r0_2, z_r0_0_0, z_r0_0_1]); first | omega | (simp only [k0_r0_3, k0_r0_4, k0_r0_5, k0_r0_0_2, and_true, true_and, or_true, true_or, and_false, false_and, or_false, false_or] <;> omega)) (by (try simp only [z_r0_0, z_r0_2, z_r0_0_0, z_r0_0_1]); first | omega | (simp only [k0_r0_3, k0_r0_4, k0_r0_5, k0_r0_0_2, and_true, true_and, or_true, true_or, and_false, false_and, or_false, false_or] <;> omega))) rfl rfl rfl rfl rfl ⟨_, rfl, rfl, T_r0, Nat.le_of_ble_eq_true rfl⟩ rfl rfl (Nat.le_of_ble_eq_true rfl) (Nat.le_of_ble_eq_true rfl) (Nat.le_of_ble_eq_true rfl) ?_
  rintro x1 I2 L3 ⟨o0x1, o1x1, p0x1, p1x1, p2x1, p3x1, hI2, S4⟩
  try simp only [z_r0_0, z_r0_2, z_r0_0_0, z_r0_0_1] at S4
  have e5 := Chg.k S4 T_r0 (by decide) (by decide) k0_r0_3
  have e6 := Chg.k S4 T_r0 (by decide) (by decide) k0_r0_4
  have e7 := Chg.k S4 T_r0_0 (by decide) (by decide) k0_r0_0_2
  have gx1 := rg x1
  obtain ⟨x8, e9⟩ : ∃ x, I2 r0 5 = x := ⟨_, rfl⟩
  have gx8 := rg x8
  try simp only [z_r0_0, z_r0_2, z_r0_0_0, z_r0_0_1] at p0x1
  try simp only [z_r0_0, z_r0_2, z_r0_0_0, z_r0_0_1] at p1x1
  try simp only [z_r0_0, z_r0_2, z_r0_0_0, z_r0_0_1] at p2x1
  try simp only [z_r0_0, z_r0_2, z_r0_0_0, z_r0_0_1] at p3x1
  try simp only [k0_r0_3, k0_r0_4, k0_r0_5, k0_r0_0_2, e9] at p0x1
  try have q0x1 := congrArg Int32.toInt p0x1
  try simp only [k0_r0_3, k0_r0_4, k0_r0_5, k0_r0_0_2, e9] at p1x1
  try have q1x1 := congrArg Int32.toInt p1x1
  try simp only [k0_r0_3, k0_r0_4, k0_r0_5, k0_r0_0_2, e9] at p2x1
  try have q2x1 := congrArg Int32.toInt p2x1
  try simp only [k0_r0_3, k0_r0_4, k0_r0_5, k0_r0_0_2, e9] at p3x1
  try have q3x1 := congrArg Int32.toInt p3x1
  have hs1 := p0x1; rw [hs0] at hs1; have hy1 := p1x1; have hn1 := p2x1
  refine b_if_ne C (t := 9) rfl rfl rfl (fun c10 => ?_) (fun c10 => ?_)
  · skip
    refine k_aload_n C rfl rfl rfl ?_
    refine k_dup C rfl rfl rfl ?_
    refine g_I C rfl rfl rfl T_r0 rfl e6 ?_
    refine z_iconst C (z := 1) rfl rfl rfl (fun x11 ex11 => ?_)
    refine z_iadd C rfl rfl ⟨by omega, by omega⟩ (fun x12 ex12 => ?_)
    refine z_pI C rfl rfl rfl T_r0 (Or.inr rfl) rfl (fun I13 uI13 => ?_)
    have hI13 : IX A T I13 := IX.f hI2 T_r0 (boX.tr (by decide) (by decide)) uI13
    have S14 : Chg (SL [r0]) T [(5, 4)] I2 L3 I13 L3 := Chg.f List.mem_cons_self T_r0 uI13
    have e15 := u2_j uI13 (by decide) e5
    have e16 := u2_j uI13 (by decide) e7
    have e17 := u2_j uI13 (by decide) e9
    have e18 := u2_e uI13
    have hq16 := uI13
    refine k_aload_n C rfl rfl rfl ?_
    refine k_iload_n C rfl rfl rfl ?_
    have hs16 := (RDT.nx (I1 := I13) hs1 z_r0_0 (p := s0.1 + 1) (by rw [hq16, u2_k (by decide)]) (STL.fr z_r0_0_0 z_r0_0_1 (by rw [hq16, u2_r (t_nq T_r0_0 T_r0 (by decide))]) (by rw [hq16, u2_r (t_nq T_r0_0_0 T_r0 (by decide))]) (by rw [hq16, u2_r (t_nq T_r0_0_1 T_r0 (by decide))])) (by rw [e18]; omega))
    have c21 : RCH R I13 r0 = cc := (RCH.mv (Chg.at ((Chg.cons (Chg.up S4 (List.forall_mem_cons.mpr ⟨List.mem_of_getElem? (i := 0) rfl, fun _ h => nomatch h⟩)) (Chg.mono (Chg.up S14 (List.forall_mem_cons.mpr ⟨List.mem_of_getElem? (i := 0) rfl, fun _ h => nomatch h⟩)) (by decide)) (by decide)) : Chg (SL [r0, r0_0, r0_0_0, r0_0_1]) T [(5, 4), (5, 5), (8, 2)] I L I13 L3) (nm_4 (t_nq T_r0_2 T_r0 (by decide)) (t_nq T_r0_2 T_r0_0 (by decide)) (by first | exact nq20 | exact fun e => nq20 e.symm) (by first | exact nq21 | exact fun e => nq21 e.symm))) e15 k0_r0_3 z_r0_2).trans hcc
    refine c_VI C (s_X4_readSum_5_x hS hI13 H_r0 (by omega) (by omega) hU (by (try simp only [z_r0_0, z_r0_2, z_r0_0_0, z_r0_0_1]); first | omega | (simp only [e15, e16, e17, e18, and_true, true_and, or_true, true_or, and_false, false_and, or_false, false_or] <;> omega)) (by (try simp only [z_r0_0, z_r0_2, z_r0_0_0, z_r0_0_1]); first | omega | (simp only [e15, e16, e17, e18, and_true, true_and, or_true, true_or, and_false, false_and, or_false, false_or] <;> omega)) (by (try simp only [z_r0_0, z_r0_2, z_r0_0_0, z_r0_0_1]); first | omega | (simp only [e15, e16, e17, e18, and_true, true_and, or_true, true_or, and_false, false_and, or_false, false_or] <;> omega)) (by (try simp only [z_r0_0, z_r0_2, z_r0_0_0, z_r0_0_1]); first | omega | (simp only [e15, e16, e17, e18, and_true, true_and, or_true, true_or, and_false, false_and, or_false, false_or] <;> omega)) (by (try simp only [z_r0_0, z_r0_2, z_r0_0_0, z_r0_0_1]); first | omega | (simp only [e15, e16, e17, e18, and_true, true_and, or_true, true_or, and_false, false_and, or_false, false_or] <;> omega)) (by (try simp only [z_r0_0, z_r0_2, z_r0_0_0, z_r0_0_1]); first | omega | (simp only [e15, e16, e17, e18, and_true, true_and, or_true, true_or, and_false, false_and, or_false, false_or] <;> omega))) rfl rfl rfl rfl rfl ⟨_, rfl, rfl, T_r0, Nat.le_of_ble_eq_true rfl⟩ rfl rfl (Nat.le_of_ble_eq_true rfl) (Nat.le_of_ble_eq_true rfl) (Nat.le_of_ble_eq_true rfl) ?_
    rintro x19 I20 L21 ⟨o0x19, o1x19, p0x19, p1x19, p2x19, p3x19, hI20, S22⟩
    try simp only [z_r0_0, z_r0_2, z_r0_0_0, z_r0_0_1] at S22
    have e23 := Chg.k S22 T_r0 (by decide) (by decide) e15
    have gx19 := rg x19
    obtain ⟨x24, e25⟩ : ∃ x, I20 r0 4 = x := ⟨_, rfl⟩
    have gx24 := rg x24
    obtain ⟨x26, e27⟩ : ∃ x, I20 r0 5 = x := ⟨_, rfl⟩
    have gx26 := rg x26
    obtain ⟨x28, e29⟩ : ∃ x, I20 r0_0 2 = x := ⟨_, rfl⟩
    have gx28 := rg x28
    try simp only [z_r0_0, z_r0_2, z_r0_0_0, z_r0_0_1] at p0x19
    try simp only [z_r0_0, z_r0_2, z_r0_0_0, z_r0_0_1] at p1x19
    try simp only [z_r0_0, z_r0_2, z_r0_0_0, z_r0_0_1] at p2x19
    try simp only [z_r0_0, z_r0_2, z_r0_0_0, z_r0_0_1] at p3x19
    try simp only [e15, e16, e17, e18, e25, e27, e29] at p0x19
    try have q0x19 := congrArg Int32.toInt p0x19
    try simp only [e15, e16, e17, e18, e25, e27, e29] at p1x19
    try have q1x19 := congrArg Int32.toInt p1x19
    try simp only [e15, e16, e17, e18, e25, e27, e29] at p2x19
    try have q2x19 := congrArg Int32.toInt p2x19
    try simp only [e15, e16, e17, e18, e25, e27, e29] at p3x19
    try have q3x19 := congrArg Int32.toInt p3x19
    have h21 := p0x19; rw [c21, hs16] at h21; obtain ⟨t21, ht21⟩ : ∃ t, RDT R I20 r0 = t := ⟨_, rfl⟩; rw [ht21] at h21
    refine b_if_eq C (t := 53) rfl rfl rfl (fun c30 => ?_) (fun c30 => ?_)
    · skip
      refine z_iconst C (z := 0) rfl rfl rfl (fun x31 ex31 => ?_)
      exact k_iret C rfl (Or.inr ⟨rfl, z01 (by omega) (by omega)⟩) (Nat.le_of_ble_eq_true rfl) (Nat.le_of_ble_eq_true rfl) ⟨_, _, _, rfl, rfl, by omega, by omega, by (try simp only [z_r0_0, z_r0_2, z_r0_0_0, z_r0_0_1]); rw [hcc, hs0]; first | exact RES.f (by omega) (ROV.n1 (show s0.2.1 < 40 from by omega) (h21.no (by omega))) | exact RES.f (by omega) (ROV.n2 (show s0.2.1 < 40 from by omega) (h21.y (by omega)) (h30.no (by omega))) | exact RES.f (by omega) (ROV.n3 (show s0.2.1 < 40 from by omega) (h21.y (by omega)) (h30.y (by omega)) (h38.no (by omega))) | exact RES.f (by omega) ((ROV.y (show s0.2.1 < 40 from by omega) (h21.y (by omega)) (h30.y (by omega)) (h38.y (by omega))).trans (by rw [h47.no (by omega)]; rfl)), by (try simp only [z_r0_0, z_r0_2, z_r0_0_0, z_r0_0_1]); first | omega | (simp only [e23, e25, e27, e29, k0_r0_3, k0_r0_4, k0_r0_5, k0_r0_0_2, and_true, true_and] <;> omega), by (try simp only [z_r0_0, z_r0_2, z_r0_0_0, z_r0_0_1]); intro h9; first | omega | (simp only [e23, e25, e27, e29, k0_r0_3, k0_r0_4, k0_r0_5, k0_r0_0_2, and_true, true_and] <;> omega), by (try simp only [z_r0_0, z_r0_2, z_r0_0_0, z_r0_0_1]); first | omega | (simp only [e23, e25, e27, e29, k0_r0_3, k0_r0_4, k0_r0_5, k0_r0_0_2, and_true, true_and] <;> omega), hI20, (by (try simp only [z_r0_0, z_r0_2, z_r0_0_0, z_r0_0_1]); exact (Chg.cons (Chg.up S4 (List.forall_mem_cons.mpr ⟨List.mem_of_getElem? (i := 0) rfl, fun _ h => nomatch h⟩)) (Chg.cons (Chg.up S14 (List.forall_mem_cons.mpr ⟨List.mem_of_getElem? (i := 0) rfl, fun _ h => nomatch h⟩)) (Chg.mono (Chg.up S22 (List.forall_mem_cons.mpr ⟨List.mem_of_getElem? (i := 0) rfl, List.forall_mem_cons.mpr ⟨List.mem_of_getElem? (i := 1) rfl, List.forall_mem_cons.mpr ⟨List.mem_of_getElem? (i := 2) rfl, List.forall_mem_cons.mpr ⟨List.mem_of_getElem? (i := 3) rfl, fun _ h => nomatch h⟩⟩⟩⟩)) (by decide)) (by decide)) (by decide)))⟩
    refine k_aload_n C rfl rfl rfl ?_
    refine z_bipush C (z := 44) rfl rfl rfl (fun x32 ex32 => ?_)
    have c30 : RCH R I20 r0 = cc := (RCH.mv (Chg.at ((Chg.cons (Chg.up S4 (List.forall_mem_cons.mpr ⟨List.mem_of_getElem? (i := 0) rfl, fun _ h => nomatch h⟩)) (Chg.cons (Chg.up S14 (List.forall_mem_cons.mpr ⟨List.mem_of_getElem? (i := 0) rfl, fun _ h => nomatch h⟩)) (Chg.mono (Chg.up S22 (List.forall_mem_cons.mpr ⟨List.mem_of_getElem? (i := 0) rfl, List.forall_mem_cons.mpr ⟨List.mem_of_getElem? (i := 1) rfl, List.forall_mem_cons.mpr ⟨List.mem_of_getElem? (i := 2) rfl, List.forall_mem_cons.mpr ⟨List.mem_of_getElem? (i := 3) rfl, fun _ h => nomatch h⟩⟩⟩⟩)) (by decide)) (by decide)) (by decide)) : Chg (SL [r0, r0_0, r0_0_0, r0_0_1]) T [(5, 4), (5, 5), (8, 2)] I L I20 L21) (nm_4 (t_nq T_r0_2 T_r0 (by decide)) (t_nq T_r0_2 T_r0_0 (by decide)) (by first | exact nq20 | exact fun e => nq20 e.symm) (by first | exact nq21 | exact fun e => nq21 e.symm))) e23 k0_r0_3 z_r0_2).trans hcc
    refine c_VI C (s_X4_take_x hS hI20 H_r0 (by omega) (by omega) hU (by (try simp only [z_r0_0, z_r0_2, z_r0_0_0, z_r0_0_1]); first | omega | (simp only [e23, e25, e27, e29, and_true, true_and, or_true, true_or, and_false, false_and, or_false, false_or] <;> omega)) (by (try simp only [z_r0_0, z_r0_2, z_r0_0_0, z_r0_0_1]); first | omega | (simp only [e23, e25, e27, e29, and_true, true_and, or_true, true_or, and_false, false_and, or_false, false_or] <;> omega)) (by (try simp only [z_r0_0, z_r0_2, z_r0_0_0, z_r0_0_1]); first | omega | (simp only [e23, e25, e27, e29, and_true, true_and, or_true, true_or, and_false, false_and, or_false, false_or] <;> omega)) (by (try simp only [z_r0_0, z_r0_2, z_r0_0_0, z_r0_0_1]); first | omega | (simp only [e23, e25, e27, e29, and_true, true_and, or_true, true_or, and_false, false_and, or_false, false_or] <;> omega)) (by (try simp only [z_r0_0, z_r0_2, z_r0_0_0, z_r0_0_1]); first | omega | (simp only [e23, e25, e27, e29, and_true, true_and, or_true, true_or, and_false, false_and, or_false, false_or] <;> omega)) (by (try simp only [z_r0_0, z_r0_2, z_r0_0_0, z_r0_0_1]); first | omega | (simp only [e23, e25, e27, e29, and_true, true_and, or_true, true_or, and_false, false_and, or_false, false_or] <;> omega))) rfl rfl rfl rfl rfl ⟨_, rfl, rfl, T_r0, Nat.le_of_ble_eq_true rfl⟩ rfl rfl (Nat.le_of_ble_eq_true rfl) (Nat.le_of_ble_eq_true rfl) (Nat.le_of_ble_eq_true rfl) ?_
    rintro x33 I34 L35 ⟨o0x33, o1x33, p0x33, p1x33, p2x33, p3x33, hI34, S36⟩
    try simp only [z_r0_0, z_r0_2, z_r0_0_0, z_r0_0_1] at S36
    have e37 := Chg.k S36 T_r0 (by decide) (by decide) e23
    have e38 := Chg.k S36 T_r0 (by decide) (by decide) e27
    have e39 := Chg.k S36 T_r0_0 (by decide) (by decide) e29
    have gx33 := rg x33
    obtain ⟨x40, e41⟩ : ∃ x, I34 r0 4 = x := ⟨_, rfl⟩
    have gx40 := rg x40
    obtain ⟨x42, e43⟩ : ∃ x, I34 r0 5 = x := ⟨_, rfl⟩
    have gx42 := rg x42
    obtain ⟨x44, e45⟩ : ∃ x, I34 r0_0 2 = x := ⟨_, rfl⟩
    have gx44 := rg x44
    try simp only [z_r0_0, z_r0_2, z_r0_0_0, z_r0_0_1] at p0x33
    try simp only [z_r0_0, z_r0_2, z_r0_0_0, z_r0_0_1] at p1x33
    try simp only [z_r0_0, z_r0_2, z_r0_0_0, z_r0_0_1] at p2x33
    try simp only [z_r0_0, z_r0_2, z_r0_0_0, z_r0_0_1] at p3x33
    try simp only [e23, e25, e27, e29, e41, e43, e45] at p0x33
    try have q0x33 := congrArg Int32.toInt p0x33
    try simp only [e23, e25, e27, e29, e41, e43, e45] at p1x33
    try have q1x33 := congrArg Int32.toInt p1x33
    try simp only [e23, e25, e27, e29, e41, e43, e45] at p2x33
    try have q2x33 := congrArg Int32.toInt p2x33
    try simp only [e23, e25, e27, e29, e41, e43, e45] at p3x33
    try have q3x33 := congrArg Int32.toInt p3x33
    have h30 := p0x33; rw [c30, ht21] at h30; have h30 := h30.tk (b := 44) (by omega); obtain ⟨t30, ht30⟩ : ∃ t, RDT R I34 r0 = t := ⟨_, rfl⟩; rw [ht30] at h30
    refine b_if_eq C (t := 53) rfl rfl rfl (fun c46 => ?_) (fun c46 => ?_)
    · skip
      refine z_iconst C (z := 0) rfl rfl rfl (fun x47 ex47 => ?_)
      exact k_iret C rfl (Or.inr ⟨rfl, z01 (by omega) (by omega)⟩) (Nat.le_of_ble_eq_true rfl) (Nat.le_of_ble_eq_true rfl) ⟨_, _, _, rfl, rfl, by omega, by omega, by (try simp only [z_r0_0, z_r0_2, z_r0_0_0, z_r0_0_1]); rw [hcc, hs0]; first | exact RES.f (by omega) (ROV.n1 (show s0.2.1 < 40 from by omega) (h21.no (by omega))) | exact RES.f (by omega) (ROV.n2 (show s0.2.1 < 40 from by omega) (h21.y (by omega)) (h30.no (by omega))) | exact RES.f (by omega) (ROV.n3 (show s0.2.1 < 40 from by omega) (h21.y (by omega)) (h30.y (by omega)) (h38.no (by omega))) | exact RES.f (by omega) ((ROV.y (show s0.2.1 < 40 from by omega) (h21.y (by omega)) (h30.y (by omega)) (h38.y (by omega))).trans (by rw [h47.no (by omega)]; rfl)), by (try simp only [z_r0_0, z_r0_2, z_r0_0_0, z_r0_0_1]); first | omega | (simp only [e37, e43, e45, e41, k0_r0_3, k0_r0_4, k0_r0_5, k0_r0_0_2, and_true, true_and] <;> omega), by (try simp only [z_r0_0, z_r0_2, z_r0_0_0, z_r0_0_1]); intro h9; first | omega | (simp only [e37, e43, e45, e41, k0_r0_3, k0_r0_4, k0_r0_5, k0_r0_0_2, and_true, true_and] <;> omega), by (try simp only [z_r0_0, z_r0_2, z_r0_0_0, z_r0_0_1]); first | omega | (simp only [e37, e43, e45, e41, k0_r0_3, k0_r0_4, k0_r0_5, k0_r0_0_2, and_true, true_and] <;> omega), hI34, (by (try simp only [z_r0_0, z_r0_2, z_r0_0_0, z_r0_0_1]); exact (Chg.cons (Chg.up S4 (List.forall_mem_cons.mpr ⟨List.mem_of_getElem? (i := 0) rfl, fun _ h => nomatch h⟩)) (Chg.cons (Chg.up S14 (List.forall_mem_cons.mpr ⟨List.mem_of_getElem? (i := 0) rfl, fun _ h => nomatch h⟩)) (Chg.cons (Chg.up S22 (List.forall_mem_cons.mpr ⟨List.mem_of_getElem? (i := 0) rfl, List.forall_mem_cons.mpr ⟨List.mem_of_getElem? (i := 1) rfl, List.forall_mem_cons.mpr ⟨List.mem_of_getElem? (i := 2) rfl, List.forall_mem_cons.mpr ⟨List.mem_of_getElem? (i := 3) rfl, fun _ h => nomatch h⟩⟩⟩⟩)) (Chg.mono (Chg.up S36 (List.forall_mem_cons.mpr ⟨List.mem_of_getElem? (i := 0) rfl, fun _ h => nomatch h⟩)) (by decide)) (by decide)) (by decide)) (by decide)))⟩
    refine k_aload_n C rfl rfl rfl ?_
    refine k_iload_n C rfl rfl rfl ?_
    have c38 : RCH R I34 r0 = cc := (RCH.mv (Chg.at ((Chg.cons (Chg.up S4 (List.forall_mem_cons.mpr ⟨List.mem_of_getElem? (i := 0) rfl, fun _ h => nomatch h⟩)) (Chg.cons (Chg.up S14 (List.forall_mem_cons.mpr ⟨List.mem_of_getElem? (i := 0) rfl, fun _ h => nomatch h⟩)) (Chg.cons (Chg.up S22 (List.forall_mem_cons.mpr ⟨List.mem_of_getElem? (i := 0) rfl, List.forall_mem_cons.mpr ⟨List.mem_of_getElem? (i := 1) rfl, List.forall_mem_cons.mpr ⟨List.mem_of_getElem? (i := 2) rfl, List.forall_mem_cons.mpr ⟨List.mem_of_getElem? (i := 3) rfl, fun _ h => nomatch h⟩⟩⟩⟩)) (Chg.mono (Chg.up S36 (List.forall_mem_cons.mpr ⟨List.mem_of_getElem? (i := 0) rfl, fun _ h => nomatch h⟩)) (by decide)) (by decide)) (by decide)) (by decide)) : Chg (SL [r0, r0_0, r0_0_0, r0_0_1]) T [(5, 4), (5, 5), (8, 2)] I L I34 L35) (nm_4 (t_nq T_r0_2 T_r0 (by decide)) (t_nq T_r0_2 T_r0_0 (by decide)) (by first | exact nq20 | exact fun e => nq20 e.symm) (by first | exact nq21 | exact fun e => nq21 e.symm))) e37 k0_r0_3 z_r0_2).trans hcc
    refine c_VI C (s_X4_readSum_5_x hS hI34 H_r0 (by omega) (by omega) hU (by (try simp only [z_r0_0, z_r0_2, z_r0_0_0, z_r0_0_1]); first | omega | (simp only [e37, e43, e45, e41, and_true, true_and, or_true, true_or, and_false, false_and, or_false, false_or] <;> omega)) (by (try simp only [z_r0_0, z_r0_2, z_r0_0_0, z_r0_0_1]); first | omega | (simp only [e37, e43, e45, e41, and_true, true_and, or_true, true_or, and_false, false_and, or_false, false_or] <;> omega)) (by (try simp only [z_r0_0, z_r0_2, z_r0_0_0, z_r0_0_1]); first | omega | (simp only [e37, e43, e45, e41, and_true, true_and, or_true, true_or, and_false, false_and, or_false, false_or] <;> omega)) (by (try simp only [z_r0_0, z_r0_2, z_r0_0_0, z_r0_0_1]); first | omega | (simp only [e37, e43, e45, e41, and_true, true_and, or_true, true_or, and_false, false_and, or_false, false_or] <;> omega)) (by (try simp only [z_r0_0, z_r0_2, z_r0_0_0, z_r0_0_1]); first | omega | (simp only [e37, e43, e45, e41, and_true, true_and, or_true, true_or, and_false, false_and, or_false, false_or] <;> omega)) (by (try simp only [z_r0_0, z_r0_2, z_r0_0_0, z_r0_0_1]); first | omega | (simp only [e37, e43, e45, e41, and_true, true_and, or_true, true_or, and_false, false_and, or_false, false_or] <;> omega))) rfl rfl rfl rfl rfl ⟨_, rfl, rfl, T_r0, Nat.le_of_ble_eq_true rfl⟩ rfl rfl (Nat.le_of_ble_eq_true rfl) (Nat.le_of_ble_eq_true rfl) (Nat.le_of_ble_eq_true rfl) ?_
    rintro x48 I49 L50 ⟨o0x48, o1x48, p0x48, p1x48, p2x48, p3x48, hI49, S51⟩
    try simp only [z_r0_0, z_r0_2, z_r0_0_0, z_r0_0_1] at S51
    have e52 := Chg.k S51 T_r0 (by decide) (by decide) e37
    have gx48 := rg x48
    obtain ⟨x53, e54⟩ : ∃ x, I49 r0 4 = x := ⟨_, rfl⟩
    have gx53 := rg x53
    obtain ⟨x55, e56⟩ : ∃ x, I49 r0 5 = x := ⟨_, rfl⟩
    have gx55 := rg x55
    obtain ⟨x57, e58⟩ : ∃ x, I49 r0_0 2 = x := ⟨_, rfl⟩
    have gx57 := rg x57
    try simp only [z_r0_0, z_r0_2, z_r0_0_0, z_r0_0_1] at p0x48
    try simp only [z_r0_0, z_r0_2, z_r0_0_0, z_r0_0_1] at p1x48
    try simp only [z_r0_0, z_r0_2, z_r0_0_0, z_r0_0_1] at p2x48
    try simp only [z_r0_0, z_r0_2, z_r0_0_0, z_r0_0_1] at p3x48
    try simp only [e37, e43, e45, e41, e54, e56, e58] at p0x48
    try have q0x48 := congrArg Int32.toInt p0x48
    try simp only [e37, e43, e45, e41, e54, e56, e58] at p1x48
    try have q1x48 := congrArg Int32.toInt p1x48
    try simp only [e37, e43, e45, e41, e54, e56, e58] at p2x48
    try have q2x48 := congrArg Int32.toInt p2x48
    try simp only [e37, e43, e45, e41, e54, e56, e58] at p3x48
    try have q3x48 := congrArg Int32.toInt p3x48
    have h38 := p0x48; rw [c38, ht30] at h38; obtain ⟨t38, ht38⟩ : ∃ t, RDT R I49 r0 = t := ⟨_, rfl⟩; rw [ht38] at h38
    refine b_if_eq C (t := 53) rfl rfl rfl (fun c59 => ?_) (fun c59 => ?_)
    · skip
      refine z_iconst C (z := 0) rfl rfl rfl (fun x60 ex60 => ?_)
      exact k_iret C rfl (Or.inr ⟨rfl, z01 (by omega) (by omega)⟩) (Nat.le_of_ble_eq_true rfl) (Nat.le_of_ble_eq_true rfl) ⟨_, _, _, rfl, rfl, by omega, by omega, by (try simp only [z_r0_0, z_r0_2, z_r0_0_0, z_r0_0_1]); rw [hcc, hs0]; first | exact RES.f (by omega) (ROV.n1 (show s0.2.1 < 40 from by omega) (h21.no (by omega))) | exact RES.f (by omega) (ROV.n2 (show s0.2.1 < 40 from by omega) (h21.y (by omega)) (h30.no (by omega))) | exact RES.f (by omega) (ROV.n3 (show s0.2.1 < 40 from by omega) (h21.y (by omega)) (h30.y (by omega)) (h38.no (by omega))) | exact RES.f (by omega) ((ROV.y (show s0.2.1 < 40 from by omega) (h21.y (by omega)) (h30.y (by omega)) (h38.y (by omega))).trans (by rw [h47.no (by omega)]; rfl)), by (try simp only [z_r0_0, z_r0_2, z_r0_0_0, z_r0_0_1]); first | omega | (simp only [e52, e54, e56, e58, k0_r0_3, k0_r0_4, k0_r0_5, k0_r0_0_2, and_true, true_and] <;> omega), by (try simp only [z_r0_0, z_r0_2, z_r0_0_0, z_r0_0_1]); intro h9; first | omega | (simp only [e52, e54, e56, e58, k0_r0_3, k0_r0_4, k0_r0_5, k0_r0_0_2, and_true, true_and] <;> omega), by (try simp only [z_r0_0, z_r0_2, z_r0_0_0, z_r0_0_1]); first | omega | (simp only [e52, e54, e56, e58, k0_r0_3, k0_r0_4, k0_r0_5, k0_r0_0_2, and_true, true_and] <;> omega), hI49, (by (try simp only [z_r0_0, z_r0_2, z_r0_0_0, z_r0_0_1]); exact (Chg.cons (Chg.up S4 (List.forall_mem_cons.mpr ⟨List.mem_of_getElem? (i := 0) rfl, fun _ h => nomatch h⟩)) (Chg.cons (Chg.up S14 (List.forall_mem_cons.mpr ⟨List.mem_of_getElem? (i := 0) rfl, fun _ h => nomatch h⟩)) (Chg.cons (Chg.up S22 (List.forall_mem_cons.mpr ⟨List.mem_of_getElem? (i := 0) rfl, List.forall_mem_cons.mpr ⟨List.mem_of_getElem? (i := 1) rfl, List.forall_mem_cons.mpr ⟨List.mem_of_getElem? (i := 2) rfl, List.forall_mem_cons.mpr ⟨List.mem_of_getElem? (i := 3) rfl, fun _ h => nomatch h⟩⟩⟩⟩)) (Chg.cons (Chg.up S36 (List.forall_mem_cons.mpr ⟨List.mem_of_getElem? (i := 0) rfl, fun _ h => nomatch h⟩)) (Chg.mono (Chg.up S51 (List.forall_mem_cons.mpr ⟨List.mem_of_getElem? (i := 0) rfl, List.forall_mem_cons.mpr ⟨List.mem_of_getElem? (i := 1) rfl, List.forall_mem_cons.mpr ⟨List.mem_of_getElem? (i := 2) rfl, List.forall_mem_cons.mpr ⟨List.mem_of_getElem? (i := 3) rfl, fun _ h => nomatch h⟩⟩⟩⟩)) (by decide)) (by decide)) (by decide)) (by decide)) (by decide)))⟩
    refine k_aload_n C rfl rfl rfl ?_
    refine z_bipush C (z := 93) rfl rfl rfl (fun x61 ex61 => ?_)
    have c47 : RCH R I49 r0 = cc := (RCH.mv (Chg.at ((Chg.cons (Chg.up S4 (List.forall_mem_cons.mpr ⟨List.mem_of_getElem? (i := 0) rfl, fun _ h => nomatch h⟩)) (Chg.cons (Chg.up S14 (List.forall_mem_cons.mpr ⟨List.mem_of_getElem? (i := 0) rfl, fun _ h => nomatch h⟩)) (Chg.cons (Chg.up S22 (List.forall_mem_cons.mpr ⟨List.mem_of_getElem? (i := 0) rfl, List.forall_mem_cons.mpr ⟨List.mem_of_getElem? (i := 1) rfl, List.forall_mem_cons.mpr ⟨List.mem_of_getElem? (i := 2) rfl, List.forall_mem_cons.mpr ⟨List.mem_of_getElem? (i := 3) rfl, fun _ h => nomatch h⟩⟩⟩⟩)) (Chg.cons (Chg.up S36 (List.forall_mem_cons.mpr ⟨List.mem_of_getElem? (i := 0) rfl, fun _ h => nomatch h⟩)) (Chg.mono (Chg.up S51 (List.forall_mem_cons.mpr ⟨List.mem_of_getElem? (i := 0) rfl, List.forall_mem_cons.mpr ⟨List.mem_of_getElem? (i := 1) rfl, List.forall_mem_cons.mpr ⟨List.mem_of_getElem? (i := 2) rfl, List.forall_mem_cons.mpr ⟨List.mem_of_getElem? (i := 3) rfl, fun _ h => nomatch h⟩⟩⟩⟩)) (by decide)) (by decide)) (by decide)) (by decide)) (by decide)) : Chg (SL [r0, r0_0, r0_0_0, r0_0_1]) T [(5, 4), (5, 5), (8, 2)] I L I49 L50) (nm_4 (t_nq T_r0_2 T_r0 (by decide)) (t_nq T_r0_2 T_r0_0 (by decide)) (by first | exact nq20 | exact fun e => nq20 e.symm) (by first | exact nq21 | exact fun e => nq21 e.symm))) e52 k0_r0_3 z_r0_2).trans hcc
    refine c_VI C (s_X4_take_x hS hI49 H_r0 (by omega) (by omega) hU (by (try simp only [z_r0_0, z_r0_2, z_r0_0_0, z_r0_0_1]); first | omega | (simp only [e52, e54, e56, e58, and_true, true_and, or_true, true_or, and_false, false_and, or_false, false_or] <;> omega)) (by (try simp only [z_r0_0, z_r0_2, z_r0_0_0, z_r0_0_1]); first | omega | (simp only [e52, e54, e56, e58, and_true, true_and, or_true, true_or, and_false, false_and, or_false, false_or] <;> omega)) (by (try simp only [z_r0_0, z_r0_2, z_r0_0_0, z_r0_0_1]); first | omega | (simp only [e52, e54, e56, e58, and_true, true_and, or_true, true_or, and_false, false_and, or_false, false_or] <;> omega)) (by (try simp only [z_r0_0, z_r0_2, z_r0_0_0, z_r0_0_1]); first | omega | (simp only [e52, e54, e56, e58, and_true, true_and, or_true, true_or, and_false, false_and, or_false, false_or] <;> omega)) (by (try simp only [z_r0_0, z_r0_2, z_r0_0_0, z_r0_0_1]); first | omega | (simp only [e52, e54, e56, e58, and_true, true_and, or_true, true_or, and_false, false_and, or_false, false_or] <;> omega)) (by (try simp only [z_r0_0, z_r0_2, z_r0_0_0, z_r0_0_1]); first | omega | (simp only [e52, e54, e56, e58, and_true, true_and, or_true, true_or, and_false, false_and, or_false, false_or] <;> omega))) rfl rfl rfl rfl rfl ⟨_, rfl, rfl, T_r0, Nat.le_of_ble_eq_true rfl⟩ rfl rfl (Nat.le_of_ble_eq_true rfl) (Nat.le_of_ble_eq_true rfl) (Nat.le_of_ble_eq_true rfl) ?_
    rintro x62 I63 L64 ⟨o0x62, o1x62, p0x62, p1x62, p2x62, p3x62, hI63, S65⟩
    try simp only [z_r0_0, z_r0_2, z_r0_0_0, z_r0_0_1] at S65
    have e66 := Chg.k S65 T_r0 (by decide) (by decide) e52
    have e67 := Chg.k S65 T_r0 (by decide) (by decide) e56
    have e68 := Chg.k S65 T_r0_0 (by decide) (by decide) e58
    have gx62 := rg x62
    obtain ⟨x69, e70⟩ : ∃ x, I63 r0 4 = x := ⟨_, rfl⟩
    have gx69 := rg x69
    obtain ⟨x71, e72⟩ : ∃ x, I63 r0 5 = x := ⟨_, rfl⟩
    have gx71 := rg x71
    obtain ⟨x73, e74⟩ : ∃ x, I63 r0_0 2 = x := ⟨_, rfl⟩
    have gx73 := rg x73
    try simp only [z_r0_0, z_r0_2, z_r0_0_0, z_r0_0_1] at p0x62
    try simp only [z_r0_0, z_r0_2, z_r0_0_0, z_r0_0_1] at p1x62
    try simp only [z_r0_0, z_r0_2, z_r0_0_0, z_r0_0_1] at p2x62
    try simp only [z_r0_0, z_r0_2, z_r0_0_0, z_r0_0_1] at p3x62
    try simp only [e52, e54, e56, e58, e70, e72, e74] at p0x62
    try have q0x62 := congrArg Int32.toInt p0x62
    try simp only [e52, e54, e56, e58, e70, e72, e74] at p1x62
    try have q1x62 := congrArg Int32.toInt p1x62
    try simp only [e52, e54, e56, e58, e70, e72, e74] at p2x62
    try have q2x62 := congrArg Int32.toInt p2x62
    try simp only [e52, e54, e56, e58, e70, e72, e74] at p3x62
    try have q3x62 := congrArg Int32.toInt p3x62
    have h47 := p0x62; rw [c47, ht38] at h47; have h47 := h47.tk (b := 93) (by omega); obtain ⟨t47, ht47⟩ : ∃ t, RDT R I63 r0 = t := ⟨_, rfl⟩; rw [ht47] at h47
    refine b_if_ne C (t := 55) rfl rfl rfl (fun c75 => ?_) (fun c75 => ?_)
    · skip
      refine k_aload_n C rfl rfl rfl ?_
      have c56 : RCH R I63 r0 = cc := (RCH.mv (Chg.at ((Chg.cons (Chg.up S4 (List.forall_mem_cons.mpr ⟨List.mem_of_getElem? (i := 0) rfl, fun _ h => nomatch h⟩)) (Chg.cons (Chg.up S14 (List.forall_mem_cons.mpr ⟨List.mem_of_getElem? (i := 0) rfl, fun _ h => nomatch h⟩)) (Chg.cons (Chg.up S22 (List.forall_mem_cons.mpr ⟨List.mem_of_getElem? (i := 0) rfl, List.forall_mem_cons.mpr ⟨List.mem_of_getElem? (i := 1) rfl, List.forall_mem_cons.mpr ⟨List.mem_of_getElem? (i := 2) rfl, List.forall_mem_cons.mpr ⟨List.mem_of_getElem? (i := 3) rfl, fun _ h => nomatch h⟩⟩⟩⟩)) (Chg.cons (Chg.up S36 (List.forall_mem_cons.mpr ⟨List.mem_of_getElem? (i := 0) rfl, fun _ h => nomatch h⟩)) (Chg.cons (Chg.up S51 (List.forall_mem_cons.mpr ⟨List.mem_of_getElem? (i := 0) rfl, List.forall_mem_cons.mpr ⟨List.mem_of_getElem? (i := 1) rfl, List.forall_mem_cons.mpr ⟨List.mem_of_getElem? (i := 2) rfl, List.forall_mem_cons.mpr ⟨List.mem_of_getElem? (i := 3) rfl, fun _ h => nomatch h⟩⟩⟩⟩)) (Chg.mono (Chg.up S65 (List.forall_mem_cons.mpr ⟨List.mem_of_getElem? (i := 0) rfl, fun _ h => nomatch h⟩)) (by decide)) (by decide)) (by decide)) (by decide)) (by decide)) (by decide)) : Chg (SL [r0, r0_0, r0_0_0, r0_0_1]) T [(5, 4), (5, 5), (8, 2)] I L I63 L64) (nm_4 (t_nq T_r0_2 T_r0 (by decide)) (t_nq T_r0_2 T_r0_0 (by decide)) (by first | exact nq20 | exact fun e => nq20 e.symm) (by first | exact nq21 | exact fun e => nq21 e.symm))) e66 k0_r0_3 z_r0_2).trans hcc
      refine c_VI C (s_X4_next_x hS hI63 H_r0 (by (try simp only [z_r0_0, z_r0_2, z_r0_0_0, z_r0_0_1]); first | omega | (simp only [e66, e72, e74, e70, and_true, true_and, or_true, true_or, and_false, false_and, or_false, false_or] <;> omega)) (by (try simp only [z_r0_0, z_r0_2, z_r0_0_0, z_r0_0_1]); first | omega | (simp only [e66, e72, e74, e70, and_true, true_and, or_true, true_or, and_false, false_and, or_false, false_or] <;> omega)) (by (try simp only [z_r0_0, z_r0_2, z_r0_0_0, z_r0_0_1]); first | omega | (simp only [e66, e72, e74, e70, and_true, true_and, or_true, true_or, and_false, false_and, or_false, false_or] <;> omega)) (by (try simp only [z_r0_0, z_r0_2, z_r0_0_0, z_r0_0_1]); first | omega | (simp only [e66, e72, e74, e70, and_true, true_and, or_true, true_or, and_false, false_and, or_false, false_or] <;> omega))) rfl rfl rfl rfl rfl ⟨_, rfl, rfl, T_r0, Nat.le_of_ble_eq_true rfl⟩ rfl rfl (Nat.le_of_ble_eq_true rfl) (Nat.le_of_ble_eq_true rfl) (Nat.le_of_ble_eq_true rfl) ?_
      rintro x76 I77 L78 ⟨p0x76, p1x76, p2x76, p3x76, hI77, S79⟩
      try simp only [z_r0_0, z_r0_2, z_r0_0_0, z_r0_0_1] at S79
      have e80 := Chg.k S79 T_r0 (by decide) (by decide) e66
      have e81 := Chg.k S79 T_r0 (by decide) (by decide) e72
      have e82 := Chg.k S79 T_r0_0 (by decide) (by decide) e74
      have gx76 := rg x76
      obtain ⟨x83, e84⟩ : ∃ x, I77 r0 4 = x := ⟨_, rfl⟩
      have gx83 := rg x83
      try simp only [z_r0_0, z_r0_2, z_r0_0_0, z_r0_0_1] at p0x76
      try simp only [z_r0_0, z_r0_2, z_r0_0_0, z_r0_0_1] at p1x76
      try simp only [z_r0_0, z_r0_2, z_r0_0_0, z_r0_0_1] at p2x76
      try simp only [z_r0_0, z_r0_2, z_r0_0_0, z_r0_0_1] at p3x76
      try simp only [e66, e72, e74, e70, e84] at p0x76
      try have q0x76 := congrArg Int32.toInt p0x76
      try simp only [e66, e72, e74, e70, e84] at p1x76
      try have q1x76 := congrArg Int32.toInt p1x76
      try simp only [e66, e72, e74, e70, e84] at p2x76
      try have q2x76 := congrArg Int32.toInt p2x76
      try simp only [e66, e72, e74, e70, e84] at p3x76
      try have q3x76 := congrArg Int32.toInt p3x76
      have hx56 := p0x76; have hs56 := p1x76; rw [c56, ht47] at hx56 hs56
      refine c_SI C (s_X4_isDigit_x hS hI77 ) rfl rfl rfl rfl rfl rfl rfl (Nat.le_of_ble_eq_true rfl) (Nat.le_of_ble_eq_true rfl) (Nat.le_of_ble_eq_true rfl) ?_
      rintro x85 _ _ ⟨o0x85, o1x85, p0x85, p1x85, rfl, rfl⟩
      have gx85 := rg x85
      try simp only [z_r0_0, z_r0_2, z_r0_0_0, z_r0_0_1] at p0x85
      try simp only [z_r0_0, z_r0_2, z_r0_0_0, z_r0_0_1] at p1x85
      try simp only [e80, e81, e82, e84] at p0x85
      try have q0x85 := congrArg Int32.toInt p0x85
      try simp only [e80, e81, e82, e84] at p1x85
      try have q1x85 := congrArg Int32.toInt p1x85
      have hd59 := p0x85; have hnd59 := p1x85
      refine b_if_eq C (t := 79) rfl rfl rfl (fun c86 => ?_) (fun c86 => ?_)
      · skip
        refine z_iconst C (z := 0) rfl rfl rfl (fun x87 ex87 => ?_)
        exact k_iret C rfl (Or.inr ⟨rfl, z01 (by omega) (by omega)⟩) (Nat.le_of_ble_eq_true rfl) (Nat.le_of_ble_eq_true rfl) ⟨_, _, _, rfl, rfl, by omega, by omega, by (try simp only [z_r0_0, z_r0_2, z_r0_0_0, z_r0_0_1]); rw [hcc, hs0]; have hro := (ROV.y (show s0.2.1 < 40 from by omega) (h21.y (by omega)) (h30.y (by omega)) (h38.y (by omega))).trans (show _ = (some t47).bind (fun t => NUB 160 cc 4 8 (SKP cc t.1, t.2)) from (by rw [h47.y (by omega)])); first | exact RES.f (by omega) (hro.trans (NUB.z (s := (SKP cc t47.1, t47.2)) (by show ¬ (48 ≤ cc (SKP cc t47.1) ∧ cc (SKP cc t47.1) ≤ 57); rw [← hx56]; exact hnd59 (by omega)))) | exact ((h69.nb (a' := 4) (b' := 8) (by omega) (by omega)).x (by omega)).b hro, by (try simp only [z_r0_0, z_r0_2, z_r0_0_0, z_r0_0_1]); first | omega | (simp only [e80, e81, e82, e84, k0_r0_3, k0_r0_4, k0_r0_5, k0_r0_0_2, and_true, true_and] <;> omega), by (try simp only [z_r0_0, z_r0_2, z_r0_0_0, z_r0_0_1]); intro h9; first | omega | (simp only [e80, e81, e82, e84, k0_r0_3, k0_r0_4, k0_r0_5, k0_r0_0_2, and_true, true_and] <;> omega), by (try simp only [z_r0_0, z_r0_2, z_r0_0_0, z_r0_0_1]); first | omega | (simp only [e80, e81, e82, e84, k0_r0_3, k0_r0_4, k0_r0_5, k0_r0_0_2, and_true, true_and] <;> omega), hI77, (by (try simp only [z_r0_0, z_r0_2, z_r0_0_0, z_r0_0_1]); exact (Chg.cons (Chg.up S4 (List.forall_mem_cons.mpr ⟨List.mem_of_getElem? (i := 0) rfl, fun _ h => nomatch h⟩)) (Chg.cons (Chg.up S14 (List.forall_mem_cons.mpr ⟨List.mem_of_getElem? (i := 0) rfl, fun _ h => nomatch h⟩)) (Chg.cons (Chg.up S22 (List.forall_mem_cons.mpr ⟨List.mem_of_getElem? (i := 0) rfl, List.forall_mem_cons.mpr ⟨List.mem_of_getElem? (i := 1) rfl, List.forall_mem_cons.mpr ⟨List.mem_of_getElem? (i := 2) rfl, List.forall_mem_cons.mpr ⟨List.mem_of_getElem? (i := 3) rfl, fun _ h => nomatch h⟩⟩⟩⟩)) (Chg.cons (Chg.up S36 (List.forall_mem_cons.mpr ⟨List.mem_of_getElem? (i := 0) rfl, fun _ h => nomatch h⟩)) (Chg.cons (Chg.up S51 (List.forall_mem_cons.mpr ⟨List.mem_of_getElem? (i := 0) rfl, List.forall_mem_cons.mpr ⟨List.mem_of_getElem? (i := 1) rfl, List.forall_mem_cons.mpr ⟨List.mem_of_getElem? (i := 2) rfl, List.forall_mem_cons.mpr ⟨List.mem_of_getElem? (i := 3) rfl, fun _ h => nomatch h⟩⟩⟩⟩)) (Chg.cons (Chg.up S65 (List.forall_mem_cons.mpr ⟨List.mem_of_getElem? (i := 0) rfl, fun _ h => nomatch h⟩)) (Chg.mono (Chg.up S79 (List.forall_mem_cons.mpr ⟨List.mem_of_getElem? (i := 0) rfl, fun _ h => nomatch h⟩)) (by decide)) (by decide)) (by decide)) (by decide)) (by decide)) (by decide)) (by decide)))⟩
      refine k_aload_n C rfl rfl rfl ?_
      refine z_iconst C (z := 4) rfl rfl rfl (fun x88 ex88 => ?_)
      refine z_bipush C (z := 8) rfl rfl rfl (fun x89 ex89 => ?_)
      have c69 : RCH R I77 r0 = cc := (RCH.mv (Chg.at ((Chg.cons (Chg.up S4 (List.forall_mem_cons.mpr ⟨List.mem_of_getElem? (i := 0) rfl, fun _ h => nomatch h⟩)) (Chg.cons (Chg.up S14 (List.forall_mem_cons.mpr ⟨List.mem_of_getElem? (i := 0) rfl, fun _ h => nomatch h⟩)) (Chg.cons (Chg.up S22 (List.forall_mem_cons.mpr ⟨List.mem_of_getElem? (i := 0) rfl, List.forall_mem_cons.mpr ⟨List.mem_of_getElem? (i := 1) rfl, List.forall_mem_cons.mpr ⟨List.mem_of_getElem? (i := 2) rfl, List.forall_mem_cons.mpr ⟨List.mem_of_getElem? (i := 3) rfl, fun _ h => nomatch h⟩⟩⟩⟩)) (Chg.cons (Chg.up S36 (List.forall_mem_cons.mpr ⟨List.mem_of_getElem? (i := 0) rfl, fun _ h => nomatch h⟩)) (Chg.cons (Chg.up S51 (List.forall_mem_cons.mpr ⟨List.mem_of_getElem? (i := 0) rfl, List.forall_mem_cons.mpr ⟨List.mem_of_getElem? (i := 1) rfl, List.forall_mem_cons.mpr ⟨List.mem_of_getElem? (i := 2) rfl, List.forall_mem_cons.mpr ⟨List.mem_of_getElem? (i := 3) rfl, fun _ h => nomatch h⟩⟩⟩⟩)) (Chg.cons (Chg.up S65 (List.forall_mem_cons.mpr ⟨List.mem_of_getElem? (i := 0) rfl, fun _ h => nomatch h⟩)) (Chg.mono (Chg.up S79 (List.forall_mem_cons.mpr ⟨List.mem_of_getElem? (i := 0) rfl, fun _ h => nomatch h⟩)) (by decide)) (by decide)) (by decide)) (by decide)) (by decide)) (by decide)) (by decide)) : Chg (SL [r0, r0_0, r0_0_0, r0_0_1]) T [(5, 4), (5, 5), (8, 2)] I L I77 L78) (nm_4 (t_nq T_r0_2 T_r0 (by decide)) (t_nq T_r0_2 T_r0_0 (by decide)) (by first | exact nq20 | exact fun e => nq20 e.symm) (by first | exact nq21 | exact fun e => nq21 e.symm))) e80 k0_r0_3 z_r0_2).trans hcc
      refine c_VI C (s_X4_readNumber_x hS hI77 H_r0 (by omega) (by omega) hU (by (try simp only [z_r0_0, z_r0_2, z_r0_0_0, z_r0_0_1]); first | omega | (simp only [e80, e81, e82, e84, and_true, true_and, or_true, true_or, and_false, false_and, or_false, false_or] <;> omega)) (by (try simp only [z_r0_0, z_r0_2, z_r0_0_0, z_r0_0_1]); first | omega | (simp only [e80, e81, e82, e84, and_true, true_and, or_true, true_or, and_false, false_and, or_false, false_or] <;> omega)) (by (try simp only [z_r0_0, z_r0_2, z_r0_0_0, z_r0_0_1]); first | omega | (simp only [e80, e81, e82, e84, and_true, true_and, or_true, true_or, and_false, false_and, or_false, false_or] <;> omega)) (by (try simp only [z_r0_0, z_r0_2, z_r0_0_0, z_r0_0_1]); first | omega | (simp only [e80, e81, e82, e84, and_true, true_and, or_true, true_or, and_false, false_and, or_false, false_or] <;> omega)) (by (try simp only [z_r0_0, z_r0_2, z_r0_0_0, z_r0_0_1]); first | omega | (simp only [e80, e81, e82, e84, and_true, true_and, or_true, true_or, and_false, false_and, or_false, false_or] <;> omega)) (by (try simp only [z_r0_0, z_r0_2, z_r0_0_0, z_r0_0_1]); first | omega | (simp only [e80, e81, e82, e84, and_true, true_and, or_true, true_or, and_false, false_and, or_false, false_or] <;> omega)) (by rw [c69, hs56]; show 48 ≤ cc (SKP cc t47.1) ∧ cc (SKP cc t47.1) ≤ 57; rw [← hx56]; exact hd59 (by omega))) rfl rfl rfl rfl rfl ⟨_, rfl, rfl, T_r0, Nat.le_of_ble_eq_true rfl⟩ rfl rfl (Nat.le_of_ble_eq_true rfl) (Nat.le_of_ble_eq_true rfl) (Nat.le_of_ble_eq_true rfl) ?_
      rintro x90 I91 L92 ⟨o0x90, o1x90, p0x90, p1x90, p2x90, p3x90, hI91, S93⟩
      try simp only [z_r0_0, z_r0_2, z_r0_0_0, z_r0_0_1] at S93
      have e94 := Chg.k S93 T_r0 (by decide) (by decide) e80
      have e95 := Chg.k S93 T_r0 (by decide) (by decide) e81
      have gx90 := rg x90
      obtain ⟨x96, e97⟩ : ∃ x, I91 r0 4 = x := ⟨_, rfl⟩
      have gx96 := rg x96
      obtain ⟨x98, e99⟩ : ∃ x, I91 r0 5 = x := ⟨_, rfl⟩
      have gx98 := rg x98
      obtain ⟨x100, e101⟩ : ∃ x, I91 r0_0 2 = x := ⟨_, rfl⟩
      have gx100 := rg x100
      try simp only [z_r0_0, z_r0_2, z_r0_0_0, z_r0_0_1] at p0x90
      try simp only [z_r0_0, z_r0_2, z_r0_0_0, z_r0_0_1] at p1x90
      try simp only [z_r0_0, z_r0_2, z_r0_0_0, z_r0_0_1] at p2x90
      try simp only [z_r0_0, z_r0_2, z_r0_0_0, z_r0_0_1] at p3x90
      try simp only [e80, e81, e82, e84, e97, e99, e101] at p0x90
      try have q0x90 := congrArg Int32.toInt p0x90
      try simp only [e80, e81, e82, e84, e97, e99, e101] at p1x90
      try have q1x90 := congrArg Int32.toInt p1x90
      try simp only [e80, e81, e82, e84, e97, e99, e101] at p2x90
      try have q2x90 := congrArg Int32.toInt p2x90
      try simp only [e80, e81, e82, e84, e97, e99, e101] at p3x90
      try have q3x90 := congrArg Int32.toInt p3x90
      have h69 := p0x90; rw [c69, hs56] at h69
      refine b_if_eq C (t := 79) rfl rfl rfl (fun c102 => ?_) (fun c102 => ?_)
      · skip
        refine z_iconst C (z := 0) rfl rfl rfl (fun x103 ex103 => ?_)
        exact k_iret C rfl (Or.inr ⟨rfl, z01 (by omega) (by omega)⟩) (Nat.le_of_ble_eq_true rfl) (Nat.le_of_ble_eq_true rfl) ⟨_, _, _, rfl, rfl, by omega, by omega, by (try simp only [z_r0_0, z_r0_2, z_r0_0_0, z_r0_0_1]); rw [hcc, hs0]; have hro := (ROV.y (show s0.2.1 < 40 from by omega) (h21.y (by omega)) (h30.y (by omega)) (h38.y (by omega))).trans (show _ = (some t47).bind (fun t => NUB 160 cc 4 8 (SKP cc t.1, t.2)) from (by rw [h47.y (by omega)])); first | exact RES.f (by omega) (hro.trans (NUB.z (s := (SKP cc t47.1, t47.2)) (by show ¬ (48 ≤ cc (SKP cc t47.1) ∧ cc (SKP cc t47.1) ≤ 57); rw [← hx56]; exact hnd59 (by omega)))) | exact ((h69.nb (a' := 4) (b' := 8) (by omega) (by omega)).x (by omega)).b hro, by (try simp only [z_r0_0, z_r0_2, z_r0_0_0, z_r0_0_1]); first | omega | (simp only [e94, e99, e97, e101, k0_r0_3, k0_r0_4, k0_r0_5, k0_r0_0_2, and_true, true_and] <;> omega), by (try simp only [z_r0_0, z_r0_2, z_r0_0_0, z_r0_0_1]); intro h9; first | omega | (simp only [e94, e99, e97, e101, k0_r0_3, k0_r0_4, k0_r0_5, k0_r0_0_2, and_true, true_and] <;> omega), by (try simp only [z_r0_0, z_r0_2, z_r0_0_0, z_r0_0_1]); first | omega | (simp only [e94, e99, e97, e101, k0_r0_3, k0_r0_4, k0_r0_5, k0_r0_0_2, and_true, true_and] <;> omega), hI91, (by (try simp only [z_r0_0, z_r0_2, z_r0_0_0, z_r0_0_1]); exact (Chg.cons (Chg.up S4 (List.forall_mem_cons.mpr ⟨List.mem_of_getElem? (i := 0) rfl, fun _ h => nomatch h⟩)) (Chg.cons (Chg.up S14 (List.forall_mem_cons.mpr ⟨List.mem_of_getElem? (i := 0) rfl, fun _ h => nomatch h⟩)) (Chg.cons (Chg.up S22 (List.forall_mem_cons.mpr ⟨List.mem_of_getElem? (i := 0) rfl, List.forall_mem_cons.mpr ⟨List.mem_of_getElem? (i := 1) rfl, List.forall_mem_cons.mpr ⟨List.mem_of_getElem? (i := 2) rfl, List.forall_mem_cons.mpr ⟨List.mem_of_getElem? (i := 3) rfl, fun _ h => nomatch h⟩⟩⟩⟩)) (Chg.cons (Chg.up S36 (List.forall_mem_cons.mpr ⟨List.mem_of_getElem? (i := 0) rfl, fun _ h => nomatch h⟩)) (Chg.cons (Chg.up S51 (List.forall_mem_cons.mpr ⟨List.mem_of_getElem? (i := 0) rfl, List.forall_mem_cons.mpr ⟨List.mem_of_getElem? (i := 1) rfl, List.forall_mem_cons.mpr ⟨List.mem_of_getElem? (i := 2) rfl, List.forall_mem_cons.mpr ⟨List.mem_of_getElem? (i := 3) rfl, fun _ h => nomatch h⟩⟩⟩⟩)) (Chg.cons (Chg.up S65 (List.forall_mem_cons.mpr ⟨List.mem_of_getElem? (i := 0) rfl, fun _ h => nomatch h⟩)) (Chg.cons (Chg.up S79 (List.forall_mem_cons.mpr ⟨List.mem_of_getElem? (i := 0) rfl, fun _ h => nomatch h⟩)) (Chg.mono (Chg.up S93 (List.forall_mem_cons.mpr ⟨List.mem_of_getElem? (i := 0) rfl, List.forall_mem_cons.mpr ⟨List.mem_of_getElem? (i := 1) rfl, List.forall_mem_cons.mpr ⟨List.mem_of_getElem? (i := 2) rfl, List.forall_mem_cons.mpr ⟨List.mem_of_getElem? (i := 3) rfl, fun _ h => nomatch h⟩⟩⟩⟩)) (by decide)) (by decide)) (by decide)) (by decide)) (by decide)) (by decide)) (by decide)) (by decide)))⟩
      refine z_iconst C (z := 1) rfl rfl rfl (fun x104 ex104 => ?_)
      refine k_goto C (pc2 := 80) rfl rfl ?_
      exact k_iret C rfl (Or.inr ⟨rfl, z01 (by omega) (by omega)⟩) (Nat.le_of_ble_eq_true rfl) (Nat.le_of_ble_eq_true rfl) ⟨_, _, _, rfl, rfl, by omega, by omega, by (try simp only [z_r0_0, z_r0_2, z_r0_0_0, z_r0_0_1]); rw [hcc, hs0]; have hro := (ROV.y (show s0.2.1 < 40 from by omega) (h21.y (by omega)) (h30.y (by omega)) (h38.y (by omega))).trans (show _ = (some t47).bind (fun t => NUB 160 cc 4 8 (SKP cc t.1, t.2)) from (by rw [h47.y (by omega)])); first | exact RES.f (by omega) (hro.trans (NUB.z (s := (SKP cc t47.1, t47.2)) (by show ¬ (48 ≤ cc (SKP cc t47.1) ∧ cc (SKP cc t47.1) ≤ 57); rw [← hx56]; exact hnd59 (by omega)))) | exact ((h69.nb (a' := 4) (b' := 8) (by omega) (by omega)).x (by omega)).b hro, by (try simp only [z_r0_0, z_r0_2, z_r0_0_0, z_r0_0_1]); first | omega | (simp only [e94, e99, e97, e101, k0_r0_3, k0_r0_4, k0_r0_5, k0_r0_0_2, and_true, true_and] <;> omega), by (try simp only [z_r0_0, z_r0_2, z_r0_0_0, z_r0_0_1]); intro h9; first | omega | (simp only [e94, e99, e97, e101, k0_r0_3, k0_r0_4, k0_r0_5, k0_r0_0_2, and_true, true_and] <;> omega), by (try simp only [z_r0_0, z_r0_2, z_r0_0_0, z_r0_0_1]); first | omega | (simp only [e94, e99, e97, e101, k0_r0_3, k0_r0_4, k0_r0_5, k0_r0_0_2, and_true, true_and] <;> omega), hI91, (by (try simp only [z_r0_0, z_r0_2, z_r0_0_0, z_r0_0_1]); exact (Chg.cons (Chg.up S4 (List.forall_mem_cons.mpr ⟨List.mem_of_getElem? (i := 0) rfl, fun _ h => nomatch h⟩)) (Chg.cons (Chg.up S14 (List.forall_mem_cons.mpr ⟨List.mem_of_getElem? (i := 0) rfl, fun _ h => nomatch h⟩)) (Chg.cons (Chg.up S22 (List.forall_mem_cons.mpr ⟨List.mem_of_getElem? (i := 0) rfl, List.forall_mem_cons.mpr ⟨List.mem_of_getElem? (i := 1) rfl, List.forall_mem_cons.mpr ⟨List.mem_of_getElem? (i := 2) rfl, List.forall_mem_cons.mpr ⟨List.mem_of_getElem? (i := 3) rfl, fun _ h => nomatch h⟩⟩⟩⟩)) (Chg.cons (Chg.up S36 (List.forall_mem_cons.mpr ⟨List.mem_of_getElem? (i := 0) rfl, fun _ h => nomatch h⟩)) (Chg.cons (Chg.up S51 (List.forall_mem_cons.mpr ⟨List.mem_of_getElem? (i := 0) rfl, List.forall_mem_cons.mpr ⟨List.mem_of_getElem? (i := 1) rfl, List.forall_mem_cons.mpr ⟨List.mem_of_getElem? (i := 2) rfl, List.forall_mem_cons.mpr ⟨List.mem_of_getElem? (i := 3) rfl, fun _ h => nomatch h⟩⟩⟩⟩)) (Chg.cons (Chg.up S65 (List.forall_mem_cons.mpr ⟨List.mem_of_getElem? (i := 0) rfl, fun _ h => nomatch h⟩)) (Chg.cons (Chg.up S79 (List.forall_mem_cons.mpr ⟨List.mem_of_getElem? (i := 0) rfl, fun _ h => nomatch h⟩)) (Chg.mono (Chg.up S93 (List.forall_mem_cons.mpr ⟨List.mem_of_getElem? (i := 0) rfl, List.forall_mem_cons.mpr ⟨List.mem_of_getElem? (i := 1) rfl, List.forall_mem_cons.mpr ⟨List.mem_of_getElem? (i := 2) rfl, List.forall_mem_cons.mpr ⟨List.mem_of_getElem? (i := 3) rfl, fun _ h => nomatch h⟩⟩⟩⟩)) (by decide)) (by decide)) (by decide)) (by decide)) (by decide)) (by decide)) (by decide)) (by decide)))⟩
    refine z_iconst C (z := 0) rfl rfl rfl (fun x105 ex105 => ?_)
    exact k_iret C rfl (Or.inr ⟨rfl, z01 (by omega) (by omega)⟩) (Nat.le_of_ble_eq_true rfl) (Nat.le_of_ble_eq_true rfl) ⟨_, _, _, rfl, rfl, by omega, by omega, by (try simp only [z_r0_0, z_r0_2, z_r0_0_0, z_r0_0_1]); rw [hcc, hs0]; first | exact RES.f (by omega) (ROV.n1 (show s0.2.1 < 40 from by omega) (h21.no (by omega))) | exact RES.f (by omega) (ROV.n2 (show s0.2.1 < 40 from by omega) (h21.y (by omega)) (h30.no (by omega))) | exact RES.f (by omega) (ROV.n3 (show s0.2.1 < 40 from by omega) (h21.y (by omega)) (h30.y (by omega)) (h38.no (by omega))) | exact RES.f (by omega) ((ROV.y (show s0.2.1 < 40 from by omega) (h21.y (by omega)) (h30.y (by omega)) (h38.y (by omega))).trans (by rw [h47.no (by omega)]; rfl)), by (try simp only [z_r0_0, z_r0_2, z_r0_0_0, z_r0_0_1]); first | omega | (simp only [e66, e72, e74, e70, k0_r0_3, k0_r0_4, k0_r0_5, k0_r0_0_2, and_true, true_and] <;> omega), by (try simp only [z_r0_0, z_r0_2, z_r0_0_0, z_r0_0_1]); intro h9; first | omega | (simp only [e66, e72, e74, e70, k0_r0_3, k0_r0_4, k0_r0_5, k0_r0_0_2, and_true, true_and] <;> omega), by (try simp only [z_r0_0, z_r0_2, z_r0_0_0, z_r0_0_1]); first | omega | (simp only [e66, e72, e74, e70, k0_r0_3, k0_r0_4, k0_r0_5, k0_r0_0_2, and_true, true_and] <;> omega), hI63, (by (try simp only [z_r0_0, z_r0_2, z_r0_0_0, z_r0_0_1]); exact (Chg.cons (Chg.up S4 (List.forall_mem_cons.mpr ⟨List.mem_of_getElem? (i := 0) rfl, fun _ h => nomatch h⟩)) (Chg.cons (Chg.up S14 (List.forall_mem_cons.mpr ⟨List.mem_of_getElem? (i := 0) rfl, fun _ h => nomatch h⟩)) (Chg.cons (Chg.up S22 (List.forall_mem_cons.mpr ⟨List.mem_of_getElem? (i := 0) rfl, List.forall_mem_cons.mpr ⟨List.mem_of_getElem? (i := 1) rfl, List.forall_mem_cons.mpr ⟨List.mem_of_getElem? (i := 2) rfl, List.forall_mem_cons.mpr ⟨List.mem_of_getElem? (i := 3) rfl, fun _ h => nomatch h⟩⟩⟩⟩)) (Chg.cons (Chg.up S36 (List.forall_mem_cons.mpr ⟨List.mem_of_getElem? (i := 0) rfl, fun _ h => nomatch h⟩)) (Chg.cons (Chg.up S51 (List.forall_mem_cons.mpr ⟨List.mem_of_getElem? (i := 0) rfl, List.forall_mem_cons.mpr ⟨List.mem_of_getElem? (i := 1) rfl, List.forall_mem_cons.mpr ⟨List.mem_of_getElem? (i := 2) rfl, List.forall_mem_cons.mpr ⟨List.mem_of_getElem? (i := 3) rfl, fun _ h => nomatch h⟩⟩⟩⟩)) (Chg.mono (Chg.up S65 (List.forall_mem_cons.mpr ⟨List.mem_of_getElem? (i := 0) rfl, fun _ h => nomatch h⟩)) (by decide)) (by decide)) (by decide)) (by decide)) (by decide)) (by decide)))⟩
  refine z_iconst C (z := 0) rfl rfl rfl (fun x106 ex106 => ?_)
  exact k_iret C rfl (Or.inr ⟨rfl, z01 (by omega) (by omega)⟩) (Nat.le_of_ble_eq_true rfl) (Nat.le_of_ble_eq_true rfl) ⟨_, _, _, rfl, rfl, by omega, by omega, by (try simp only [z_r0_0, z_r0_2, z_r0_0_0, z_r0_0_1]); rw [hcc, hs0]; exact RES.f (by omega) (ROV.n0 (by omega)), by (try simp only [z_r0_0, z_r0_2, z_r0_0_0, z_r0_0_1]); first | omega | (simp only [e5, e6, e7, e9, k0_r0_3, k0_r0_4, k0_r0_5, k0_r0_0_2, and_true, true_and] <;> omega), by (try simp only [z_r0_0, z_r0_2, z_r0_0_0, z_r0_0_1]); intro h9; first | omega | (simp only [e5, e6, e7, e9, k0_r0_3, k0_r0_4, k0_r0_5, k0_r0_0_2, and_true, true_and] <;> omega), by (try simp only [z_r0_0, z_r0_2, z_r0_0_0, z_r0_0_1]); first | omega | (simp only [e5, e6, e7, e9, k0_r0_3, k0_r0_4, k0_r0_5, k0_r0_0_2, and_true, true_and] <;> omega), hI2, (by (try simp only [z_r0_0, z_r0_2, z_r0_0_0, z_r0_0_1]); exact (Chg.mono (Chg.up S4 (List.forall_mem_cons.mpr ⟨List.mem_of_getElem? (i := 0) rfl, fun _ h => nomatch h⟩)) (by decide)))⟩

theorem s_X4_readPart_4_x {d : Nat} {T N : Nat → Nat} {I : IT} {L : LT} {R : RT} {A B : Nat → Prop} {r0 : Nat} {n1 : Int32} (hS : SUB B A) (hI : IX A T I) (H_r0 : (hs_Rd T N R A B) r0) (b0_n1 : 4 ≤ n1.toInt) (b1_n1 : n1.toInt ≤ 4) (hU : UPR T R) (hp0 : 0 ≤ (I r0 4).toInt) (hp1 : (I r0 4).toInt ≤ (I r0 3).toInt) (hp2 : (I r0 3).toInt ≤ 400) (hp3 : 0 ≤ (I r0 5).toInt) (hp4 : (I r0 5).toInt ≤ 40) (hp5 : 0 ≤ (I (rA R r0 0) 2).toInt ∧ (I (rA R r0 0) 2).toInt ≤ 160) : Ex (d + 11) 71 [.ref r0, .int n1] (T, N, I, L, R) 0 0 (pI T N R (fun x9 I9 L9 => (0 ≤ x9.toInt) ∧ (x9.toInt ≤ 1) ∧ (RES x9.toInt (RPT 160 (RCH R I r0) 2 (RDT R I r0)) (RDT R I9 r0)) ∧ (0 ≤ (I9 (rA R r0 0) 2).toInt ∧ (I9 (rA R r0 0) 2).toInt ≤ 160) ∧ (x9.toInt = 1 → (I9 r0 4).toInt ≤ (I r0 3).toInt ∧ (I r0 5).toInt ≤ (I9 r0 5).toInt ∧ (I9 r0 5).toInt ≤ 40) ∧ (0 ≤ (I9 r0 4).toInt ∧ 0 ≤ (I9 r0 5).toInt) ∧ (IX A T I9 ∧ Chg (SL [r0, (rA R r0 0), (rA R (rA R r0 0) 0), (rA R (rA R r0 0) 1)]) T [(5, 4), (5, 5), (8, 2)] I L I9 L9))) := by
  refine ⟨_, rfl, Nat.le_of_ble_eq_true rfl, fun V C S => ?_⟩
  show V 0 [(0, .ref r0), (1, .int n1)] [] (T, N, I, L, R) 0 0
  have gn1 := rg n1
  obtain ⟨T_r0, A_r0, B_r0, ⟨r0_0, R_r0_0, H_r0_0⟩, ⟨r0_2, R_r0_2, H_r0_2⟩⟩ := id H_r0
  have z_r0_0 : rA R r0 0 = r0_0 := rA_e R_r0_0
  have z_r0_2 : rA R r0 2 = r0_2 := rA_e R_r0_2
  obtain ⟨T_r0_0, A_r0_0, B_r0_0, ⟨r0_0_0, R_r0_0_0, H_r0_0_0⟩, ⟨r0_0_1, R_r0_0_1, H_r0_0_1⟩⟩ := id H_r0_0
  have z_r0_0_0 : rA R r0_0 0 = r0_0_0 := rA_e R_r0_0_0
  have z_r0_0_1 : rA R r0_0 1 = r0_0_1 := rA_e R_r0_0_1
  obtain ⟨T_r0_2, N_r0_2, A_r0_2⟩ := id H_r0_2
  obtain ⟨T_r0_0_0, N_r0_0_0, A_r0_0_0⟩ := id H_r0_0_0
  obtain ⟨T_r0_0_1, N_r0_0_1, A_r0_0_1⟩ := id H_r0_0_1
  have nq20 : NQ8 r0_2 r0_0_0 := hU.ne (t20 T_r0_2) R_r0_2 R_r0_0_0 (Or.inl (t_nq T_r0 T_r0_0 (by decide)))
  have nq21 : NQ8 r0_2 r0_0_1 := hU.ne (t20 T_r0_2) R_r0_2 R_r0_0_1 (Or.inl (t_nq T_r0 T_r0_0 (by decide)))
  have nq01 : NQ8 r0_0_0 r0_0_1 := hU.ne (t20 T_r0_0_0) R_r0_0_0 R_r0_0_1 (Or.inr (by decide))
  try simp only [z_r0_0, z_r0_2, z_r0_0_0, z_r0_0_1] at hp0
  try simp only [z_r0_0, z_r0_2, z_r0_0_0, z_r0_0_1] at hp1
  try simp only [z_r0_0, z_r0_2, z_r0_0_0, z_r0_0_1] at hp2
  try simp only [z_r0_0, z_r0_2, z_r0_0_0, z_r0_0_1] at hp3
  try simp only [z_r0_0, z_r0_2, z_r0_0_0, z_r0_0_1] at hp4
  try simp only [z_r0_0, z_r0_2, z_r0_0_0, z_r0_0_1] at hp5
  obtain ⟨w_r0_3, k0_r0_3⟩ : ∃ x, I r0 3 = x := ⟨_, rfl⟩
  have gw_r0_3 := rg w_r0_3
  obtain ⟨w_r0_4, k0_r0_4⟩ : ∃ x, I r0 4 = x := ⟨_, rfl⟩
  have gw_r0_4 := rg w_r0_4
  obtain ⟨w_r0_5, k0_r0_5⟩ : ∃ x, I r0 5 = x := ⟨_, rfl⟩
  have gw_r0_5 := rg w_r0_5
  obtain ⟨w_r0_0_2, k0_r0_0_2⟩ : ∃ x, I r0_0 2 = x := ⟨_, rfl⟩
  have gw_r0_0_2 := rg w_r0_0_2
  try simp only [k0_r0_3, k0_r0_4, k0_r0_5, k0_r0_0_2] at hp0
  try simp only [k0_r0_3, k0_r0_4, k0_r0_5, k0_r0_0_2] at hp1
  try simp only [k0_r0_3, k0_r0_4, k0_r0_5, k0_r0_0_2] at hp2
  try simp only [k0_r0_3, k0_r0_4, k0_r0_5, k0_r0_0_2] at hp3
  try simp only [k0_r0_3, k0_r0_4, k0_r0_5, k0_r0_0_2] at hp4
  try simp only [k0_r0_3, k0_r0_4, k0_r0_5, k0_r0_0_2] at hp5
  obtain ⟨cc, hcc⟩ : ∃ c, RCH R I r0 = c := ⟨_, rfl⟩
  have hc40 : C40 cc := by rw [← hcc]; exact RCH.c40 (by rw [k0_r0_3]; omega)
  obtain ⟨s0, hs0⟩ : ∃ s, RDT R I r0 = s := ⟨_, rfl⟩
  have hp0 := RDT.c1 hs0 k0_r0_4 (by omega)
  have ht0 := RDT.c2 hs0 k0_r0_5 (by omega)
  refine k_aload_n C rfl rfl rfl ?_
  have c1 : RCH R I r0 = cc := (RCH.mv (Chg.at (Chg.rf : Chg (SL [r0, r0_0, r0_0_0, r0_0_1]) T [(5, 4), (5, 5), (8, 2)] I L I L) (nm_4 (t_nq T_r0_2 T_r0 (by decide)) (t_nq T_r0_2 T_r0_0 (by decide)) (by first | exact nq20 | exact fun e => nq20 e.symm) (by first | exact nq21 | exact fun e => nq21 e.symm))) k0_r0_3 k0_r0_3 z_r0_2).trans hcc
  refine c_VI C (s_X4_next_x hS hI H_r0 (by (try simp only [z_r0_0, z_r0_2, z_r0_0_0, z_r0_0_1]); first | omega | (simp only [k0_r0_3, k0_r0_4, k0_r0_5, k0_r0_0_2, and_true, true_and, or_true, true_or, and_false, false_and, or_false, false_or] <;> omega)) (by (try simp only [z_r0_0, z_r0_2, z_r0_0_0, z_r0_0_1]); first | omega | (simp only [k0_r0_3, k0_r0_4, k0_r0_5, k0_r0_0_2, and_true, true_and, or_true, true_or, and_false, false_and, or_false, false_or] <;> omega)) (by (try simp only [z_r0_0, z_r0_2, z_r0_0_0, z_r0_0_1]); first | omega | (simp only [k0_r0_3, k0_r0_4, k0_r0_5, k0_r0_0_2, and_true, true_and, or_true, true_or, and_false, false_and, or_false, false_or] <;> omega)) (by (try simp only [z_r0_0, z_r0_2, z_r0_0_0, z_r0_0_1]); first | omega | (simp only [k0_r0_3, k0_r0_4, k0_r0_5, k0_r0_0_2, and_true, true_and, or_true, true_or, and_false, false_and, or_false, false_or] <;> omega))) rfl rfl rfl rfl rfl ⟨_, rfl, rfl, T_r0, Nat.le_of_ble_eq_true rfl⟩ rfl rfl (Nat.le_of_ble_eq_true rfl) (Nat.le_of_ble_eq_true rfl) (Nat.le_of_ble_eq_true rfl) ?_
  rintro x1 I2 L3 ⟨p0x1, p1x1, p2x1, p3x1, hI2, S4⟩
  try simp only [z_r0_0, z_r0_2, z_r0_0_0, z_r0_0_1] at S4
  have e5 := Chg.k S4 T_r0 (by decide) (by decide) k0_r0_3
  have e6 := Chg.k S4 T_r0 (by decide) (by decide) k0_r0_5
  have e7 := Chg.k S4 T_r0_0 (by decide) (by decide) k0_r0_0_2
  have gx1 := rg x1
  obtain ⟨x8, e9⟩ : ∃ x, I2 r0 4 = x := ⟨_, rfl⟩
  have gx8 := rg x8
  try simp only [z_r0_0, z_r0_2, z_r0_0_0, z_r0_0_1] at p0x1
  try simp only [z_r0_0, z_r0_2, z_r0_0_0, z_r0_0_1] at p1x1
  try simp only [z_r0_0, z_r0_2, z_r0_0_0, z_r0_0_1] at p2x1
  try simp only [z_r0_0, z_r0_2, z_r0_0_0, z_r0_0_1] at p3x1
  try simp only [k0_r0_3, k0_r0_4, k0_r0_5, k0_r0_0_2, e9] at p0x1
  try have q0x1 := congrArg Int32.toInt p0x1
  try simp only [k0_r0_3, k0_r0_4, k0_r0_5, k0_r0_0_2, e9] at p1x1
  try have q1x1 := congrArg Int32.toInt p1x1
  try simp only [k0_r0_3, k0_r0_4, k0_r0_5, k0_r0_0_2, e9] at p2x1
  try have q2x1 := congrArg Int32.toInt p2x1
  try simp only [k0_r0_3, k0_r0_4, k0_r0_5, k0_r0_0_2, e9] at p3x1
  try have q3x1 := congrArg Int32.toInt p3x1
  have hx1 := p0x1; have hs1 := p1x1; rw [c1, hs0] at hx1 hs1; have hq1 := RDT.c1 hs1 e9 (by omega)
  refine k_istore_n C (lw := [(2, .int x1), (0, .ref r0), (1, .int n1)]) rfl rfl (Nat.le_of_ble_eq_true rfl) rfl ?_
  refine k_iload_n C rfl rfl rfl ?_
  refine z_bipush C (z := 102) rfl rfl rfl (fun x10 ex10 => ?_)
  refine b_icmp_ne C (t := 16) rfl rfl rfl (fun c11 => ?_) (fun c11 => ?_)
  · skip
    refine k_iload_n C rfl rfl rfl ?_
    refine c_SI C (s_X4_isDigit_x hS hI2 ) rfl rfl rfl rfl rfl rfl rfl (Nat.le_of_ble_eq_true rfl) (Nat.le_of_ble_eq_true rfl) (Nat.le_of_ble_eq_true rfl) ?_
    rintro x12 _ _ ⟨o0x12, o1x12, p0x12, p1x12, rfl, rfl⟩
    have gx12 := rg x12
    try simp only [z_r0_0, z_r0_2, z_r0_0_0, z_r0_0_1] at p0x12
    try simp only [z_r0_0, z_r0_2, z_r0_0_0, z_r0_0_1] at p1x12
    try simp only [e5, e6, e7, e9] at p0x12
    try have q0x12 := congrArg Int32.toInt p0x12
    try simp only [e5, e6, e7, e9] at p1x12
    try have q1x12 := congrArg Int32.toInt p1x12
    have hd17 := p0x12; have hnd17 := p1x12
    refine b_if_eq C (t := 47) rfl rfl rfl (fun c13 => ?_) (fun c13 => ?_)
    · skip
      refine k_iload_n C rfl rfl rfl ?_
      refine z_bipush C (z := 6) rfl rfl rfl (fun x14 ex14 => ?_)
      refine b_icmp_lt C (t := 55) rfl rfl rfl (fun c15 => ?_) (fun c15 => by exfalso; omega)
      refine k_iload_n C rfl rfl rfl ?_
      refine z_bipush C (z := 40) rfl rfl rfl (fun x16 ex16 => ?_)
      refine b_icmp_ne C (t := 96) rfl rfl rfl (fun c17 => ?_) (fun c17 => ?_)
      · skip
        refine k_iload_n C rfl rfl rfl ?_
        refine z_bipush C (z := 91) rfl rfl rfl (fun x18 ex18 => ?_)
        refine b_icmp_ne C (t := 110) rfl rfl rfl (fun c19 => ?_) (fun c19 => ?_)
        · skip
          refine k_iload_n C rfl rfl rfl ?_
          refine z_bipush C (z := 45) rfl rfl rfl (fun x20 ex20 => ?_)
          refine b_icmp_ne C (t := 149) rfl rfl rfl (fun c21 => ?_) (fun c21 => ?_)
          · skip
            refine z_iconst C (z := 0) rfl rfl rfl (fun x22 ex22 => ?_)
            exact k_iret C rfl (Or.inr ⟨rfl, z01 (by omega) (by omega)⟩) (Nat.le_of_ble_eq_true rfl) (Nat.le_of_ble_eq_true rfl) ⟨_, _, _, rfl, rfl, by omega, by omega, by (try simp only [z_r0_0, z_r0_2, z_r0_0_0, z_r0_0_1]); rw [hcc, hs0]; exact RES.f (by omega) (RPT.n (by omega) (by rw [← hx1]; exact hnd17 (by omega)) (by omega) (by omega) (by omega)), by (try simp only [z_r0_0, z_r0_2, z_r0_0_0, z_r0_0_1]); first | omega | (simp only [e5, e6, e7, e9, k0_r0_3, k0_r0_4, k0_r0_5, k0_r0_0_2, and_true, true_and] <;> omega), by (try simp only [z_r0_0, z_r0_2, z_r0_0_0, z_r0_0_1]); intro h9; first | omega | (simp only [e5, e6, e7, e9, k0_r0_3, k0_r0_4, k0_r0_5, k0_r0_0_2, and_true, true_and] <;> omega), by (try simp only [z_r0_0, z_r0_2, z_r0_0_0, z_r0_0_1]); first | omega | (simp only [e5, e6, e7, e9, k0_r0_3, k0_r0_4, k0_r0_5, k0_r0_0_2, and_true, true_and] <;> omega), hI2, (by (try simp only [z_r0_0, z_r0_2, z_r0_0_0, z_r0_0_1]); exact (Chg.mono (Chg.up S4 (List.forall_mem_cons.mpr ⟨List.mem_of_getElem? (i := 0) rfl, fun _ h => nomatch h⟩)) (by decide)))⟩
          refine k_aload_n C rfl rfl rfl ?_
          refine k_dup C rfl rfl rfl ?_
          refine g_I C rfl rfl rfl T_r0 rfl e9 ?_
          refine z_iconst C (z := 1) rfl rfl rfl (fun x23 ex23 => ?_)
          refine z_iadd C rfl rfl ⟨by omega, by omega⟩ (fun x24 ex24 => ?_)
          refine z_pI C rfl rfl rfl T_r0 (Or.inr rfl) rfl (fun I25 uI25 => ?_)
          have hI25 : IX A T I25 := IX.f hI2 T_r0 (boX.tr (by decide) (by decide)) uI25
          have S26 : Chg (SL [r0]) T [(5, 4)] I2 L3 I25 L3 := Chg.f List.mem_cons_self T_r0 uI25
          have e27 := u2_j uI25 (by decide) e5
          have e28 := u2_j uI25 (by decide) e6
          have e29 := u2_j uI25 (by decide) e7
          have e30 := u2_e uI25
          have hq123 := uI25
          refine k_aload_n C rfl rfl rfl ?_
          refine k_iload_n C rfl rfl rfl ?_
          refine z_iconst C (z := 1) rfl rfl rfl (fun x31 ex31 => ?_)
          refine z_iadd C rfl rfl ⟨by omega, by omega⟩ (fun x32 ex32 => ?_)
          have hs123 := (RDT.nx (I1 := I25) hs1 z_r0_0 (p := SKP cc s0.1 + 1) (by rw [hq123, u2_k (by decide)]) (STL.fr z_r0_0_0 z_r0_0_1 (by rw [hq123, u2_r (t_nq T_r0_0 T_r0 (by decide))]) (by rw [hq123, u2_r (t_nq T_r0_0_0 T_r0 (by decide))]) (by rw [hq123, u2_r (t_nq T_r0_0_1 T_r0 (by decide))])) (by rw [e30]; omega))
          have c130 : RCH R I25 r0 = cc := (RCH.mv (Chg.at ((Chg.cons (Chg.up S4 (List.forall_mem_cons.mpr ⟨List.mem_of_getElem? (i := 0) rfl, fun _ h => nomatch h⟩)) (Chg.mono (Chg.up S26 (List.forall_mem_cons.mpr ⟨List.mem_of_getElem? (i := 0) rfl, fun _ h => nomatch h⟩)) (by decide)) (by decide)) : Chg (SL [r0, r0_0, r0_0_0, r0_0_1]) T [(5, 4), (5, 5), (8, 2)] I L I25 L3) (nm_4 (t_nq T_r0_2 T_r0 (by decide)) (t_nq T_r0_2 T_r0_0 (by decide)) (by first | exact nq20 | exact fun e => nq20 e.symm) (by first | exact nq21 | exact fun e => nq21 e.symm))) e27 k0_r0_3 z_r0_2).trans hcc
          refine c_VI C (s_X4_readPart_5_x hS hI25 H_r0 (by omega) (by omega) hU (by (try simp only [z_r0_0, z_r0_2, z_r0_0_0, z_r0_0_1]); first | omega | (simp only [e27, e28, e29, e30, and_true, true_and, or_true, true_or, and_false, false_and, or_false, false_or] <;> omega)) (by (try simp only [z_r0_0, z_r0_2, z_r0_0_0, z_r0_0_1]); first | omega | (simp only [e27, e28, e29, e30, and_true, true_and, or_true, true_or, and_false, false_and, or_false, false_or] <;> omega)) (by (try simp only [z_r0_0, z_r0_2, z_r0_0_0, z_r0_0_1]); first | omega | (simp only [e27, e28, e29, e30, and_true, true_and, or_true, true_or, and_false, false_and, or_false, false_or] <;> omega)) (by (try simp only [z_r0_0, z_r0_2, z_r0_0_0, z_r0_0_1]); first | omega | (simp only [e27, e28, e29, e30, and_true, true_and, or_true, true_or, and_false, false_and, or_false, false_or] <;> omega)) (by (try simp only [z_r0_0, z_r0_2, z_r0_0_0, z_r0_0_1]); first | omega | (simp only [e27, e28, e29, e30, and_true, true_and, or_true, true_or, and_false, false_and, or_false, false_or] <;> omega)) (by (try simp only [z_r0_0, z_r0_2, z_r0_0_0, z_r0_0_1]); first | omega | (simp only [e27, e28, e29, e30, and_true, true_and, or_true, true_or, and_false, false_and, or_false, false_or] <;> omega))) rfl rfl rfl rfl rfl ⟨_, rfl, rfl, T_r0, Nat.le_of_ble_eq_true rfl⟩ rfl rfl (Nat.le_of_ble_eq_true rfl) (Nat.le_of_ble_eq_true rfl) (Nat.le_of_ble_eq_true rfl) ?_
          rintro x33 I34 L35 ⟨o0x33, o1x33, p0x33, p1x33, p2x33, p3x33, hI34, S36⟩
          try simp only [z_r0_0, z_r0_2, z_r0_0_0, z_r0_0_1] at S36
          have e37 := Chg.k S36 T_r0 (by decide) (by decide) e27
          have gx33 := rg x33
          obtain ⟨x38, e39⟩ : ∃ x, I34 r0 4 = x := ⟨_, rfl⟩
          have gx38 := rg x38
          obtain ⟨x40, e41⟩ : ∃ x, I34 r0 5 = x := ⟨_, rfl⟩
          have gx40 := rg x40
          obtain ⟨x42, e43⟩ : ∃ x, I34 r0_0 2 = x := ⟨_, rfl⟩
          have gx42 := rg x42
          try simp only [z_r0_0, z_r0_2, z_r0_0_0, z_r0_0_1] at p0x33
          try simp only [z_r0_0, z_r0_2, z_r0_0_0, z_r0_0_1] at p1x33
          try simp only [z_r0_0, z_r0_2, z_r0_0_0, z_r0_0_1] at p2x33
          try simp only [z_r0_0, z_r0_2, z_r0_0_0, z_r0_0_1] at p3x33
          try simp only [e27, e28, e29, e30, e39, e41, e43] at p0x33
          try have q0x33 := congrArg Int32.toInt p0x33
          try simp only [e27, e28, e29, e30, e39, e41, e43] at p1x33
          try have q1x33 := congrArg Int32.toInt p1x33
          try simp only [e27, e28, e29, e30, e39, e41, e43] at p2x33
          try have q2x33 := congrArg Int32.toInt p2x33
          try simp only [e27, e28, e29, e30, e39, e41, e43] at p3x33
          try have q3x33 := congrArg Int32.toInt p3x33
          have h130 := p0x33; rw [c130, hs123] at h130; obtain ⟨t130, ht130⟩ : ∃ t, RDT R I34 r0 = t := ⟨_, rfl⟩; rw [ht130] at h130
          refine b_if_ne C (t := 138) rfl rfl rfl (fun c44 => ?_) (fun c44 => ?_)
          · skip
            refine k_aload_n C rfl rfl rfl ?_
            refine g_R C rfl rfl rfl T_r0 rfl R_r0_0 ?_
            refine z_iconst C (z := 5) rfl rfl rfl (fun x45 ex45 => ?_)
            refine z_iconst C (z := 0) rfl rfl rfl (fun x46 ex46 => ?_)
            refine c_VV C (s_X7_put_p hS hI34 (hs_SuSg hS H_r0_0) hU (by (try simp only [z_r0_0, z_r0_2, z_r0_0_0, z_r0_0_1]); first | omega | (simp only [e37, e39, e41, e43, and_true, true_and, or_true, true_or, and_false, false_and, or_false, false_or] <;> omega)) (by (try simp only [z_r0_0, z_r0_2, z_r0_0_0, z_r0_0_1]); first | omega | (simp only [e37, e39, e41, e43, and_true, true_and, or_true, true_or, and_false, false_and, or_false, false_or] <;> omega))) rfl rfl rfl rfl rfl ⟨_, rfl, rfl, T_r0_0, Nat.le_of_ble_eq_true rfl⟩ rfl rfl (Nat.le_of_ble_eq_true rfl) (Nat.le_of_ble_eq_true rfl) (Nat.le_of_ble_eq_true rfl) ?_
            rintro I48 L49 ⟨p0v47, p1v47, hI48, S50⟩
            try simp only [z_r0_0, z_r0_2, z_r0_0_0, z_r0_0_1] at S50
            have e51 := Chg.k S50 T_r0 (by decide) (by decide) e37
            have e52 := Chg.k S50 T_r0 (by decide) (by decide) e39
            have e53 := Chg.k S50 T_r0 (by decide) (by decide) e41
            obtain ⟨x54, e55⟩ : ∃ x, I48 r0_0 2 = x := ⟨_, rfl⟩
            have gx54 := rg x54
            try simp only [z_r0_0, z_r0_2, z_r0_0_0, z_r0_0_1] at p0v47
            try simp only [z_r0_0, z_r0_2, z_r0_0_0, z_r0_0_1] at p1v47
            try simp only [e37, e39, e41, e43, e55] at p0v47
            try have q0v47 := congrArg Int32.toInt p0v47
            try simp only [e37, e39, e41, e43, e55] at p1v47
            try have q1v47 := congrArg Int32.toInt p1v47
            have hs144 := RDT.ap ht130 z_r0_0 (Chg.at S50 (nm_3 (t_nq T_r0 T_r0_0 (by decide)) (t_nq T_r0 T_r0_0_0 (by decide)) (t_nq T_r0 T_r0_0_1 (by decide)))) p0v47 (a' := 5) (b' := 0) (by omega) (by omega)
            refine z_iconst C (z := 1) rfl rfl rfl (fun x56 ex56 => ?_)
            exact k_iret C rfl (Or.inr ⟨rfl, z01 (by omega) (by omega)⟩) (Nat.le_of_ble_eq_true rfl) (Nat.le_of_ble_eq_true rfl) ⟨_, _, _, rfl, rfl, by omega, by omega, by (try simp only [z_r0_0, z_r0_2, z_r0_0_0, z_r0_0_1]); rw [hcc, hs0]; refine RES.t (by omega) ?_; rw [hs144]; exact (RPT.m (by omega)).trans (by rw [h130.y (by omega)]; rfl), by (try simp only [z_r0_0, z_r0_2, z_r0_0_0, z_r0_0_1]); first | omega | (simp only [e51, e52, e53, e55, k0_r0_3, k0_r0_4, k0_r0_5, k0_r0_0_2, and_true, true_and] <;> omega), by (try simp only [z_r0_0, z_r0_2, z_r0_0_0, z_r0_0_1]); intro h9; first | omega | (simp only [e51, e52, e53, e55, k0_r0_3, k0_r0_4, k0_r0_5, k0_r0_0_2, and_true, true_and] <;> omega), by (try simp only [z_r0_0, z_r0_2, z_r0_0_0, z_r0_0_1]); first | omega | (simp only [e51, e52, e53, e55, k0_r0_3, k0_r0_4, k0_r0_5, k0_r0_0_2, and_true, true_and] <;> omega), hI48, (by (try simp only [z_r0_0, z_r0_2, z_r0_0_0, z_r0_0_1]); exact (Chg.cons (Chg.up S4 (List.forall_mem_cons.mpr ⟨List.mem_of_getElem? (i := 0) rfl, fun _ h => nomatch h⟩)) (Chg.cons (Chg.up S26 (List.forall_mem_cons.mpr ⟨List.mem_of_getElem? (i := 0) rfl, fun _ h => nomatch h⟩)) (Chg.cons (Chg.up S36 (List.forall_mem_cons.mpr ⟨List.mem_of_getElem? (i := 0) rfl, List.forall_mem_cons.mpr ⟨List.mem_of_getElem? (i := 1) rfl, List.forall_mem_cons.mpr ⟨List.mem_of_getElem? (i := 2) rfl, List.forall_mem_cons.mpr ⟨List.mem_of_getElem? (i := 3) rfl, fun _ h => nomatch h⟩⟩⟩⟩)) (Chg.mono (Chg.up S50 (List.forall_mem_cons.mpr ⟨List.mem_of_getElem? (i := 1) rfl, List.forall_mem_cons.mpr ⟨List.mem_of_getElem? (i := 2) rfl, List.forall_mem_cons.mpr ⟨List.mem_of_getElem? (i := 3) rfl, fun _ h => nomatch h⟩⟩⟩)) (by decide)) (by decide)) (by decide)) (by decide)))⟩
          refine z_iconst C (z := 0) rfl rfl rfl (fun x57 ex57 => ?_)
          exact k_iret C rfl (Or.inr ⟨rfl, z01 (by omega) (by omega)⟩) (Nat.le_of_ble_eq_true rfl) (Nat.le_of_ble_eq_true rfl) ⟨_, _, _, rfl, rfl, by omega, by omega, by (try simp only [z_r0_0, z_r0_2, z_r0_0_0, z_r0_0_1]); rw [hcc, hs0]; exact RES.f (by omega) ((RPT.m (by omega)).trans (by rw [h130.no (by omega)]; rfl)), by (try simp only [z_r0_0, z_r0_2, z_r0_0_0, z_r0_0_1]); first | omega | (simp only [e37, e39, e41, e43, k0_r0_3, k0_r0_4, k0_r0_5, k0_r0_0_2, and_true, true_and] <;> omega), by (try simp only [z_r0_0, z_r0_2, z_r0_0_0, z_r0_0_1]); intro h9; first | omega | (simp only [e37, e39, e41, e43, k0_r0_3, k0_r0_4, k0_r0_5, k0_r0_0_2, and_true, true_and] <;> omega), by (try simp only [z_r0_0, z_r0_2, z_r0_0_0, z_r0_0_1]); first | omega | (simp only [e37, e39, e41, e43, k0_r0_3, k0_r0_4, k0_r0_5, k0_r0_0_2, and_true, true_and] <;> omega), hI34, (by (try simp only [z_r0_0, z_r0_2, z_r0_0_0, z_r0_0_1]); exact (Chg.cons (Chg.up S4 (List.forall_mem_cons.mpr ⟨List.mem_of_getElem? (i := 0) rfl, fun _ h => nomatch h⟩)) (Chg.cons (Chg.up S26 (List.forall_mem_cons.mpr ⟨List.mem_of_getElem? (i := 0) rfl, fun _ h => nomatch h⟩)) (Chg.mono (Chg.up S36 (List.forall_mem_cons.mpr ⟨List.mem_of_getElem? (i := 0) rfl, List.forall_mem_cons.mpr ⟨List.mem_of_getElem? (i := 1) rfl, List.forall_mem_cons.mpr ⟨List.mem_of_getElem? (i := 2) rfl, List.forall_mem_cons.mpr ⟨List.mem_of_getElem? (i := 3) rfl, fun _ h => nomatch h⟩⟩⟩⟩)) (by decide)) (by decide)) (by decide)))⟩
        refine k_aload_n C rfl rfl rfl ?_
        refine k_iload_n C rfl rfl rfl ?_
        refine z_iconst C (z := 1) rfl rfl rfl (fun x58 ex58 => ?_)
        refine z_iadd C rfl rfl ⟨by omega, by omega⟩ (fun x59 ex59 => ?_)
        have c106 : RCH R I2 r0 = cc := (RCH.mv (Chg.at ((Chg.mono (Chg.up S4 (List.forall_mem_cons.mpr ⟨List.mem_of_getElem? (i := 0) rfl, fun _ h => nomatch h⟩)) (by decide)) : Chg (SL [r0, r0_0, r0_0_0, r0_0_1]) T [(5, 4), (5, 5), (8, 2)] I L I2 L3) (nm_4 (t_nq T_r0_2 T_r0 (by decide)) (t_nq T_r0_2 T_r0_0 (by decide)) (by first | exact nq20 | exact fun e => nq20 e.symm) (by first | exact nq21 | exact fun e => nq21 e.symm))) e5 k0_r0_3 z_r0_2).trans hcc
        refine c_VI C (s_X4_readOverlap_5_x hS hI2 H_r0 (by omega) (by omega) hU (by (try simp only [z_r0_0, z_r0_2, z_r0_0_0, z_r0_0_1]); first | omega | (simp only [e5, e6, e7, e9, and_true, true_and, or_true, true_or, and_false, false_and, or_false, false_or] <;> omega)) (by (try simp only [z_r0_0, z_r0_2, z_r0_0_0, z_r0_0_1]); first | omega | (simp only [e5, e6, e7, e9, and_true, true_and, or_true, true_or, and_false, false_and, or_false, false_or] <;> omega)) (by (try simp only [z_r0_0, z_r0_2, z_r0_0_0, z_r0_0_1]); first | omega | (simp only [e5, e6, e7, e9, and_true, true_and, or_true, true_or, and_false, false_and, or_false, false_or] <;> omega)) (by (try simp only [z_r0_0, z_r0_2, z_r0_0_0, z_r0_0_1]); first | omega | (simp only [e5, e6, e7, e9, and_true, true_and, or_true, true_or, and_false, false_and, or_false, false_or] <;> omega)) (by (try simp only [z_r0_0, z_r0_2, z_r0_0_0, z_r0_0_1]); first | omega | (simp only [e5, e6, e7, e9, and_true, true_and, or_true, true_or, and_false, false_and, or_false, false_or] <;> omega)) (by (try simp only [z_r0_0, z_r0_2, z_r0_0_0, z_r0_0_1]); first | omega | (simp only [e5, e6, e7, e9, and_true, true_and, or_true, true_or, and_false, false_and, or_false, false_or] <;> omega)) (by (try simp only [z_r0_0, z_r0_2, z_r0_0_0, z_r0_0_1]); first | omega | (simp only [e5, e6, e7, e9, and_true, true_and, or_true, true_or, and_false, false_and, or_false, false_or] <;> omega))) rfl rfl rfl rfl rfl ⟨_, rfl, rfl, T_r0, Nat.le_of_ble_eq_true rfl⟩ rfl rfl (Nat.le_of_ble_eq_true rfl) (Nat.le_of_ble_eq_true rfl) (Nat.le_of_ble_eq_true rfl) ?_
        rintro x60 I61 L62 ⟨o0x60, o1x60, p0x60, p1x60, p2x60, p3x60, hI61, S63⟩
        try simp only [z_r0_0, z_r0_2, z_r0_0_0, z_r0_0_1] at S63
        have e64 := Chg.k S63 T_r0 (by decide) (by decide) e5
        have gx60 := rg x60
        obtain ⟨x65, e66⟩ : ∃ x, I61 r0 4 = x := ⟨_, rfl⟩
        have gx65 := rg x65
        obtain ⟨x67, e68⟩ : ∃ x, I61 r0 5 = x := ⟨_, rfl⟩
        have gx67 := rg x67
        obtain ⟨x69, e70⟩ : ∃ x, I61 r0_0 2 = x := ⟨_, rfl⟩
        have gx69 := rg x69
        try simp only [z_r0_0, z_r0_2, z_r0_0_0, z_r0_0_1] at p0x60
        try simp only [z_r0_0, z_r0_2, z_r0_0_0, z_r0_0_1] at p1x60
        try simp only [z_r0_0, z_r0_2, z_r0_0_0, z_r0_0_1] at p2x60
        try simp only [z_r0_0, z_r0_2, z_r0_0_0, z_r0_0_1] at p3x60
        try simp only [e5, e6, e7, e9, e66, e68, e70] at p0x60
        try have q0x60 := congrArg Int32.toInt p0x60
        try simp only [e5, e6, e7, e9, e66, e68, e70] at p1x60
        try have q1x60 := congrArg Int32.toInt p1x60
        try simp only [e5, e6, e7, e9, e66, e68, e70] at p2x60
        try have q2x60 := congrArg Int32.toInt p2x60
        try simp only [e5, e6, e7, e9, e66, e68, e70] at p3x60
        try have q3x60 := congrArg Int32.toInt p3x60
        have h106 := p0x60; rw [c106, hs1] at h106
        exact k_iret C rfl (Or.inr ⟨rfl, z01 (by omega) (by omega)⟩) (Nat.le_of_ble_eq_true rfl) (Nat.le_of_ble_eq_true rfl) ⟨_, _, _, rfl, rfl, by omega, by omega, by (try simp only [z_r0_0, z_r0_2, z_r0_0_0, z_r0_0_1]); rw [hcc, hs0]; exact h106.b (RPT.o (by omega)), by (try simp only [z_r0_0, z_r0_2, z_r0_0_0, z_r0_0_1]); first | omega | (simp only [e64, e66, e68, e70, k0_r0_3, k0_r0_4, k0_r0_5, k0_r0_0_2, and_true, true_and] <;> omega), by (try simp only [z_r0_0, z_r0_2, z_r0_0_0, z_r0_0_1]); intro h9; first | omega | (simp only [e64, e66, e68, e70, k0_r0_3, k0_r0_4, k0_r0_5, k0_r0_0_2, and_true, true_and] <;> omega), by (try simp only [z_r0_0, z_r0_2, z_r0_0_0, z_r0_0_1]); first | omega | (simp only [e64, e66, e68, e70, k0_r0_3, k0_r0_4, k0_r0_5, k0_r0_0_2, and_true, true_and] <;> omega), hI61, (by (try simp only [z_r0_0, z_r0_2, z_r0_0_0, z_r0_0_1]); exact (Chg.cons (Chg.up S4 (List.forall_mem_cons.mpr ⟨List.mem_of_getElem? (i := 0) rfl, fun _ h => nomatch h⟩)) (Chg.mono (Chg.up S63 (List.forall_mem_cons.mpr ⟨List.mem_of_getElem? (i := 0) rfl, List.forall_mem_cons.mpr ⟨List.mem_of_getElem? (i := 1) rfl, List.forall_mem_cons.mpr ⟨List.mem_of_getElem? (i := 2) rfl, List.forall_mem_cons.mpr ⟨List.mem_of_getElem? (i := 3) rfl, fun _ h => nomatch h⟩⟩⟩⟩)) (by decide)) (by decide)))⟩
      refine k_aload_n C rfl rfl rfl ?_
      refine k_dup C rfl rfl rfl ?_
      refine g_I C rfl rfl rfl T_r0 rfl e9 ?_
      refine z_iconst C (z := 1) rfl rfl rfl (fun x71 ex71 => ?_)
      refine z_iadd C rfl rfl ⟨by omega, by omega⟩ (fun x72 ex72 => ?_)
      refine z_pI C rfl rfl rfl T_r0 (Or.inr rfl) rfl (fun I73 uI73 => ?_)
      have hI73 : IX A T I73 := IX.f hI2 T_r0 (boX.tr (by decide) (by decide)) uI73
      have S74 : Chg (SL [r0]) T [(5, 4)] I2 L3 I73 L3 := Chg.f List.mem_cons_self T_r0 uI73
      have e75 := u2_j uI73 (by decide) e5
      have e76 := u2_j uI73 (by decide) e6
      have e77 := u2_j uI73 (by decide) e7
      have e78 := u2_e uI73
      have hq68 := uI73
      refine k_aload_n C rfl rfl rfl ?_
      refine k_iload_n C rfl rfl rfl ?_
      refine z_iconst C (z := 1) rfl rfl rfl (fun x79 ex79 => ?_)
      refine z_iadd C rfl rfl ⟨by omega, by omega⟩ (fun x80 ex80 => ?_)
      have hs68 := (RDT.nx (I1 := I73) hs1 z_r0_0 (p := SKP cc s0.1 + 1) (by rw [hq68, u2_k (by decide)]) (STL.fr z_r0_0_0 z_r0_0_1 (by rw [hq68, u2_r (t_nq T_r0_0 T_r0 (by decide))]) (by rw [hq68, u2_r (t_nq T_r0_0_0 T_r0 (by decide))]) (by rw [hq68, u2_r (t_nq T_r0_0_1 T_r0 (by decide))])) (by rw [e78]; omega))
      have c75 : RCH R I73 r0 = cc := (RCH.mv (Chg.at ((Chg.cons (Chg.up S4 (List.forall_mem_cons.mpr ⟨List.mem_of_getElem? (i := 0) rfl, fun _ h => nomatch h⟩)) (Chg.mono (Chg.up S74 (List.forall_mem_cons.mpr ⟨List.mem_of_getElem? (i := 0) rfl, fun _ h => nomatch h⟩)) (by decide)) (by decide)) : Chg (SL [r0, r0_0, r0_0_0, r0_0_1]) T [(5, 4), (5, 5), (8, 2)] I L I73 L3) (nm_4 (t_nq T_r0_2 T_r0 (by decide)) (t_nq T_r0_2 T_r0_0 (by decide)) (by first | exact nq20 | exact fun e => nq20 e.symm) (by first | exact nq21 | exact fun e => nq21 e.symm))) e75 k0_r0_3 z_r0_2).trans hcc
      refine c_VI C (s_X4_readSum_5_x hS hI73 H_r0 (by omega) (by omega) hU (by (try simp only [z_r0_0, z_r0_2, z_r0_0_0, z_r0_0_1]); first | omega | (simp only [e75, e76, e77, e78, and_true, true_and, or_true, true_or, and_false, false_and, or_false, false_or] <;> omega)) (by (try simp only [z_r0_0, z_r0_2, z_r0_0_0, z_r0_0_1]); first | omega | (simp only [e75, e76, e77, e78, and_true, true_and, or_true, true_or, and_false, false_and, or_false, false_or] <;> omega)) (by (try simp only [z_r0_0, z_r0_2, z_r0_0_0, z_r0_0_1]); first | omega | (simp only [e75, e76, e77, e78, and_true, true_and, or_true, true_or, and_false, false_and, or_false, false_or] <;> omega)) (by (try simp only [z_r0_0, z_r0_2, z_r0_0_0, z_r0_0_1]); first | omega | (simp only [e75, e76, e77, e78, and_true, true_and, or_true, true_or, and_false, false_and, or_false, false_or] <;> omega)) (by (try simp only [z_r0_0, z_r0_2, z_r0_0_0, z_r0_0_1]); first | omega | (simp only [e75, e76, e77, e78, and_true, true_and, or_true, true_or, and_false, false_and, or_false, false_or] <;> omega)) (by (try simp only [z_r0_0, z_r0_2, z_r0_0_0, z_r0_0_1]); first | omega | (simp only [e75, e76, e77, e78, and_true, true_and, or_true, true_or, and_false, false_and, or_false, false_or] <;> omega))) rfl rfl rfl rfl rfl ⟨_, rfl, rfl, T_r0, Nat.le_of_ble_eq_true rfl⟩ rfl rfl (Nat.le_of_ble_eq_true rfl) (Nat.le_of_ble_eq_true rfl) (Nat.le_of_ble_eq_true rfl) ?_
      rintro x81 I82 L83 ⟨o0x81, o1x81, p0x81, p1x81, p2x81, p3x81, hI82, S84⟩
      try simp only [z_r0_0, z_r0_2, z_r0_0_0, z_r0_0_1] at S84
      have e85 := Chg.k S84 T_r0 (by decide) (by decide) e75
      have gx81 := rg x81
      obtain ⟨x86, e87⟩ : ∃ x, I82 r0 4 = x := ⟨_, rfl⟩
      have gx86 := rg x86
      obtain ⟨x88, e89⟩ : ∃ x, I82 r0 5 = x := ⟨_, rfl⟩
      have gx88 := rg x88
      obtain ⟨x90, e91⟩ : ∃ x, I82 r0_0 2 = x := ⟨_, rfl⟩
      have gx90 := rg x90
      try simp only [z_r0_0, z_r0_2, z_r0_0_0, z_r0_0_1] at p0x81
      try simp only [z_r0_0, z_r0_2, z_r0_0_0, z_r0_0_1] at p1x81
      try simp only [z_r0_0, z_r0_2, z_r0_0_0, z_r0_0_1] at p2x81
      try simp only [z_r0_0, z_r0_2, z_r0_0_0, z_r0_0_1] at p3x81
      try simp only [e75, e76, e77, e78, e87, e89, e91] at p0x81
      try have q0x81 := congrArg Int32.toInt p0x81
      try simp only [e75, e76, e77, e78, e87, e89, e91] at p1x81
      try have q1x81 := congrArg Int32.toInt p1x81
      try simp only [e75, e76, e77, e78, e87, e89, e91] at p2x81
      try have q2x81 := congrArg Int32.toInt p2x81
      try simp only [e75, e76, e77, e78, e87, e89, e91] at p3x81
      try have q3x81 := congrArg Int32.toInt p3x81
      have h75 := p0x81; rw [c75, hs68] at h75; obtain ⟨t75, ht75⟩ : ∃ t, RDT R I82 r0 = t := ⟨_, rfl⟩; rw [ht75] at h75
      refine b_if_eq C (t := 94) rfl rfl rfl (fun c92 => ?_) (fun c92 => ?_)
      · skip
        refine z_iconst C (z := 0) rfl rfl rfl (fun x93 ex93 => ?_)
        exact k_iret C rfl (Or.inr ⟨rfl, z01 (by omega) (by omega)⟩) (Nat.le_of_ble_eq_true rfl) (Nat.le_of_ble_eq_true rfl) ⟨_, _, _, rfl, rfl, by omega, by omega, by (try simp only [z_r0_0, z_r0_2, z_r0_0_0, z_r0_0_1]); rw [hcc, hs0]; first | exact RES.f (by omega) ((RPT.p (by omega)).trans (by rw [h75.no (by omega)]; rfl)) | exact ((h84.tk (b := 41) (by omega)).x (by omega)).b ((RPT.p (by omega)).trans (by rw [h75.y (by omega)]; rfl)), by (try simp only [z_r0_0, z_r0_2, z_r0_0_0, z_r0_0_1]); first | omega | (simp only [e85, e87, e89, e91, k0_r0_3, k0_r0_4, k0_r0_5, k0_r0_0_2, and_true, true_and] <;> omega), by (try simp only [z_r0_0, z_r0_2, z_r0_0_0, z_r0_0_1]); intro h9; first | omega | (simp only [e85, e87, e89, e91, k0_r0_3, k0_r0_4, k0_r0_5, k0_r0_0_2, and_true, true_and] <;> omega), by (try simp only [z_r0_0, z_r0_2, z_r0_0_0, z_r0_0_1]); first | omega | (simp only [e85, e87, e89, e91, k0_r0_3, k0_r0_4, k0_r0_5, k0_r0_0_2, and_true, true_and] <;> omega), hI82, (by (try simp only [z_r0_0, z_r0_2, z_r0_0_0, z_r0_0_1]); exact (Chg.cons (Chg.up S4 (List.forall_mem_cons.mpr ⟨List.mem_of_getElem? (i := 0) rfl, fun _ h => nomatch h⟩)) (Chg.cons (Chg.up S74 (List.forall_mem_cons.mpr ⟨List.mem_of_getElem? (i := 0) rfl, fun _ h => nomatch h⟩)) (Chg.mono (Chg.up S84 (List.forall_mem_cons.mpr ⟨List.mem_of_getElem? (i := 0) rfl, List.forall_mem_cons.mpr ⟨List.mem_of_getElem? (i := 1) rfl, List.forall_mem_cons.mpr ⟨List.mem_of_getElem? (i := 2) rfl, List.forall_mem_cons.mpr ⟨List.mem_of_getElem? (i := 3) rfl, fun _ h => nomatch h⟩⟩⟩⟩)) (by decide)) (by decide)) (by decide)))⟩
      refine k_aload_n C rfl rfl rfl ?_
      refine z_bipush C (z := 41) rfl rfl rfl (fun x94 ex94 => ?_)
      have c84 : RCH R I82 r0 = cc := (RCH.mv (Chg.at ((Chg.cons (Chg.up S4 (List.forall_mem_cons.mpr ⟨List.mem_of_getElem? (i := 0) rfl, fun _ h => nomatch h⟩)) (Chg.cons (Chg.up S74 (List.forall_mem_cons.mpr ⟨List.mem_of_getElem? (i := 0) rfl, fun _ h => nomatch h⟩)) (Chg.mono (Chg.up S84 (List.forall_mem_cons.mpr ⟨List.mem_of_getElem? (i := 0) rfl, List.forall_mem_cons.mpr ⟨List.mem_of_getElem? (i := 1) rfl, List.forall_mem_cons.mpr ⟨List.mem_of_getElem? (i := 2) rfl, List.forall_mem_cons.mpr ⟨List.mem_of_getElem? (i := 3) rfl, fun _ h => nomatch h⟩⟩⟩⟩)) (by decide)) (by decide)) (by decide)) : Chg (SL [r0, r0_0, r0_0_0, r0_0_1]) T [(5, 4), (5, 5), (8, 2)] I L I82 L83) (nm_4 (t_nq T_r0_2 T_r0 (by decide)) (t_nq T_r0_2 T_r0_0 (by decide)) (by first | exact nq20 | exact fun e => nq20 e.symm) (by first | exact nq21 | exact fun e => nq21 e.symm))) e85 k0_r0_3 z_r0_2).trans hcc
      refine c_VI C (s_X4_take_x hS hI82 H_r0 (by omega) (by omega) hU (by (try simp only [z_r0_0, z_r0_2, z_r0_0_0, z_r0_0_1]); first | omega | (simp only [e85, e87, e89, e91, and_true, true_and, or_true, true_or, and_false, false_and, or_false, false_or] <;> omega)) (by (try simp only [z_r0_0, z_r0_2, z_r0_0_0, z_r0_0_1]); first | omega | (simp only [e85, e87, e89, e91, and_true, true_and, or_true, true_or, and_false, false_and, or_false, false_or] <;> omega)) (by (try simp only [z_r0_0, z_r0_2, z_r0_0_0, z_r0_0_1]); first | omega | (simp only [e85, e87, e89, e91, and_true, true_and, or_true, true_or, and_false, false_and, or_false, false_or] <;> omega)) (by (try simp only [z_r0_0, z_r0_2, z_r0_0_0, z_r0_0_1]); first | omega | (simp only [e85, e87, e89, e91, and_true, true_and, or_true, true_or, and_false, false_and, or_false, false_or] <;> omega)) (by (try simp only [z_r0_0, z_r0_2, z_r0_0_0, z_r0_0_1]); first | omega | (simp only [e85, e87, e89, e91, and_true, true_and, or_true, true_or, and_false, false_and, or_false, false_or] <;> omega)) (by (try simp only [z_r0_0, z_r0_2, z_r0_0_0, z_r0_0_1]); first | omega | (simp only [e85, e87, e89, e91, and_true, true_and, or_true, true_or, and_false, false_and, or_false, false_or] <;> omega))) rfl rfl rfl rfl rfl ⟨_, rfl, rfl, T_r0, Nat.le_of_ble_eq_true rfl⟩ rfl rfl (Nat.le_of_ble_eq_true rfl) (Nat.le_of_ble_eq_true rfl) (Nat.le_of_ble_eq_true rfl) ?_
      rintro x95 I96 L97 ⟨o0x95, o1x95, p0x95, p1x95, p2x95, p3x95, hI96, S98⟩
      try simp only [z_r0_0, z_r0_2, z_r0_0_0, z_r0_0_1] at S98
      have e99 := Chg.k S98 T_r0 (by decide) (by decide) e85
      have e100 := Chg.k S98 T_r0 (by decide) (by decide) e89
      have e101 := Chg.k S98 T_r0_0 (by decide) (by decide) e91
      have gx95 := rg x95
      obtain ⟨x102, e103⟩ : ∃ x, I96 r0 4 = x := ⟨_, rfl⟩
      have gx102 := rg x102
      obtain ⟨x104, e105⟩ : ∃ x, I96 r0 5 = x := ⟨_, rfl⟩
      have gx104 := rg x104
      obtain ⟨x106, e107⟩ : ∃ x, I96 r0_0 2 = x := ⟨_, rfl⟩
      have gx106 := rg x106
      try simp only [z_r0_0, z_r0_2, z_r0_0_0, z_r0_0_1] at p0x95
      try simp only [z_r0_0, z_r0_2, z_r0_0_0, z_r0_0_1] at p1x95
      try simp only [z_r0_0, z_r0_2, z_r0_0_0, z_r0_0_1] at p2x95
      try simp only [z_r0_0, z_r0_2, z_r0_0_0, z_r0_0_1] at p3x95
      try simp only [e85, e87, e89, e91, e103, e105, e107] at p0x95
      try have q0x95 := congrArg Int32.toInt p0x95
      try simp only [e85, e87, e89, e91, e103, e105, e107] at p1x95
      try have q1x95 := congrArg Int32.toInt p1x95
      try simp only [e85, e87, e89, e91, e103, e105, e107] at p2x95
      try have q2x95 := congrArg Int32.toInt p2x95
      try simp only [e85, e87, e89, e91, e103, e105, e107] at p3x95
      try have q3x95 := congrArg Int32.toInt p3x95
      have h84 := p0x95; rw [c84, ht75] at h84
      refine b_if_eq C (t := 94) rfl rfl rfl (fun c108 => ?_) (fun c108 => ?_)
      · skip
        refine z_iconst C (z := 0) rfl rfl rfl (fun x109 ex109 => ?_)
        exact k_iret C rfl (Or.inr ⟨rfl, z01 (by omega) (by omega)⟩) (Nat.le_of_ble_eq_true rfl) (Nat.le_of_ble_eq_true rfl) ⟨_, _, _, rfl, rfl, by omega, by omega, by (try simp only [z_r0_0, z_r0_2, z_r0_0_0, z_r0_0_1]); rw [hcc, hs0]; first | exact RES.f (by omega) ((RPT.p (by omega)).trans (by rw [h75.no (by omega)]; rfl)) | exact ((h84.tk (b := 41) (by omega)).x (by omega)).b ((RPT.p (by omega)).trans (by rw [h75.y (by omega)]; rfl)), by (try simp only [z_r0_0, z_r0_2, z_r0_0_0, z_r0_0_1]); first | omega | (simp only [e99, e105, e107, e103, k0_r0_3, k0_r0_4, k0_r0_5, k0_r0_0_2, and_true, true_and] <;> omega), by (try simp only [z_r0_0, z_r0_2, z_r0_0_0, z_r0_0_1]); intro h9; first | omega | (simp only [e99, e105, e107, e103, k0_r0_3, k0_r0_4, k0_r0_5, k0_r0_0_2, and_true, true_and] <;> omega), by (try simp only [z_r0_0, z_r0_2, z_r0_0_0, z_r0_0_1]); first | omega | (simp only [e99, e105, e107, e103, k0_r0_3, k0_r0_4, k0_r0_5, k0_r0_0_2, and_true, true_and] <;> omega), hI96, (by (try simp only [z_r0_0, z_r0_2, z_r0_0_0, z_r0_0_1]); exact (Chg.cons (Chg.up S4 (List.forall_mem_cons.mpr ⟨List.mem_of_getElem? (i := 0) rfl, fun _ h => nomatch h⟩)) (Chg.cons (Chg.up S74 (List.forall_mem_cons.mpr ⟨List.mem_of_getElem? (i := 0) rfl, fun _ h => nomatch h⟩)) (Chg.cons (Chg.up S84 (List.forall_mem_cons.mpr ⟨List.mem_of_getElem? (i := 0) rfl, List.forall_mem_cons.mpr ⟨List.mem_of_getElem? (i := 1) rfl, List.forall_mem_cons.mpr ⟨List.mem_of_getElem? (i := 2) rfl, List.forall_mem_cons.mpr ⟨List.mem_of_getElem? (i := 3) rfl, fun _ h => nomatch h⟩⟩⟩⟩)) (Chg.mono (Chg.up S98 (List.forall_mem_cons.mpr ⟨List.mem_of_getElem? (i := 0) rfl, fun _ h => nomatch h⟩)) (by decide)) (by decide)) (by decide)) (by decide)))⟩
      refine z_iconst C (z := 1) rfl rfl rfl (fun x110 ex110 => ?_)
      refine k_goto C (pc2 := 95) rfl rfl ?_
      exact k_iret C rfl (Or.inr ⟨rfl, z01 (by omega) (by omega)⟩) (Nat.le_of_ble_eq_true rfl) (Nat.le_of_ble_eq_true rfl) ⟨_, _, _, rfl, rfl, by omega, by omega, by (try simp only [z_r0_0, z_r0_2, z_r0_0_0, z_r0_0_1]); rw [hcc, hs0]; first | exact RES.f (by omega) ((RPT.p (by omega)).trans (by rw [h75.no (by omega)]; rfl)) | exact ((h84.tk (b := 41) (by omega)).x (by omega)).b ((RPT.p (by omega)).trans (by rw [h75.y (by omega)]; rfl)), by (try simp only [z_r0_0, z_r0_2, z_r0_0_0, z_r0_0_1]); first | omega | (simp only [e99, e105, e107, e103, k0_r0_3, k0_r0_4, k0_r0_5, k0_r0_0_2, and_true, true_and] <;> omega), by (try simp only [z_r0_0, z_r0_2, z_r0_0_0, z_r0_0_1]); intro h9; first | omega | (simp only [e99, e105, e107, e103, k0_r0_3, k0_r0_4, k0_r0_5, k0_r0_0_2, and_true, true_and] <;> omega), by (try simp only [z_r0_0, z_r0_2, z_r0_0_0, z_r0_0_1]); first | omega | (simp only [e99, e105, e107, e103, k0_r0_3, k0_r0_4, k0_r0_5, k0_r0_0_2, and_true, true_and] <;> omega), hI96, (by (try simp only [z_r0_0, z_r0_2, z_r0_0_0, z_r0_0_1]); exact (Chg.cons (Chg.up S4 (List.forall_mem_cons.mpr ⟨List.mem_of_getElem? (i := 0) rfl, fun _ h => nomatch h⟩)) (Chg.cons (Chg.up S74 (List.forall_mem_cons.mpr ⟨List.mem_of_getElem? (i := 0) rfl, fun _ h => nomatch h⟩)) (Chg.cons (Chg.up S84 (List.forall_mem_cons.mpr ⟨List.mem_of_getElem? (i := 0) rfl, List.forall_mem_cons.mpr ⟨List.mem_of_getElem? (i := 1) rfl, List.forall_mem_cons.mpr ⟨List.mem_of_getElem? (i := 2) rfl, List.forall_mem_cons.mpr ⟨List.mem_of_getElem? (i := 3) rfl, fun _ h => nomatch h⟩⟩⟩⟩)) (Chg.mono (Chg.up S98 (List.forall_mem_cons.mpr ⟨List.mem_of_getElem? (i := 0) rfl, fun _ h => nomatch h⟩)) (by decide)) (by decide)) (by decide)) (by decide)))⟩
    refine k_aload_n C rfl rfl rfl ?_
    refine c_VI C (s_X4_isThingMore_x hS hI2 H_r0 (by (try simp only [z_r0_0, z_r0_2, z_r0_0_0, z_r0_0_1]); first | omega | (simp only [e5, e6, e7, e9, and_true, true_and, or_true, true_or, and_false, false_and, or_false, false_or] <;> omega)) (by (try simp only [z_r0_0, z_r0_2, z_r0_0_0, z_r0_0_1]); first | omega | (simp only [e5, e6, e7, e9, and_true, true_and, or_true, true_or, and_false, false_and, or_false, false_or] <;> omega))) rfl rfl rfl rfl rfl ⟨_, rfl, rfl, T_r0, Nat.le_of_ble_eq_true rfl⟩ rfl rfl (Nat.le_of_ble_eq_true rfl) (Nat.le_of_ble_eq_true rfl) (Nat.le_of_ble_eq_true rfl) ?_
    rintro x111 I112 L113 ⟨o0x111, o1x111, p0x111, p1x111, p2x111, p3x111, hI112, S114⟩
    try simp only [z_r0_0, z_r0_2, z_r0_0_0, z_r0_0_1] at S114
    have e115 := Chg.k S114 T_r0 (by decide) (by decide) e5
    have e116 := Chg.k S114 T_r0_0 (by decide) (by decide) e7
    have e117 := Chg.k S114 T_r0 (by decide) (by decide) e9
    have gx111 := rg x111
    obtain ⟨x118, e119⟩ : ∃ x, I112 r0 5 = x := ⟨_, rfl⟩
    have gx118 := rg x118
    try simp only [z_r0_0, z_r0_2, z_r0_0_0, z_r0_0_1] at p0x111
    try simp only [z_r0_0, z_r0_2, z_r0_0_0, z_r0_0_1] at p1x111
    try simp only [z_r0_0, z_r0_2, z_r0_0_0, z_r0_0_1] at p2x111
    try simp only [z_r0_0, z_r0_2, z_r0_0_0, z_r0_0_1] at p3x111
    try simp only [e5, e6, e7, e9, e119] at p0x111
    try have q0x111 := congrArg Int32.toInt p0x111
    try simp only [e5, e6, e7, e9, e119] at p1x111
    try have q1x111 := congrArg Int32.toInt p1x111
    try simp only [e5, e6, e7, e9, e119] at p2x111
    try have q2x111 := congrArg Int32.toInt p2x111
    try simp only [e5, e6, e7, e9, e119] at p3x111
    try have q3x111 := congrArg Int32.toInt p3x111
    have h24 := p0x111; rw [hs1] at h24; have h24y := p1x111; have h24n := p2x111
    refine b_if_eq C (t := 45) rfl rfl rfl (fun c120 => ?_) (fun c120 => ?_)
    · skip
      refine z_iconst C (z := 0) rfl rfl rfl (fun x121 ex121 => ?_)
      exact k_iret C rfl (Or.inr ⟨rfl, z01 (by omega) (by omega)⟩) (Nat.le_of_ble_eq_true rfl) (Nat.le_of_ble_eq_true rfl) ⟨_, _, _, rfl, rfl, by omega, by omega, by (try simp only [z_r0_0, z_r0_2, z_r0_0_0, z_r0_0_1]); rw [hcc, hs0]; first | exact RES.f (by omega) ((RPT.d (by rw [← hx1]; exact hd17 (by omega))).trans (RNB.n (s := (SKP cc s0.1, s0.2)) (show 40 ≤ s0.2.1 from by omega))) | exact ((h35.nb (a' := 1) (b' := 999) (by omega) (by omega)).x (by omega)).b ((RPT.d (by rw [← hx1]; exact hd17 (by omega))).trans (RNB.y (s := (SKP cc s0.1, s0.2)) (show s0.2.1 < 40 from by omega))), by (try simp only [z_r0_0, z_r0_2, z_r0_0_0, z_r0_0_1]); first | omega | (simp only [e115, e116, e117, e119, k0_r0_3, k0_r0_4, k0_r0_5, k0_r0_0_2, and_true, true_and] <;> omega), by (try simp only [z_r0_0, z_r0_2, z_r0_0_0, z_r0_0_1]); intro h9; first | omega | (simp only [e115, e116, e117, e119, k0_r0_3, k0_r0_4, k0_r0_5, k0_r0_0_2, and_true, true_and] <;> omega), by (try simp only [z_r0_0, z_r0_2, z_r0_0_0, z_r0_0_1]); first | omega | (simp only [e115, e116, e117, e119, k0_r0_3, k0_r0_4, k0_r0_5, k0_r0_0_2, and_true, true_and] <;> omega), hI112, (by (try simp only [z_r0_0, z_r0_2, z_r0_0_0, z_r0_0_1]); exact (Chg.cons (Chg.up S4 (List.forall_mem_cons.mpr ⟨List.mem_of_getElem? (i := 0) rfl, fun _ h => nomatch h⟩)) (Chg.mono (Chg.up S114 (List.forall_mem_cons.mpr ⟨List.mem_of_getElem? (i := 0) rfl, fun _ h => nomatch h⟩)) (by decide)) (by decide)))⟩
    refine k_aload_n C rfl rfl rfl ?_
    refine z_iconst C (z := 1) rfl rfl rfl (fun x122 ex122 => ?_)
    refine z_sipush C (z := 999) rfl rfl rfl (fun x123 ex123 => ?_)
    have c35 : RCH R I112 r0 = cc := (RCH.mv (Chg.at ((Chg.cons (Chg.up S4 (List.forall_mem_cons.mpr ⟨List.mem_of_getElem? (i := 0) rfl, fun _ h => nomatch h⟩)) (Chg.mono (Chg.up S114 (List.forall_mem_cons.mpr ⟨List.mem_of_getElem? (i := 0) rfl, fun _ h => nomatch h⟩)) (by decide)) (by decide)) : Chg (SL [r0, r0_0, r0_0_0, r0_0_1]) T [(5, 4), (5, 5), (8, 2)] I L I112 L113) (nm_4 (t_nq T_r0_2 T_r0 (by decide)) (t_nq T_r0_2 T_r0_0 (by decide)) (by first | exact nq20 | exact fun e => nq20 e.symm) (by first | exact nq21 | exact fun e => nq21 e.symm))) e115 k0_r0_3 z_r0_2).trans hcc
    refine c_VI C (s_X4_readNumber_x hS hI112 H_r0 (by omega) (by omega) hU (by (try simp only [z_r0_0, z_r0_2, z_r0_0_0, z_r0_0_1]); first | omega | (simp only [e115, e116, e117, e119, and_true, true_and, or_true, true_or, and_false, false_and, or_false, false_or] <;> omega)) (by (try simp only [z_r0_0, z_r0_2, z_r0_0_0, z_r0_0_1]); first | omega | (simp only [e115, e116, e117, e119, and_true, true_and, or_true, true_or, and_false, false_and, or_false, false_or] <;> omega)) (by (try simp only [z_r0_0, z_r0_2, z_r0_0_0, z_r0_0_1]); first | omega | (simp only [e115, e116, e117, e119, and_true, true_and, or_true, true_or, and_false, false_and, or_false, false_or] <;> omega)) (by (try simp only [z_r0_0, z_r0_2, z_r0_0_0, z_r0_0_1]); first | omega | (simp only [e115, e116, e117, e119, and_true, true_and, or_true, true_or, and_false, false_and, or_false, false_or] <;> omega)) (by (try simp only [z_r0_0, z_r0_2, z_r0_0_0, z_r0_0_1]); first | omega | (simp only [e115, e116, e117, e119, and_true, true_and, or_true, true_or, and_false, false_and, or_false, false_or] <;> omega)) (by (try simp only [z_r0_0, z_r0_2, z_r0_0_0, z_r0_0_1]); first | omega | (simp only [e115, e116, e117, e119, and_true, true_and, or_true, true_or, and_false, false_and, or_false, false_or] <;> omega)) (by rw [c35, h24]; show 48 ≤ cc (SKP cc s0.1) ∧ cc (SKP cc s0.1) ≤ 57; rw [← hx1]; exact hd17 (by omega))) rfl rfl rfl rfl rfl ⟨_, rfl, rfl, T_r0, Nat.le_of_ble_eq_true rfl⟩ rfl rfl (Nat.le_of_ble_eq_true rfl) (Nat.le_of_ble_eq_true rfl) (Nat.le_of_ble_eq_true rfl) ?_
    rintro x124 I125 L126 ⟨o0x124, o1x124, p0x124, p1x124, p2x124, p3x124, hI125, S127⟩
    try simp only [z_r0_0, z_r0_2, z_r0_0_0, z_r0_0_1] at S127
    have e128 := Chg.k S127 T_r0 (by decide) (by decide) e115
    have e129 := Chg.k S127 T_r0 (by decide) (by decide) e119
    have gx124 := rg x124
    obtain ⟨x130, e131⟩ : ∃ x, I125 r0 4 = x := ⟨_, rfl⟩
    have gx130 := rg x130
    obtain ⟨x132, e133⟩ : ∃ x, I125 r0 5 = x := ⟨_, rfl⟩
    have gx132 := rg x132
    obtain ⟨x134, e135⟩ : ∃ x, I125 r0_0 2 = x := ⟨_, rfl⟩
    have gx134 := rg x134
    try simp only [z_r0_0, z_r0_2, z_r0_0_0, z_r0_0_1] at p0x124
    try simp only [z_r0_0, z_r0_2, z_r0_0_0, z_r0_0_1] at p1x124
    try simp only [z_r0_0, z_r0_2, z_r0_0_0, z_r0_0_1] at p2x124
    try simp only [z_r0_0, z_r0_2, z_r0_0_0, z_r0_0_1] at p3x124
    try simp only [e115, e116, e117, e119, e131, e133, e135] at p0x124
    try have q0x124 := congrArg Int32.toInt p0x124
    try simp only [e115, e116, e117, e119, e131, e133, e135] at p1x124
    try have q1x124 := congrArg Int32.toInt p1x124
    try simp only [e115, e116, e117, e119, e131, e133, e135] at p2x124
    try have q2x124 := congrArg Int32.toInt p2x124
    try simp only [e115, e116, e117, e119, e131, e133, e135] at p3x124
    try have q3x124 := congrArg Int32.toInt p3x124
    have h35 := p0x124; rw [c35, h24] at h35
    refine b_if_eq C (t := 45) rfl rfl rfl (fun c136 => ?_) (fun c136 => ?_)
    · skip
      refine z_iconst C (z := 0) rfl rfl rfl (fun x137 ex137 => ?_)
      exact k_iret C rfl (Or.inr ⟨rfl, z01 (by omega) (by omega)⟩) (Nat.le_of_ble_eq_true rfl) (Nat.le_of_ble_eq_true rfl) ⟨_, _, _, rfl, rfl, by omega, by omega, by (try simp only [z_r0_0, z_r0_2, z_r0_0_0, z_r0_0_1]); rw [hcc, hs0]; first | exact RES.f (by omega) ((RPT.d (by rw [← hx1]; exact hd17 (by omega))).trans (RNB.n (s := (SKP cc s0.1, s0.2)) (show 40 ≤ s0.2.1 from by omega))) | exact ((h35.nb (a' := 1) (b' := 999) (by omega) (by omega)).x (by omega)).b ((RPT.d (by rw [← hx1]; exact hd17 (by omega))).trans (RNB.y (s := (SKP cc s0.1, s0.2)) (show s0.2.1 < 40 from by omega))), by (try simp only [z_r0_0, z_r0_2, z_r0_0_0, z_r0_0_1]); first | omega | (simp only [e128, e133, e131, e135, k0_r0_3, k0_r0_4, k0_r0_5, k0_r0_0_2, and_true, true_and] <;> omega), by (try simp only [z_r0_0, z_r0_2, z_r0_0_0, z_r0_0_1]); intro h9; first | omega | (simp only [e128, e133, e131, e135, k0_r0_3, k0_r0_4, k0_r0_5, k0_r0_0_2, and_true, true_and] <;> omega), by (try simp only [z_r0_0, z_r0_2, z_r0_0_0, z_r0_0_1]); first | omega | (simp only [e128, e133, e131, e135, k0_r0_3, k0_r0_4, k0_r0_5, k0_r0_0_2, and_true, true_and] <;> omega), hI125, (by (try simp only [z_r0_0, z_r0_2, z_r0_0_0, z_r0_0_1]); exact (Chg.cons (Chg.up S4 (List.forall_mem_cons.mpr ⟨List.mem_of_getElem? (i := 0) rfl, fun _ h => nomatch h⟩)) (Chg.cons (Chg.up S114 (List.forall_mem_cons.mpr ⟨List.mem_of_getElem? (i := 0) rfl, fun _ h => nomatch h⟩)) (Chg.mono (Chg.up S127 (List.forall_mem_cons.mpr ⟨List.mem_of_getElem? (i := 0) rfl, List.forall_mem_cons.mpr ⟨List.mem_of_getElem? (i := 1) rfl, List.forall_mem_cons.mpr ⟨List.mem_of_getElem? (i := 2) rfl, List.forall_mem_cons.mpr ⟨List.mem_of_getElem? (i := 3) rfl, fun _ h => nomatch h⟩⟩⟩⟩)) (by decide)) (by decide)) (by decide)))⟩
    refine z_iconst C (z := 1) rfl rfl rfl (fun x138 ex138 => ?_)
    refine k_goto C (pc2 := 46) rfl rfl ?_
    exact k_iret C rfl (Or.inr ⟨rfl, z01 (by omega) (by omega)⟩) (Nat.le_of_ble_eq_true rfl) (Nat.le_of_ble_eq_true rfl) ⟨_, _, _, rfl, rfl, by omega, by omega, by (try simp only [z_r0_0, z_r0_2, z_r0_0_0, z_r0_0_1]); rw [hcc, hs0]; first | exact RES.f (by omega) ((RPT.d (by rw [← hx1]; exact hd17 (by omega))).trans (RNB.n (s := (SKP cc s0.1, s0.2)) (show 40 ≤ s0.2.1 from by omega))) | exact ((h35.nb (a' := 1) (b' := 999) (by omega) (by omega)).x (by omega)).b ((RPT.d (by rw [← hx1]; exact hd17 (by omega))).trans (RNB.y (s := (SKP cc s0.1, s0.2)) (show s0.2.1 < 40 from by omega))), by (try simp only [z_r0_0, z_r0_2, z_r0_0_0, z_r0_0_1]); first | omega | (simp only [e128, e133, e131, e135, k0_r0_3, k0_r0_4, k0_r0_5, k0_r0_0_2, and_true, true_and] <;> omega), by (try simp only [z_r0_0, z_r0_2, z_r0_0_0, z_r0_0_1]); intro h9; first | omega | (simp only [e128, e133, e131, e135, k0_r0_3, k0_r0_4, k0_r0_5, k0_r0_0_2, and_true, true_and] <;> omega), by (try simp only [z_r0_0, z_r0_2, z_r0_0_0, z_r0_0_1]); first | omega | (simp only [e128, e133, e131, e135, k0_r0_3, k0_r0_4, k0_r0_5, k0_r0_0_2, and_true, true_and] <;> omega), hI125, (by (try simp only [z_r0_0, z_r0_2, z_r0_0_0, z_r0_0_1]); exact (Chg.cons (Chg.up S4 (List.forall_mem_cons.mpr ⟨List.mem_of_getElem? (i := 0) rfl, fun _ h => nomatch h⟩)) (Chg.cons (Chg.up S114 (List.forall_mem_cons.mpr ⟨List.mem_of_getElem? (i := 0) rfl, fun _ h => nomatch h⟩)) (Chg.mono (Chg.up S127 (List.forall_mem_cons.mpr ⟨List.mem_of_getElem? (i := 0) rfl, List.forall_mem_cons.mpr ⟨List.mem_of_getElem? (i := 1) rfl, List.forall_mem_cons.mpr ⟨List.mem_of_getElem? (i := 2) rfl, List.forall_mem_cons.mpr ⟨List.mem_of_getElem? (i := 3) rfl, fun _ h => nomatch h⟩⟩⟩⟩)) (by decide)) (by decide)) (by decide)))⟩
  refine k_aload_n C rfl rfl rfl ?_
  have c12 : RCH R I2 r0 = cc := (RCH.mv (Chg.at ((Chg.mono (Chg.up S4 (List.forall_mem_cons.mpr ⟨List.mem_of_getElem? (i := 0) rfl, fun _ h => nomatch h⟩)) (by decide)) : Chg (SL [r0, r0_0, r0_0_0, r0_0_1]) T [(5, 4), (5, 5), (8, 2)] I L I2 L3) (nm_4 (t_nq T_r0_2 T_r0 (by decide)) (t_nq T_r0_2 T_r0_0 (by decide)) (by first | exact nq20 | exact fun e => nq20 e.symm) (by first | exact nq21 | exact fun e => nq21 e.symm))) e5 k0_r0_3 z_r0_2).trans hcc
  refine c_VI C (s_X4_readLetter_x hS hI2 H_r0 hU (by (try simp only [z_r0_0, z_r0_2, z_r0_0_0, z_r0_0_1]); first | omega | (simp only [e5, e6, e7, e9, and_true, true_and, or_true, true_or, and_false, false_and, or_false, false_or] <;> omega)) (by (try simp only [z_r0_0, z_r0_2, z_r0_0_0, z_r0_0_1]); first | omega | (simp only [e5, e6, e7, e9, and_true, true_and, or_true, true_or, and_false, false_and, or_false, false_or] <;> omega)) (by (try simp only [z_r0_0, z_r0_2, z_r0_0_0, z_r0_0_1]); first | omega | (simp only [e5, e6, e7, e9, and_true, true_and, or_true, true_or, and_false, false_and, or_false, false_or] <;> omega)) (by (try simp only [z_r0_0, z_r0_2, z_r0_0_0, z_r0_0_1]); first | omega | (simp only [e5, e6, e7, e9, and_true, true_and, or_true, true_or, and_false, false_and, or_false, false_or] <;> omega)) (by (try simp only [z_r0_0, z_r0_2, z_r0_0_0, z_r0_0_1]); first | omega | (simp only [e5, e6, e7, e9, and_true, true_and, or_true, true_or, and_false, false_and, or_false, false_or] <;> omega)) (by (try simp only [z_r0_0, z_r0_2, z_r0_0_0, z_r0_0_1]); first | omega | (simp only [e5, e6, e7, e9, and_true, true_and, or_true, true_or, and_false, false_and, or_false, false_or] <;> omega)) (by (try simp only [z_r0_0, z_r0_2, z_r0_0_0, z_r0_0_1]); first | omega | (simp only [e5, e6, e7, e9, and_true, true_and, or_true, true_or, and_false, false_and, or_false, false_or] <;> omega))) rfl rfl rfl rfl rfl ⟨_, rfl, rfl, T_r0, Nat.le_of_ble_eq_true rfl⟩ rfl rfl (Nat.le_of_ble_eq_true rfl) (Nat.le_of_ble_eq_true rfl) (Nat.le_of_ble_eq_true rfl) ?_
  rintro x139 I140 L141 ⟨o0x139, o1x139, p0x139, p1x139, p2x139, p3x139, hI140, S142⟩
  try simp only [z_r0_0, z_r0_2, z_r0_0_0, z_r0_0_1] at S142
  have e143 := Chg.k S142 T_r0 (by decide) (by decide) e5
  have gx139 := rg x139
  obtain ⟨x144, e145⟩ : ∃ x, I140 r0 4 = x := ⟨_, rfl⟩
  have gx144 := rg x144
  obtain ⟨x146, e147⟩ : ∃ x, I140 r0 5 = x := ⟨_, rfl⟩
  have gx146 := rg x146
  obtain ⟨x148, e149⟩ : ∃ x, I140 r0_0 2 = x := ⟨_, rfl⟩
  have gx148 := rg x148
  try simp only [z_r0_0, z_r0_2, z_r0_0_0, z_r0_0_1] at p0x139
  try simp only [z_r0_0, z_r0_2, z_r0_0_0, z_r0_0_1] at p1x139
  try simp only [z_r0_0, z_r0_2, z_r0_0_0, z_r0_0_1] at p2x139
  try simp only [z_r0_0, z_r0_2, z_r0_0_0, z_r0_0_1] at p3x139
  try simp only [e5, e6, e7, e9, e145, e147, e149] at p0x139
  try have q0x139 := congrArg Int32.toInt p0x139
  try simp only [e5, e6, e7, e9, e145, e147, e149] at p1x139
  try have q1x139 := congrArg Int32.toInt p1x139
  try simp only [e5, e6, e7, e9, e145, e147, e149] at p2x139
  try have q2x139 := congrArg Int32.toInt p2x139
  try simp only [e5, e6, e7, e9, e145, e147, e149] at p3x139
  try have q3x139 := congrArg Int32.toInt p3x139
  have h12 := p0x139; rw [c12, hs1] at h12
  exact k_iret C rfl (Or.inr ⟨rfl, z01 (by omega) (by omega)⟩) (Nat.le_of_ble_eq_true rfl) (Nat.le_of_ble_eq_true rfl) ⟨_, _, _, rfl, rfl, by omega, by omega, by (try simp only [z_r0_0, z_r0_2, z_r0_0_0, z_r0_0_1]); rw [hcc, hs0]; exact h12.b (RPT.l (by omega)), by (try simp only [z_r0_0, z_r0_2, z_r0_0_0, z_r0_0_1]); first | omega | (simp only [e143, e145, e147, e149, k0_r0_3, k0_r0_4, k0_r0_5, k0_r0_0_2, and_true, true_and] <;> omega), by (try simp only [z_r0_0, z_r0_2, z_r0_0_0, z_r0_0_1]); intro h9; first | omega | (simp only [e143, e145, e147, e149, k0_r0_3, k0_r0_4, k0_r0_5, k0_r0_0_2, and_true, true_and] <;> omega), by (try simp only [z_r0_0, z_r0_2, z_r0_0_0, z_r0_0_1]); first | omega | (simp only [e143, e145, e147, e149, k0_r0_3, k0_r0_4, k0_r0_5, k0_r0_0_2, and_true, true_and] <;> omega), hI140, (by (try simp only [z_r0_0, z_r0_2, z_r0_0_0, z_r0_0_1]); exact (Chg.cons (Chg.up S4 (List.forall_mem_cons.mpr ⟨List.mem_of_getElem? (i := 0) rfl, fun _ h => nomatch h⟩)) (Chg.mono (Chg.up S142 (List.forall_mem_cons.mpr ⟨List.mem_of_getElem? (i := 0) rfl, List.forall_mem_cons.mpr ⟨List.mem_of_getElem? (i := 1) rfl, List.forall_mem_cons.mpr ⟨List.mem_of_getElem? (i := 2) rfl, List.forall_mem_cons.mpr ⟨List.mem_of_getElem? (i := 3) rfl, fun _ h => nomatch h⟩⟩⟩⟩)) (by decide)) (by decide)))⟩

