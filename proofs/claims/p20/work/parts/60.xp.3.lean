/-! on -/
theorem s_X4_readOverlap_g {d : Nat} {l : Int} {m : Nat} (hl0 : 0 ≤ l) (hl5 : l ≤ 5) (hSum : CS_Sum (d + 9) l m) : CS_Overlap (d + 10) l m := by
  intro T N I L R A B r0 n1 hS hI H_r0 b0_n1 b1_n1 hU hp0 hp1 hp2 hp3 hp4 hp5 hp6
  refine ⟨_, rfl, Nat.le_of_ble_eq_true rfl, fun V C S => ?_⟩
  show V 0 [(0, .ref r0), (1, .int n1)] [] (T, N, I, L, R) 0 0
  have gn1 := rg n1
  obtain ⟨T_r0, A_r0, B_r0, ⟨r0_0, R_r0_0, H_r0_0⟩, ⟨r0_2, R_r0_2, H_r0_2⟩⟩ := id H_r0
  have z_r0_0 : rA R r0 0 = r0_0 := rA_e R_r0_0
  have z_r0_2 : rA R r0 2 = r0_2 := rA_e R_r0_2
  obtain ⟨T_r0_0, A_r0_0, B_r0_0, ⟨r0_0_0, R_r0_0_0, H_r0_0_0⟩, ⟨r0_0_1, R_r0_0_1, H_r0_0_1⟩⟩ := id H_r0_0
  have z_r0_0_0 : rA R r0_0 0 = r0_0_0 := rA_e R_r0_0_0
  have z_r0_0_1 : rA R r0_0 1 = r0_0_1 := rA_e R_r0_0_1
  obtain ⟨T_r0_2, N_r0_2, A_r0_2⟩ := id H_r0_2
  obtain ⟨T_r0_0_0, N_r0_0_0, A_r0_0_0⟩ := id H_r0_0_0
  obtain ⟨T_r0_0_1, N_r0_0_1, A_r0_0_1⟩ := id H_r0_0_1
  have nq20 : NQ8 r0_2 r0_0_0 := hU.ne (t20 T_r0_2) R_r0_2 R_r0_0_0 (Or.inl (t_nq T_r0 T_r0_0 (by decide)))
  have nq21 : NQ8 r0_2 r0_0_1 := hU.ne (t20 T_r0_2) R_r0_2 R_r0_0_1 (Or.inl (t_nq T_r0 T_r0_0 (by decide)))
  have nq01 : NQ8 r0_0_0 r0_0_1 := hU.ne (t20 T_r0_0_0) R_r0_0_0 R_r0_0_1 (Or.inr (by decide))
  try simp only [z_r0_0, z_r0_2, z_r0_0_0, z_r0_0_1] at hp0
  try simp only [z_r0_0, z_r0_2, z_r0_0_0, z_r0_0_1] at hp1
  try simp only [z_r0_0, z_r0_2, z_r0_0_0, z_r0_0_1] at hp2
  try simp only [z_r0_0, z_r0_2, z_r0_0_0, z_r0_0_1] at hp3
  try simp only [z_r0_0, z_r0_2, z_r0_0_0, z_r0_0_1] at hp4
  try simp only [z_r0_0, z_r0_2, z_r0_0_0, z_r0_0_1] at hp5
  try simp only [z_r0_0, z_r0_2, z_r0_0_0, z_r0_0_1] at hp6
  obtain ⟨w_r0_3, k0_r0_3⟩ : ∃ x, I r0 3 = x := ⟨_, rfl⟩
  have gw_r0_3 := rg w_r0_3
  obtain ⟨w_r0_4, k0_r0_4⟩ : ∃ x, I r0 4 = x := ⟨_, rfl⟩
  have gw_r0_4 := rg w_r0_4
  obtain ⟨w_r0_5, k0_r0_5⟩ : ∃ x, I r0 5 = x := ⟨_, rfl⟩
  have gw_r0_5 := rg w_r0_5
  obtain ⟨w_r0_0_2, k0_r0_0_2⟩ : ∃ x, I r0_0 2 = x := ⟨_, rfl⟩
  have gw_r0_0_2 := rg w_r0_0_2
  try simp only [k0_r0_3, k0_r0_4, k0_r0_5, k0_r0_0_2] at hp0
  try simp only [k0_r0_3, k0_r0_4, k0_r0_5, k0_r0_0_2] at hp1
  try simp only [k0_r0_3, k0_r0_4, k0_r0_5, k0_r0_0_2] at hp2
  try simp only [k0_r0_3, k0_r0_4, k0_r0_5, k0_r0_0_2] at hp3
  try simp only [k0_r0_3, k0_r0_4, k0_r0_5, k0_r0_0_2] at hp4
  try simp only [k0_r0_3, k0_r0_4, k0_r0_5, k0_r0_0_2] at hp5
  try simp only [k0_r0_3, k0_r0_4, k0_r0_5, k0_r0_0_2] at hp6
  obtain ⟨cc, hcc⟩ : ∃ c, RCH R I r0 = c := ⟨_, rfl⟩
  have hc40 : C40 cc := by rw [← hcc]; exact RCH.c40 (by rw [k0_r0_3]; omega)
  obtain ⟨s0, hs0⟩ : ∃ s, RDT R I r0 = s := ⟨_, rfl⟩
  have hp0 := RDT.c1 hs0 k0_r0_4 (by omega)
  have ht0 := RDT.c2 hs0 k0_r0_5 (by omega)
  refine k_aload_n C rfl rfl rfl ?_
  refine c_VI C (s_X4_isThingMore_x hS hI H_r0 (by (try simp only [z_r0_0, z_r0_2, z_r0_0_0, z_r0_0_1]); first | omega | (simp only [k0_r0_3, k0_r0_4, k0_r0_5, k0_r0_0_2, and_true, true_and, or_true, true_or, and_false, false_and, or_false, false_or] <;> omega)) (by (try simp only [z_r0_0, z_r0_2, z_r0_0_0, z_r0_0_1]); first | omega | (simp only [k0_r0_3, k0_r0_4, k0_r0_5, k0_r0_0_2, and_true, true_and, or_true, true_or, and_false, false_and, or_false, false_or] <;> omega))) rfl rfl rfl rfl rfl ⟨_, rfl, rfl, T_r0, Nat.le_of_ble_eq_true rfl⟩ rfl rfl (Nat.le_of_ble_eq_true rfl) (Nat.le_of_ble_eq_true rfl) (Nat.le_of_ble_eq_true rfl) ?_
  rintro x1 I2 L3 ⟨o0x1, o1x1, p0x1, p1x1, p2x1, p3x1, hI2, S4⟩
  try simp only [z_r0_0, z_r0_2, z_r0_0_0, z_r0_0_1] at S4
  have e5 := Chg.k S4 T_r0 (by decide) (by decide) k0_r0_3
  have e6 := Chg.k S4 T_r0 (by decide) (by decide) k0_r0_4
  have e7 := Chg.k S4 T_r0_0 (by decide) (by decide) k0_r0_0_2
  have gx1 := rg x1
  obtain ⟨x8, e9⟩ : ∃ x, I2 r0 5 = x := ⟨_, rfl⟩
  have gx8 := rg x8
  try simp only [z_r0_0, z_r0_2, z_r0_0_0, z_r0_0_1] at p0x1
  try simp only [z_r0_0, z_r0_2, z_r0_0_0, z_r0_0_1] at p1x1
  try simp only [z_r0_0, z_r0_2, z_r0_0_0, z_r0_0_1] at p2x1
  try simp only [z_r0_0, z_r0_2, z_r0_0_0, z_r0_0_1] at p3x1
  try simp only [k0_r0_3, k0_r0_4, k0_r0_5, k0_r0_0_2, e9] at p0x1
  try have q0x1 := congrArg Int32.toInt p0x1
  try simp only [k0_r0_3, k0_r0_4, k0_r0_5, k0_r0_0_2, e9] at p1x1
  try have q1x1 := congrArg Int32.toInt p1x1
  try simp only [k0_r0_3, k0_r0_4, k0_r0_5, k0_r0_0_2, e9] at p2x1
  try have q2x1 := congrArg Int32.toInt p2x1
  try simp only [k0_r0_3, k0_r0_4, k0_r0_5, k0_r0_0_2, e9] at p3x1
  try have q3x1 := congrArg Int32.toInt p3x1
  have hs1 := p0x1; rw [hs0] at hs1; have hy1 := p1x1; have hn1 := p2x1
  refine b_if_ne C (t := 9) rfl rfl rfl (fun c10 => ?_) (fun c10 => ?_)
  · skip
    refine k_aload_n C rfl rfl rfl ?_
    refine k_dup C rfl rfl rfl ?_
    refine g_I C rfl rfl rfl T_r0 rfl e6 ?_
    refine z_iconst C (z := 1) rfl rfl rfl (fun x11 ex11 => ?_)
    refine z_iadd C rfl rfl ⟨by omega, by omega⟩ (fun x12 ex12 => ?_)
    refine z_pI C rfl rfl rfl T_r0 (Or.inr rfl) rfl (fun I13 uI13 => ?_)
    have hI13 : IX A T I13 := IX.f hI2 T_r0 (boX.tr (by decide) (by decide)) uI13
    have S14 : Chg (SL [r0]) T [(5, 4)] I2 L3 I13 L3 := Chg.f List.mem_cons_self T_r0 uI13
    have e15 := u2_j uI13 (by decide) e5
    have e16 := u2_j uI13 (by decide) e7
    have e17 := u2_j uI13 (by decide) e9
    have e18 := u2_e uI13
    have hq16 := uI13
    refine k_aload_n C rfl rfl rfl ?_
    refine k_iload_n C rfl rfl rfl ?_
    have hs16 := (RDT.nx (I1 := I13) hs1 z_r0_0 (p := s0.1 + 1) (by rw [hq16, u2_k (by decide)]) (STL.fr z_r0_0_0 z_r0_0_1 (by rw [hq16, u2_r (t_nq T_r0_0 T_r0 (by decide))]) (by rw [hq16, u2_r (t_nq T_r0_0_0 T_r0 (by decide))]) (by rw [hq16, u2_r (t_nq T_r0_0_1 T_r0 (by decide))])) (by rw [e18]; omega))
    have c21 : RCH R I13 r0 = cc := (RCH.mv (Chg.at ((Chg.cons (Chg.up S4 (List.forall_mem_cons.mpr ⟨List.mem_of_getElem? (i := 0) rfl, fun _ h => nomatch h⟩)) (Chg.mono (Chg.up S14 (List.forall_mem_cons.mpr ⟨List.mem_of_getElem? (i := 0) rfl, fun _ h => nomatch h⟩)) (by decide)) (by decide)) : Chg (SL [r0, r0_0, r0_0_0, r0_0_1]) T [(5, 4), (5, 5), (8, 2)] I L I13 L3) (nm_4 (t_nq T_r0_2 T_r0 (by decide)) (t_nq T_r0_2 T_r0_0 (by decide)) (by first | exact nq20 | exact fun e => nq20 e.symm) (by first | exact nq21 | exact fun e => nq21 e.symm))) e15 k0_r0_3 z_r0_2).trans hcc
    refine c_VI C (hSum hS hI13 H_r0 (by omega) (by omega) hU (by (try simp only [z_r0_0, z_r0_2, z_r0_0_0, z_r0_0_1]); first | omega | (simp only [e15, e16, e17, e18, and_true, true_and, or_true, true_or, and_false, false_and, or_false, false_or] <;> omega)) (by (try simp only [z_r0_0, z_r0_2, z_r0_0_0, z_r0_0_1]); first | omega | (simp only [e15, e16, e17, e18, and_true, true_and, or_true, true_or, and_false, false_and, or_false, false_or] <;> omega)) (by (try simp only [z_r0_0, z_r0_2, z_r0_0_0, z_r0_0_1]); first | omega | (simp only [e15, e16, e17, e18, and_true, true_and, or_true, true_or, and_false, false_and, or_false, false_or] <;> omega)) (by (try simp only [z_r0_0, z_r0_2, z_r0_0_0, z_r0_0_1]); first | omega | (simp only [e15, e16, e17, e18, and_true, true_and, or_true, true_or, and_false, false_and, or_false, false_or] <;> omega)) (by (try simp only [z_r0_0, z_r0_2, z_r0_0_0, z_r0_0_1]); first | omega | (simp only [e15, e16, e17, e18, and_true, true_and, or_true, true_or, and_false, false_and, or_false, false_or] <;> omega)) (by (try simp only [z_r0_0, z_r0_2, z_r0_0_0, z_r0_0_1]); first | omega | (simp only [e15, e16, e17, e18, and_true, true_and, or_true, true_or, and_false, false_and, or_false, false_or] <;> omega))) rfl rfl rfl rfl rfl ⟨_, rfl, rfl, T_r0, Nat.le_of_ble_eq_true rfl⟩ rfl rfl (Nat.le_of_ble_eq_true rfl) (Nat.le_of_ble_eq_true rfl) (Nat.le_of_ble_eq_true rfl) ?_
    rintro x19 I20 L21 ⟨o0x19, o1x19, p0x19, p1x19, p2x19, p3x19, hI20, S22⟩
    try simp only [z_r0_0, z_r0_2, z_r0_0_0, z_r0_0_1] at S22
    have e23 := Chg.k S22 T_r0 (by decide) (by decide) e15
    have gx19 := rg x19
    obtain ⟨x24, e25⟩ : ∃ x, I20 r0 4 = x := ⟨_, rfl⟩
    have gx24 := rg x24
    obtain ⟨x26, e27⟩ : ∃ x, I20 r0 5 = x := ⟨_, rfl⟩
    have gx26 := rg x26
    obtain ⟨x28, e29⟩ : ∃ x, I20 r0_0 2 = x := ⟨_, rfl⟩
    have gx28 := rg x28
    try simp only [z_r0_0, z_r0_2, z_r0_0_0, z_r0_0_1] at p0x19
    try simp only [z_r0_0, z_r0_2, z_r0_0_0, z_r0_0_1] at p1x19
    try simp only [z_r0_0, z_r0_2, z_r0_0_0, z_r0_0_1] at p2x19
    try simp only [z_r0_0, z_r0_2, z_r0_0_0, z_r0_0_1] at p3x19
    try simp only [e15, e16, e17, e18, e25, e27, e29] at p0x19
    try have q0x19 := congrArg Int32.toInt p0x19
    try simp only [e15, e16, e17, e18, e25, e27, e29] at p1x19
    try have q1x19 := congrArg Int32.toInt p1x19
    try simp only [e15, e16, e17, e18, e25, e27, e29] at p2x19
    try have q2x19 := congrArg Int32.toInt p2x19
    try simp only [e15, e16, e17, e18, e25, e27, e29] at p3x19
    try have q3x19 := congrArg Int32.toInt p3x19
    have h21 := p0x19; rw [c21, hs16] at h21; obtain ⟨t21, ht21⟩ : ∃ t, RDT R I20 r0 = t := ⟨_, rfl⟩; rw [ht21] at h21
    refine b_if_eq C (t := 53) rfl rfl rfl (fun c30 => ?_) (fun c30 => ?_)
    · skip
      refine z_iconst C (z := 0) rfl rfl rfl (fun x31 ex31 => ?_)
      exact k_iret C rfl (Or.inr ⟨rfl, z01 (by omega) (by omega)⟩) (Nat.le_of_ble_eq_true rfl) (Nat.le_of_ble_eq_true rfl) ⟨_, _, _, rfl, rfl, by omega, by omega, by (try simp only [z_r0_0, z_r0_2, z_r0_0_0, z_r0_0_1]); rw [hcc, hs0]; first | exact RES.f (by omega) (ROV.n1 (show s0.2.1 < 40 from by omega) (h21.no (by omega))) | exact RES.f (by omega) (ROV.n2 (show s0.2.1 < 40 from by omega) (h21.y (by omega)) (h30.no (by omega))) | exact RES.f (by omega) (ROV.n3 (show s0.2.1 < 40 from by omega) (h21.y (by omega)) (h30.y (by omega)) (h38.no (by omega))) | exact RES.f (by omega) ((ROV.y (show s0.2.1 < 40 from by omega) (h21.y (by omega)) (h30.y (by omega)) (h38.y (by omega))).trans (by rw [h47.no (by omega)]; rfl)), by (try simp only [z_r0_0, z_r0_2, z_r0_0_0, z_r0_0_1]); first | omega | (simp only [e23, e25, e27, e29, k0_r0_3, k0_r0_4, k0_r0_5, k0_r0_0_2, and_true, true_and] <;> omega), by (try simp only [z_r0_0, z_r0_2, z_r0_0_0, z_r0_0_1]); intro h9; first | omega | (simp only [e23, e25, e27, e29, k0_r0_3, k0_r0_4, k0_r0_5, k0_r0_0_2, and_true, true_and] <;> omega), by (try simp only [z_r0_0, z_r0_2, z_r0_0_0, z_r0_0_1]); first | omega | (simp only [e23, e25, e27, e29, k0_r0_3, k0_r0_4, k0_r0_5, k0_r0_0_2, and_true, true_and] <;> omega), hI20, (by (try simp only [z_r0_0, z_r0_2, z_r0_0_0, z_r0_0_1]); exact (Chg.cons (Chg.up S4 (List.forall_mem_cons.mpr ⟨List.mem_of_getElem? (i := 0) rfl, fun _ h => nomatch h⟩)) (Chg.cons (Chg.up S14 (List.forall_mem_cons.mpr ⟨List.mem_of_getElem? (i := 0) rfl, fun _ h => nomatch h⟩)) (Chg.mono (Chg.up S22 (List.forall_mem_cons.mpr ⟨List.mem_of_getElem? (i := 0) rfl, List.forall_mem_cons.mpr ⟨List.mem_of_getElem? (i := 1) rfl, List.forall_mem_cons.mpr ⟨List.mem_of_getElem? (i := 2) rfl, List.forall_mem_cons.mpr ⟨List.mem_of_getElem? (i := 3) rfl, fun _ h => nomatch h⟩⟩⟩⟩)) (by decide)) (by decide)) (by decide)))⟩
    refine k_aload_n C rfl rfl rfl ?_
    refine z_bipush C (z := 44) rfl rfl rfl (fun x32 ex32 => ?_)
    have c30 : RCH R I20 r0 = cc := (RCH.mv (Chg.at ((Chg.cons (Chg.up S4 (List.forall_mem_cons.mpr ⟨List.mem_of_getElem? (i := 0) rfl, fun _ h => nomatch h⟩)) (Chg.cons (Chg.up S14 (List.forall_mem_cons.mpr ⟨List.mem_of_getElem? (i := 0) rfl, fun _ h => nomatch h⟩)) (Chg.mono (Chg.up S22 (List.forall_mem_cons.mpr ⟨List.mem_of_getElem? (i := 0) rfl, List.forall_mem_cons.mpr ⟨List.mem_of_getElem? (i := 1) rfl, List.forall_mem_cons.mpr ⟨List.mem_of_getElem? (i := 2) rfl, List.forall_mem_cons.mpr ⟨List.mem_of_getElem? (i := 3) rfl, fun _ h => nomatch h⟩⟩⟩⟩)) (by decide)) (by decide)) (by decide)) : Chg (SL [r0, r0_0, r0_0_0, r0_0_1]) T [(5, 4), (5, 5), (8, 2)] I L I20 L21) (nm_4 (t_nq T_r0_2 T_r0 (by decide)) (t_nq T_r0_2 T_r0_0 (by decide)) (by first | exact nq20 | exact fun e => nq20 e.symm) (by first | exact nq21 | exact fun e => nq21 e.symm))) e23 k0_r0_3 z_r0_2).trans hcc
    refine c_VI C (s_X4_take_x hS hI20 H_r0 (by omega) (by omega) hU (by (try simp only [z_r0_0, z_r0_2, z_r0_0_0, z_r0_0_1]); first | omega | (simp only [e23, e25, e27, e29, and_true, true_and, or_true, true_or, and_false, false_and, or_false, false_or] <;> omega)) (by (try simp only [z_r0_0, z_r0_2, z_r0_0_0, z_r0_0_1]); first | omega | (simp only [e23, e25, e27, e29, and_true, true_and, or_true, true_or, and_false, false_and, or_false, false_or] <;> omega)) (by (try simp only [z_r0_0, z_r0_2, z_r0_0_0, z_r0_0_1]); first | omega | (simp only [e23, e25, e27, e29, and_true, true_and, or_true, true_or, and_false, false_and, or_false, false_or] <;> omega)) (by (try simp only [z_r0_0, z_r0_2, z_r0_0_0, z_r0_0_1]); first | omega | (simp only [e23, e25, e27, e29, and_true, true_and, or_true, true_or, and_false, false_and, or_false, false_or] <;> omega)) (by (try simp only [z_r0_0, z_r0_2, z_r0_0_0, z_r0_0_1]); first | omega | (simp only [e23, e25, e27, e29, and_true, true_and, or_true, true_or, and_false, false_and, or_false, false_or] <;> omega)) (by (try simp only [z_r0_0, z_r0_2, z_r0_0_0, z_r0_0_1]); first | omega | (simp only [e23, e25, e27, e29, and_true, true_and, or_true, true_or, and_false, false_and, or_false, false_or] <;> omega))) rfl rfl rfl rfl rfl ⟨_, rfl, rfl, T_r0, Nat.le_of_ble_eq_true rfl⟩ rfl rfl (Nat.le_of_ble_eq_true rfl) (Nat.le_of_ble_eq_true rfl) (Nat.le_of_ble_eq_true rfl) ?_
    rintro x33 I34 L35 ⟨o0x33, o1x33, p0x33, p1x33, p2x33, p3x33, hI34, S36⟩
    try simp only [z_r0_0, z_r0_2, z_r0_0_0, z_r0_0_1] at S36
    have e37 := Chg.k S36 T_r0 (by decide) (by decide) e23
    have e38 := Chg.k S36 T_r0 (by decide) (by decide) e27
    have e39 := Chg.k S36 T_r0_0 (by decide) (by decide) e29
    have gx33 := rg x33
    obtain ⟨x40, e41⟩ : ∃ x, I34 r0 4 = x := ⟨_, rfl⟩
    have gx40 := rg x40
    obtain ⟨x42, e43⟩ : ∃ x, I34 r0 5 = x := ⟨_, rfl⟩
    have gx42 := rg x42
    obtain ⟨x44, e45⟩ : ∃ x, I34 r0_0 2 = x := ⟨_, rfl⟩
    have gx44 := rg x44
    try simp only [z_r0_0, z_r0_2, z_r0_0_0, z_r0_0_1] at p0x33
    try simp only [z_r0_0, z_r0_2, z_r0_0_0, z_r0_0_1] at p1x33
    try simp only [z_r0_0, z_r0_2, z_r0_0_0, z_r0_0_1] at p2x33
    try simp only [z_r0_0, z_r0_2, z_r0_0_0, z_r0_0_1] at p3x33
    try simp only [e23, e25, e27, e29, e41, e43, e45] at p0x33
    try have q0x33 := congrArg Int32.toInt p0x33
    try simp only [e23, e25, e27, e29, e41, e43, e45] at p1x33
    try have q1x33 := congrArg Int32.toInt p1x33
    try simp only [e23, e25, e27, e29, e41, e43, e45] at p2x33
    try have q2x33 := congrArg Int32.toInt p2x33
    try simp only [e23, e25, e27, e29, e41, e43, e45] at p3x33
    try have q3x33 := congrArg Int32.toInt p3x33
    have h30 := p0x33; rw [c30, ht21] at h30; have h30 := h30.tk (b := 44) (by omega); obtain ⟨t30, ht30⟩ : ∃ t, RDT R I34 r0 = t := ⟨_, rfl⟩; rw [ht30] at h30
    refine b_if_eq C (t := 53) rfl rfl rfl (fun c46 => ?_) (fun c46 => ?_)
    · skip
      refine z_iconst C (z := 0) rfl rfl rfl (fun x47 ex47 => ?_)
      exact k_iret C rfl (Or.inr ⟨rfl, z01 (by omega) (by omega)⟩) (Nat.le_of_ble_eq_true rfl) (Nat.le_of_ble_eq_true rfl) ⟨_, _, _, rfl, rfl, by omega, by omega, by (try simp only [z_r0_0, z_r0_2, z_r0_0_0, z_r0_0_1]); rw [hcc, hs0]; first | exact RES.f (by omega) (ROV.n1 (show s0.2.1 < 40 from by omega) (h21.no (by omega))) | exact RES.f (by omega) (ROV.n2 (show s0.2.1 < 40 from by omega) (h21.y (by omega)) (h30.no (by omega))) | exact RES.f (by omega) (ROV.n3 (show s0.2.1 < 40 from by omega) (h21.y (by omega)) (h30.y (by omega)) (h38.no (by omega))) | exact RES.f (by omega) ((ROV.y (show s0.2.1 < 40 from by omega) (h21.y (by omega)) (h30.y (by omega)) (h38.y (by omega))).trans (by rw [h47.no (by omega)]; rfl)), by (try simp only [z_r0_0, z_r0_2, z_r0_0_0, z_r0_0_1]); first | omega | (simp only [e37, e43, e45, e41, k0_r0_3, k0_r0_4, k0_r0_5, k0_r0_0_2, and_true, true_and] <;> omega), by (try simp only [z_r0_0, z_r0_2, z_r0_0_0, z_r0_0_1]); intro h9; first | omega | (simp only [e37, e43, e45, e41, k0_r0_3, k0_r0_4, k0_r0_5, k0_r0_0_2, and_true, true_and] <;> omega), by (try simp only [z_r0_0, z_r0_2, z_r0_0_0, z_r0_0_1]); first | omega | (simp only [e37, e43, e45, e41, k0_r0_3, k0_r0_4, k0_r0_5, k0_r0_0_2, and_true, true_and] <;> omega), hI34, (by (try simp only [z_r0_0, z_r0_2, z_r0_0_0, z_r0_0_1]); exact (Chg.cons (Chg.up S4 (List.forall_mem_cons.mpr ⟨List.mem_of_getElem? (i := 0) rfl, fun _ h => nomatch h⟩)) (Chg.cons (Chg.up S14 (List.forall_mem_cons.mpr ⟨List.mem_of_getElem? (i := 0) rfl, fun _ h => nomatch h⟩)) (Chg.cons (Chg.up S22 (List.forall_mem_cons.mpr ⟨List.mem_of_getElem? (i := 0) rfl, List.forall_mem_cons.mpr ⟨List.mem_of_getElem? (i := 1) rfl, List.forall_mem_cons.mpr ⟨List.mem_of_getElem? (i := 2) rfl, List.forall_mem_cons.mpr ⟨List.mem_of_getElem? (i := 3) rfl, fun _ h => nomatch h⟩⟩⟩⟩)) (Chg.mono (Chg.up S36 (List.forall_mem_cons.mpr ⟨List.mem_of_getElem? (i := 0) rfl, fun _ h => nomatch h⟩)) (by decide)) (by decide)) (by decide)) (by decide)))⟩
    refine k_aload_n C rfl rfl rfl ?_
    refine k_iload_n C rfl rfl rfl ?_
    have c38 : RCH R I34 r0 = cc := (RCH.mv (Chg.at ((Chg.cons (Chg.up S4 (List.forall_mem_cons.mpr ⟨List.mem_of_getElem? (i := 0) rfl, fun _ h => nomatch h⟩)) (Chg.cons (Chg.up S14 (List.forall_mem_cons.mpr ⟨List.mem_of_getElem? (i := 0) rfl, fun _ h => nomatch h⟩)) (Chg.cons (Chg.up S22 (List.forall_mem_cons.mpr ⟨List.mem_of_getElem? (i := 0) rfl, List.forall_mem_cons.mpr ⟨List.mem_of_getElem? (i := 1) rfl, List.forall_mem_cons.mpr ⟨List.mem_of_getElem? (i := 2) rfl, List.forall_mem_cons.mpr ⟨List.mem_of_getElem? (i := 3) rfl, fun _ h => nomatch h⟩⟩⟩⟩)) (Chg.mono (Chg.up S36 (List.forall_mem_cons.mpr ⟨List.mem_of_getElem? (i := 0) rfl, fun _ h => nomatch h⟩)) (by decide)) (by decide)) (by decide)) (by decide)) : Chg (SL [r0, r0_0, r0_0_0, r0_0_1]) T [(5, 4), (5, 5), (8, 2)] I L I34 L35) (nm_4 (t_nq T_r0_2 T_r0 (by decide)) (t_nq T_r0_2 T_r0_0 (by decide)) (by first | exact nq20 | exact fun e => nq20 e.symm) (by first | exact nq21 | exact fun e => nq21 e.symm))) e37 k0_r0_3 z_r0_2).trans hcc
    refine c_VI C (hSum hS hI34 H_r0 (by omega) (by omega) hU (by (try simp only [z_r0_0, z_r0_2, z_r0_0_0, z_r0_0_1]); first | omega | (simp only [e37, e43, e45, e41, and_true, true_and, or_true, true_or, and_false, false_and, or_false, false_or] <;> omega)) (by (try simp only [z_r0_0, z_r0_2, z_r0_0_0, z_r0_0_1]); first | omega | (simp only [e37, e43, e45, e41, and_true, true_and, or_true, true_or, and_false, false_and, or_false, false_or] <;> omega)) (by (try simp only [z_r0_0, z_r0_2, z_r0_0_0, z_r0_0_1]); first | omega | (simp only [e37, e43, e45, e41, and_true, true_and, or_true, true_or, and_false, false_and, or_false, false_or] <;> omega)) (by (try simp only [z_r0_0, z_r0_2, z_r0_0_0, z_r0_0_1]); first | omega | (simp only [e37, e43, e45, e41, and_true, true_and, or_true, true_or, and_false, false_and, or_false, false_or] <;> omega)) (by (try simp only [z_r0_0, z_r0_2, z_r0_0_0, z_r0_0_1]); first | omega | (simp only [e37, e43, e45, e41, and_true, true_and, or_true, true_or, and_false, false_and, or_false, false_or] <;> omega)) (by (try simp only [z_r0_0, z_r0_2, z_r0_0_0, z_r0_0_1]); first | omega | (simp only [e37, e43, e45, e41, and_true, true_and, or_true, true_or, and_false, false_and, or_false, false_or] <;> omega))) rfl rfl rfl rfl rfl ⟨_, rfl, rfl, T_r0, Nat.le_of_ble_eq_true rfl⟩ rfl rfl (Nat.le_of_ble_eq_true rfl) (Nat.le_of_ble_eq_true rfl) (Nat.le_of_ble_eq_true rfl) ?_
    rintro x48 I49 L50 ⟨o0x48, o1x48, p0x48, p1x48, p2x48, p3x48, hI49, S51⟩
    try simp only [z_r0_0, z_r0_2, z_r0_0_0, z_r0_0_1] at S51
    have e52 := Chg.k S51 T_r0 (by decide) (by decide) e37
    have gx48 := rg x48
    obtain ⟨x53, e54⟩ : ∃ x, I49 r0 4 = x := ⟨_, rfl⟩
    have gx53 := rg x53
    obtain ⟨x55, e56⟩ : ∃ x, I49 r0 5 = x := ⟨_, rfl⟩
    have gx55 := rg x55
    obtain ⟨x57, e58⟩ : ∃ x, I49 r0_0 2 = x := ⟨_, rfl⟩
    have gx57 := rg x57
    try simp only [z_r0_0, z_r0_2, z_r0_0_0, z_r0_0_1] at p0x48
    try simp only [z_r0_0, z_r0_2, z_r0_0_0, z_r0_0_1] at p1x48
    try simp only [z_r0_0, z_r0_2, z_r0_0_0, z_r0_0_1] at p2x48
    try simp only [z_r0_0, z_r0_2, z_r0_0_0, z_r0_0_1] at p3x48
    try simp only [e37, e43, e45, e41, e54, e56, e58] at p0x48
    try have q0x48 := congrArg Int32.toInt p0x48
    try simp only [e37, e43, e45, e41, e54, e56, e58] at p1x48
    try have q1x48 := congrArg Int32.toInt p1x48
    try simp only [e37, e43, e45, e41, e54, e56, e58] at p2x48
    try have q2x48 := congrArg Int32.toInt p2x48
    try simp only [e37, e43, e45, e41, e54, e56, e58] at p3x48
    try have q3x48 := congrArg Int32.toInt p3x48
    have h38 := p0x48; rw [c38, ht30] at h38; obtain ⟨t38, ht38⟩ : ∃ t, RDT R I49 r0 = t := ⟨_, rfl⟩; rw [ht38] at h38
    refine b_if_eq C (t := 53) rfl rfl rfl (fun c59 => ?_) (fun c59 => ?_)
    · skip
      refine z_iconst C (z := 0) rfl rfl rfl (fun x60 ex60 => ?_)
      exact k_iret C rfl (Or.inr ⟨rfl, z01 (by omega) (by omega)⟩) (Nat.le_of_ble_eq_true rfl) (Nat.le_of_ble_eq_true rfl) ⟨_, _, _, rfl, rfl, by omega, by omega, by (try simp only [z_r0_0, z_r0_2, z_r0_0_0, z_r0_0_1]); rw [hcc, hs0]; first | exact RES.f (by omega) (ROV.n1 (show s0.2.1 < 40 from by omega) (h21.no (by omega))) | exact RES.f (by omega) (ROV.n2 (show s0.2.1 < 40 from by omega) (h21.y (by omega)) (h30.no (by omega))) | exact RES.f (by omega) (ROV.n3 (show s0.2.1 < 40 from by omega) (h21.y (by omega)) (h30.y (by omega)) (h38.no (by omega))) | exact RES.f (by omega) ((ROV.y (show s0.2.1 < 40 from by omega) (h21.y (by omega)) (h30.y (by omega)) (h38.y (by omega))).trans (by rw [h47.no (by omega)]; rfl)), by (try simp only [z_r0_0, z_r0_2, z_r0_0_0, z_r0_0_1]); first | omega | (simp only [e52, e54, e56, e58, k0_r0_3, k0_r0_4, k0_r0_5, k0_r0_0_2, and_true, true_and] <;> omega), by (try simp only [z_r0_0, z_r0_2, z_r0_0_0, z_r0_0_1]); intro h9; first | omega | (simp only [e52, e54, e56, e58, k0_r0_3, k0_r0_4, k0_r0_5, k0_r0_0_2, and_true, true_and] <;> omega), by (try simp only [z_r0_0, z_r0_2, z_r0_0_0, z_r0_0_1]); first | omega | (simp only [e52, e54, e56, e58, k0_r0_3, k0_r0_4, k0_r0_5, k0_r0_0_2, and_true, true_and] <;> omega), hI49, (by (try simp only [z_r0_0, z_r0_2, z_r0_0_0, z_r0_0_1]); exact (Chg.cons (Chg.up S4 (List.forall_mem_cons.mpr ⟨List.mem_of_getElem? (i := 0) rfl, fun _ h => nomatch h⟩)) (Chg.cons (Chg.up S14 (List.forall_mem_cons.mpr ⟨List.mem_of_getElem? (i := 0) rfl, fun _ h => nomatch h⟩)) (Chg.cons (Chg.up S22 (List.forall_mem_cons.mpr ⟨List.mem_of_getElem? (i := 0) rfl, List.forall_mem_cons.mpr ⟨List.mem_of_getElem? (i := 1) rfl, List.forall_mem_cons.mpr ⟨List.mem_of_getElem? (i := 2) rfl, List.forall_mem_cons.mpr ⟨List.mem_of_getElem? (i := 3) rfl, fun _ h => nomatch h⟩⟩⟩⟩)) (Chg.cons (Chg.up S36 (List.forall_mem_cons.mpr ⟨List.mem_of_getElem? (i := 0) rfl, fun _ h => nomatch h⟩)) (Chg.mono (Chg.up S51 (List.forall_mem_cons.mpr ⟨List.mem_of_getElem? (i := 0) rfl, List.forall_mem_cons.mpr ⟨List.mem_of_getElem? (i := 1) rfl, List.forall_mem_cons.mpr ⟨List.mem_of_getElem? (i := 2) rfl, List.forall_mem_cons.mpr ⟨List.mem_of_getElem? (i := 3) rfl, fun _ h => nomatch h⟩⟩⟩⟩)) (by decide)) (by decide)) (by decide)) (by decide)) (by decide)))⟩
    refine k_aload_n C rfl rfl rfl ?_
    refine z_bipush C (z := 93) rfl rfl rfl (fun x61 ex61 => ?_)
    have c47 : RCH R I49 r0 = cc := (RCH.mv (Chg.at ((Chg.cons (Chg.up S4 (List.forall_mem_cons.mpr ⟨List.mem_of_getElem? (i := 0) rfl, fun _ h => nomatch h⟩)) (Chg.cons (Chg.up S14 (List.forall_mem_cons.mpr ⟨List.mem_of_getElem? (i := 0) rfl, fun _ h => nomatch h⟩)) (Chg.cons (Chg.up S22 (List.forall_mem_cons.mpr ⟨List.mem_of_getElem? (i := 0) rfl, List.forall_mem_cons.mpr ⟨List.mem_of_getElem? (i := 1) rfl, List.forall_mem_cons.mpr ⟨List.mem_of_getElem? (i := 2) rfl, List.forall_mem_cons.mpr ⟨List.mem_of_getElem? (i := 3) rfl, fun _ h => nomatch h⟩⟩⟩⟩)) (Chg.cons (Chg.up S36 (List.forall_mem_cons.mpr ⟨List.mem_of_getElem? (i := 0) rfl, fun _ h => nomatch h⟩)) (Chg.mono (Chg.up S51 (List.forall_mem_cons.mpr ⟨List.mem_of_getElem? (i := 0) rfl, List.forall_mem_cons.mpr ⟨List.mem_of_getElem? (i := 1) rfl, List.forall_mem_cons.mpr ⟨List.mem_of_getElem? (i := 2) rfl, List.forall_mem_cons.mpr ⟨List.mem_of_getElem? (i := 3) rfl, fun _ h => nomatch h⟩⟩⟩⟩)) (by decide)) (by decide)) (by decide)) (by decide)) (by decide)) : Chg (SL [r0, r0_0, r0_0_0, r0_0_1]) T [(5, 4), (5, 5), (8, 2)] I L I49 L50) (nm_4 (t_nq T_r0_2 T_r0 (by decide)) (t_nq T_r0_2 T_r0_0 (by decide)) (by first | exact nq20 | exact fun e => nq20 e.symm) (by first | exact nq21 | exact fun e => nq21 e.symm))) e52 k0_r0_3 z_r0_2).trans hcc
    refine c_VI C (s_X4_take_x hS hI49 H_r0 (by omega) (by omega) hU (by (try simp only [z_r0_0, z_r0_2, z_r0_0_0, z_r0_0_1]); first | omega | (simp only [e52, e54, e56, e58, and_true, true_and, or_true, true_or, and_false, false_and, or_false, false_or] <;> omega)) (by (try simp only [z_r0_0, z_r0_2, z_r0_0_0, z_r0_0_1]); first | omega | (simp only [e52, e54, e56, e58, and_true, true_and, or_true, true_or, and_false, false_and, or_false, false_or] <;> omega)) (by (try simp only [z_r0_0, z_r0_2, z_r0_0_0, z_r0_0_1]); first | omega | (simp only [e52, e54, e56, e58, and_true, true_and, or_true, true_or, and_false, false_and, or_false, false_or] <;> omega)) (by (try simp only [z_r0_0, z_r0_2, z_r0_0_0, z_r0_0_1]); first | omega | (simp only [e52, e54, e56, e58, and_true, true_and, or_true, true_or, and_false, false_and, or_false, false_or] <;> omega)) (by (try simp only [z_r0_0, z_r0_2, z_r0_0_0, z_r0_0_1]); first | omega | (simp only [e52, e54, e56, e58, and_true, true_and, or_true, true_or, and_false, false_and, or_false, false_or] <;> omega)) (by (try simp only [z_r0_0, z_r0_2, z_r0_0_0, z_r0_0_1]); first | omega | (simp only [e52, e54, e56, e58, and_true, true_and, or_true, true_or, and_false, false_and, or_false, false_or] <;> omega))) rfl rfl rfl rfl rfl ⟨_, rfl, rfl, T_r0, Nat.le_of_ble_eq_true rfl⟩ rfl rfl (Nat.le_of_ble_eq_true rfl) (Nat.le_of_ble_eq_true rfl) (Nat.le_of_ble_eq_true rfl) ?_
    rintro x62 I63 L64 ⟨o0x62, o1x62, p0x62, p1x62, p2x62, p3x62, hI63, S65⟩
    try simp only [z_r0_0, z_r0_2, z_r0_0_0, z_r0_0_1] at S65
    have e66 := Chg.k S65 T_r0 (by decide) (by decide) e52
    have e67 := Chg.k S65 T_r0 (by decide) (by decide) e56
    have e68 := Chg.k S65 T_r0_0 (by decide) (by decide) e58
    have gx62 := rg x62
    obtain ⟨x69, e70⟩ : ∃ x, I63 r0 4 = x := ⟨_, rfl⟩
    have gx69 := rg x69
    obtain ⟨x71, e72⟩ : ∃ x, I63 r0 5 = x := ⟨_, rfl⟩
    have gx71 := rg x71
    obtain ⟨x73, e74⟩ : ∃ x, I63 r0_0 2 = x := ⟨_, rfl⟩
    have gx73 := rg x73
    try simp only [z_r0_0, z_r0_2, z_r0_0_0, z_r0_0_1] at p0x62
    try simp only [z_r0_0, z_r0_2, z_r0_0_0, z_r0_0_1] at p1x62
    try simp only [z_r0_0, z_r0_2, z_r0_0_0, z_r0_0_1] at p2x62
    try simp only [z_r0_0, z_r0_2, z_r0_0_0, z_r0_0_1] at p3x62
    try simp only [e52, e54, e56, e58, e70, e72, e74] at p0x62
    try have q0x62 := congrArg Int32.toInt p0x62
    try simp only [e52, e54, e56, e58, e70, e72, e74] at p1x62
    try have q1x62 := congrArg Int32.toInt p1x62
    try simp only [e52, e54, e56, e58, e70, e72, e74] at p2x62
    try have q2x62 := congrArg Int32.toInt p2x62
    try simp only [e52, e54, e56, e58, e70, e72, e74] at p3x62
    try have q3x62 := congrArg Int32.toInt p3x62
    have h47 := p0x62; rw [c47, ht38] at h47; have h47 := h47.tk (b := 93) (by omega); obtain ⟨t47, ht47⟩ : ∃ t, RDT R I63 r0 = t := ⟨_, rfl⟩; rw [ht47] at h47
    refine b_if_ne C (t := 55) rfl rfl rfl (fun c75 => ?_) (fun c75 => ?_)
    · skip
      refine k_aload_n C rfl rfl rfl ?_
      have c56 : RCH R I63 r0 = cc := (RCH.mv (Chg.at ((Chg.cons (Chg.up S4 (List.forall_mem_cons.mpr ⟨List.mem_of_getElem? (i := 0) rfl, fun _ h => nomatch h⟩)) (Chg.cons (Chg.up S14 (List.forall_mem_cons.mpr ⟨List.mem_of_getElem? (i := 0) rfl, fun _ h => nomatch h⟩)) (Chg.cons (Chg.up S22 (List.forall_mem_cons.mpr ⟨List.mem_of_getElem? (i := 0) rfl, List.forall_mem_cons.mpr ⟨List.mem_of_getElem? (i := 1) rfl, List.forall_mem_cons.mpr ⟨List.mem_of_getElem? (i := 2) rfl, List.forall_mem_cons.mpr ⟨List.mem_of_getElem? (i := 3) rfl, fun _ h => nomatch h⟩⟩⟩⟩)) (Chg.cons (Chg.up S36 (List.forall_mem_cons.mpr ⟨List.mem_of_getElem? (i := 0) rfl, fun _ h => nomatch h⟩)) (Chg.cons (Chg.up S51 (List.forall_mem_cons.mpr ⟨List.mem_of_getElem? (i := 0) rfl, List.forall_mem_cons.mpr ⟨List.mem_of_getElem? (i := 1) rfl, List.forall_mem_cons.mpr ⟨List.mem_of_getElem? (i := 2) rfl, List.forall_mem_cons.mpr ⟨List.mem_of_getElem? (i := 3) rfl, fun _ h => nomatch h⟩⟩⟩⟩)) (Chg.mono (Chg.up S65 (List.forall_mem_cons.mpr ⟨List.mem_of_getElem? (i := 0) rfl, fun _ h => nomatch h⟩)) (by decide)) (by decide)) (by decide)) (by decide)) (by decide)) (by decide)) : Chg (SL [r0, r0_0, r0_0_0, r0_0_1]) T [(5, 4), (5, 5), (8, 2)] I L I63 L64) (nm_4 (t_nq T_r0_2 T_r0 (by decide)) (t_nq T_r0_2 T_r0_0 (by decide)) (by first | exact nq20 | exact fun e => nq20 e.symm) (by first | exact nq21 | exact fun e => nq21 e.symm))) e66 k0_r0_3 z_r0_2).trans hcc
      refine c_VI C (s_X4_next_x hS hI63 H_r0 (by (try simp only [z_r0_0, z_r0_2, z_r0_0_0, z_r0_0_1]); first | omega | (simp only [e66, e72, e74, e70, and_true, true_and, or_true, true_or, and_false, false_and, or_false, false_or] <;> omega)) (by (try simp only [z_r0_0, z_r0_2, z_r0_0_0, z_r0_0_1]); first | omega | (simp only [e66, e72, e74, e70, and_true, true_and, or_true, true_or, and_false, false_and, or_false, false_or] <;> omega)) (by (try simp only [z_r0_0, z_r0_2, z_r0_0_0, z_r0_0_1]); first | omega | (simp only [e66, e72, e74, e70, and_true, true_and, or_true, true_or, and_false, false_and, or_false, false_or] <;> omega)) (by (try simp only [z_r0_0, z_r0_2, z_r0_0_0, z_r0_0_1]); first | omega | (simp only [e66, e72, e74, e70, and_true, true_and, or_true, true_or, and_false, false_and, or_false, false_or] <;> omega))) rfl rfl rfl rfl rfl ⟨_, rfl, rfl, T_r0, Nat.le_of_ble_eq_true rfl⟩ rfl rfl (Nat.le_of_ble_eq_true rfl) (Nat.le_of_ble_eq_true rfl) (Nat.le_of_ble_eq_true rfl) ?_
      rintro x76 I77 L78 ⟨p0x76, p1x76, p2x76, p3x76, hI77, S79⟩
      try simp only [z_r0_0, z_r0_2, z_r0_0_0, z_r0_0_1] at S79
      have e80 := Chg.k S79 T_r0 (by decide) (by decide) e66
      have e81 := Chg.k S79 T_r0 (by decide) (by decide) e72
      have e82 := Chg.k S79 T_r0_0 (by decide) (by decide) e74
      have gx76 := rg x76
      obtain ⟨x83, e84⟩ : ∃ x, I77 r0 4 = x := ⟨_, rfl⟩
      have gx83 := rg x83
      try simp only [z_r0_0, z_r0_2, z_r0_0_0, z_r0_0_1] at p0x76
      try simp only [z_r0_0, z_r0_2, z_r0_0_0, z_r0_0_1] at p1x76
      try simp only [z_r0_0, z_r0_2, z_r0_0_0, z_r0_0_1] at p2x76
      try simp only [z_r0_0, z_r0_2, z_r0_0_0, z_r0_0_1] at p3x76
      try simp only [e66, e72, e74, e70, e84] at p0x76
      try have q0x76 := congrArg Int32.toInt p0x76
      try simp only [e66, e72, e74, e70, e84] at p1x76
      try have q1x76 := congrArg Int32.toInt p1x76
      try simp only [e66, e72, e74, e70, e84] at p2x76
      try have q2x76 := congrArg Int32.toInt p2x76
      try simp only [e66, e72, e74, e70, e84] at p3x76
      try have q3x76 := congrArg Int32.toInt p3x76
      have hx56 := p0x76; have hs56 := p1x76; rw [c56, ht47] at hx56 hs56
      refine c_SI C (s_X4_isDigit_x hS hI77 ) rfl rfl rfl rfl rfl rfl rfl (Nat.le_of_ble_eq_true rfl) (Nat.le_of_ble_eq_true rfl) (Nat.le_of_ble_eq_true rfl) ?_
      rintro x85 _ _ ⟨o0x85, o1x85, p0x85, p1x85, rfl, rfl⟩
      have gx85 := rg x85
      try simp only [z_r0_0, z_r0_2, z_r0_0_0, z_r0_0_1] at p0x85
      try simp only [z_r0_0, z_r0_2, z_r0_0_0, z_r0_0_1] at p1x85
      try simp only [e80, e81, e82, e84] at p0x85
      try have q0x85 := congrArg Int32.toInt p0x85
      try simp only [e80, e81, e82, e84] at p1x85
      try have q1x85 := congrArg Int32.toInt p1x85
      have hd59 := p0x85; have hnd59 := p1x85
      refine b_if_eq C (t := 79) rfl rfl rfl (fun c86 => ?_) (fun c86 => ?_)
      · skip
        refine z_iconst C (z := 0) rfl rfl rfl (fun x87 ex87 => ?_)
        exact k_iret C rfl (Or.inr ⟨rfl, z01 (by omega) (by omega)⟩) (Nat.le_of_ble_eq_true rfl) (Nat.le_of_ble_eq_true rfl) ⟨_, _, _, rfl, rfl, by omega, by omega, by (try simp only [z_r0_0, z_r0_2, z_r0_0_0, z_r0_0_1]); rw [hcc, hs0]; have hro := (ROV.y (show s0.2.1 < 40 from by omega) (h21.y (by omega)) (h30.y (by omega)) (h38.y (by omega))).trans (show _ = (some t47).bind (fun t => NUB 160 cc 4 8 (SKP cc t.1, t.2)) from (by rw [h47.y (by omega)])); first | exact RES.f (by omega) (hro.trans (NUB.z (s := (SKP cc t47.1, t47.2)) (by show ¬ (48 ≤ cc (SKP cc t47.1) ∧ cc (SKP cc t47.1) ≤ 57); rw [← hx56]; exact hnd59 (by omega)))) | exact ((h69.nb (a' := 4) (b' := 8) (by omega) (by omega)).x (by omega)).b hro, by (try simp only [z_r0_0, z_r0_2, z_r0_0_0, z_r0_0_1]); first | omega | (simp only [e80, e81, e82, e84, k0_r0_3, k0_r0_4, k0_r0_5, k0_r0_0_2, and_true, true_and] <;> omega), by (try simp only [z_r0_0, z_r0_2, z_r0_0_0, z_r0_0_1]); intro h9; first | omega | (simp only [e80, e81, e82, e84, k0_r0_3, k0_r0_4, k0_r0_5, k0_r0_0_2, and_true, true_and] <;> omega), by (try simp only [z_r0_0, z_r0_2, z_r0_0_0, z_r0_0_1]); first | omega | (simp only [e80, e81, e82, e84, k0_r0_3, k0_r0_4, k0_r0_5, k0_r0_0_2, and_true, true_and] <;> omega), hI77, (by (try simp only [z_r0_0, z_r0_2, z_r0_0_0, z_r0_0_1]); exact (Chg.cons (Chg.up S4 (List.forall_mem_cons.mpr ⟨List.mem_of_getElem? (i := 0) rfl, fun _ h => nomatch h⟩)) (Chg.cons (Chg.up S14 (List.forall_mem_cons.mpr ⟨List.mem_of_getElem? (i := 0) rfl, fun _ h => nomatch h⟩)) (Chg.cons (Chg.up S22 (List.forall_mem_cons.mpr ⟨List.mem_of_getElem? (i := 0) rfl, List.forall_mem_cons.mpr ⟨List.mem_of_getElem? (i := 1) rfl, List.forall_mem_cons.mpr ⟨List.mem_of_getElem? (i := 2) rfl, List.forall_mem_cons.mpr ⟨List.mem_of_getElem? (i := 3) rfl, fun _ h => nomatch h⟩⟩⟩⟩)) (Chg.cons (Chg.up S36 (List.forall_mem_cons.mpr ⟨List.mem_of_getElem? (i := 0) rfl, fun _ h => nomatch h⟩)) (Chg.cons (Chg.up S51 (List.forall_mem_cons.mpr ⟨List.mem_of_getElem? (i := 0) rfl, List.forall_mem_cons.mpr ⟨List.mem_of_getElem? (i := 1) rfl, List.forall_mem_cons.mpr ⟨List.mem_of_getElem? (i := 2) rfl, List.forall_mem_cons.mpr ⟨List.mem_of_getElem? (i := 3) rfl, fun _ h => nomatch h⟩⟩⟩⟩)) (Chg.cons (Chg.up S65 (List.forall_mem_cons.mpr ⟨List.mem_of_getElem? (i := 0) rfl, fun _ h => nomatch h⟩)) (Chg.mono (Chg.up S79 (List.forall_mem_cons.mpr ⟨List.mem_of_getElem? (i := 0) rfl, fun _ h => nomatch h⟩)) (by decide)) (by decide)) (by decide)) (by decide)) (by decide)) (by decide)) (by decide)))⟩
      refine k_aload_n C rfl rfl rfl ?_
      refine z_iconst C (z := 4) rfl rfl rfl (fun x88 ex88 => ?_)
      refine z_bipush C (z := 8) rfl rfl rfl (fun x89 ex89 => ?_)
      have c69 : RCH R I77 r0 = cc := (RCH.mv (Chg.at ((Chg.cons (Chg.up S4 (List.forall_mem_cons.mpr ⟨List.mem_of_getElem? (i := 0) rfl, fun _ h => nomatch h⟩)) (Chg.cons (Chg.up S14 (List.forall_mem_cons.mpr ⟨List.mem_of_getElem? (i := 0) rfl, fun _ h => nomatch h⟩)) (Chg.cons (Chg.up S22 (List.forall_mem_cons.mpr ⟨List.mem_of_getElem? (i := 0) rfl, List.forall_mem_cons.mpr ⟨List.mem_of_getElem? (i := 1) rfl, List.forall_mem_cons.mpr ⟨List.mem_of_getElem? (i := 2) rfl, List.forall_mem_cons.mpr ⟨List.mem_of_getElem? (i := 3) rfl, fun _ h => nomatch h⟩⟩⟩⟩)) (Chg.cons (Chg.up S36 (List.forall_mem_cons.mpr ⟨List.mem_of_getElem? (i := 0) rfl, fun _ h => nomatch h⟩)) (Chg.cons (Chg.up S51 (List.forall_mem_cons.mpr ⟨List.mem_of_getElem? (i := 0) rfl, List.forall_mem_cons.mpr ⟨List.mem_of_getElem? (i := 1) rfl, List.forall_mem_cons.mpr ⟨List.mem_of_getElem? (i := 2) rfl, List.forall_mem_cons.mpr ⟨List.mem_of_getElem? (i := 3) rfl, fun _ h => nomatch h⟩⟩⟩⟩)) (Chg.cons (Chg.up S65 (List.forall_mem_cons.mpr ⟨List.mem_of_getElem? (i := 0) rfl, fun _ h => nomatch h⟩)) (Chg.mono (Chg.up S79 (List.forall_mem_cons.mpr ⟨List.mem_of_getElem? (i := 0) rfl, fun _ h => nomatch h⟩)) (by decide)) (by decide)) (by decide)) (by decide)) (by decide)) (by decide)) (by decide)) : Chg (SL [r0, r0_0, r0_0_0, r0_0_1]) T [(5, 4), (5, 5), (8, 2)] I L I77 L78) (nm_4 (t_nq T_r0_2 T_r0 (by decide)) (t_nq T_r0_2 T_r0_0 (by decide)) (by first | exact nq20 | exact fun e => nq20 e.symm) (by first | exact nq21 | exact fun e => nq21 e.symm))) e80 k0_r0_3 z_r0_2).trans hcc
      refine c_VI C (s_X4_readNumber_x hS hI77 H_r0 (by omega) (by omega) hU (by (try simp only [z_r0_0, z_r0_2, z_r0_0_0, z_r0_0_1]); first | omega | (simp only [e80, e81, e82, e84, and_true, true_and, or_true, true_or, and_false, false_and, or_false, false_or] <;> omega)) (by (try simp only [z_r0_0, z_r0_2, z_r0_0_0, z_r0_0_1]); first | omega | (simp only [e80, e81, e82, e84, and_true, true_and, or_true, true_or, and_false, false_and, or_false, false_or] <;> omega)) (by (try simp only [z_r0_0, z_r0_2, z_r0_0_0, z_r0_0_1]); first | omega | (simp only [e80, e81, e82, e84, and_true, true_and, or_true, true_or, and_false, false_and, or_false, false_or] <;> omega)) (by (try simp only [z_r0_0, z_r0_2, z_r0_0_0, z_r0_0_1]); first | omega | (simp only [e80, e81, e82, e84, and_true, true_and, or_true, true_or, and_false, false_and, or_false, false_or] <;> omega)) (by (try simp only [z_r0_0, z_r0_2, z_r0_0_0, z_r0_0_1]); first | omega | (simp only [e80, e81, e82, e84, and_true, true_and, or_true, true_or, and_false, false_and, or_false, false_or] <;> omega)) (by (try simp only [z_r0_0, z_r0_2, z_r0_0_0, z_r0_0_1]); first | omega | (simp only [e80, e81, e82, e84, and_true, true_and, or_true, true_or, and_false, false_and, or_false, false_or] <;> omega)) (by rw [c69, hs56]; show 48 ≤ cc (SKP cc t47.1) ∧ cc (SKP cc t47.1) ≤ 57; rw [← hx56]; exact hd59 (by omega))) rfl rfl rfl rfl rfl ⟨_, rfl, rfl, T_r0, Nat.le_of_ble_eq_true rfl⟩ rfl rfl (Nat.le_of_ble_eq_true rfl) (Nat.le_of_ble_eq_true rfl) (Nat.le_of_ble_eq_true rfl) ?_
      rintro x90 I91 L92 ⟨o0x90, o1x90, p0x90, p1x90, p2x90, p3x90, hI91, S93⟩
      try simp only [z_r0_0, z_r0_2, z_r0_0_0, z_r0_0_1] at S93
      have e94 := Chg.k S93 T_r0 (by decide) (by decide) e80
      have e95 := Chg.k S93 T_r0 (by decide) (by decide) e81
      have gx90 := rg x90
      obtain ⟨x96, e97⟩ : ∃ x, I91 r0 4 = x := ⟨_, rfl⟩
      have gx96 := rg x96
      obtain ⟨x98, e99⟩ : ∃ x, I91 r0 5 = x := ⟨_, rfl⟩
      have gx98 := rg x98
      obtain ⟨x100, e101⟩ : ∃ x, I91 r0_0 2 = x := ⟨_, rfl⟩
      have gx100 := rg x100
      try simp only [z_r0_0, z_r0_2, z_r0_0_0, z_r0_0_1] at p0x90
      try simp only [z_r0_0, z_r0_2, z_r0_0_0, z_r0_0_1] at p1x90
      try simp only [z_r0_0, z_r0_2, z_r0_0_0, z_r0_0_1] at p2x90
      try simp only [z_r0_0, z_r0_2, z_r0_0_0, z_r0_0_1] at p3x90
      try simp only [e80, e81, e82, e84, e97, e99, e101] at p0x90
      try have q0x90 := congrArg Int32.toInt p0x90
      try simp only [e80, e81, e82, e84, e97, e99, e101] at p1x90
      try have q1x90 := congrArg Int32.toInt p1x90
      try simp only [e80, e81, e82, e84, e97, e99, e101] at p2x90
      try have q2x90 := congrArg Int32.toInt p2x90
      try simp only [e80, e81, e82, e84, e97, e99, e101] at p3x90
      try have q3x90 := congrArg Int32.toInt p3x90
      have h69 := p0x90; rw [c69, hs56] at h69
      refine b_if_eq C (t := 79) rfl rfl rfl (fun c102 => ?_) (fun c102 => ?_)
      · skip
        refine z_iconst C (z := 0) rfl rfl rfl (fun x103 ex103 => ?_)
        exact k_iret C rfl (Or.inr ⟨rfl, z01 (by omega) (by omega)⟩) (Nat.le_of_ble_eq_true rfl) (Nat.le_of_ble_eq_true rfl) ⟨_, _, _, rfl, rfl, by omega, by omega, by (try simp only [z_r0_0, z_r0_2, z_r0_0_0, z_r0_0_1]); rw [hcc, hs0]; have hro := (ROV.y (show s0.2.1 < 40 from by omega) (h21.y (by omega)) (h30.y (by omega)) (h38.y (by omega))).trans (show _ = (some t47).bind (fun t => NUB 160 cc 4 8 (SKP cc t.1, t.2)) from (by rw [h47.y (by omega)])); first | exact RES.f (by omega) (hro.trans (NUB.z (s := (SKP cc t47.1, t47.2)) (by show ¬ (48 ≤ cc (SKP cc t47.1) ∧ cc (SKP cc t47.1) ≤ 57); rw [← hx56]; exact hnd59 (by omega)))) | exact ((h69.nb (a' := 4) (b' := 8) (by omega) (by omega)).x (by omega)).b hro, by (try simp only [z_r0_0, z_r0_2, z_r0_0_0, z_r0_0_1]); first | omega | (simp only [e94, e99, e97, e101, k0_r0_3, k0_r0_4, k0_r0_5, k0_r0_0_2, and_true, true_and] <;> omega), by (try simp only [z_r0_0, z_r0_2, z_r0_0_0, z_r0_0_1]); intro h9; first | omega | (simp only [e94, e99, e97, e101, k0_r0_3, k0_r0_4, k0_r0_5, k0_r0_0_2, and_true, true_and] <;> omega), by (try simp only [z_r0_0, z_r0_2, z_r0_0_0, z_r0_0_1]); first | omega | (simp only [e94, e99, e97, e101, k0_r0_3, k0_r0_4, k0_r0_5, k0_r0_0_2, and_true, true_and] <;> omega), hI91, (by (try simp only [z_r0_0, z_r0_2, z_r0_0_0, z_r0_0_1]); exact (Chg.cons (Chg.up S4 (List.forall_mem_cons.mpr ⟨List.mem_of_getElem? (i := 0) rfl, fun _ h => nomatch h⟩)) (Chg.cons (Chg.up S14 (List.forall_mem_cons.mpr ⟨List.mem_of_getElem? (i := 0) rfl, fun _ h => nomatch h⟩)) (Chg.cons (Chg.up S22 (List.forall_mem_cons.mpr ⟨List.mem_of_getElem? (i := 0) rfl, List.forall_mem_cons.mpr ⟨List.mem_of_getElem? (i := 1) rfl, List.forall_mem_cons.mpr ⟨List.mem_of_getElem? (i := 2) rfl, List.forall_mem_cons.mpr ⟨List.mem_of_getElem? (i := 3) rfl, fun _ h => nomatch h⟩⟩⟩⟩)) (Chg.cons (Chg.up S36 (List.forall_mem_cons.mpr ⟨List.mem_of_getElem? (i := 0) rfl, fun _ h => nomatch h⟩)) (Chg.cons (Chg.up S51 (List.forall_mem_cons.mpr ⟨List.mem_of_getElem? (i := 0) rfl, List.forall_mem_cons.mpr ⟨List.mem_of_getElem? (i := 1) rfl, List.forall_mem_cons.mpr ⟨List.mem_of_getElem? (i := 2) rfl, List.forall_mem_cons.mpr ⟨List.mem_of_getElem? (i := 3) rfl, fun _ h => nomatch h⟩⟩⟩⟩)) (Chg.cons (Chg.up S65 (List.forall_mem_cons.mpr ⟨List.mem_of_getElem? (i := 0) rfl, fun _ h => nomatch h⟩)) (Chg.cons (Chg.up S79 (List.forall_mem_cons.mpr ⟨List.mem_of_getElem? (i := 0) rfl, fun _ h => nomatch h⟩)) (Chg.mono (Chg.up S93 (List.forall_mem_cons.mpr ⟨List.mem_of_getElem? (i := 0) rfl, List.forall_mem_cons.mpr ⟨List.mem_of_getElem? (i := 1) rfl, List.forall_mem_cons.mpr ⟨List.mem_of_getElem? (i := 2) rfl, List.forall_mem_cons.mpr ⟨List.mem_of_getElem? (i := 3) rfl, fun _ h => nomatch h⟩⟩⟩⟩)) (by decide)) (by decide)) (by decide)) (by decide)) (by decide)) (by decide)) (by decide)) (by decide)))⟩
      refine z_iconst C (z := 1) rfl rfl rfl (fun x104 ex104 => ?_)
      refine k_goto C (pc2 := 80) rfl rfl ?_
      exact k_iret C rfl (Or.inr ⟨rfl, z01 (by omega) (by omega)⟩) (Nat.le_of_ble_eq_true rfl) (Nat.le_of_ble_eq_true rfl) ⟨_, _, _, rfl, rfl, by omega, by omega, by (try simp only [z_r0_0, z_r0_2, z_r0_0_0, z_r0_0_1]); rw [hcc, hs0]; have hro := (ROV.y (show s0.2.1 < 40 from by omega) (h21.y (by omega)) (h30.y (by omega)) (h38.y (by omega))).trans (show _ = (some t47).bind (fun t => NUB 160 cc 4 8 (SKP cc t.1, t.2)) from (by rw [h47.y (by omega)])); first | exact RES.f (by omega) (hro.trans (NUB.z (s := (SKP cc t47.1, t47.2)) (by show ¬ (48 ≤ cc (SKP cc t47.1) ∧ cc (SKP cc t47.1) ≤ 57); rw [← hx56]; exact hnd59 (by omega)))) | exact ((h69.nb (a' := 4) (b' := 8) (by omega) (by omega)).x (by omega)).b hro, by (try simp only [z_r0_0, z_r0_2, z_r0_0_0, z_r0_0_1]); first | omega | (simp only [e94, e99, e97, e101, k0_r0_3, k0_r0_4, k0_r0_5, k0_r0_0_2, and_true, true_and] <;> omega), by (try simp only [z_r0_0, z_r0_2, z_r0_0_0, z_r0_0_1]); intro h9; first | omega | (simp only [e94, e99, e97, e101, k0_r0_3, k0_r0_4, k0_r0_5, k0_r0_0_2, and_true, true_and] <;> omega), by (try simp only [z_r0_0, z_r0_2, z_r0_0_0, z_r0_0_1]); first | omega | (simp only [e94, e99, e97, e101, k0_r0_3, k0_r0_4, k0_r0_5, k0_r0_0_2, and_true, true_and] <;> omega), hI91, (by (try simp only [z_r0_0, z_r0_2, z_r0_0_0, z_r0_0_1]); exact (Chg.cons (Chg.up S4 (List.forall_mem_cons.mpr ⟨List.mem_of_getElem? (i := 0) rfl, fun _ h => nomatch h⟩)) (Chg.cons (Chg.up S14 (List.forall_mem_cons.mpr ⟨List.mem_of_getElem? (i := 0) rfl, fun _ h => nomatch h⟩)) (Chg.cons (Chg.up S22 (List.forall_mem_cons.mpr ⟨List.mem_of_getElem? (i := 0) rfl, List.forall_mem_cons.mpr ⟨List.mem_of_getElem? (i := 1) rfl, List.forall_mem_cons.mpr ⟨List.mem_of_getElem? (i := 2) rfl, List.forall_mem_cons.mpr ⟨List.mem_of_getElem? (i := 3) rfl, fun _ h => nomatch h⟩⟩⟩⟩)) (Chg.cons (Chg.up S36 (List.forall_mem_cons.mpr ⟨List.mem_of_getElem? (i := 0) rfl, fun _ h => nomatch h⟩)) (Chg.cons (Chg.up S51 (List.forall_mem_cons.mpr ⟨List.mem_of_getElem? (i := 0) rfl, List.forall_mem_cons.mpr ⟨List.mem_of_getElem? (i := 1) rfl, List.forall_mem_cons.mpr ⟨List.mem_of_getElem? (i := 2) rfl, List.forall_mem_cons.mpr ⟨List.mem_of_getElem? (i := 3) rfl, fun _ h => nomatch h⟩⟩⟩⟩)) (Chg.cons (Chg.up S65 (List.forall_mem_cons.mpr ⟨List.mem_of_getElem? (i := 0) rfl, fun _ h => nomatch h⟩)) (Chg.cons (Chg.up S79 (List.forall_mem_cons.mpr ⟨List.mem_of_getElem? (i := 0) rfl, fun _ h => nomatch h⟩)) (Chg.mono (Chg.up S93 (List.forall_mem_cons.mpr ⟨List.mem_of_getElem? (i := 0) rfl, List.forall_mem_cons.mpr ⟨List.mem_of_getElem? (i := 1) rfl, List.forall_mem_cons.mpr ⟨List.mem_of_getElem? (i := 2) rfl, List.forall_mem_cons.mpr ⟨List.mem_of_getElem? (i := 3) rfl, fun _ h => nomatch h⟩⟩⟩⟩)) (by decide)) (by decide)) (by decide)) (by decide)) (by decide)) (by decide)) (by decide)) (by decide)))⟩
    refine z_iconst C (z := 0) rfl rfl rfl (fun x105 ex105 => ?_)
    exact k_iret C rfl (Or.inr ⟨rfl, z01 (by omega) (by omega)⟩) (Nat.le_of_ble_eq_true rfl) (Nat.le_of_ble_eq_true rfl) ⟨_, _, _, rfl, rfl, by omega, by omega, by (try simp only [z_r0_0, z_r0_2, z_r0_0_0, z_r0_0_1]); rw [hcc, hs0]; first | exact RES.f (by omega) (ROV.n1 (show s0.2.1 < 40 from by omega) (h21.no (by omega))) | exact RES.f (by omega) (ROV.n2 (show s0.2.1 < 40 from by omega) (h21.y (by omega)) (h30.no (by omega))) | exact RES.f (by omega) (ROV.n3 (show s0.2.1 < 40 from by omega) (h21.y (by omega)) (h30.y (by omega)) (h38.no (by omega))) | exact RES.f (by omega) ((ROV.y (show s0.2.1 < 40 from by omega) (h21.y (by omega)) (h30.y (by omega)) (h38.y (by omega))).trans (by rw [h47.no (by omega)]; rfl)), by (try simp only [z_r0_0, z_r0_2, z_r0_0_0, z_r0_0_1]); first | omega | (simp only [e66, e72, e74, e70, k0_r0_3, k0_r0_4, k0_r0_5, k0_r0_0_2, and_true, true_and] <;> omega), by (try simp only [z_r0_0, z_r0_2, z_r0_0_0, z_r0_0_1]); intro h9; first | omega | (simp only [e66, e72, e74, e70, k0_r0_3, k0_r0_4, k0_r0_5, k0_r0_0_2, and_true, true_and] <;> omega), by (try simp only [z_r0_0, z_r0_2, z_r0_0_0, z_r0_0_1]); first | omega | (simp only [e66, e72, e74, e70, k0_r0_3, k0_r0_4, k0_r0_5, k0_r0_0_2, and_true, true_and] <;> omega), hI63, (by (try simp only [z_r0_0, z_r0_2, z_r0_0_0, z_r0_0_1]); exact (Chg.cons (Chg.up S4 (List.forall_mem_cons.mpr ⟨List.mem_of_getElem? (i := 0) rfl, fun _ h => nomatch h⟩)) (Chg.cons (Chg.up S14 (List.forall_mem_cons.mpr ⟨List.mem_of_getElem? (i := 0) rfl, fun _ h => nomatch h⟩)) (Chg.cons (Chg.up S22 (List.forall_mem_cons.mpr ⟨List.mem_of_getElem? (i := 0) rfl, List.forall_mem_cons.mpr ⟨List.mem_of_getElem? (i := 1) rfl, List.forall_mem_cons.mpr ⟨List.mem_of_getElem? (i := 2) rfl, List.forall_mem_cons.mpr ⟨List.mem_of_getElem? (i := 3) rfl, fun _ h => nomatch h⟩⟩⟩⟩)) (Chg.cons (Chg.up S36 (List.forall_mem_cons.mpr ⟨List.mem_of_getElem? (i := 0) rfl, fun _ h => nomatch h⟩)) (Chg.cons (Chg.up S51 (List.forall_mem_cons.mpr ⟨List.mem_of_getElem? (i := 0) rfl, List.forall_mem_cons.mpr ⟨List.mem_of_getElem? (i := 1) rfl, List.forall_mem_cons.mpr ⟨List.mem_of_getElem? (i := 2) rfl, List.forall_mem_cons.mpr ⟨List.mem_of_getElem? (i := 3) rfl, fun _ h => nomatch h⟩⟩⟩⟩)) (Chg.mono (Chg.up S65 (List.forall_mem_cons.mpr ⟨List.mem_of_getElem? (i := 0) rfl, fun _ h => nomatch h⟩)) (by decide)) (by decide)) (by decide)) (by decide)) (by decide)) (by decide)))⟩
  refine z_iconst C (z := 0) rfl rfl rfl (fun x106 ex106 => ?_)
  exact k_iret C rfl (Or.inr ⟨rfl, z01 (by omega) (by omega)⟩) (Nat.le_of_ble_eq_true rfl) (Nat.le_of_ble_eq_true rfl) ⟨_, _, _, rfl, rfl, by omega, by omega, by (try simp only [z_r0_0, z_r0_2, z_r0_0_0, z_r0_0_1]); rw [hcc, hs0]; exact RES.f (by omega) (ROV.n0 (by omega)), by (try simp only [z_r0_0, z_r0_2, z_r0_0_0, z_r0_0_1]); first | omega | (simp only [e5, e6, e7, e9, k0_r0_3, k0_r0_4, k0_r0_5, k0_r0_0_2, and_true, true_and] <;> omega), by (try simp only [z_r0_0, z_r0_2, z_r0_0_0, z_r0_0_1]); intro h9; first | omega | (simp only [e5, e6, e7, e9, k0_r0_3, k0_r0_4, k0_r0_5, k0_r0_0_2, and_true, true_and] <;> omega), by (try simp only [z_r0_0, z_r0_2, z_r0_0_0, z_r0_0_1]); first | omega | (simp only [e5, e6, e7, e9, k0_r0_3, k0_r0_4, k0_r0_5, k0_r0_0_2, and_true, true_and] <;> omega), hI2, (by (try simp only [z_r0_0, z_r0_2, z_r0_0_0, z_r0_0_1]); exact (Chg.mono (Chg.up S4 (List.forall_mem_cons.mpr ⟨List.mem_of_getElem? (i := 0) rfl, fun _ h => nomatch h⟩)) (by decide)))⟩

theorem s_X4_readPart_6_c {d : Nat} : CS_Part (d + 3) 6 0 := by
  intro T N I L R A B r0 n1 hS hI H_r0 b0_n1 b1_n1 hU hp0 hp1 hp2 hp3 hp4 hp5
  exact s_X4_readPart_6_x hS hI H_r0 b0_n1 b1_n1 hU hp0 hp1 hp2 hp3 hp4 hp5
theorem s_X4_readSum_6_c {d : Nat} : CS_Sum (d + 5) 6 0 := by
  intro T N I L R A B r0 n1 hS hI H_r0 b0_n1 b1_n1 hU hp0 hp1 hp2 hp3 hp4 hp5
  exact s_X4_readSum_6_x hS hI H_r0 b0_n1 b1_n1 hU hp0 hp1 hp2 hp3 hp4 hp5
theorem s_X4_readOverlap_6_c {d : Nat} : CS_Overlap (d + 6) 6 0 := by
  intro T N I L R A B r0 n1 hS hI H_r0 b0_n1 b1_n1 hU hp0 hp1 hp2 hp3 hp4 hp5 hp6
  exact s_X4_readOverlap_6_x hS hI H_r0 b0_n1 b1_n1 hU hp0 hp1 hp2 hp3 hp4 hp5 hp6
theorem s_X4_readPart_5_c {d : Nat} : CS_Part (d + 7) 5 1 := s_X4_readPart_g (d := d + 0) (l := 5) (l' := 6) (k := 0) (by decide) (by decide) (by decide) (s_X4_readPart_6_c (d := d + 3)) (s_X4_readSum_6_c (d := d + 1)) (s_X4_readOverlap_6_c (d := d + 0))
theorem s_X4_readProduct_5_c {d : Nat} : CS_Product (d + 8) 5 1 := s_X4_readProduct_g (d := d + 0) (l := 5) (m := 1) (by decide) (by decide) (s_X4_readPart_5_c (d := d))
theorem s_X4_readSum_5_c {d : Nat} : CS_Sum (d + 9) 5 1 := s_X4_readSum_g (d := d + 0) (l := 5) (m := 1) (by decide) (by decide) (s_X4_readProduct_5_c (d := d))
theorem s_X4_readOverlap_5_c {d : Nat} : CS_Overlap (d + 10) 5 1 := s_X4_readOverlap_g (d := d + 0) (l := 5) (m := 1) (by decide) (by decide) (s_X4_readSum_5_c (d := d))
theorem s_X4_readPart_4_c {d : Nat} : CS_Part (d + 11) 4 2 := s_X4_readPart_g (d := d + 4) (l := 4) (l' := 5) (k := 1) (by decide) (by decide) (by decide) (s_X4_readPart_5_c (d := d + 3)) (s_X4_readSum_5_c (d := d + 1)) (s_X4_readOverlap_5_c (d := d + 0))
theorem s_X4_readProduct_4_c {d : Nat} : CS_Product (d + 12) 4 2 := s_X4_readProduct_g (d := d + 4) (l := 4) (m := 2) (by decide) (by decide) (s_X4_readPart_4_c (d := d))
theorem s_X4_readSum_4_c {d : Nat} : CS_Sum (d + 13) 4 2 := s_X4_readSum_g (d := d + 4) (l := 4) (m := 2) (by decide) (by decide) (s_X4_readProduct_4_c (d := d))
theorem s_X4_readOverlap_4_c {d : Nat} : CS_Overlap (d + 14) 4 2 := s_X4_readOverlap_g (d := d + 4) (l := 4) (m := 2) (by decide) (by decide) (s_X4_readSum_4_c (d := d))
theorem s_X4_readPart_3_c {d : Nat} : CS_Part (d + 15) 3 3 := s_X4_readPart_g (d := d + 8) (l := 3) (l' := 4) (k := 2) (by decide) (by decide) (by decide) (s_X4_readPart_4_c (d := d + 3)) (s_X4_readSum_4_c (d := d + 1)) (s_X4_readOverlap_4_c (d := d + 0))
theorem s_X4_readProduct_3_c {d : Nat} : CS_Product (d + 16) 3 3 := s_X4_readProduct_g (d := d + 8) (l := 3) (m := 3) (by decide) (by decide) (s_X4_readPart_3_c (d := d))
theorem s_X4_readSum_3_c {d : Nat} : CS_Sum (d + 17) 3 3 := s_X4_readSum_g (d := d + 8) (l := 3) (m := 3) (by decide) (by decide) (s_X4_readProduct_3_c (d := d))
theorem s_X4_readOverlap_3_c {d : Nat} : CS_Overlap (d + 18) 3 3 := s_X4_readOverlap_g (d := d + 8) (l := 3) (m := 3) (by decide) (by decide) (s_X4_readSum_3_c (d := d))
theorem s_X4_readPart_2_c {d : Nat} : CS_Part (d + 19) 2 4 := s_X4_readPart_g (d := d + 12) (l := 2) (l' := 3) (k := 3) (by decide) (by decide) (by decide) (s_X4_readPart_3_c (d := d + 3)) (s_X4_readSum_3_c (d := d + 1)) (s_X4_readOverlap_3_c (d := d + 0))
theorem s_X4_readProduct_2_c {d : Nat} : CS_Product (d + 20) 2 4 := s_X4_readProduct_g (d := d + 12) (l := 2) (m := 4) (by decide) (by decide) (s_X4_readPart_2_c (d := d))
theorem s_X4_readSum_2_c {d : Nat} : CS_Sum (d + 21) 2 4 := s_X4_readSum_g (d := d + 12) (l := 2) (m := 4) (by decide) (by decide) (s_X4_readProduct_2_c (d := d))
theorem s_X4_readOverlap_2_c {d : Nat} : CS_Overlap (d + 22) 2 4 := s_X4_readOverlap_g (d := d + 12) (l := 2) (m := 4) (by decide) (by decide) (s_X4_readSum_2_c (d := d))
theorem s_X4_readPart_1_c {d : Nat} : CS_Part (d + 23) 1 5 := s_X4_readPart_g (d := d + 16) (l := 1) (l' := 2) (k := 4) (by decide) (by decide) (by decide) (s_X4_readPart_2_c (d := d + 3)) (s_X4_readSum_2_c (d := d + 1)) (s_X4_readOverlap_2_c (d := d + 0))
theorem s_X4_readProduct_1_c {d : Nat} : CS_Product (d + 24) 1 5 := s_X4_readProduct_g (d := d + 16) (l := 1) (m := 5) (by decide) (by decide) (s_X4_readPart_1_c (d := d))
theorem s_X4_readSum_1_c {d : Nat} : CS_Sum (d + 25) 1 5 := s_X4_readSum_g (d := d + 16) (l := 1) (m := 5) (by decide) (by decide) (s_X4_readProduct_1_c (d := d))
theorem s_X4_readOverlap_1_c {d : Nat} : CS_Overlap (d + 26) 1 5 := s_X4_readOverlap_g (d := d + 16) (l := 1) (m := 5) (by decide) (by decide) (s_X4_readSum_1_c (d := d))
theorem s_X4_readPart_0_c {d : Nat} : CS_Part (d + 27) 0 6 := s_X4_readPart_g (d := d + 20) (l := 0) (l' := 1) (k := 5) (by decide) (by decide) (by decide) (s_X4_readPart_1_c (d := d + 3)) (s_X4_readSum_1_c (d := d + 1)) (s_X4_readOverlap_1_c (d := d + 0))
theorem s_X4_readProduct_0_c {d : Nat} : CS_Product (d + 28) 0 6 := s_X4_readProduct_g (d := d + 20) (l := 0) (m := 6) (by decide) (by decide) (s_X4_readPart_0_c (d := d))
theorem s_X4_readSum_0_c {d : Nat} : CS_Sum (d + 29) 0 6 := s_X4_readSum_g (d := d + 20) (l := 0) (m := 6) (by decide) (by decide) (s_X4_readProduct_0_c (d := d))
theorem s_X4_readSum_0_x {d : Nat} {T N : Nat → Nat} {I : IT} {L : LT} {R : RT} {A B : Nat → Prop} {r0 : Nat} {n1 : Int32} (hS : SUB B A) (hI : IX A T I) (H_r0 : (hs_Rd T N R A B) r0) (b0_n1 : 0 ≤ n1.toInt) (b1_n1 : n1.toInt ≤ 0) (hU : UPR T R) (hp0 : 0 ≤ (I r0 4).toInt) (hp1 : (I r0 4).toInt ≤ (I r0 3).toInt) (hp2 : (I r0 3).toInt ≤ 400) (hp3 : 0 ≤ (I r0 5).toInt) (hp4 : (I r0 5).toInt ≤ 40) (hp5 : 0 ≤ (I (rA R r0 0) 2).toInt ∧ (I (rA R r0 0) 2).toInt ≤ 160) : Ex (d + 29) 73 [.ref r0, .int n1] (T, N, I, L, R) 0 0 (pI T N R (fun x9 I9 L9 => (0 ≤ x9.toInt) ∧ (x9.toInt ≤ 1) ∧ (RES x9.toInt (RSU 160 (RCH R I r0) (RPT 160 (RCH R I r0) 6) (RDT R I r0)) (RDT R I9 r0)) ∧ (0 ≤ (I9 (rA R r0 0) 2).toInt ∧ (I9 (rA R r0 0) 2).toInt ≤ 160) ∧ (x9.toInt = 1 → (I9 r0 4).toInt ≤ (I r0 3).toInt ∧ (I r0 5).toInt ≤ (I9 r0 5).toInt ∧ (I9 r0 5).toInt ≤ 40) ∧ (0 ≤ (I9 r0 4).toInt ∧ 0 ≤ (I9 r0 5).toInt) ∧ (IX A T I9 ∧ Chg (SL [r0, (rA R r0 0), (rA R (rA R r0 0) 0), (rA R (rA R r0 0) 1)]) T [(5, 4), (5, 5), (8, 2)] I L I9 L9))) := s_X4_readSum_0_c (d := d) hS hI H_r0 b0_n1 b1_n1 hU hp0 hp1 hp2 hp3 hp4 hp5
theorem s_X4_read_x {d : Nat} {T N : Nat → Nat} {I : IT} {L : LT} {R : RT} {A B : Nat → Prop} {r0 : Nat} {n1 : Int32} (hS : SUB B A) (hI : IX A T I) (H_r0 : (hs_Rd T N R A B) r0) (b0_n1 : 0 ≤ n1.toInt) (b1_n1 : n1.toInt ≤ 400) (hU : UPR T R) : Ex (d + 30) 74 [.ref r0, .int n1] (T, N, I, L, R) 0 0 (pI T N R (fun x9 I9 L9 => (x9.toInt = -1 → RDA 160 (BCH (I (rA R r0 2)) n1.toInt) = some (STL R I9 (rA R r0 0))) ∧ (x9.toInt ≠ -1 → RDA 160 (BCH (I (rA R r0 2)) n1.toInt) = none) ∧ (0 ≤ (I9 (rA R r0 0) 2).toInt ∧ (I9 (rA R r0 0) 2).toInt ≤ 160) ∧ (IX A T I9 ∧ Chg (SL [r0, (rA R r0 0), (rA R (rA R r0 0) 0), (rA R (rA R r0 0) 1)]) T [(5, 3), (5, 4), (5, 5), (8, 2)] I L I9 L9))) := by
  refine ⟨_, rfl, Nat.le_of_ble_eq_true rfl, fun V C S => ?_⟩
  show V 0 [(0, .ref r0), (1, .int n1)] [] (T, N, I, L, R) 0 0
  have gn1 := rg n1
  obtain ⟨T_r0, A_r0, B_r0, ⟨r0_0, R_r0_0, H_r0_0⟩, ⟨r0_2, R_r0_2, H_r0_2⟩⟩ := id H_r0
  have z_r0_0 : rA R r0 0 = r0_0 := rA_e R_r0_0
  have z_r0_2 : rA R r0 2 = r0_2 := rA_e R_r0_2
  obtain ⟨T_r0_0, A_r0_0, B_r0_0, ⟨r0_0_0, R_r0_0_0, H_r0_0_0⟩, ⟨r0_0_1, R_r0_0_1, H_r0_0_1⟩⟩ := id H_r0_0
  have z_r0_0_0 : rA R r0_0 0 = r0_0_0 := rA_e R_r0_0_0
  have z_r0_0_1 : rA R r0_0 1 = r0_0_1 := rA_e R_r0_0_1
  obtain ⟨T_r0_2, N_r0_2, A_r0_2⟩ := id H_r0_2
  obtain ⟨T_r0_0_0, N_r0_0_0, A_r0_0_0⟩ := id H_r0_0_0
  obtain ⟨T_r0_0_1, N_r0_0_1, A_r0_0_1⟩ := id H_r0_0_1
  have nq20 : NQ8 r0_2 r0_0_0 := hU.ne (t20 T_r0_2) R_r0_2 R_r0_0_0 (Or.inl (t_nq T_r0 T_r0_0 (by decide)))
  have nq21 : NQ8 r0_2 r0_0_1 := hU.ne (t20 T_r0_2) R_r0_2 R_r0_0_1 (Or.inl (t_nq T_r0 T_r0_0 (by decide)))
  have nq01 : NQ8 r0_0_0 r0_0_1 := hU.ne (t20 T_r0_0_0) R_r0_0_0 R_r0_0_1 (Or.inr (by decide))
  obtain ⟨cc, hcc⟩ : ∃ c, BCH (I r0_2) n1.toInt = c := ⟨_, rfl⟩
  refine k_aload_n C rfl rfl rfl ?_
  refine k_iload_n C rfl rfl rfl ?_
  refine z_pI C rfl rfl rfl T_r0 (Or.inr rfl) rfl (fun I1 uI1 => ?_)
  have hI1 : IX A T I1 := IX.f hI T_r0 (boX.tr (by decide) (by decide)) uI1
  have S2 : Chg (SL [r0]) T [(5, 3)] I L I1 L := Chg.f List.mem_cons_self T_r0 uI1
  have e3 := u2_e uI1
  refine k_aload_n C rfl rfl rfl ?_
  refine z_iconst C (z := 0) rfl rfl rfl (fun x4 ex4 => ?_)
  refine z_pI C rfl rfl rfl T_r0 (Or.inr rfl) rfl (fun I5 uI5 => ?_)
  have hI5 : IX A T I5 := IX.f hI1 T_r0 (boX.tr (by decide) (by decide)) uI5
  have S6 : Chg (SL [r0]) T [(5, 4)] I1 L I5 L := Chg.f List.mem_cons_self T_r0 uI5
  have e7 := u2_j uI5 (by decide) e3
  have e8 := u2_e uI5
  refine k_aload_n C rfl rfl rfl ?_
  refine z_iconst C (z := 0) rfl rfl rfl (fun x9 ex9 => ?_)
  refine z_pI C rfl rfl rfl T_r0 (Or.inr rfl) rfl (fun I10 uI10 => ?_)
  have hI10 : IX A T I10 := IX.f hI5 T_r0 (boX.tr (by decide) (by decide)) uI10
  have S11 : Chg (SL [r0]) T [(5, 5)] I5 L I10 L := Chg.f List.mem_cons_self T_r0 uI10
  have e12 := u2_j uI10 (by decide) e7
  have e13 := u2_j uI10 (by decide) e8
  have e14 := u2_e uI10
  refine k_aload_n C rfl rfl rfl ?_
  refine g_R C rfl rfl rfl T_r0 rfl R_r0_0 ?_
  refine z_iconst C (z := 0) rfl rfl rfl (fun x15 ex15 => ?_)
  refine z_pI C rfl rfl rfl T_r0_0 (Or.inr rfl) rfl (fun I16 uI16 => ?_)
  have hI16 : IX A T I16 := IX.f hI10 T_r0_0 (boX.tr (by decide) (by decide)) uI16
  have S17 : Chg (SL [r0_0]) T [(8, 2)] I10 L I16 L := Chg.f List.mem_cons_self T_r0_0 uI16
  have e18 := u2_j uI16 (by decide) e12
  have e19 := u2_j uI16 (by decide) e13
  have e20 := u2_j uI16 (by decide) e14
  have e21 := u2_e uI16
  refine k_aload_n C rfl rfl rfl ?_
  refine z_iconst C (z := 0) rfl rfl rfl (fun x22 ex22 => ?_)
  have hs23 := RDT.z0 (R := R) (I := I16) (by rw [e19]; omega) (by rw [e20]; omega) z_r0_0 (by rw [e21]; omega)
  have c25 : RCH R I16 r0 = cc := (RCH.mk (Chg.at ((Chg.cons (Chg.up S2 (List.forall_mem_cons.mpr ⟨List.mem_of_getElem? (i := 0) rfl, fun _ h => nomatch h⟩)) (Chg.cons (Chg.up S6 (List.forall_mem_cons.mpr ⟨List.mem_of_getElem? (i := 0) rfl, fun _ h => nomatch h⟩)) (Chg.cons (Chg.up S11 (List.forall_mem_cons.mpr ⟨List.mem_of_getElem? (i := 0) rfl, fun _ h => nomatch h⟩)) (Chg.mono (Chg.up S17 (List.forall_mem_cons.mpr ⟨List.mem_of_getElem? (i := 1) rfl, fun _ h => nomatch h⟩)) (by decide)) (by decide)) (by decide)) (by decide)) : Chg (SL [r0, r0_0, r0_0_0, r0_0_1]) T [(5, 3), (5, 4), (5, 5), (8, 2)] I L I16 L) (nm_4 (t_nq T_r0_2 T_r0 (by decide)) (t_nq T_r0_2 T_r0_0 (by decide)) (by first | exact nq20 | exact fun e => nq20 e.symm) (by first | exact nq21 | exact fun e => nq21 e.symm))) e18 z_r0_2).trans hcc
  refine c_VI C (s_X4_readSum_0_x hS hI16 H_r0 (by omega) (by omega) hU (by first | omega | (simp only [e18, e19, e20, e21, and_true, true_and, or_true, true_or, and_false, false_and, or_false, false_or] <;> omega)) (by first | omega | (simp only [e18, e19, e20, e21, and_true, true_and, or_true, true_or, and_false, false_and, or_false, false_or] <;> omega)) (by first | omega | (simp only [e18, e19, e20, e21, and_true, true_and, or_true, true_or, and_false, false_and, or_false, false_or] <;> omega)) (by first | omega | (simp only [e18, e19, e20, e21, and_true, true_and, or_true, true_or, and_false, false_and, or_false, false_or] <;> omega)) (by first | omega | (simp only [e18, e19, e20, e21, and_true, true_and, or_true, true_or, and_false, false_and, or_false, false_or] <;> omega)) (by rw [z_r0_0, e21]; omega)) rfl rfl rfl rfl rfl ⟨_, rfl, rfl, T_r0, Nat.le_of_ble_eq_true rfl⟩ rfl rfl (Nat.le_of_ble_eq_true rfl) (Nat.le_of_ble_eq_true rfl) (Nat.le_of_ble_eq_true rfl) ?_
  rintro x23 I24 L25 ⟨o0x23, o1x23, p0x23, p1x23, p2x23, p3x23, hI24, S26⟩
  try simp only [z_r0_0, z_r0_2, z_r0_0_0, z_r0_0_1] at S26
  have e27 := Chg.k S26 T_r0 (by decide) (by decide) e18
  have gx23 := rg x23
  obtain ⟨x28, e29⟩ : ∃ x, I24 r0 4 = x := ⟨_, rfl⟩
  have gx28 := rg x28
  obtain ⟨x30, e31⟩ : ∃ x, I24 r0 5 = x := ⟨_, rfl⟩
  have gx30 := rg x30
  obtain ⟨x32, e33⟩ : ∃ x, I24 r0_0 2 = x := ⟨_, rfl⟩
  have gx32 := rg x32
  try simp only [z_r0_0, z_r0_2, z_r0_0_0, z_r0_0_1] at p0x23
  try simp only [z_r0_0, z_r0_2, z_r0_0_0, z_r0_0_1] at p1x23
  try simp only [z_r0_0, z_r0_2, z_r0_0_0, z_r0_0_1] at p2x23
  try simp only [z_r0_0, z_r0_2, z_r0_0_0, z_r0_0_1] at p3x23
  try simp only [e18, e19, e20, e21, e29, e31, e33] at p0x23
  try have q0x23 := congrArg Int32.toInt p0x23
  try simp only [e18, e19, e20, e21, e29, e31, e33] at p1x23
  try have q1x23 := congrArg Int32.toInt p1x23
  try simp only [e18, e19, e20, e21, e29, e31, e33] at p2x23
  try have q2x23 := congrArg Int32.toInt p2x23
  try simp only [e18, e19, e20, e21, e29, e31, e33] at p3x23
  try have q3x23 := congrArg Int32.toInt p3x23
  have h25 := p0x23; rw [c25, hs23] at h25; obtain ⟨t25, ht25⟩ : ∃ t, RDT R I24 r0 = t := ⟨_, rfl⟩; rw [ht25] at h25
  refine b_if_eq C (t := 43) rfl rfl rfl (fun c34 => ?_) (fun c34 => ?_)
  · skip
    refine z_iconst C (z := 0) rfl rfl rfl (fun x35 ex35 => ?_)
    refine k_istore_n C (lw := [(2, .int x35), (0, .ref r0), (1, .int n1)]) rfl rfl (Nat.le_of_ble_eq_true rfl) rfl ?_
    refine k_iload_n C rfl rfl rfl ?_
    refine b_if_eq C (t := 53) rfl rfl rfl (fun c36 => ?_) (fun c36 => by exfalso; omega)
    refine k_aload_n C rfl rfl rfl ?_
    refine g_I C rfl rfl rfl T_r0 rfl e29 ?_
    exact k_iret C rfl (Or.inl rfl) (Nat.le_of_ble_eq_true rfl) (Nat.le_of_ble_eq_true rfl) ⟨_, _, _, rfl, rfl, by (try simp only [z_r0_0, z_r0_2, z_r0_0_0, z_r0_0_1]); intro h9; rw [hcc]; first | (exfalso; omega) | (have hst := RDT.c3 hs32 z_r0_0; exact RDA.y (h25.y (by omega)) rfl hx32 (by omega) hst), by (try simp only [z_r0_0, z_r0_2, z_r0_0_0, z_r0_0_1]); intro h9; rw [hcc]; first | (exfalso; omega) | exact RDA.n0 (h25.no (by omega)) rfl | exact RDA.n (h25.y (by omega)) rfl hx32 (by omega), by (try simp only [z_r0_0, z_r0_2, z_r0_0_0, z_r0_0_1]); first | omega | (simp only [e27, e29, e31, e33, and_true, true_and] <;> omega), hI24, (by (try simp only [z_r0_0, z_r0_2, z_r0_0_0, z_r0_0_1]); exact (Chg.cons (Chg.up S2 (List.forall_mem_cons.mpr ⟨List.mem_of_getElem? (i := 0) rfl, fun _ h => nomatch h⟩)) (Chg.cons (Chg.up S6 (List.forall_mem_cons.mpr ⟨List.mem_of_getElem? (i := 0) rfl, fun _ h => nomatch h⟩)) (Chg.cons (Chg.up S11 (List.forall_mem_cons.mpr ⟨List.mem_of_getElem? (i := 0) rfl, fun _ h => nomatch h⟩)) (Chg.cons (Chg.up S17 (List.forall_mem_cons.mpr ⟨List.mem_of_getElem? (i := 1) rfl, fun _ h => nomatch h⟩)) (Chg.mono (Chg.up S26 (List.forall_mem_cons.mpr ⟨List.mem_of_getElem? (i := 0) rfl, List.forall_mem_cons.mpr ⟨List.mem_of_getElem? (i := 1) rfl, List.forall_mem_cons.mpr ⟨List.mem_of_getElem? (i := 2) rfl, List.forall_mem_cons.mpr ⟨List.mem_of_getElem? (i := 3) rfl, fun _ h => nomatch h⟩⟩⟩⟩)) (by decide)) (by decide)) (by decide)) (by decide)) (by decide)))⟩
  refine k_aload_n C rfl rfl rfl ?_
  have c32 : RCH R I24 r0 = cc := (RCH.mk (Chg.at ((Chg.cons (Chg.up S2 (List.forall_mem_cons.mpr ⟨List.mem_of_getElem? (i := 0) rfl, fun _ h => nomatch h⟩)) (Chg.cons (Chg.up S6 (List.forall_mem_cons.mpr ⟨List.mem_of_getElem? (i := 0) rfl, fun _ h => nomatch h⟩)) (Chg.cons (Chg.up S11 (List.forall_mem_cons.mpr ⟨List.mem_of_getElem? (i := 0) rfl, fun _ h => nomatch h⟩)) (Chg.cons (Chg.up S17 (List.forall_mem_cons.mpr ⟨List.mem_of_getElem? (i := 1) rfl, fun _ h => nomatch h⟩)) (Chg.mono (Chg.up S26 (List.forall_mem_cons.mpr ⟨List.mem_of_getElem? (i := 0) rfl, List.forall_mem_cons.mpr ⟨List.mem_of_getElem? (i := 1) rfl, List.forall_mem_cons.mpr ⟨List.mem_of_getElem? (i := 2) rfl, List.forall_mem_cons.mpr ⟨List.mem_of_getElem? (i := 3) rfl, fun _ h => nomatch h⟩⟩⟩⟩)) (by decide)) (by decide)) (by decide)) (by decide)) (by decide)) : Chg (SL [r0, r0_0, r0_0_0, r0_0_1]) T [(5, 3), (5, 4), (5, 5), (8, 2)] I L I24 L25) (nm_4 (t_nq T_r0_2 T_r0 (by decide)) (t_nq T_r0_2 T_r0_0 (by decide)) (by first | exact nq20 | exact fun e => nq20 e.symm) (by first | exact nq21 | exact fun e => nq21 e.symm))) e27 z_r0_2).trans hcc
  refine c_VI C (s_X4_next_x hS hI24 H_r0 (by first | omega | (simp only [e27, e29, e31, e33, and_true, true_and, or_true, true_or, and_false, false_and, or_false, false_or] <;> omega)) (by first | omega | (simp only [e27, e29, e31, e33, and_true, true_and, or_true, true_or, and_false, false_and, or_false, false_or] <;> omega)) (by first | omega | (simp only [e27, e29, e31, e33, and_true, true_and, or_true, true_or, and_false, false_and, or_false, false_or] <;> omega)) (by first | omega | (simp only [e27, e29, e31, e33, and_true, true_and, or_true, true_or, and_false, false_and, or_false, false_or] <;> omega))) rfl rfl rfl rfl rfl ⟨_, rfl, rfl, T_r0, Nat.le_of_ble_eq_true rfl⟩ rfl rfl (Nat.le_of_ble_eq_true rfl) (Nat.le_of_ble_eq_true rfl) (Nat.le_of_ble_eq_true rfl) ?_
  rintro x37 I38 L39 ⟨p0x37, p1x37, p2x37, p3x37, hI38, S40⟩
  try simp only [z_r0_0, z_r0_2, z_r0_0_0, z_r0_0_1] at S40
  have e41 := Chg.k S40 T_r0 (by decide) (by decide) e27
  have e42 := Chg.k S40 T_r0 (by decide) (by decide) e31
  have e43 := Chg.k S40 T_r0_0 (by decide) (by decide) e33
  have gx37 := rg x37
  obtain ⟨x44, e45⟩ : ∃ x, I38 r0 4 = x := ⟨_, rfl⟩
  have gx44 := rg x44
  try simp only [z_r0_0, z_r0_2, z_r0_0_0, z_r0_0_1] at p0x37
  try simp only [z_r0_0, z_r0_2, z_r0_0_0, z_r0_0_1] at p1x37
  try simp only [z_r0_0, z_r0_2, z_r0_0_0, z_r0_0_1] at p2x37
  try simp only [z_r0_0, z_r0_2, z_r0_0_0, z_r0_0_1] at p3x37
  try simp only [e27, e29, e31, e33, e45] at p0x37
  try have q0x37 := congrArg Int32.toInt p0x37
  try simp only [e27, e29, e31, e33, e45] at p1x37
  try have q1x37 := congrArg Int32.toInt p1x37
  try simp only [e27, e29, e31, e33, e45] at p2x37
  try have q2x37 := congrArg Int32.toInt p2x37
  try simp only [e27, e29, e31, e33, e45] at p3x37
  try have q3x37 := congrArg Int32.toInt p3x37
  have hx32 := p0x37; have hs32 := p1x37; rw [c32, ht25] at hx32 hs32
  refine z_iconst C (z := -1) rfl rfl rfl (fun x46 ex46 => ?_)
  refine b_icmp_ne C (t := 43) rfl rfl rfl (fun c47 => ?_) (fun c47 => ?_)
  · skip
    refine z_iconst C (z := 0) rfl rfl rfl (fun x48 ex48 => ?_)
    refine k_istore_n C (lw := [(2, .int x48), (0, .ref r0), (1, .int n1)]) rfl rfl (Nat.le_of_ble_eq_true rfl) rfl ?_
    refine k_iload_n C rfl rfl rfl ?_
    refine b_if_eq C (t := 53) rfl rfl rfl (fun c49 => ?_) (fun c49 => by exfalso; omega)
    refine k_aload_n C rfl rfl rfl ?_
    refine g_I C rfl rfl rfl T_r0 rfl e45 ?_
    exact k_iret C rfl (Or.inl rfl) (Nat.le_of_ble_eq_true rfl) (Nat.le_of_ble_eq_true rfl) ⟨_, _, _, rfl, rfl, by (try simp only [z_r0_0, z_r0_2, z_r0_0_0, z_r0_0_1]); intro h9; rw [hcc]; first | (exfalso; omega) | (have hst := RDT.c3 hs32 z_r0_0; exact RDA.y (h25.y (by omega)) rfl hx32 (by omega) hst), by (try simp only [z_r0_0, z_r0_2, z_r0_0_0, z_r0_0_1]); intro h9; rw [hcc]; first | (exfalso; omega) | exact RDA.n0 (h25.no (by omega)) rfl | exact RDA.n (h25.y (by omega)) rfl hx32 (by omega), by (try simp only [z_r0_0, z_r0_2, z_r0_0_0, z_r0_0_1]); first | omega | (simp only [e41, e42, e43, e45, and_true, true_and] <;> omega), hI38, (by (try simp only [z_r0_0, z_r0_2, z_r0_0_0, z_r0_0_1]); exact (Chg.cons (Chg.up S2 (List.forall_mem_cons.mpr ⟨List.mem_of_getElem? (i := 0) rfl, fun _ h => nomatch h⟩)) (Chg.cons (Chg.up S6 (List.forall_mem_cons.mpr ⟨List.mem_of_getElem? (i := 0) rfl, fun _ h => nomatch h⟩)) (Chg.cons (Chg.up S11 (List.forall_mem_cons.mpr ⟨List.mem_of_getElem? (i := 0) rfl, fun _ h => nomatch h⟩)) (Chg.cons (Chg.up S17 (List.forall_mem_cons.mpr ⟨List.mem_of_getElem? (i := 1) rfl, fun _ h => nomatch h⟩)) (Chg.cons (Chg.up S26 (List.forall_mem_cons.mpr ⟨List.mem_of_getElem? (i := 0) rfl, List.forall_mem_cons.mpr ⟨List.mem_of_getElem? (i := 1) rfl, List.forall_mem_cons.mpr ⟨List.mem_of_getElem? (i := 2) rfl, List.forall_mem_cons.mpr ⟨List.mem_of_getElem? (i := 3) rfl, fun _ h => nomatch h⟩⟩⟩⟩)) (Chg.mono (Chg.up S40 (List.forall_mem_cons.mpr ⟨List.mem_of_getElem? (i := 0) rfl, fun _ h => nomatch h⟩)) (by decide)) (by decide)) (by decide)) (by decide)) (by decide)) (by decide)))⟩
  refine z_iconst C (z := 1) rfl rfl rfl (fun x50 ex50 => ?_)
  refine k_goto C (pc2 := 44) rfl rfl ?_
  refine k_istore_n C (lw := [(2, .int x50), (0, .ref r0), (1, .int n1)]) rfl rfl (Nat.le_of_ble_eq_true rfl) rfl ?_
  refine k_iload_n C rfl rfl rfl ?_
  refine b_if_eq C (t := 53) rfl rfl rfl (fun c51 => by exfalso; omega) (fun c51 => ?_)
  refine z_iconst C (z := -1) rfl rfl rfl (fun x52 ex52 => ?_)
  refine k_goto C (pc2 := 57) rfl rfl ?_
  exact k_iret C rfl (Or.inl rfl) (Nat.le_of_ble_eq_true rfl) (Nat.le_of_ble_eq_true rfl) ⟨_, _, _, rfl, rfl, by (try simp only [z_r0_0, z_r0_2, z_r0_0_0, z_r0_0_1]); intro h9; rw [hcc]; first | (exfalso; omega) | (have hst := RDT.c3 hs32 z_r0_0; exact RDA.y (h25.y (by omega)) rfl hx32 (by omega) hst), by (try simp only [z_r0_0, z_r0_2, z_r0_0_0, z_r0_0_1]); intro h9; rw [hcc]; first | (exfalso; omega) | exact RDA.n0 (h25.no (by omega)) rfl | exact RDA.n (h25.y (by omega)) rfl hx32 (by omega), by (try simp only [z_r0_0, z_r0_2, z_r0_0_0, z_r0_0_1]); first | omega | (simp only [e41, e42, e43, e45, and_true, true_and] <;> omega), hI38, (by (try simp only [z_r0_0, z_r0_2, z_r0_0_0, z_r0_0_1]); exact (Chg.cons (Chg.up S2 (List.forall_mem_cons.mpr ⟨List.mem_of_getElem? (i := 0) rfl, fun _ h => nomatch h⟩)) (Chg.cons (Chg.up S6 (List.forall_mem_cons.mpr ⟨List.mem_of_getElem? (i := 0) rfl, fun _ h => nomatch h⟩)) (Chg.cons (Chg.up S11 (List.forall_mem_cons.mpr ⟨List.mem_of_getElem? (i := 0) rfl, fun _ h => nomatch h⟩)) (Chg.cons (Chg.up S17 (List.forall_mem_cons.mpr ⟨List.mem_of_getElem? (i := 1) rfl, fun _ h => nomatch h⟩)) (Chg.cons (Chg.up S26 (List.forall_mem_cons.mpr ⟨List.mem_of_getElem? (i := 0) rfl, List.forall_mem_cons.mpr ⟨List.mem_of_getElem? (i := 1) rfl, List.forall_mem_cons.mpr ⟨List.mem_of_getElem? (i := 2) rfl, List.forall_mem_cons.mpr ⟨List.mem_of_getElem? (i := 3) rfl, fun _ h => nomatch h⟩⟩⟩⟩)) (Chg.mono (Chg.up S40 (List.forall_mem_cons.mpr ⟨List.mem_of_getElem? (i := 0) rfl, fun _ h => nomatch h⟩)) (by decide)) (by decide)) (by decide)) (by decide)) (by decide)) (by decide)))⟩

