/-! on -/
theorem s_X4_readPart_g {d : Nat} {l l' : Int} {k : Nat} (hl0 : 0 ≤ l) (hl5 : l ≤ 5) (hl' : l' = l + 1) (hPart : CS_Part (d + 6) l' k) (hSum : CS_Sum (d + 6) l' k) (hOverlap : CS_Overlap (d + 6) l' k) : CS_Part (d + 7) l (k + 1) := by
  intro T N I L R A B r0 n1 hS hI H_r0 b0_n1 b1_n1 hU hp0 hp1 hp2 hp3 hp4 hp5
  refine ⟨_, rfl, Nat.le_of_ble_eq_true rfl, fun V C S => ?_⟩
  show V 0 [(0, .ref r0), (1, .int n1)] [] (T, N, I, L, R) 0 0
  have gn1 := rg n1
  obtain ⟨T_r0, A_r0, B_r0, ⟨r0_0, R_r0_0, H_r0_0⟩, ⟨r0_2, R_r0_2, H_r0_2⟩⟩ := id H_r0
  have z_r0_0 : rA R r0 0 = r0_0 := rA_e R_r0_0
  have z_r0_2 : rA R r0 2 = r0_2 := rA_e R_r0_2
  obtain ⟨T_r0_0, A_r0_0, B_r0_0, ⟨r0_0_0, R_r0_0_0, H_r0_0_0⟩, ⟨r0_0_1, R_r0_0_1, H_r0_0_1⟩⟩ := id H_r0_0
  have z_r0_0_0 : rA R r0_0 0 = r0_0_0 := rA_e R_r0_0_0
  have z_r0_0_1 : rA R r0_0 1 = r0_0_1 := rA_e R_r0_0_1
  obtain ⟨T_r0_2, N_r0_2, A_r0_2⟩ := id H_r0_2
  obtain ⟨T_r0_0_0, N_r0_0_0, A_r0_0_0⟩ := id H_r0_0_0
  obtain ⟨T_r0_0_1, N_r0_0_1, A_r0_0_1⟩ := id H_r0_0_1
  have nq20 : NQ8 r0_2 r0_0_0 := hU.ne (t20 T_r0_2) R_r0_2 R_r0_0_0 (Or.inl (t_nq T_r0 T_r0_0 (by decide)))
  have nq21 : NQ8 r0_2 r0_0_1 := hU.ne (t20 T_r0_2) R_r0_2 R_r0_0_1 (Or.inl (t_nq T_r0 T_r0_0 (by decide)))
  have nq01 : NQ8 r0_0_0 r0_0_1 := hU.ne (t20 T_r0_0_0) R_r0_0_0 R_r0_0_1 (Or.inr (by decide))
  try simp only [z_r0_0, z_r0_2, z_r0_0_0, z_r0_0_1] at hp0
  try simp only [z_r0_0, z_r0_2, z_r0_0_0, z_r0_0_1] at hp1
  try simp only [z_r0_0, z_r0_2, z_r0_0_0, z_r0_0_1] at hp2
  try simp only [z_r0_0, z_r0_2, z_r0_0_0, z_r0_0_1] at hp3
  try simp only [z_r0_0, z_r0_2, z_r0_0_0, z_r0_0_1] at hp4
  try simp only [z_r0_0, z_r0_2, z_r0_0_0, z_r0_0_1] at hp5
  obtain ⟨w_r0_3, k0_r0_3⟩ : ∃ x, I r0 3 = x := ⟨_, rfl⟩
  have gw_r0_3 := rg w_r0_3
  obtain ⟨w_r0_4, k0_r0_4⟩ : ∃ x, I r0 4 = x := ⟨_, rfl⟩
  have gw_r0_4 := rg w_r0_4
  obtain ⟨w_r0_5, k0_r0_5⟩ : ∃ x, I r0 5 = x := ⟨_, rfl⟩
  have gw_r0_5 := rg w_r0_5
  obtain ⟨w_r0_0_2, k0_r0_0_2⟩ : ∃ x, I r0_0 2 = x := ⟨_, rfl⟩
  have gw_r0_0_2 := rg w_r0_0_2
  try simp only [k0_r0_3, k0_r0_4, k0_r0_5, k0_r0_0_2] at hp0
  try simp only [k0_r0_3, k0_r0_4, k0_r0_5, k0_r0_0_2] at hp1
  try simp only [k0_r0_3, k0_r0_4, k0_r0_5, k0_r0_0_2] at hp2
  try simp only [k0_r0_3, k0_r0_4, k0_r0_5, k0_r0_0_2] at hp3
  try simp only [k0_r0_3, k0_r0_4, k0_r0_5, k0_r0_0_2] at hp4
  try simp only [k0_r0_3, k0_r0_4, k0_r0_5, k0_r0_0_2] at hp5
  obtain ⟨cc, hcc⟩ : ∃ c, RCH R I r0 = c := ⟨_, rfl⟩
  have hc40 : C40 cc := by rw [← hcc]; exact RCH.c40 (by rw [k0_r0_3]; omega)
  obtain ⟨s0, hs0⟩ : ∃ s, RDT R I r0 = s := ⟨_, rfl⟩
  have hp0 := RDT.c1 hs0 k0_r0_4 (by omega)
  have ht0 := RDT.c2 hs0 k0_r0_5 (by omega)
  refine k_aload_n C rfl rfl rfl ?_
  have c1 : RCH R I r0 = cc := (RCH.mv (Chg.at (Chg.rf : Chg (SL [r0, r0_0, r0_0_0, r0_0_1]) T [(5, 4), (5, 5), (8, 2)] I L I L) (nm_4 (t_nq T_r0_2 T_r0 (by decide)) (t_nq T_r0_2 T_r0_0 (by decide)) (by first | exact nq20 | exact fun e => nq20 e.symm) (by first | exact nq21 | exact fun e => nq21 e.symm))) k0_r0_3 k0_r0_3 z_r0_2).trans hcc
  refine c_VI C (s_X4_next_x hS hI H_r0 (by (try simp only [z_r0_0, z_r0_2, z_r0_0_0, z_r0_0_1]); first | omega | (simp only [k0_r0_3, k0_r0_4, k0_r0_5, k0_r0_0_2, and_true, true_and, or_true, true_or, and_false, false_and, or_false, false_or] <;> omega)) (by (try simp only [z_r0_0, z_r0_2, z_r0_0_0, z_r0_0_1]); first | omega | (simp only [k0_r0_3, k0_r0_4, k0_r0_5, k0_r0_0_2, and_true, true_and, or_true, true_or, and_false, false_and, or_false, false_or] <;> omega)) (by (try simp only [z_r0_0, z_r0_2, z_r0_0_0, z_r0_0_1]); first | omega | (simp only [k0_r0_3, k0_r0_4, k0_r0_5, k0_r0_0_2, and_true, true_and, or_true, true_or, and_false, false_and, or_false, false_or] <;> omega)) (by (try simp only [z_r0_0, z_r0_2, z_r0_0_0, z_r0_0_1]); first | omega | (simp only [k0_r0_3, k0_r0_4, k0_r0_5, k0_r0_0_2, and_true, true_and, or_true, true_or, and_false, false_and, or_false, false_or] <;> omega))) rfl rfl rfl rfl rfl ⟨_, rfl, rfl, T_r0, Nat.le_of_ble_eq_true rfl⟩ rfl rfl (Nat.le_of_ble_eq_true rfl) (Nat.le_of_ble_eq_true rfl) (Nat.le_of_ble_eq_true rfl) ?_
  rintro x1 I2 L3 ⟨p0x1, p1x1, p2x1, p3x1, hI2, S4⟩
  try simp only [z_r0_0, z_r0_2, z_r0_0_0, z_r0_0_1] at S4
  have e5 := Chg.k S4 T_r0 (by decide) (by decide) k0_r0_3
  have e6 := Chg.k S4 T_r0 (by decide) (by decide) k0_r0_5
  have e7 := Chg.k S4 T_r0_0 (by decide) (by decide) k0_r0_0_2
  have gx1 := rg x1
  obtain ⟨x8, e9⟩ : ∃ x, I2 r0 4 = x := ⟨_, rfl⟩
  have gx8 := rg x8
  try simp only [z_r0_0, z_r0_2, z_r0_0_0, z_r0_0_1] at p0x1
  try simp only [z_r0_0, z_r0_2, z_r0_0_0, z_r0_0_1] at p1x1
  try simp only [z_r0_0, z_r0_2, z_r0_0_0, z_r0_0_1] at p2x1
  try simp only [z_r0_0, z_r0_2, z_r0_0_0, z_r0_0_1] at p3x1
  try simp only [k0_r0_3, k0_r0_4, k0_r0_5, k0_r0_0_2, e9] at p0x1
  try have q0x1 := congrArg Int32.toInt p0x1
  try simp only [k0_r0_3, k0_r0_4, k0_r0_5, k0_r0_0_2, e9] at p1x1
  try have q1x1 := congrArg Int32.toInt p1x1
  try simp only [k0_r0_3, k0_r0_4, k0_r0_5, k0_r0_0_2, e9] at p2x1
  try have q2x1 := congrArg Int32.toInt p2x1
  try simp only [k0_r0_3, k0_r0_4, k0_r0_5, k0_r0_0_2, e9] at p3x1
  try have q3x1 := congrArg Int32.toInt p3x1
  have hx1 := p0x1; have hs1 := p1x1; rw [c1, hs0] at hx1 hs1; have hq1 := RDT.c1 hs1 e9 (by omega)
  refine k_istore_n C (lw := [(2, .int x1), (0, .ref r0), (1, .int n1)]) rfl rfl (Nat.le_of_ble_eq_true rfl) rfl ?_
  refine k_iload_n C rfl rfl rfl ?_
  refine z_bipush C (z := 102) rfl rfl rfl (fun x10 ex10 => ?_)
  refine b_icmp_ne C (t := 16) rfl rfl rfl (fun c11 => ?_) (fun c11 => ?_)
  · skip
    refine k_iload_n C rfl rfl rfl ?_
    refine c_SI C (s_X4_isDigit_x hS hI2 ) rfl rfl rfl rfl rfl rfl rfl (Nat.le_of_ble_eq_true rfl) (Nat.le_of_ble_eq_true rfl) (Nat.le_of_ble_eq_true rfl) ?_
    rintro x12 _ _ ⟨o0x12, o1x12, p0x12, p1x12, rfl, rfl⟩
    have gx12 := rg x12
    try simp only [z_r0_0, z_r0_2, z_r0_0_0, z_r0_0_1] at p0x12
    try simp only [z_r0_0, z_r0_2, z_r0_0_0, z_r0_0_1] at p1x12
    try simp only [e5, e6, e7, e9] at p0x12
    try have q0x12 := congrArg Int32.toInt p0x12
    try simp only [e5, e6, e7, e9] at p1x12
    try have q1x12 := congrArg Int32.toInt p1x12
    have hd17 := p0x12; have hnd17 := p1x12
    refine b_if_eq C (t := 47) rfl rfl rfl (fun c13 => ?_) (fun c13 => ?_)
    · skip
      refine k_iload_n C rfl rfl rfl ?_
      refine z_bipush C (z := 6) rfl rfl rfl (fun x14 ex14 => ?_)
      refine b_icmp_lt C (t := 55) rfl rfl rfl (fun c15 => ?_) (fun c15 => by exfalso; omega)
      refine k_iload_n C rfl rfl rfl ?_
      refine z_bipush C (z := 40) rfl rfl rfl (fun x16 ex16 => ?_)
      refine b_icmp_ne C (t := 96) rfl rfl rfl (fun c17 => ?_) (fun c17 => ?_)
      · skip
        refine k_iload_n C rfl rfl rfl ?_
        refine z_bipush C (z := 91) rfl rfl rfl (fun x18 ex18 => ?_)
        refine b_icmp_ne C (t := 110) rfl rfl rfl (fun c19 => ?_) (fun c19 => ?_)
        · skip
          refine k_iload_n C rfl rfl rfl ?_
          refine z_bipush C (z := 45) rfl rfl rfl (fun x20 ex20 => ?_)
          refine b_icmp_ne C (t := 149) rfl rfl rfl (fun c21 => ?_) (fun c21 => ?_)
          · skip
            refine z_iconst C (z := 0) rfl rfl rfl (fun x22 ex22 => ?_)
            exact k_iret C rfl (Or.inr ⟨rfl, z01 (by omega) (by omega)⟩) (Nat.le_of_ble_eq_true rfl) (Nat.le_of_ble_eq_true rfl) ⟨_, _, _, rfl, rfl, by omega, by omega, by (try simp only [z_r0_0, z_r0_2, z_r0_0_0, z_r0_0_1]); rw [hcc, hs0]; exact RES.f (by omega) (RPT.n (by omega) (by rw [← hx1]; exact hnd17 (by omega)) (by omega) (by omega) (by omega)), by (try simp only [z_r0_0, z_r0_2, z_r0_0_0, z_r0_0_1]); first | omega | (simp only [e5, e6, e7, e9, k0_r0_3, k0_r0_4, k0_r0_5, k0_r0_0_2, and_true, true_and] <;> omega), by (try simp only [z_r0_0, z_r0_2, z_r0_0_0, z_r0_0_1]); intro h9; first | omega | (simp only [e5, e6, e7, e9, k0_r0_3, k0_r0_4, k0_r0_5, k0_r0_0_2, and_true, true_and] <;> omega), by (try simp only [z_r0_0, z_r0_2, z_r0_0_0, z_r0_0_1]); first | omega | (simp only [e5, e6, e7, e9, k0_r0_3, k0_r0_4, k0_r0_5, k0_r0_0_2, and_true, true_and] <;> omega), hI2, (by (try simp only [z_r0_0, z_r0_2, z_r0_0_0, z_r0_0_1]); exact (Chg.mono (Chg.up S4 (List.forall_mem_cons.mpr ⟨List.mem_of_getElem? (i := 0) rfl, fun _ h => nomatch h⟩)) (by decide)))⟩
          refine k_aload_n C rfl rfl rfl ?_
          refine k_dup C rfl rfl rfl ?_
          refine g_I C rfl rfl rfl T_r0 rfl e9 ?_
          refine z_iconst C (z := 1) rfl rfl rfl (fun x23 ex23 => ?_)
          refine z_iadd C rfl rfl ⟨by omega, by omega⟩ (fun x24 ex24 => ?_)
          refine z_pI C rfl rfl rfl T_r0 (Or.inr rfl) rfl (fun I25 uI25 => ?_)
          have hI25 : IX A T I25 := IX.f hI2 T_r0 (boX.tr (by decide) (by decide)) uI25
          have S26 : Chg (SL [r0]) T [(5, 4)] I2 L3 I25 L3 := Chg.f List.mem_cons_self T_r0 uI25
          have e27 := u2_j uI25 (by decide) e5
          have e28 := u2_j uI25 (by decide) e6
          have e29 := u2_j uI25 (by decide) e7
          have e30 := u2_e uI25
          have hq123 := uI25
          refine k_aload_n C rfl rfl rfl ?_
          refine k_iload_n C rfl rfl rfl ?_
          refine z_iconst C (z := 1) rfl rfl rfl (fun x31 ex31 => ?_)
          refine z_iadd C rfl rfl ⟨by omega, by omega⟩ (fun x32 ex32 => ?_)
          have hs123 := (RDT.nx (I1 := I25) hs1 z_r0_0 (p := SKP cc s0.1 + 1) (by rw [hq123, u2_k (by decide)]) (STL.fr z_r0_0_0 z_r0_0_1 (by rw [hq123, u2_r (t_nq T_r0_0 T_r0 (by decide))]) (by rw [hq123, u2_r (t_nq T_r0_0_0 T_r0 (by decide))]) (by rw [hq123, u2_r (t_nq T_r0_0_1 T_r0 (by decide))])) (by rw [e30]; omega))
          have c130 : RCH R I25 r0 = cc := (RCH.mv (Chg.at ((Chg.cons (Chg.up S4 (List.forall_mem_cons.mpr ⟨List.mem_of_getElem? (i := 0) rfl, fun _ h => nomatch h⟩)) (Chg.mono (Chg.up S26 (List.forall_mem_cons.mpr ⟨List.mem_of_getElem? (i := 0) rfl, fun _ h => nomatch h⟩)) (by decide)) (by decide)) : Chg (SL [r0, r0_0, r0_0_0, r0_0_1]) T [(5, 4), (5, 5), (8, 2)] I L I25 L3) (nm_4 (t_nq T_r0_2 T_r0 (by decide)) (t_nq T_r0_2 T_r0_0 (by decide)) (by first | exact nq20 | exact fun e => nq20 e.symm) (by first | exact nq21 | exact fun e => nq21 e.symm))) e27 k0_r0_3 z_r0_2).trans hcc
          refine c_VI C (hPart hS hI25 H_r0 (by omega) (by omega) hU (by (try simp only [z_r0_0, z_r0_2, z_r0_0_0, z_r0_0_1]); first | omega | (simp only [e27, e28, e29, e30, and_true, true_and, or_true, true_or, and_false, false_and, or_false, false_or] <;> omega)) (by (try simp only [z_r0_0, z_r0_2, z_r0_0_0, z_r0_0_1]); first | omega | (simp only [e27, e28, e29, e30, and_true, true_and, or_true, true_or, and_false, false_and, or_false, false_or] <;> omega)) (by (try simp only [z_r0_0, z_r0_2, z_r0_0_0, z_r0_0_1]); first | omega | (simp only [e27, e28, e29, e30, and_true, true_and, or_true, true_or, and_false, false_and, or_false, false_or] <;> omega)) (by (try simp only [z_r0_0, z_r0_2, z_r0_0_0, z_r0_0_1]); first | omega | (simp only [e27, e28, e29, e30, and_true, true_and, or_true, true_or, and_false, false_and, or_false, false_or] <;> omega)) (by (try simp only [z_r0_0, z_r0_2, z_r0_0_0, z_r0_0_1]); first | omega | (simp only [e27, e28, e29, e30, and_true, true_and, or_true, true_or, and_false, false_and, or_false, false_or] <;> omega)) (by (try simp only [z_r0_0, z_r0_2, z_r0_0_0, z_r0_0_1]); first | omega | (simp only [e27, e28, e29, e30, and_true, true_and, or_true, true_or, and_false, false_and, or_false, false_or] <;> omega))) rfl rfl rfl rfl rfl ⟨_, rfl, rfl, T_r0, Nat.le_of_ble_eq_true rfl⟩ rfl rfl (Nat.le_of_ble_eq_true rfl) (Nat.le_of_ble_eq_true rfl) (Nat.le_of_ble_eq_true rfl) ?_
          rintro x33 I34 L35 ⟨o0x33, o1x33, p0x33, p1x33, p2x33, p3x33, hI34, S36⟩
          try simp only [z_r0_0, z_r0_2, z_r0_0_0, z_r0_0_1] at S36
          have e37 := Chg.k S36 T_r0 (by decide) (by decide) e27
          have gx33 := rg x33
          obtain ⟨x38, e39⟩ : ∃ x, I34 r0 4 = x := ⟨_, rfl⟩
          have gx38 := rg x38
          obtain ⟨x40, e41⟩ : ∃ x, I34 r0 5 = x := ⟨_, rfl⟩
          have gx40 := rg x40
          obtain ⟨x42, e43⟩ : ∃ x, I34 r0_0 2 = x := ⟨_, rfl⟩
          have gx42 := rg x42
          try simp only [z_r0_0, z_r0_2, z_r0_0_0, z_r0_0_1] at p0x33
          try simp only [z_r0_0, z_r0_2, z_r0_0_0, z_r0_0_1] at p1x33
          try simp only [z_r0_0, z_r0_2, z_r0_0_0, z_r0_0_1] at p2x33
          try simp only [z_r0_0, z_r0_2, z_r0_0_0, z_r0_0_1] at p3x33
          try simp only [e27, e28, e29, e30, e39, e41, e43] at p0x33
          try have q0x33 := congrArg Int32.toInt p0x33
          try simp only [e27, e28, e29, e30, e39, e41, e43] at p1x33
          try have q1x33 := congrArg Int32.toInt p1x33
          try simp only [e27, e28, e29, e30, e39, e41, e43] at p2x33
          try have q2x33 := congrArg Int32.toInt p2x33
          try simp only [e27, e28, e29, e30, e39, e41, e43] at p3x33
          try have q3x33 := congrArg Int32.toInt p3x33
          have h130 := p0x33; rw [c130, hs123] at h130; obtain ⟨t130, ht130⟩ : ∃ t, RDT R I34 r0 = t := ⟨_, rfl⟩; rw [ht130] at h130
          refine b_if_ne C (t := 138) rfl rfl rfl (fun c44 => ?_) (fun c44 => ?_)
          · skip
            refine k_aload_n C rfl rfl rfl ?_
            refine g_R C rfl rfl rfl T_r0 rfl R_r0_0 ?_
            refine z_iconst C (z := 5) rfl rfl rfl (fun x45 ex45 => ?_)
            refine z_iconst C (z := 0) rfl rfl rfl (fun x46 ex46 => ?_)
            refine c_VV C (s_X7_put_p hS hI34 (hs_SuSg hS H_r0_0) hU (by (try simp only [z_r0_0, z_r0_2, z_r0_0_0, z_r0_0_1]); first | omega | (simp only [e37, e39, e41, e43, and_true, true_and, or_true, true_or, and_false, false_and, or_false, false_or] <;> omega)) (by (try simp only [z_r0_0, z_r0_2, z_r0_0_0, z_r0_0_1]); first | omega | (simp only [e37, e39, e41, e43, and_true, true_and, or_true, true_or, and_false, false_and, or_false, false_or] <;> omega))) rfl rfl rfl rfl rfl ⟨_, rfl, rfl, T_r0_0, Nat.le_of_ble_eq_true rfl⟩ rfl rfl (Nat.le_of_ble_eq_true rfl) (Nat.le_of_ble_eq_true rfl) (Nat.le_of_ble_eq_true rfl) ?_
            rintro I48 L49 ⟨p0v47, p1v47, hI48, S50⟩
            try simp only [z_r0_0, z_r0_2, z_r0_0_0, z_r0_0_1] at S50
            have e51 := Chg.k S50 T_r0 (by decide) (by decide) e37
            have e52 := Chg.k S50 T_r0 (by decide) (by decide) e39
            have e53 := Chg.k S50 T_r0 (by decide) (by decide) e41
            obtain ⟨x54, e55⟩ : ∃ x, I48 r0_0 2 = x := ⟨_, rfl⟩
            have gx54 := rg x54
            try simp only [z_r0_0, z_r0_2, z_r0_0_0, z_r0_0_1] at p0v47
            try simp only [z_r0_0, z_r0_2, z_r0_0_0, z_r0_0_1] at p1v47
            try simp only [e37, e39, e41, e43, e55] at p0v47
            try have q0v47 := congrArg Int32.toInt p0v47
            try simp only [e37, e39, e41, e43, e55] at p1v47
            try have q1v47 := congrArg Int32.toInt p1v47
            have hs144 := RDT.ap ht130 z_r0_0 (Chg.at S50 (nm_3 (t_nq T_r0 T_r0_0 (by decide)) (t_nq T_r0 T_r0_0_0 (by decide)) (t_nq T_r0 T_r0_0_1 (by decide)))) p0v47 (a' := 5) (b' := 0) (by omega) (by omega)
            refine z_iconst C (z := 1) rfl rfl rfl (fun x56 ex56 => ?_)
            exact k_iret C rfl (Or.inr ⟨rfl, z01 (by omega) (by omega)⟩) (Nat.le_of_ble_eq_true rfl) (Nat.le_of_ble_eq_true rfl) ⟨_, _, _, rfl, rfl, by omega, by omega, by (try simp only [z_r0_0, z_r0_2, z_r0_0_0, z_r0_0_1]); rw [hcc, hs0]; refine RES.t (by omega) ?_; rw [hs144]; exact (RPT.m (by omega)).trans (by rw [h130.y (by omega)]; rfl), by (try simp only [z_r0_0, z_r0_2, z_r0_0_0, z_r0_0_1]); first | omega | (simp only [e51, e52, e53, e55, k0_r0_3, k0_r0_4, k0_r0_5, k0_r0_0_2, and_true, true_and] <;> omega), by (try simp only [z_r0_0, z_r0_2, z_r0_0_0, z_r0_0_1]); intro h9; first | omega | (simp only [e51, e52, e53, e55, k0_r0_3, k0_r0_4, k0_r0_5, k0_r0_0_2, and_true, true_and] <;> omega), by (try simp only [z_r0_0, z_r0_2, z_r0_0_0, z_r0_0_1]); first | omega | (simp only [e51, e52, e53, e55, k0_r0_3, k0_r0_4, k0_r0_5, k0_r0_0_2, and_true, true_and] <;> omega), hI48, (by (try simp only [z_r0_0, z_r0_2, z_r0_0_0, z_r0_0_1]); exact (Chg.cons (Chg.up S4 (List.forall_mem_cons.mpr ⟨List.mem_of_getElem? (i := 0) rfl, fun _ h => nomatch h⟩)) (Chg.cons (Chg.up S26 (List.forall_mem_cons.mpr ⟨List.mem_of_getElem? (i := 0) rfl, fun _ h => nomatch h⟩)) (Chg.cons (Chg.up S36 (List.forall_mem_cons.mpr ⟨List.mem_of_getElem? (i := 0) rfl, List.forall_mem_cons.mpr ⟨List.mem_of_getElem? (i := 1) rfl, List.forall_mem_cons.mpr ⟨List.mem_of_getElem? (i := 2) rfl, List.forall_mem_cons.mpr ⟨List.mem_of_getElem? (i := 3) rfl, fun _ h => nomatch h⟩⟩⟩⟩)) (Chg.mono (Chg.up S50 (List.forall_mem_cons.mpr ⟨List.mem_of_getElem? (i := 1) rfl, List.forall_mem_cons.mpr ⟨List.mem_of_getElem? (i := 2) rfl, List.forall_mem_cons.mpr ⟨List.mem_of_getElem? (i := 3) rfl, fun _ h => nomatch h⟩⟩⟩)) (by decide)) (by decide)) (by decide)) (by decide)))⟩
          refine z_iconst C (z := 0) rfl rfl rfl (fun x57 ex57 => ?_)
          exact k_iret C rfl (Or.inr ⟨rfl, z01 (by omega) (by omega)⟩) (Nat.le_of_ble_eq_true rfl) (Nat.le_of_ble_eq_true rfl) ⟨_, _, _, rfl, rfl, by omega, by omega, by (try simp only [z_r0_0, z_r0_2, z_r0_0_0, z_r0_0_1]); rw [hcc, hs0]; exact RES.f (by omega) ((RPT.m (by omega)).trans (by rw [h130.no (by omega)]; rfl)), by (try simp only [z_r0_0, z_r0_2, z_r0_0_0, z_r0_0_1]); first | omega | (simp only [e37, e39, e41, e43, k0_r0_3, k0_r0_4, k0_r0_5, k0_r0_0_2, and_true, true_and] <;> omega), by (try simp only [z_r0_0, z_r0_2, z_r0_0_0, z_r0_0_1]); intro h9; first | omega | (simp only [e37, e39, e41, e43, k0_r0_3, k0_r0_4, k0_r0_5, k0_r0_0_2, and_true, true_and] <;> omega), by (try simp only [z_r0_0, z_r0_2, z_r0_0_0, z_r0_0_1]); first | omega | (simp only [e37, e39, e41, e43, k0_r0_3, k0_r0_4, k0_r0_5, k0_r0_0_2, and_true, true_and] <;> omega), hI34, (by (try simp only [z_r0_0, z_r0_2, z_r0_0_0, z_r0_0_1]); exact (Chg.cons (Chg.up S4 (List.forall_mem_cons.mpr ⟨List.mem_of_getElem? (i := 0) rfl, fun _ h => nomatch h⟩)) (Chg.cons (Chg.up S26 (List.forall_mem_cons.mpr ⟨List.mem_of_getElem? (i := 0) rfl, fun _ h => nomatch h⟩)) (Chg.mono (Chg.up S36 (List.forall_mem_cons.mpr ⟨List.mem_of_getElem? (i := 0) rfl, List.forall_mem_cons.mpr ⟨List.mem_of_getElem? (i := 1) rfl, List.forall_mem_cons.mpr ⟨List.mem_of_getElem? (i := 2) rfl, List.forall_mem_cons.mpr ⟨List.mem_of_getElem? (i := 3) rfl, fun _ h => nomatch h⟩⟩⟩⟩)) (by decide)) (by decide)) (by decide)))⟩
        refine k_aload_n C rfl rfl rfl ?_
        refine k_iload_n C rfl rfl rfl ?_
        refine z_iconst C (z := 1) rfl rfl rfl (fun x58 ex58 => ?_)
        refine z_iadd C rfl rfl ⟨by omega, by omega⟩ (fun x59 ex59 => ?_)
        have c106 : RCH R I2 r0 = cc := (RCH.mv (Chg.at ((Chg.mono (Chg.up S4 (List.forall_mem_cons.mpr ⟨List.mem_of_getElem? (i := 0) rfl, fun _ h => nomatch h⟩)) (by decide)) : Chg (SL [r0, r0_0, r0_0_0, r0_0_1]) T [(5, 4), (5, 5), (8, 2)] I L I2 L3) (nm_4 (t_nq T_r0_2 T_r0 (by decide)) (t_nq T_r0_2 T_r0_0 (by decide)) (by first | exact nq20 | exact fun e => nq20 e.symm) (by first | exact nq21 | exact fun e => nq21 e.symm))) e5 k0_r0_3 z_r0_2).trans hcc
        refine c_VI C (hOverlap hS hI2 H_r0 (by omega) (by omega) hU (by (try simp only [z_r0_0, z_r0_2, z_r0_0_0, z_r0_0_1]); first | omega | (simp only [e5, e6, e7, e9, and_true, true_and, or_true, true_or, and_false, false_and, or_false, false_or] <;> omega)) (by (try simp only [z_r0_0, z_r0_2, z_r0_0_0, z_r0_0_1]); first | omega | (simp only [e5, e6, e7, e9, and_true, true_and, or_true, true_or, and_false, false_and, or_false, false_or] <;> omega)) (by (try simp only [z_r0_0, z_r0_2, z_r0_0_0, z_r0_0_1]); first | omega | (simp only [e5, e6, e7, e9, and_true, true_and, or_true, true_or, and_false, false_and, or_false, false_or] <;> omega)) (by (try simp only [z_r0_0, z_r0_2, z_r0_0_0, z_r0_0_1]); first | omega | (simp only [e5, e6, e7, e9, and_true, true_and, or_true, true_or, and_false, false_and, or_false, false_or] <;> omega)) (by (try simp only [z_r0_0, z_r0_2, z_r0_0_0, z_r0_0_1]); first | omega | (simp only [e5, e6, e7, e9, and_true, true_and, or_true, true_or, and_false, false_and, or_false, false_or] <;> omega)) (by (try simp only [z_r0_0, z_r0_2, z_r0_0_0, z_r0_0_1]); first | omega | (simp only [e5, e6, e7, e9, and_true, true_and, or_true, true_or, and_false, false_and, or_false, false_or] <;> omega)) (by (try simp only [z_r0_0, z_r0_2, z_r0_0_0, z_r0_0_1]); first | omega | (simp only [e5, e6, e7, e9, and_true, true_and, or_true, true_or, and_false, false_and, or_false, false_or] <;> omega))) rfl rfl rfl rfl rfl ⟨_, rfl, rfl, T_r0, Nat.le_of_ble_eq_true rfl⟩ rfl rfl (Nat.le_of_ble_eq_true rfl) (Nat.le_of_ble_eq_true rfl) (Nat.le_of_ble_eq_true rfl) ?_
        rintro x60 I61 L62 ⟨o0x60, o1x60, p0x60, p1x60, p2x60, p3x60, hI61, S63⟩
        try simp only [z_r0_0, z_r0_2, z_r0_0_0, z_r0_0_1] at S63
        have e64 := Chg.k S63 T_r0 (by decide) (by decide) e5
        have gx60 := rg x60
        obtain ⟨x65, e66⟩ : ∃ x, I61 r0 4 = x := ⟨_, rfl⟩
        have gx65 := rg x65
        obtain ⟨x67, e68⟩ : ∃ x, I61 r0 5 = x := ⟨_, rfl⟩
        have gx67 := rg x67
        obtain ⟨x69, e70⟩ : ∃ x, I61 r0_0 2 = x := ⟨_, rfl⟩
        have gx69 := rg x69
        try simp only [z_r0_0, z_r0_2, z_r0_0_0, z_r0_0_1] at p0x60
        try simp only [z_r0_0, z_r0_2, z_r0_0_0, z_r0_0_1] at p1x60
        try simp only [z_r0_0, z_r0_2, z_r0_0_0, z_r0_0_1] at p2x60
        try simp only [z_r0_0, z_r0_2, z_r0_0_0, z_r0_0_1] at p3x60
        try simp only [e5, e6, e7, e9, e66, e68, e70] at p0x60
        try have q0x60 := congrArg Int32.toInt p0x60
        try simp only [e5, e6, e7, e9, e66, e68, e70] at p1x60
        try have q1x60 := congrArg Int32.toInt p1x60
        try simp only [e5, e6, e7, e9, e66, e68, e70] at p2x60
        try have q2x60 := congrArg Int32.toInt p2x60
        try simp only [e5, e6, e7, e9, e66, e68, e70] at p3x60
        try have q3x60 := congrArg Int32.toInt p3x60
        have h106 := p0x60; rw [c106, hs1] at h106
        exact k_iret C rfl (Or.inr ⟨rfl, z01 (by omega) (by omega)⟩) (Nat.le_of_ble_eq_true rfl) (Nat.le_of_ble_eq_true rfl) ⟨_, _, _, rfl, rfl, by omega, by omega, by (try simp only [z_r0_0, z_r0_2, z_r0_0_0, z_r0_0_1]); rw [hcc, hs0]; exact h106.b (RPT.o (by omega)), by (try simp only [z_r0_0, z_r0_2, z_r0_0_0, z_r0_0_1]); first | omega | (simp only [e64, e66, e68, e70, k0_r0_3, k0_r0_4, k0_r0_5, k0_r0_0_2, and_true, true_and] <;> omega), by (try simp only [z_r0_0, z_r0_2, z_r0_0_0, z_r0_0_1]); intro h9; first | omega | (simp only [e64, e66, e68, e70, k0_r0_3, k0_r0_4, k0_r0_5, k0_r0_0_2, and_true, true_and] <;> omega), by (try simp only [z_r0_0, z_r0_2, z_r0_0_0, z_r0_0_1]); first | omega | (simp only [e64, e66, e68, e70, k0_r0_3, k0_r0_4, k0_r0_5, k0_r0_0_2, and_true, true_and] <;> omega), hI61, (by (try simp only [z_r0_0, z_r0_2, z_r0_0_0, z_r0_0_1]); exact (Chg.cons (Chg.up S4 (List.forall_mem_cons.mpr ⟨List.mem_of_getElem? (i := 0) rfl, fun _ h => nomatch h⟩)) (Chg.mono (Chg.up S63 (List.forall_mem_cons.mpr ⟨List.mem_of_getElem? (i := 0) rfl, List.forall_mem_cons.mpr ⟨List.mem_of_getElem? (i := 1) rfl, List.forall_mem_cons.mpr ⟨List.mem_of_getElem? (i := 2) rfl, List.forall_mem_cons.mpr ⟨List.mem_of_getElem? (i := 3) rfl, fun _ h => nomatch h⟩⟩⟩⟩)) (by decide)) (by decide)))⟩
      refine k_aload_n C rfl rfl rfl ?_
      refine k_dup C rfl rfl rfl ?_
      refine g_I C rfl rfl rfl T_r0 rfl e9 ?_
      refine z_iconst C (z := 1) rfl rfl rfl (fun x71 ex71 => ?_)
      refine z_iadd C rfl rfl ⟨by omega, by omega⟩ (fun x72 ex72 => ?_)
      refine z_pI C rfl rfl rfl T_r0 (Or.inr rfl) rfl (fun I73 uI73 => ?_)
      have hI73 : IX A T I73 := IX.f hI2 T_r0 (boX.tr (by decide) (by decide)) uI73
      have S74 : Chg (SL [r0]) T [(5, 4)] I2 L3 I73 L3 := Chg.f List.mem_cons_self T_r0 uI73
      have e75 := u2_j uI73 (by decide) e5
      have e76 := u2_j uI73 (by decide) e6
      have e77 := u2_j uI73 (by decide) e7
      have e78 := u2_e uI73
      have hq68 := uI73
      refine k_aload_n C rfl rfl rfl ?_
      refine k_iload_n C rfl rfl rfl ?_
      refine z_iconst C (z := 1) rfl rfl rfl (fun x79 ex79 => ?_)
      refine z_iadd C rfl rfl ⟨by omega, by omega⟩ (fun x80 ex80 => ?_)
      have hs68 := (RDT.nx (I1 := I73) hs1 z_r0_0 (p := SKP cc s0.1 + 1) (by rw [hq68, u2_k (by decide)]) (STL.fr z_r0_0_0 z_r0_0_1 (by rw [hq68, u2_r (t_nq T_r0_0 T_r0 (by decide))]) (by rw [hq68, u2_r (t_nq T_r0_0_0 T_r0 (by decide))]) (by rw [hq68, u2_r (t_nq T_r0_0_1 T_r0 (by decide))])) (by rw [e78]; omega))
      have c75 : RCH R I73 r0 = cc := (RCH.mv (Chg.at ((Chg.cons (Chg.up S4 (List.forall_mem_cons.mpr ⟨List.mem_of_getElem? (i := 0) rfl, fun _ h => nomatch h⟩)) (Chg.mono (Chg.up S74 (List.forall_mem_cons.mpr ⟨List.mem_of_getElem? (i := 0) rfl, fun _ h => nomatch h⟩)) (by decide)) (by decide)) : Chg (SL [r0, r0_0, r0_0_0, r0_0_1]) T [(5, 4), (5, 5), (8, 2)] I L I73 L3) (nm_4 (t_nq T_r0_2 T_r0 (by decide)) (t_nq T_r0_2 T_r0_0 (by decide)) (by first | exact nq20 | exact fun e => nq20 e.symm) (by first | exact nq21 | exact fun e => nq21 e.symm))) e75 k0_r0_3 z_r0_2).trans hcc
      refine c_VI C (hSum hS hI73 H_r0 (by omega) (by omega) hU (by (try simp only [z_r0_0, z_r0_2, z_r0_0_0, z_r0_0_1]); first | omega | (simp only [e75, e76, e77, e78, and_true, true_and, or_true, true_or, and_false, false_and, or_false, false_or] <;> omega)) (by (try simp only [z_r0_0, z_r0_2, z_r0_0_0, z_r0_0_1]); first | omega | (simp only [e75, e76, e77, e78, and_true, true_and, or_true, true_or, and_false, false_and, or_false, false_or] <;> omega)) (by (try simp only [z_r0_0, z_r0_2, z_r0_0_0, z_r0_0_1]); first | omega | (simp only [e75, e76, e77, e78, and_true, true_and, or_true, true_or, and_false, false_and, or_false, false_or] <;> omega)) (by (try simp only [z_r0_0, z_r0_2, z_r0_0_0, z_r0_0_1]); first | omega | (simp only [e75, e76, e77, e78, and_true, true_and, or_true, true_or, and_false, false_and, or_false, false_or] <;> omega)) (by (try simp only [z_r0_0, z_r0_2, z_r0_0_0, z_r0_0_1]); first | omega | (simp only [e75, e76, e77, e78, and_true, true_and, or_true, true_or, and_false, false_and, or_false, false_or] <;> omega)) (by (try simp only [z_r0_0, z_r0_2, z_r0_0_0, z_r0_0_1]); first | omega | (simp only [e75, e76, e77, e78, and_true, true_and, or_true, true_or, and_false, false_and, or_false, false_or] <;> omega))) rfl rfl rfl rfl rfl ⟨_, rfl, rfl, T_r0, Nat.le_of_ble_eq_true rfl⟩ rfl rfl (Nat.le_of_ble_eq_true rfl) (Nat.le_of_ble_eq_true rfl) (Nat.le_of_ble_eq_true rfl) ?_
      rintro x81 I82 L83 ⟨o0x81, o1x81, p0x81, p1x81, p2x81, p3x81, hI82, S84⟩
      try simp only [z_r0_0, z_r0_2, z_r0_0_0, z_r0_0_1] at S84
      have e85 := Chg.k S84 T_r0 (by decide) (by decide) e75
      have gx81 := rg x81
      obtain ⟨x86, e87⟩ : ∃ x, I82 r0 4 = x := ⟨_, rfl⟩
      have gx86 := rg x86
      obtain ⟨x88, e89⟩ : ∃ x, I82 r0 5 = x := ⟨_, rfl⟩
      have gx88 := rg x88
      obtain ⟨x90, e91⟩ : ∃ x, I82 r0_0 2 = x := ⟨_, rfl⟩
      have gx90 := rg x90
      try simp only [z_r0_0, z_r0_2, z_r0_0_0, z_r0_0_1] at p0x81
      try simp only [z_r0_0, z_r0_2, z_r0_0_0, z_r0_0_1] at p1x81
      try simp only [z_r0_0, z_r0_2, z_r0_0_0, z_r0_0_1] at p2x81
      try simp only [z_r0_0, z_r0_2, z_r0_0_0, z_r0_0_1] at p3x81
      try simp only [e75, e76, e77, e78, e87, e89, e91] at p0x81
      try have q0x81 := congrArg Int32.toInt p0x81
      try simp only [e75, e76, e77, e78, e87, e89, e91] at p1x81
      try have q1x81 := congrArg Int32.toInt p1x81
      try simp only [e75, e76, e77, e78, e87, e89, e91] at p2x81
      try have q2x81 := congrArg Int32.toInt p2x81
      try simp only [e75, e76, e77, e78, e87, e89, e91] at p3x81
      try have q3x81 := congrArg Int32.toInt p3x81
      have h75 := p0x81; rw [c75, hs68] at h75; obtain ⟨t75, ht75⟩ : ∃ t, RDT R I82 r0 = t := ⟨_, rfl⟩; rw [ht75] at h75
      refine b_if_eq C (t := 94) rfl rfl rfl (fun c92 => ?_) (fun c92 => ?_)
      · skip
        refine z_iconst C (z := 0) rfl rfl rfl (fun x93 ex93 => ?_)
        exact k_iret C rfl (Or.inr ⟨rfl, z01 (by omega) (by omega)⟩) (Nat.le_of_ble_eq_true rfl) (Nat.le_of_ble_eq_true rfl) ⟨_, _, _, rfl, rfl, by omega, by omega, by (try simp only [z_r0_0, z_r0_2, z_r0_0_0, z_r0_0_1]); rw [hcc, hs0]; first | exact RES.f (by omega) ((RPT.p (by omega)).trans (by rw [h75.no (by omega)]; rfl)) | exact ((h84.tk (b := 41) (by omega)).x (by omega)).b ((RPT.p (by omega)).trans (by rw [h75.y (by omega)]; rfl)), by (try simp only [z_r0_0, z_r0_2, z_r0_0_0, z_r0_0_1]); first | omega | (simp only [e85, e87, e89, e91, k0_r0_3, k0_r0_4, k0_r0_5, k0_r0_0_2, and_true, true_and] <;> omega), by (try simp only [z_r0_0, z_r0_2, z_r0_0_0, z_r0_0_1]); intro h9; first | omega | (simp only [e85, e87, e89, e91, k0_r0_3, k0_r0_4, k0_r0_5, k0_r0_0_2, and_true, true_and] <;> omega), by (try simp only [z_r0_0, z_r0_2, z_r0_0_0, z_r0_0_1]); first | omega | (simp only [e85, e87, e89, e91, k0_r0_3, k0_r0_4, k0_r0_5, k0_r0_0_2, and_true, true_and] <;> omega), hI82, (by (try simp only [z_r0_0, z_r0_2, z_r0_0_0, z_r0_0_1]); exact (Chg.cons (Chg.up S4 (List.forall_mem_cons.mpr ⟨List.mem_of_getElem? (i := 0) rfl, fun _ h => nomatch h⟩)) (Chg.cons (Chg.up S74 (List.forall_mem_cons.mpr ⟨List.mem_of_getElem? (i := 0) rfl, fun _ h => nomatch h⟩)) (Chg.mono (Chg.up S84 (List.forall_mem_cons.mpr ⟨List.mem_of_getElem? (i := 0) rfl, List.forall_mem_cons.mpr ⟨List.mem_of_getElem? (i := 1) rfl, List.forall_mem_cons.mpr ⟨List.mem_of_getElem? (i := 2) rfl, List.forall_mem_cons.mpr ⟨List.mem_of_getElem? (i := 3) rfl, fun _ h => nomatch h⟩⟩⟩⟩)) (by decide)) (by decide)) (by decide)))⟩
      refine k_aload_n C rfl rfl rfl ?_
      refine z_bipush C (z := 41) rfl rfl rfl (fun x94 ex94 => ?_)
      have c84 : RCH R I82 r0 = cc := (RCH.mv (Chg.at ((Chg.cons (Chg.up S4 (List.forall_mem_cons.mpr ⟨List.mem_of_getElem? (i := 0) rfl, fun _ h => nomatch h⟩)) (Chg.cons (Chg.up S74 (List.forall_mem_cons.mpr ⟨List.mem_of_getElem? (i := 0) rfl, fun _ h => nomatch h⟩)) (Chg.mono (Chg.up S84 (List.forall_mem_cons.mpr ⟨List.mem_of_getElem? (i := 0) rfl, List.forall_mem_cons.mpr ⟨List.mem_of_getElem? (i := 1) rfl, List.forall_mem_cons.mpr ⟨List.mem_of_getElem? (i := 2) rfl, List.forall_mem_cons.mpr ⟨List.mem_of_getElem? (i := 3) rfl, fun _ h => nomatch h⟩⟩⟩⟩)) (by decide)) (by decide)) (by decide)) : Chg (SL [r0, r0_0, r0_0_0, r0_0_1]) T [(5, 4), (5, 5), (8, 2)] I L I82 L83) (nm_4 (t_nq T_r0_2 T_r0 (by decide)) (t_nq T_r0_2 T_r0_0 (by decide)) (by first | exact nq20 | exact fun e => nq20 e.symm) (by first | exact nq21 | exact fun e => nq21 e.symm))) e85 k0_r0_3 z_r0_2).trans hcc
      refine c_VI C (s_X4_take_x hS hI82 H_r0 (by omega) (by omega) hU (by (try simp only [z_r0_0, z_r0_2, z_r0_0_0, z_r0_0_1]); first | omega | (simp only [e85, e87, e89, e91, and_true, true_and, or_true, true_or, and_false, false_and, or_false, false_or] <;> omega)) (by (try simp only [z_r0_0, z_r0_2, z_r0_0_0, z_r0_0_1]); first | omega | (simp only [e85, e87, e89, e91, and_true, true_and, or_true, true_or, and_false, false_and, or_false, false_or] <;> omega)) (by (try simp only [z_r0_0, z_r0_2, z_r0_0_0, z_r0_0_1]); first | omega | (simp only [e85, e87, e89, e91, and_true, true_and, or_true, true_or, and_false, false_and, or_false, false_or] <;> omega)) (by (try simp only [z_r0_0, z_r0_2, z_r0_0_0, z_r0_0_1]); first | omega | (simp only [e85, e87, e89, e91, and_true, true_and, or_true, true_or, and_false, false_and, or_false, false_or] <;> omega)) (by (try simp only [z_r0_0, z_r0_2, z_r0_0_0, z_r0_0_1]); first | omega | (simp only [e85, e87, e89, e91, and_true, true_and, or_true, true_or, and_false, false_and, or_false, false_or] <;> omega)) (by (try simp only [z_r0_0, z_r0_2, z_r0_0_0, z_r0_0_1]); first | omega | (simp only [e85, e87, e89, e91, and_true, true_and, or_true, true_or, and_false, false_and, or_false, false_or] <;> omega))) rfl rfl rfl rfl rfl ⟨_, rfl, rfl, T_r0, Nat.le_of_ble_eq_true rfl⟩ rfl rfl (Nat.le_of_ble_eq_true rfl) (Nat.le_of_ble_eq_true rfl) (Nat.le_of_ble_eq_true rfl) ?_
      rintro x95 I96 L97 ⟨o0x95, o1x95, p0x95, p1x95, p2x95, p3x95, hI96, S98⟩
      try simp only [z_r0_0, z_r0_2, z_r0_0_0, z_r0_0_1] at S98
      have e99 := Chg.k S98 T_r0 (by decide) (by decide) e85
      have e100 := Chg.k S98 T_r0 (by decide) (by decide) e89
      have e101 := Chg.k S98 T_r0_0 (by decide) (by decide) e91
      have gx95 := rg x95
      obtain ⟨x102, e103⟩ : ∃ x, I96 r0 4 = x := ⟨_, rfl⟩
      have gx102 := rg x102
      obtain ⟨x104, e105⟩ : ∃ x, I96 r0 5 = x := ⟨_, rfl⟩
      have gx104 := rg x104
      obtain ⟨x106, e107⟩ : ∃ x, I96 r0_0 2 = x := ⟨_, rfl⟩
      have gx106 := rg x106
      try simp only [z_r0_0, z_r0_2, z_r0_0_0, z_r0_0_1] at p0x95
      try simp only [z_r0_0, z_r0_2, z_r0_0_0, z_r0_0_1] at p1x95
      try simp only [z_r0_0, z_r0_2, z_r0_0_0, z_r0_0_1] at p2x95
      try simp only [z_r0_0, z_r0_2, z_r0_0_0, z_r0_0_1] at p3x95
      try simp only [e85, e87, e89, e91, e103, e105, e107] at p0x95
      try have q0x95 := congrArg Int32.toInt p0x95
      try simp only [e85, e87, e89, e91, e103, e105, e107] at p1x95
      try have q1x95 := congrArg Int32.toInt p1x95
      try simp only [e85, e87, e89, e91, e103, e105, e107] at p2x95
      try have q2x95 := congrArg Int32.toInt p2x95
      try simp only [e85, e87, e89, e91, e103, e105, e107] at p3x95
      try have q3x95 := congrArg Int32.toInt p3x95
      have h84 := p0x95; rw [c84, ht75] at h84
      refine b_if_eq C (t := 94) rfl rfl rfl (fun c108 => ?_) (fun c108 => ?_)
      · skip
        refine z_iconst C (z := 0) rfl rfl rfl (fun x109 ex109 => ?_)
        exact k_iret C rfl (Or.inr ⟨rfl, z01 (by omega) (by omega)⟩) (Nat.le_of_ble_eq_true rfl) (Nat.le_of_ble_eq_true rfl) ⟨_, _, _, rfl, rfl, by omega, by omega, by (try simp only [z_r0_0, z_r0_2, z_r0_0_0, z_r0_0_1]); rw [hcc, hs0]; first | exact RES.f (by omega) ((RPT.p (by omega)).trans (by rw [h75.no (by omega)]; rfl)) | exact ((h84.tk (b := 41) (by omega)).x (by omega)).b ((RPT.p (by omega)).trans (by rw [h75.y (by omega)]; rfl)), by (try simp only [z_r0_0, z_r0_2, z_r0_0_0, z_r0_0_1]); first | omega | (simp only [e99, e105, e107, e103, k0_r0_3, k0_r0_4, k0_r0_5, k0_r0_0_2, and_true, true_and] <;> omega), by (try simp only [z_r0_0, z_r0_2, z_r0_0_0, z_r0_0_1]); intro h9; first | omega | (simp only [e99, e105, e107, e103, k0_r0_3, k0_r0_4, k0_r0_5, k0_r0_0_2, and_true, true_and] <;> omega), by (try simp only [z_r0_0, z_r0_2, z_r0_0_0, z_r0_0_1]); first | omega | (simp only [e99, e105, e107, e103, k0_r0_3, k0_r0_4, k0_r0_5, k0_r0_0_2, and_true, true_and] <;> omega), hI96, (by (try simp only [z_r0_0, z_r0_2, z_r0_0_0, z_r0_0_1]); exact (Chg.cons (Chg.up S4 (List.forall_mem_cons.mpr ⟨List.mem_of_getElem? (i := 0) rfl, fun _ h => nomatch h⟩)) (Chg.cons (Chg.up S74 (List.forall_mem_cons.mpr ⟨List.mem_of_getElem? (i := 0) rfl, fun _ h => nomatch h⟩)) (Chg.cons (Chg.up S84 (List.forall_mem_cons.mpr ⟨List.mem_of_getElem? (i := 0) rfl, List.forall_mem_cons.mpr ⟨List.mem_of_getElem? (i := 1) rfl, List.forall_mem_cons.mpr ⟨List.mem_of_getElem? (i := 2) rfl, List.forall_mem_cons.mpr ⟨List.mem_of_getElem? (i := 3) rfl, fun _ h => nomatch h⟩⟩⟩⟩)) (Chg.mono (Chg.up S98 (List.forall_mem_cons.mpr ⟨List.mem_of_getElem? (i := 0) rfl, fun _ h => nomatch h⟩)) (by decide)) (by decide)) (by decide)) (by decide)))⟩
      refine z_iconst C (z := 1) rfl rfl rfl (fun x110 ex110 => ?_)
      refine k_goto C (pc2 := 95) rfl rfl ?_
      exact k_iret C rfl (Or.inr ⟨rfl, z01 (by omega) (by omega)⟩) (Nat.le_of_ble_eq_true rfl) (Nat.le_of_ble_eq_true rfl) ⟨_, _, _, rfl, rfl, by omega, by omega, by (try simp only [z_r0_0, z_r0_2, z_r0_0_0, z_r0_0_1]); rw [hcc, hs0]; first | exact RES.f (by omega) ((RPT.p (by omega)).trans (by rw [h75.no (by omega)]; rfl)) | exact ((h84.tk (b := 41) (by omega)).x (by omega)).b ((RPT.p (by omega)).trans (by rw [h75.y (by omega)]; rfl)), by (try simp only [z_r0_0, z_r0_2, z_r0_0_0, z_r0_0_1]); first | omega | (simp only [e99, e105, e107, e103, k0_r0_3, k0_r0_4, k0_r0_5, k0_r0_0_2, and_true, true_and] <;> omega), by (try simp only [z_r0_0, z_r0_2, z_r0_0_0, z_r0_0_1]); intro h9; first | omega | (simp only [e99, e105, e107, e103, k0_r0_3, k0_r0_4, k0_r0_5, k0_r0_0_2, and_true, true_and] <;> omega), by (try simp only [z_r0_0, z_r0_2, z_r0_0_0, z_r0_0_1]); first | omega | (simp only [e99, e105, e107, e103, k0_r0_3, k0_r0_4, k0_r0_5, k0_r0_0_2, and_true, true_and] <;> omega), hI96, (by (try simp only [z_r0_0, z_r0_2, z_r0_0_0, z_r0_0_1]); exact (Chg.cons (Chg.up S4 (List.forall_mem_cons.mpr ⟨List.mem_of_getElem? (i := 0) rfl, fun _ h => nomatch h⟩)) (Chg.cons (Chg.up S74 (List.forall_mem_cons.mpr ⟨List.mem_of_getElem? (i := 0) rfl, fun _ h => nomatch h⟩)) (Chg.cons (Chg.up S84 (List.forall_mem_cons.mpr ⟨List.mem_of_getElem? (i := 0) rfl, List.forall_mem_cons.mpr ⟨List.mem_of_getElem? (i := 1) rfl, List.forall_mem_cons.mpr ⟨List.mem_of_getElem? (i := 2) rfl, List.forall_mem_cons.mpr ⟨List.mem_of_getElem? (i := 3) rfl, fun _ h => nomatch h⟩⟩⟩⟩)) (Chg.mono (Chg.up S98 (List.forall_mem_cons.mpr ⟨List.mem_of_getElem? (i := 0) rfl, fun _ h => nomatch h⟩)) (by decide)) (by decide)) (by decide)) (by decide)))⟩
    refine k_aload_n C rfl rfl rfl ?_
    refine c_VI C (s_X4_isThingMore_x hS hI2 H_r0 (by (try simp only [z_r0_0, z_r0_2, z_r0_0_0, z_r0_0_1]); first | omega | (simp only [e5, e6, e7, e9, and_true, true_and, or_true, true_or, and_false, false_and, or_false, false_or] <;> omega)) (by (try simp only [z_r0_0, z_r0_2, z_r0_0_0, z_r0_0_1]); first | omega | (simp only [e5, e6, e7, e9, and_true, true_and, or_true, true_or, and_false, false_and, or_false, false_or] <;> omega))) rfl rfl rfl rfl rfl ⟨_, rfl, rfl, T_r0, Nat.le_of_ble_eq_true rfl⟩ rfl rfl (Nat.le_of_ble_eq_true rfl) (Nat.le_of_ble_eq_true rfl) (Nat.le_of_ble_eq_true rfl) ?_
    rintro x111 I112 L113 ⟨o0x111, o1x111, p0x111, p1x111, p2x111, p3x111, hI112, S114⟩
    try simp only [z_r0_0, z_r0_2, z_r0_0_0, z_r0_0_1] at S114
    have e115 := Chg.k S114 T_r0 (by decide) (by decide) e5
    have e116 := Chg.k S114 T_r0_0 (by decide) (by decide) e7
    have e117 := Chg.k S114 T_r0 (by decide) (by decide) e9
    have gx111 := rg x111
    obtain ⟨x118, e119⟩ : ∃ x, I112 r0 5 = x := ⟨_, rfl⟩
    have gx118 := rg x118
    try simp only [z_r0_0, z_r0_2, z_r0_0_0, z_r0_0_1] at p0x111
    try simp only [z_r0_0, z_r0_2, z_r0_0_0, z_r0_0_1] at p1x111
    try simp only [z_r0_0, z_r0_2, z_r0_0_0, z_r0_0_1] at p2x111
    try simp only [z_r0_0, z_r0_2, z_r0_0_0, z_r0_0_1] at p3x111
    try simp only [e5, e6, e7, e9, e119] at p0x111
    try have q0x111 := congrArg Int32.toInt p0x111
    try simp only [e5, e6, e7, e9, e119] at p1x111
    try have q1x111 := congrArg Int32.toInt p1x111
    try simp only [e5, e6, e7, e9, e119] at p2x111
    try have q2x111 := congrArg Int32.toInt p2x111
    try simp only [e5, e6, e7, e9, e119] at p3x111
    try have q3x111 := congrArg Int32.toInt p3x111
    have h24 := p0x111; rw [hs1] at h24; have h24y := p1x111; have h24n := p2x111
    refine b_if_eq C (t := 45) rfl rfl rfl (fun c120 => ?_) (fun c120 => ?_)
    · skip
      refine z_iconst C (z := 0) rfl rfl rfl (fun x121 ex121 => ?_)
      exact k_iret C rfl (Or.inr ⟨rfl, z01 (by omega) (by omega)⟩) (Nat.le_of_ble_eq_true rfl) (Nat.le_of_ble_eq_true rfl) ⟨_, _, _, rfl, rfl, by omega, by omega, by (try simp only [z_r0_0, z_r0_2, z_r0_0_0, z_r0_0_1]); rw [hcc, hs0]; first | exact RES.f (by omega) ((RPT.d (by rw [← hx1]; exact hd17 (by omega))).trans (RNB.n (s := (SKP cc s0.1, s0.2)) (show 40 ≤ s0.2.1 from by omega))) | exact ((h35.nb (a' := 1) (b' := 999) (by omega) (by omega)).x (by omega)).b ((RPT.d (by rw [← hx1]; exact hd17 (by omega))).trans (RNB.y (s := (SKP cc s0.1, s0.2)) (show s0.2.1 < 40 from by omega))), by (try simp only [z_r0_0, z_r0_2, z_r0_0_0, z_r0_0_1]); first | omega | (simp only [e115, e116, e117, e119, k0_r0_3, k0_r0_4, k0_r0_5, k0_r0_0_2, and_true, true_and] <;> omega), by (try simp only [z_r0_0, z_r0_2, z_r0_0_0, z_r0_0_1]); intro h9; first | omega | (simp only [e115, e116, e117, e119, k0_r0_3, k0_r0_4, k0_r0_5, k0_r0_0_2, and_true, true_and] <;> omega), by (try simp only [z_r0_0, z_r0_2, z_r0_0_0, z_r0_0_1]); first | omega | (simp only [e115, e116, e117, e119, k0_r0_3, k0_r0_4, k0_r0_5, k0_r0_0_2, and_true, true_and] <;> omega), hI112, (by (try simp only [z_r0_0, z_r0_2, z_r0_0_0, z_r0_0_1]); exact (Chg.cons (Chg.up S4 (List.forall_mem_cons.mpr ⟨List.mem_of_getElem? (i := 0) rfl, fun _ h => nomatch h⟩)) (Chg.mono (Chg.up S114 (List.forall_mem_cons.mpr ⟨List.mem_of_getElem? (i := 0) rfl, fun _ h => nomatch h⟩)) (by decide)) (by decide)))⟩
    refine k_aload_n C rfl rfl rfl ?_
    refine z_iconst C (z := 1) rfl rfl rfl (fun x122 ex122 => ?_)
    refine z_sipush C (z := 999) rfl rfl rfl (fun x123 ex123 => ?_)
    have c35 : RCH R I112 r0 = cc := (RCH.mv (Chg.at ((Chg.cons (Chg.up S4 (List.forall_mem_cons.mpr ⟨List.mem_of_getElem? (i := 0) rfl, fun _ h => nomatch h⟩)) (Chg.mono (Chg.up S114 (List.forall_mem_cons.mpr ⟨List.mem_of_getElem? (i := 0) rfl, fun _ h => nomatch h⟩)) (by decide)) (by decide)) : Chg (SL [r0, r0_0, r0_0_0, r0_0_1]) T [(5, 4), (5, 5), (8, 2)] I L I112 L113) (nm_4 (t_nq T_r0_2 T_r0 (by decide)) (t_nq T_r0_2 T_r0_0 (by decide)) (by first | exact nq20 | exact fun e => nq20 e.symm) (by first | exact nq21 | exact fun e => nq21 e.symm))) e115 k0_r0_3 z_r0_2).trans hcc
    refine c_VI C (s_X4_readNumber_x hS hI112 H_r0 (by omega) (by omega) hU (by (try simp only [z_r0_0, z_r0_2, z_r0_0_0, z_r0_0_1]); first | omega | (simp only [e115, e116, e117, e119, and_true, true_and, or_true, true_or, and_false, false_and, or_false, false_or] <;> omega)) (by (try simp only [z_r0_0, z_r0_2, z_r0_0_0, z_r0_0_1]); first | omega | (simp only [e115, e116, e117, e119, and_true, true_and, or_true, true_or, and_false, false_and, or_false, false_or] <;> omega)) (by (try simp only [z_r0_0, z_r0_2, z_r0_0_0, z_r0_0_1]); first | omega | (simp only [e115, e116, e117, e119, and_true, true_and, or_true, true_or, and_false, false_and, or_false, false_or] <;> omega)) (by (try simp only [z_r0_0, z_r0_2, z_r0_0_0, z_r0_0_1]); first | omega | (simp only [e115, e116, e117, e119, and_true, true_and, or_true, true_or, and_false, false_and, or_false, false_or] <;> omega)) (by (try simp only [z_r0_0, z_r0_2, z_r0_0_0, z_r0_0_1]); first | omega | (simp only [e115, e116, e117, e119, and_true, true_and, or_true, true_or, and_false, false_and, or_false, false_or] <;> omega)) (by (try simp only [z_r0_0, z_r0_2, z_r0_0_0, z_r0_0_1]); first | omega | (simp only [e115, e116, e117, e119, and_true, true_and, or_true, true_or, and_false, false_and, or_false, false_or] <;> omega)) (by rw [c35, h24]; show 48 ≤ cc (SKP cc s0.1) ∧ cc (SKP cc s0.1) ≤ 57; rw [← hx1]; exact hd17 (by omega))) rfl rfl rfl rfl rfl ⟨_, rfl, rfl, T_r0, Nat.le_of_ble_eq_true rfl⟩ rfl rfl (Nat.le_of_ble_eq_true rfl) (Nat.le_of_ble_eq_true rfl) (Nat.le_of_ble_eq_true rfl) ?_
    rintro x124 I125 L126 ⟨o0x124, o1x124, p0x124, p1x124, p2x124, p3x124, hI125, S127⟩
    try simp only [z_r0_0, z_r0_2, z_r0_0_0, z_r0_0_1] at S127
    have e128 := Chg.k S127 T_r0 (by decide) (by decide) e115
    have e129 := Chg.k S127 T_r0 (by decide) (by decide) e119
    have gx124 := rg x124
    obtain ⟨x130, e131⟩ : ∃ x, I125 r0 4 = x := ⟨_, rfl⟩
    have gx130 := rg x130
    obtain ⟨x132, e133⟩ : ∃ x, I125 r0 5 = x := ⟨_, rfl⟩
    have gx132 := rg x132
    obtain ⟨x134, e135⟩ : ∃ x, I125 r0_0 2 = x := ⟨_, rfl⟩
    have gx134 := rg x134
    try simp only [z_r0_0, z_r0_2, z_r0_0_0, z_r0_0_1] at p0x124
    try simp only [z_r0_0, z_r0_2, z_r0_0_0, z_r0_0_1] at p1x124
    try simp only [z_r0_0, z_r0_2, z_r0_0_0, z_r0_0_1] at p2x124
    try simp only [z_r0_0, z_r0_2, z_r0_0_0, z_r0_0_1] at p3x124
    try simp only [e115, e116, e117, e119, e131, e133, e135] at p0x124
    try have q0x124 := congrArg Int32.toInt p0x124
    try simp only [e115, e116, e117, e119, e131, e133, e135] at p1x124
    try have q1x124 := congrArg Int32.toInt p1x124
    try simp only [e115, e116, e117, e119, e131, e133, e135] at p2x124
    try have q2x124 := congrArg Int32.toInt p2x124
    try simp only [e115, e116, e117, e119, e131, e133, e135] at p3x124
    try have q3x124 := congrArg Int32.toInt p3x124
    have h35 := p0x124; rw [c35, h24] at h35
    refine b_if_eq C (t := 45) rfl rfl rfl (fun c136 => ?_) (fun c136 => ?_)
    · skip
      refine z_iconst C (z := 0) rfl rfl rfl (fun x137 ex137 => ?_)
      exact k_iret C rfl (Or.inr ⟨rfl, z01 (by omega) (by omega)⟩) (Nat.le_of_ble_eq_true rfl) (Nat.le_of_ble_eq_true rfl) ⟨_, _, _, rfl, rfl, by omega, by omega, by (try simp only [z_r0_0, z_r0_2, z_r0_0_0, z_r0_0_1]); rw [hcc, hs0]; first | exact RES.f (by omega) ((RPT.d (by rw [← hx1]; exact hd17 (by omega))).trans (RNB.n (s := (SKP cc s0.1, s0.2)) (show 40 ≤ s0.2.1 from by omega))) | exact ((h35.nb (a' := 1) (b' := 999) (by omega) (by omega)).x (by omega)).b ((RPT.d (by rw [← hx1]; exact hd17 (by omega))).trans (RNB.y (s := (SKP cc s0.1, s0.2)) (show s0.2.1 < 40 from by omega))), by (try simp only [z_r0_0, z_r0_2, z_r0_0_0, z_r0_0_1]); first | omega | (simp only [e128, e133, e131, e135, k0_r0_3, k0_r0_4, k0_r0_5, k0_r0_0_2, and_true, true_and] <;> omega), by (try simp only [z_r0_0, z_r0_2, z_r0_0_0, z_r0_0_1]); intro h9; first | omega | (simp only [e128, e133, e131, e135, k0_r0_3, k0_r0_4, k0_r0_5, k0_r0_0_2, and_true, true_and] <;> omega), by (try simp only [z_r0_0, z_r0_2, z_r0_0_0, z_r0_0_1]); first | omega | (simp only [e128, e133, e131, e135, k0_r0_3, k0_r0_4, k0_r0_5, k0_r0_0_2, and_true, true_and] <;> omega), hI125, (by (try simp only [z_r0_0, z_r0_2, z_r0_0_0, z_r0_0_1]); exact (Chg.cons (Chg.up S4 (List.forall_mem_cons.mpr ⟨List.mem_of_getElem? (i := 0) rfl, fun _ h => nomatch h⟩)) (Chg.cons (Chg.up S114 (List.forall_mem_cons.mpr ⟨List.mem_of_getElem? (i := 0) rfl, fun _ h => nomatch h⟩)) (Chg.mono (Chg.up S127 (List.forall_mem_cons.mpr ⟨List.mem_of_getElem? (i := 0) rfl, List.forall_mem_cons.mpr ⟨List.mem_of_getElem? (i := 1) rfl, List.forall_mem_cons.mpr ⟨List.mem_of_getElem? (i := 2) rfl, List.forall_mem_cons.mpr ⟨List.mem_of_getElem? (i := 3) rfl, fun _ h => nomatch h⟩⟩⟩⟩)) (by decide)) (by decide)) (by decide)))⟩
    refine z_iconst C (z := 1) rfl rfl rfl (fun x138 ex138 => ?_)
    refine k_goto C (pc2 := 46) rfl rfl ?_
    exact k_iret C rfl (Or.inr ⟨rfl, z01 (by omega) (by omega)⟩) (Nat.le_of_ble_eq_true rfl) (Nat.le_of_ble_eq_true rfl) ⟨_, _, _, rfl, rfl, by omega, by omega, by (try simp only [z_r0_0, z_r0_2, z_r0_0_0, z_r0_0_1]); rw [hcc, hs0]; first | exact RES.f (by omega) ((RPT.d (by rw [← hx1]; exact hd17 (by omega))).trans (RNB.n (s := (SKP cc s0.1, s0.2)) (show 40 ≤ s0.2.1 from by omega))) | exact ((h35.nb (a' := 1) (b' := 999) (by omega) (by omega)).x (by omega)).b ((RPT.d (by rw [← hx1]; exact hd17 (by omega))).trans (RNB.y (s := (SKP cc s0.1, s0.2)) (show s0.2.1 < 40 from by omega))), by (try simp only [z_r0_0, z_r0_2, z_r0_0_0, z_r0_0_1]); first | omega | (simp only [e128, e133, e131, e135, k0_r0_3, k0_r0_4, k0_r0_5, k0_r0_0_2, and_true, true_and] <;> omega), by (try simp only [z_r0_0, z_r0_2, z_r0_0_0, z_r0_0_1]); intro h9; first | omega | (simp only [e128, e133, e131, e135, k0_r0_3, k0_r0_4, k0_r0_5, k0_r0_0_2, and_true, true_and] <;> omega), by (try simp only [z_r0_0, z_r0_2, z_r0_0_0, z_r0_0_1]); first | omega | (simp only [e128, e133, e131, e135, k0_r0_3, k0_r0_4, k0_r0_5, k0_r0_0_2, and_true, true_and] <;> omega), hI125, (by (try simp only [z_r0_0, z_r0_2, z_r0_0_0, z_r0_0_1]); exact (Chg.cons (Chg.up S4 (List.forall_mem_cons.mpr ⟨List.mem_of_getElem? (i := 0) rfl, fun _ h => nomatch h⟩)) (Chg.cons (Chg.up S114 (List.forall_mem_cons.mpr ⟨List.mem_of_getElem? (i := 0) rfl, fun _ h => nomatch h⟩)) (Chg.mono (Chg.up S127 (List.forall_mem_cons.mpr ⟨List.mem_of_getElem? (i := 0) rfl, List.forall_mem_cons.mpr ⟨List.mem_of_getElem? (i := 1) rfl, List.forall_mem_cons.mpr ⟨List.mem_of_getElem? (i := 2) rfl, List.forall_mem_cons.mpr ⟨List.mem_of_getElem? (i := 3) rfl, fun _ h => nomatch h⟩⟩⟩⟩)) (by decide)) (by decide)) (by decide)))⟩
  refine k_aload_n C rfl rfl rfl ?_
  have c12 : RCH R I2 r0 = cc := (RCH.mv (Chg.at ((Chg.mono (Chg.up S4 (List.forall_mem_cons.mpr ⟨List.mem_of_getElem? (i := 0) rfl, fun _ h => nomatch h⟩)) (by decide)) : Chg (SL [r0, r0_0, r0_0_0, r0_0_1]) T [(5, 4), (5, 5), (8, 2)] I L I2 L3) (nm_4 (t_nq T_r0_2 T_r0 (by decide)) (t_nq T_r0_2 T_r0_0 (by decide)) (by first | exact nq20 | exact fun e => nq20 e.symm) (by first | exact nq21 | exact fun e => nq21 e.symm))) e5 k0_r0_3 z_r0_2).trans hcc
  refine c_VI C (s_X4_readLetter_x hS hI2 H_r0 hU (by (try simp only [z_r0_0, z_r0_2, z_r0_0_0, z_r0_0_1]); first | omega | (simp only [e5, e6, e7, e9, and_true, true_and, or_true, true_or, and_false, false_and, or_false, false_or] <;> omega)) (by (try simp only [z_r0_0, z_r0_2, z_r0_0_0, z_r0_0_1]); first | omega | (simp only [e5, e6, e7, e9, and_true, true_and, or_true, true_or, and_false, false_and, or_false, false_or] <;> omega)) (by (try simp only [z_r0_0, z_r0_2, z_r0_0_0, z_r0_0_1]); first | omega | (simp only [e5, e6, e7, e9, and_true, true_and, or_true, true_or, and_false, false_and, or_false, false_or] <;> omega)) (by (try simp only [z_r0_0, z_r0_2, z_r0_0_0, z_r0_0_1]); first | omega | (simp only [e5, e6, e7, e9, and_true, true_and, or_true, true_or, and_false, false_and, or_false, false_or] <;> omega)) (by (try simp only [z_r0_0, z_r0_2, z_r0_0_0, z_r0_0_1]); first | omega | (simp only [e5, e6, e7, e9, and_true, true_and, or_true, true_or, and_false, false_and, or_false, false_or] <;> omega)) (by (try simp only [z_r0_0, z_r0_2, z_r0_0_0, z_r0_0_1]); first | omega | (simp only [e5, e6, e7, e9, and_true, true_and, or_true, true_or, and_false, false_and, or_false, false_or] <;> omega)) (by (try simp only [z_r0_0, z_r0_2, z_r0_0_0, z_r0_0_1]); first | omega | (simp only [e5, e6, e7, e9, and_true, true_and, or_true, true_or, and_false, false_and, or_false, false_or] <;> omega))) rfl rfl rfl rfl rfl ⟨_, rfl, rfl, T_r0, Nat.le_of_ble_eq_true rfl⟩ rfl rfl (Nat.le_of_ble_eq_true rfl) (Nat.le_of_ble_eq_true rfl) (Nat.le_of_ble_eq_true rfl) ?_
  rintro x139 I140 L141 ⟨o0x139, o1x139, p0x139, p1x139, p2x139, p3x139, hI140, S142⟩
  try simp only [z_r0_0, z_r0_2, z_r0_0_0, z_r0_0_1] at S142
  have e143 := Chg.k S142 T_r0 (by decide) (by decide) e5
  have gx139 := rg x139
  obtain ⟨x144, e145⟩ : ∃ x, I140 r0 4 = x := ⟨_, rfl⟩
  have gx144 := rg x144
  obtain ⟨x146, e147⟩ : ∃ x, I140 r0 5 = x := ⟨_, rfl⟩
  have gx146 := rg x146
  obtain ⟨x148, e149⟩ : ∃ x, I140 r0_0 2 = x := ⟨_, rfl⟩
  have gx148 := rg x148
  try simp only [z_r0_0, z_r0_2, z_r0_0_0, z_r0_0_1] at p0x139
  try simp only [z_r0_0, z_r0_2, z_r0_0_0, z_r0_0_1] at p1x139
  try simp only [z_r0_0, z_r0_2, z_r0_0_0, z_r0_0_1] at p2x139
  try simp only [z_r0_0, z_r0_2, z_r0_0_0, z_r0_0_1] at p3x139
  try simp only [e5, e6, e7, e9, e145, e147, e149] at p0x139
  try have q0x139 := congrArg Int32.toInt p0x139
  try simp only [e5, e6, e7, e9, e145, e147, e149] at p1x139
  try have q1x139 := congrArg Int32.toInt p1x139
  try simp only [e5, e6, e7, e9, e145, e147, e149] at p2x139
  try have q2x139 := congrArg Int32.toInt p2x139
  try simp only [e5, e6, e7, e9, e145, e147, e149] at p3x139
  try have q3x139 := congrArg Int32.toInt p3x139
  have h12 := p0x139; rw [c12, hs1] at h12
  exact k_iret C rfl (Or.inr ⟨rfl, z01 (by omega) (by omega)⟩) (Nat.le_of_ble_eq_true rfl) (Nat.le_of_ble_eq_true rfl) ⟨_, _, _, rfl, rfl, by omega, by omega, by (try simp only [z_r0_0, z_r0_2, z_r0_0_0, z_r0_0_1]); rw [hcc, hs0]; exact h12.b (RPT.l (by omega)), by (try simp only [z_r0_0, z_r0_2, z_r0_0_0, z_r0_0_1]); first | omega | (simp only [e143, e145, e147, e149, k0_r0_3, k0_r0_4, k0_r0_5, k0_r0_0_2, and_true, true_and] <;> omega), by (try simp only [z_r0_0, z_r0_2, z_r0_0_0, z_r0_0_1]); intro h9; first | omega | (simp only [e143, e145, e147, e149, k0_r0_3, k0_r0_4, k0_r0_5, k0_r0_0_2, and_true, true_and] <;> omega), by (try simp only [z_r0_0, z_r0_2, z_r0_0_0, z_r0_0_1]); first | omega | (simp only [e143, e145, e147, e149, k0_r0_3, k0_r0_4, k0_r0_5, k0_r0_0_2, and_true, true_and] <;> omega), hI140, (by (try simp only [z_r0_0, z_r0_2, z_r0_0_0, z_r0_0_1]); exact (Chg.cons (Chg.up S4 (List.forall_mem_cons.mpr ⟨List.mem_of_getElem? (i := 0) rfl, fun _ h => nomatch h⟩)) (Chg.mono (Chg.up S142 (List.forall_mem_cons.mpr ⟨List.mem_of_getElem? (i := 0) rfl, List.forall_mem_cons.mpr ⟨List.mem_of_getElem? (i := 1) rfl, List.forall_mem_cons.mpr ⟨List.mem_of_getElem? (i := 2) rfl, List.forall_mem_cons.mpr ⟨List.mem_of_getElem? (i := 3) rfl, fun _ h => nomatch h⟩⟩⟩⟩)) (by decide)) (by decide)))⟩

theorem s_X4_readProduct_g {d : Nat} {l : Int} {m : Nat} (hl0 : 0 ≤ l) (hl5 : l ≤ 5) (hPart : CS_Part (d + 7) l m) : CS_Product (d + 8) l m := by
  intro T N I L R A B r0 n1 hS hI H_r0 b0_n1 b1_n1 hU hp0 hp1 hp2 hp3 hp4 hp5
  refine ⟨_, rfl, Nat.le_of_ble_eq_true rfl, fun V C S => ?_⟩
  show V 0 [(0, .ref r0), (1, .int n1)] [] (T, N, I, L, R) 0 0
  have gn1 := rg n1
  obtain ⟨T_r0, A_r0, B_r0, ⟨r0_0, R_r0_0, H_r0_0⟩, ⟨r0_2, R_r0_2, H_r0_2⟩⟩ := id H_r0
  have z_r0_0 : rA R r0 0 = r0_0 := rA_e R_r0_0
  have z_r0_2 : rA R r0 2 = r0_2 := rA_e R_r0_2
  obtain ⟨T_r0_0, A_r0_0, B_r0_0, ⟨r0_0_0, R_r0_0_0, H_r0_0_0⟩, ⟨r0_0_1, R_r0_0_1, H_r0_0_1⟩⟩ := id H_r0_0
  have z_r0_0_0 : rA R r0_0 0 = r0_0_0 := rA_e R_r0_0_0
  have z_r0_0_1 : rA R r0_0 1 = r0_0_1 := rA_e R_r0_0_1
  obtain ⟨T_r0_2, N_r0_2, A_r0_2⟩ := id H_r0_2
  obtain ⟨T_r0_0_0, N_r0_0_0, A_r0_0_0⟩ := id H_r0_0_0
  obtain ⟨T_r0_0_1, N_r0_0_1, A_r0_0_1⟩ := id H_r0_0_1
  have nq20 : NQ8 r0_2 r0_0_0 := hU.ne (t20 T_r0_2) R_r0_2 R_r0_0_0 (Or.inl (t_nq T_r0 T_r0_0 (by decide)))
  have nq21 : NQ8 r0_2 r0_0_1 := hU.ne (t20 T_r0_2) R_r0_2 R_r0_0_1 (Or.inl (t_nq T_r0 T_r0_0 (by decide)))
  have nq01 : NQ8 r0_0_0 r0_0_1 := hU.ne (t20 T_r0_0_0) R_r0_0_0 R_r0_0_1 (Or.inr (by decide))
  try simp only [z_r0_0, z_r0_2, z_r0_0_0, z_r0_0_1] at hp0
  try simp only [z_r0_0, z_r0_2, z_r0_0_0, z_r0_0_1] at hp1
  try simp only [z_r0_0, z_r0_2, z_r0_0_0, z_r0_0_1] at hp2
  try simp only [z_r0_0, z_r0_2, z_r0_0_0, z_r0_0_1] at hp3
  try simp only [z_r0_0, z_r0_2, z_r0_0_0, z_r0_0_1] at hp4
  try simp only [z_r0_0, z_r0_2, z_r0_0_0, z_r0_0_1] at hp5
  obtain ⟨w_r0_3, k0_r0_3⟩ : ∃ x, I r0 3 = x := ⟨_, rfl⟩
  have gw_r0_3 := rg w_r0_3
  obtain ⟨w_r0_4, k0_r0_4⟩ : ∃ x, I r0 4 = x := ⟨_, rfl⟩
  have gw_r0_4 := rg w_r0_4
  obtain ⟨w_r0_5, k0_r0_5⟩ : ∃ x, I r0 5 = x := ⟨_, rfl⟩
  have gw_r0_5 := rg w_r0_5
  obtain ⟨w_r0_0_2, k0_r0_0_2⟩ : ∃ x, I r0_0 2 = x := ⟨_, rfl⟩
  have gw_r0_0_2 := rg w_r0_0_2
  try simp only [k0_r0_3, k0_r0_4, k0_r0_5, k0_r0_0_2] at hp0
  try simp only [k0_r0_3, k0_r0_4, k0_r0_5, k0_r0_0_2] at hp1
  try simp only [k0_r0_3, k0_r0_4, k0_r0_5, k0_r0_0_2] at hp2
  try simp only [k0_r0_3, k0_r0_4, k0_r0_5, k0_r0_0_2] at hp3
  try simp only [k0_r0_3, k0_r0_4, k0_r0_5, k0_r0_0_2] at hp4
  try simp only [k0_r0_3, k0_r0_4, k0_r0_5, k0_r0_0_2] at hp5
  obtain ⟨cc, hcc⟩ : ∃ c, RCH R I r0 = c := ⟨_, rfl⟩
  have hc40 : C40 cc := by rw [← hcc]; exact RCH.c40 (by rw [k0_r0_3]; omega)
  obtain ⟨s0, hs0⟩ : ∃ s, RDT R I r0 = s := ⟨_, rfl⟩
  have hp0 := RDT.c1 hs0 k0_r0_4 (by omega)
  have ht0 := RDT.c2 hs0 k0_r0_5 (by omega)
  refine k_aload_n C rfl rfl rfl ?_
  refine k_iload_n C rfl rfl rfl ?_
  have c2 : RCH R I r0 = cc := (RCH.mv (Chg.at (Chg.rf : Chg (SL [r0, r0_0, r0_0_0, r0_0_1]) T [(5, 4), (5, 5), (8, 2)] I L I L) (nm_4 (t_nq T_r0_2 T_r0 (by decide)) (t_nq T_r0_2 T_r0_0 (by decide)) (by first | exact nq20 | exact fun e => nq20 e.symm) (by first | exact nq21 | exact fun e => nq21 e.symm))) k0_r0_3 k0_r0_3 z_r0_2).trans hcc
  refine c_VI C (hPart hS hI H_r0 (by omega) (by omega) hU (by (try simp only [z_r0_0, z_r0_2, z_r0_0_0, z_r0_0_1]); first | omega | (simp only [k0_r0_3, k0_r0_4, k0_r0_5, k0_r0_0_2, and_true, true_and, or_true, true_or, and_false, false_and, or_false, false_or] <;> omega)) (by (try simp only [z_r0_0, z_r0_2, z_r0_0_0, z_r0_0_1]); first | omega | (simp only [k0_r0_3, k0_r0_4, k0_r0_5, k0_r0_0_2, and_true, true_and, or_true, true_or, and_false, false_and, or_false, false_or] <;> omega)) (by (try simp only [z_r0_0, z_r0_2, z_r0_0_0, z_r0_0_1]); first | omega | (simp only [k0_r0_3, k0_r0_4, k0_r0_5, k0_r0_0_2, and_true, true_and, or_true, true_or, and_false, false_and, or_false, false_or] <;> omega)) (by (try simp only [z_r0_0, z_r0_2, z_r0_0_0, z_r0_0_1]); first | omega | (simp only [k0_r0_3, k0_r0_4, k0_r0_5, k0_r0_0_2, and_true, true_and, or_true, true_or, and_false, false_and, or_false, false_or] <;> omega)) (by (try simp only [z_r0_0, z_r0_2, z_r0_0_0, z_r0_0_1]); first | omega | (simp only [k0_r0_3, k0_r0_4, k0_r0_5, k0_r0_0_2, and_true, true_and, or_true, true_or, and_false, false_and, or_false, false_or] <;> omega)) (by (try simp only [z_r0_0, z_r0_2, z_r0_0_0, z_r0_0_1]); first | omega | (simp only [k0_r0_3, k0_r0_4, k0_r0_5, k0_r0_0_2, and_true, true_and, or_true, true_or, and_false, false_and, or_false, false_or] <;> omega))) rfl rfl rfl rfl rfl ⟨_, rfl, rfl, T_r0, Nat.le_of_ble_eq_true rfl⟩ rfl rfl (Nat.le_of_ble_eq_true rfl) (Nat.le_of_ble_eq_true rfl) (Nat.le_of_ble_eq_true rfl) ?_
  rintro x1 I2 L3 ⟨o0x1, o1x1, p0x1, p1x1, p2x1, p3x1, hI2, S4⟩
  try simp only [z_r0_0, z_r0_2, z_r0_0_0, z_r0_0_1] at S4
  have e5 := Chg.k S4 T_r0 (by decide) (by decide) k0_r0_3
  have gx1 := rg x1
  obtain ⟨x6, e7⟩ : ∃ x, I2 r0 4 = x := ⟨_, rfl⟩
  have gx6 := rg x6
  obtain ⟨x8, e9⟩ : ∃ x, I2 r0 5 = x := ⟨_, rfl⟩
  have gx8 := rg x8
  obtain ⟨x10, e11⟩ : ∃ x, I2 r0_0 2 = x := ⟨_, rfl⟩
  have gx10 := rg x10
  try simp only [z_r0_0, z_r0_2, z_r0_0_0, z_r0_0_1] at p0x1
  try simp only [z_r0_0, z_r0_2, z_r0_0_0, z_r0_0_1] at p1x1
  try simp only [z_r0_0, z_r0_2, z_r0_0_0, z_r0_0_1] at p2x1
  try simp only [z_r0_0, z_r0_2, z_r0_0_0, z_r0_0_1] at p3x1
  try simp only [k0_r0_3, k0_r0_4, k0_r0_5, k0_r0_0_2, e7, e9, e11] at p0x1
  try have q0x1 := congrArg Int32.toInt p0x1
  try simp only [k0_r0_3, k0_r0_4, k0_r0_5, k0_r0_0_2, e7, e9, e11] at p1x1
  try have q1x1 := congrArg Int32.toInt p1x1
  try simp only [k0_r0_3, k0_r0_4, k0_r0_5, k0_r0_0_2, e7, e9, e11] at p2x1
  try have q2x1 := congrArg Int32.toInt p2x1
  try simp only [k0_r0_3, k0_r0_4, k0_r0_5, k0_r0_0_2, e7, e9, e11] at p3x1
  try have q3x1 := congrArg Int32.toInt p3x1
  have h2 := p0x1; rw [c2, hs0] at h2; obtain ⟨t2, ht2⟩ : ∃ t, RDT R I2 r0 = t := ⟨_, rfl⟩; rw [ht2] at h2; have hd2 := RDT.c2 ht2 e9 (by omega)
  refine b_if_ne C (t := 10) rfl rfl rfl (fun c12 => ?_) (fun c12 => ?_)
  · skip
    refine z_iconst C (z := 0) rfl rfl rfl (fun x13 ex13 => ?_)
    have J14 : ∀ (nn15 : Nat) (I16 : IT) (L17 : LT) (x18 : Int32) (x23 : Int32) (x27 : Int32) (x31 : Int32), (MN (400 - x18.toInt) nn15) → (IX A T I16) → (Chg (SL [r0, r0_0, r0_0_0, r0_0_1]) T [(5, 4), (5, 5), (8, 2)] I2 L3 I16 L17) → (0 ≤ x18.toInt) → (x18.toInt ≤ 400) → (I16 r0 4 = x23) → (0 ≤ x23.toInt) → (x23.toInt ≤ 400) → (I16 r0 5 = x27) → (0 ≤ x27.toInt) → (x27.toInt ≤ 40) → (I16 r0_0 2 = x31) → (0 ≤ x31.toInt) → (x31.toInt ≤ 160) → (LPI 160 cc 42 3 (RPT 160 cc m) (RPR 160 cc (RPT 160 cc m) s0) (RDT R I16 r0) x18.toInt) → (w_r0_5.toInt ≤ x27.toInt) → (x23.toInt ≤ w_r0_3.toInt) → V 12 [(0, .ref r0), (1, .int n1), (2, .int x18)] [] (T, N, I16, L17, R) 0 0 := by
      intro nn15
      induction nn15 using Nat.strongRecOn with
      | _ nn15 ihJ14 =>
        intro I16 L17 x18 x23 x27 x31 hmnn15 hI22 S21 b19 b20 e24 b25 b26 e28 b29 b30 e32 b33 b34 ff12_0 ff12_1 ff12_2
        have gx18 := rg x18
        have gx23 := rg x23
        have gx27 := rg x27
        have gx31 := rg x31
        have e38 := Chg.k S21 T_r0 (by decide) (by decide) e5
        obtain ⟨t12, ht12⟩ : ∃ t, RDT R I16 r0 = t := ⟨_, rfl⟩
        rw [ht12] at ff12_0
        have htn := ff12_0.tn
        refine k_iload_n C rfl rfl rfl ?_
        refine z_sipush C (z := 400) rfl rfl rfl (fun x39 ex39 => ?_)
        refine b_icmp_ge C (t := 72) rfl rfl rfl (fun c40 => ?_) (fun c40 => ?_)
        · skip
          refine z_iconst C (z := 1) rfl rfl rfl (fun x41 ex41 => ?_)
          exact k_iret C rfl (Or.inr ⟨rfl, z01 (by omega) (by omega)⟩) (Nat.le_of_ble_eq_true rfl) (Nat.le_of_ble_eq_true rfl) ⟨_, _, _, rfl, rfl, by omega, by omega, by (try simp only [z_r0_0, z_r0_2, z_r0_0_0, z_r0_0_1]); rw [hcc, hs0]; first | (exfalso; omega) | (refine RES.t (by omega) ?_; rw [hs20]; exact ff12_0.out (by omega)), by (try simp only [z_r0_0, z_r0_2, z_r0_0_0, z_r0_0_1]); first | omega | (simp only [e38, e24, e28, e32, k0_r0_3, k0_r0_4, k0_r0_5, k0_r0_0_2, and_true, true_and] <;> omega), by (try simp only [z_r0_0, z_r0_2, z_r0_0_0, z_r0_0_1]); intro h9; first | omega | (simp only [e38, e24, e28, e32, k0_r0_3, k0_r0_4, k0_r0_5, k0_r0_0_2, and_true, true_and] <;> omega), by (try simp only [z_r0_0, z_r0_2, z_r0_0_0, z_r0_0_1]); first | omega | (simp only [e38, e24, e28, e32, k0_r0_3, k0_r0_4, k0_r0_5, k0_r0_0_2, and_true, true_and] <;> omega), hI22, (by (try simp only [z_r0_0, z_r0_2, z_r0_0_0, z_r0_0_1]); exact (Chg.cons (Chg.up S4 (List.forall_mem_cons.mpr ⟨List.mem_of_getElem? (i := 0) rfl, List.forall_mem_cons.mpr ⟨List.mem_of_getElem? (i := 1) rfl, List.forall_mem_cons.mpr ⟨List.mem_of_getElem? (i := 2) rfl, List.forall_mem_cons.mpr ⟨List.mem_of_getElem? (i := 3) rfl, fun _ h => nomatch h⟩⟩⟩⟩)) (Chg.mono S21 (by decide)) (by decide)))⟩
        refine k_aload_n C rfl rfl rfl ?_
        have c20 : RCH R I16 r0 = cc := (RCH.mv (Chg.at ((Chg.cons (Chg.up S4 (List.forall_mem_cons.mpr ⟨List.mem_of_getElem? (i := 0) rfl, List.forall_mem_cons.mpr ⟨List.mem_of_getElem? (i := 1) rfl, List.forall_mem_cons.mpr ⟨List.mem_of_getElem? (i := 2) rfl, List.forall_mem_cons.mpr ⟨List.mem_of_getElem? (i := 3) rfl, fun _ h => nomatch h⟩⟩⟩⟩)) (Chg.mono S21 (by decide)) (by decide)) : Chg (SL [r0, r0_0, r0_0_0, r0_0_1]) T [(5, 4), (5, 5), (8, 2)] I L I16 L17) (nm_4 (t_nq T_r0_2 T_r0 (by decide)) (t_nq T_r0_2 T_r0_0 (by decide)) (by first | exact nq20 | exact fun e => nq20 e.symm) (by first | exact nq21 | exact fun e => nq21 e.symm))) e38 k0_r0_3 z_r0_2).trans hcc
        have hc12 := RDT.c2 ht12 e28 (by omega)
        refine c_VI C (s_X4_next_x hS hI22 H_r0 (by (try simp only [z_r0_0, z_r0_2, z_r0_0_0, z_r0_0_1]); first | omega | (simp only [e38, e24, e28, e32, and_true, true_and, or_true, true_or, and_false, false_and, or_false, false_or] <;> omega)) (by (try simp only [z_r0_0, z_r0_2, z_r0_0_0, z_r0_0_1]); first | omega | (simp only [e38, e24, e28, e32, and_true, true_and, or_true, true_or, and_false, false_and, or_false, false_or] <;> omega)) (by (try simp only [z_r0_0, z_r0_2, z_r0_0_0, z_r0_0_1]); first | omega | (simp only [e38, e24, e28, e32, and_true, true_and, or_true, true_or, and_false, false_and, or_false, false_or] <;> omega)) (by (try simp only [z_r0_0, z_r0_2, z_r0_0_0, z_r0_0_1]); first | omega | (simp only [e38, e24, e28, e32, and_true, true_and, or_true, true_or, and_false, false_and, or_false, false_or] <;> omega))) rfl rfl rfl rfl rfl ⟨_, rfl, rfl, T_r0, Nat.le_of_ble_eq_true rfl⟩ rfl rfl (Nat.le_of_ble_eq_true rfl) (Nat.le_of_ble_eq_true rfl) (Nat.le_of_ble_eq_true rfl) ?_
        rintro x42 I43 L44 ⟨p0x42, p1x42, p2x42, p3x42, hI43, S45⟩
        try simp only [z_r0_0, z_r0_2, z_r0_0_0, z_r0_0_1] at S45
        have e46 := Chg.k S45 T_r0 (by decide) (by decide) e38
        have e47 := Chg.k S45 T_r0 (by decide) (by decide) e28
        have e48 := Chg.k S45 T_r0_0 (by decide) (by decide) e32
        have gx42 := rg x42
        obtain ⟨x49, e50⟩ : ∃ x, I43 r0 4 = x := ⟨_, rfl⟩
        have gx49 := rg x49
        try simp only [z_r0_0, z_r0_2, z_r0_0_0, z_r0_0_1] at p0x42
        try simp only [z_r0_0, z_r0_2, z_r0_0_0, z_r0_0_1] at p1x42
        try simp only [z_r0_0, z_r0_2, z_r0_0_0, z_r0_0_1] at p2x42
        try simp only [z_r0_0, z_r0_2, z_r0_0_0, z_r0_0_1] at p3x42
        try simp only [e38, e24, e28, e32, e50] at p0x42
        try have q0x42 := congrArg Int32.toInt p0x42
        try simp only [e38, e24, e28, e32, e50] at p1x42
        try have q1x42 := congrArg Int32.toInt p1x42
        try simp only [e38, e24, e28, e32, e50] at p2x42
        try have q2x42 := congrArg Int32.toInt p2x42
        try simp only [e38, e24, e28, e32, e50] at p3x42
        try have q3x42 := congrArg Int32.toInt p3x42
        have hx20 := p0x42; have hs20 := p1x42; rw [c20, ht12] at hx20 hs20; have hq20 := RDT.c1 hs20 e50 (by omega)
        refine z_bipush C (z := 42) rfl rfl rfl (fun x51 ex51 => ?_)
        refine b_icmp_ne C (t := 72) rfl rfl rfl (fun c52 => ?_) (fun c52 => ?_)
        · skip
          refine z_iconst C (z := 1) rfl rfl rfl (fun x53 ex53 => ?_)
          exact k_iret C rfl (Or.inr ⟨rfl, z01 (by omega) (by omega)⟩) (Nat.le_of_ble_eq_true rfl) (Nat.le_of_ble_eq_true rfl) ⟨_, _, _, rfl, rfl, by omega, by omega, by (try simp only [z_r0_0, z_r0_2, z_r0_0_0, z_r0_0_1]); rw [hcc, hs0]; first | (exfalso; omega) | (refine RES.t (by omega) ?_; rw [hs20]; exact ff12_0.out (by omega)), by (try simp only [z_r0_0, z_r0_2, z_r0_0_0, z_r0_0_1]); first | omega | (simp only [e46, e47, e48, e50, k0_r0_3, k0_r0_4, k0_r0_5, k0_r0_0_2, and_true, true_and] <;> omega), by (try simp only [z_r0_0, z_r0_2, z_r0_0_0, z_r0_0_1]); intro h9; first | omega | (simp only [e46, e47, e48, e50, k0_r0_3, k0_r0_4, k0_r0_5, k0_r0_0_2, and_true, true_and] <;> omega), by (try simp only [z_r0_0, z_r0_2, z_r0_0_0, z_r0_0_1]); first | omega | (simp only [e46, e47, e48, e50, k0_r0_3, k0_r0_4, k0_r0_5, k0_r0_0_2, and_true, true_and] <;> omega), hI43, (by (try simp only [z_r0_0, z_r0_2, z_r0_0_0, z_r0_0_1]); exact (Chg.cons (Chg.up S4 (List.forall_mem_cons.mpr ⟨List.mem_of_getElem? (i := 0) rfl, List.forall_mem_cons.mpr ⟨List.mem_of_getElem? (i := 1) rfl, List.forall_mem_cons.mpr ⟨List.mem_of_getElem? (i := 2) rfl, List.forall_mem_cons.mpr ⟨List.mem_of_getElem? (i := 3) rfl, fun _ h => nomatch h⟩⟩⟩⟩)) (Chg.cons S21 (Chg.mono (Chg.up S45 (List.forall_mem_cons.mpr ⟨List.mem_of_getElem? (i := 0) rfl, fun _ h => nomatch h⟩)) (by decide)) (by decide)) (by decide)))⟩
        refine k_aload_n C rfl rfl rfl ?_
        refine c_VI C (s_X4_isThingMore_x hS hI43 H_r0 (by (try simp only [z_r0_0, z_r0_2, z_r0_0_0, z_r0_0_1]); first | omega | (simp only [e46, e47, e48, e50, and_true, true_and, or_true, true_or, and_false, false_and, or_false, false_or] <;> omega)) (by (try simp only [z_r0_0, z_r0_2, z_r0_0_0, z_r0_0_1]); first | omega | (simp only [e46, e47, e48, e50, and_true, true_and, or_true, true_or, and_false, false_and, or_false, false_or] <;> omega))) rfl rfl rfl rfl rfl ⟨_, rfl, rfl, T_r0, Nat.le_of_ble_eq_true rfl⟩ rfl rfl (Nat.le_of_ble_eq_true rfl) (Nat.le_of_ble_eq_true rfl) (Nat.le_of_ble_eq_true rfl) ?_
        rintro x54 I55 L56 ⟨o0x54, o1x54, p0x54, p1x54, p2x54, p3x54, hI55, S57⟩
        try simp only [z_r0_0, z_r0_2, z_r0_0_0, z_r0_0_1] at S57
        have e58 := Chg.k S57 T_r0 (by decide) (by decide) e46
        have e59 := Chg.k S57 T_r0_0 (by decide) (by decide) e48
        have e60 := Chg.k S57 T_r0 (by decide) (by decide) e50
        have gx54 := rg x54
        obtain ⟨x61, e62⟩ : ∃ x, I55 r0 5 = x := ⟨_, rfl⟩
        have gx61 := rg x61
        try simp only [z_r0_0, z_r0_2, z_r0_0_0, z_r0_0_1] at p0x54
        try simp only [z_r0_0, z_r0_2, z_r0_0_0, z_r0_0_1] at p1x54
        try simp only [z_r0_0, z_r0_2, z_r0_0_0, z_r0_0_1] at p2x54
        try simp only [z_r0_0, z_r0_2, z_r0_0_0, z_r0_0_1] at p3x54
        try simp only [e46, e47, e48, e50, e62] at p0x54
        try have q0x54 := congrArg Int32.toInt p0x54
        try simp only [e46, e47, e48, e50, e62] at p1x54
        try have q1x54 := congrArg Int32.toInt p1x54
        try simp only [e46, e47, e48, e50, e62] at p2x54
        try have q2x54 := congrArg Int32.toInt p2x54
        try simp only [e46, e47, e48, e50, e62] at p3x54
        try have q3x54 := congrArg Int32.toInt p3x54
        have hs29 := p0x54; rw [hs20] at hs29; have hy29 := p1x54; have hn29 := p2x54
        refine b_if_ne C (t := 37) rfl rfl rfl (fun c63 => ?_) (fun c63 => ?_)
        · skip
          refine k_aload_n C rfl rfl rfl ?_
          refine k_dup C rfl rfl rfl ?_
          refine g_I C rfl rfl rfl T_r0 rfl e60 ?_
          refine z_iconst C (z := 1) rfl rfl rfl (fun x64 ex64 => ?_)
          refine z_iadd C rfl rfl ⟨by omega, by omega⟩ (fun x65 ex65 => ?_)
          refine z_pI C rfl rfl rfl T_r0 (Or.inr rfl) rfl (fun I66 uI66 => ?_)
          have hI66 : IX A T I66 := IX.f hI55 T_r0 (boX.tr (by decide) (by decide)) uI66
          have S67 : Chg (SL [r0]) T [(5, 4)] I55 L56 I66 L56 := Chg.f List.mem_cons_self T_r0 uI66
          have e68 := u2_j uI66 (by decide) e58
          have e69 := u2_j uI66 (by decide) e59
          have e70 := u2_j uI66 (by decide) e62
          have e71 := u2_e uI66
          have hq44 := uI66
          refine k_aload_n C rfl rfl rfl ?_
          refine k_iload_n C rfl rfl rfl ?_
          have hs44 := (RDT.nx (I1 := I66) hs29 z_r0_0 (p := SKP cc t12.1 + 1) (by rw [hq44, u2_k (by decide)]) (STL.fr z_r0_0_0 z_r0_0_1 (by rw [hq44, u2_r (t_nq T_r0_0 T_r0 (by decide))]) (by rw [hq44, u2_r (t_nq T_r0_0_0 T_r0 (by decide))]) (by rw [hq44, u2_r (t_nq T_r0_0_1 T_r0 (by decide))])) (by rw [e71]; omega))
          have c49 : RCH R I66 r0 = cc := (RCH.mv (Chg.at ((Chg.cons (Chg.up S4 (List.forall_mem_cons.mpr ⟨List.mem_of_getElem? (i := 0) rfl, List.forall_mem_cons.mpr ⟨List.mem_of_getElem? (i := 1) rfl, List.forall_mem_cons.mpr ⟨List.mem_of_getElem? (i := 2) rfl, List.forall_mem_cons.mpr ⟨List.mem_of_getElem? (i := 3) rfl, fun _ h => nomatch h⟩⟩⟩⟩)) (Chg.cons S21 (Chg.cons (Chg.up S45 (List.forall_mem_cons.mpr ⟨List.mem_of_getElem? (i := 0) rfl, fun _ h => nomatch h⟩)) (Chg.cons (Chg.up S57 (List.forall_mem_cons.mpr ⟨List.mem_of_getElem? (i := 0) rfl, fun _ h => nomatch h⟩)) (Chg.mono (Chg.up S67 (List.forall_mem_cons.mpr ⟨List.mem_of_getElem? (i := 0) rfl, fun _ h => nomatch h⟩)) (by decide)) (by decide)) (by decide)) (by decide)) (by decide)) : Chg (SL [r0, r0_0, r0_0_0, r0_0_1]) T [(5, 4), (5, 5), (8, 2)] I L I66 L56) (nm_4 (t_nq T_r0_2 T_r0 (by decide)) (t_nq T_r0_2 T_r0_0 (by decide)) (by first | exact nq20 | exact fun e => nq20 e.symm) (by first | exact nq21 | exact fun e => nq21 e.symm))) e68 k0_r0_3 z_r0_2).trans hcc
          refine c_VI C (hPart hS hI66 H_r0 (by omega) (by omega) hU (by (try simp only [z_r0_0, z_r0_2, z_r0_0_0, z_r0_0_1]); first | omega | (simp only [e68, e69, e70, e71, and_true, true_and, or_true, true_or, and_false, false_and, or_false, false_or] <;> omega)) (by (try simp only [z_r0_0, z_r0_2, z_r0_0_0, z_r0_0_1]); first | omega | (simp only [e68, e69, e70, e71, and_true, true_and, or_true, true_or, and_false, false_and, or_false, false_or] <;> omega)) (by (try simp only [z_r0_0, z_r0_2, z_r0_0_0, z_r0_0_1]); first | omega | (simp only [e68, e69, e70, e71, and_true, true_and, or_true, true_or, and_false, false_and, or_false, false_or] <;> omega)) (by (try simp only [z_r0_0, z_r0_2, z_r0_0_0, z_r0_0_1]); first | omega | (simp only [e68, e69, e70, e71, and_true, true_and, or_true, true_or, and_false, false_and, or_false, false_or] <;> omega)) (by (try simp only [z_r0_0, z_r0_2, z_r0_0_0, z_r0_0_1]); first | omega | (simp only [e68, e69, e70, e71, and_true, true_and, or_true, true_or, and_false, false_and, or_false, false_or] <;> omega)) (by (try simp only [z_r0_0, z_r0_2, z_r0_0_0, z_r0_0_1]); first | omega | (simp only [e68, e69, e70, e71, and_true, true_and, or_true, true_or, and_false, false_and, or_false, false_or] <;> omega))) rfl rfl rfl rfl rfl ⟨_, rfl, rfl, T_r0, Nat.le_of_ble_eq_true rfl⟩ rfl rfl (Nat.le_of_ble_eq_true rfl) (Nat.le_of_ble_eq_true rfl) (Nat.le_of_ble_eq_true rfl) ?_
          rintro x72 I73 L74 ⟨o0x72, o1x72, p0x72, p1x72, p2x72, p3x72, hI73, S75⟩
          try simp only [z_r0_0, z_r0_2, z_r0_0_0, z_r0_0_1] at S75
          have e76 := Chg.k S75 T_r0 (by decide) (by decide) e68
          have gx72 := rg x72
          obtain ⟨x77, e78⟩ : ∃ x, I73 r0 4 = x := ⟨_, rfl⟩
          have gx77 := rg x77
          obtain ⟨x79, e80⟩ : ∃ x, I73 r0 5 = x := ⟨_, rfl⟩
          have gx79 := rg x79
          obtain ⟨x81, e82⟩ : ∃ x, I73 r0_0 2 = x := ⟨_, rfl⟩
          have gx81 := rg x81
          try simp only [z_r0_0, z_r0_2, z_r0_0_0, z_r0_0_1] at p0x72
          try simp only [z_r0_0, z_r0_2, z_r0_0_0, z_r0_0_1] at p1x72
          try simp only [z_r0_0, z_r0_2, z_r0_0_0, z_r0_0_1] at p2x72
          try simp only [z_r0_0, z_r0_2, z_r0_0_0, z_r0_0_1] at p3x72
          try simp only [e68, e69, e70, e71, e78, e80, e82] at p0x72
          try have q0x72 := congrArg Int32.toInt p0x72
          try simp only [e68, e69, e70, e71, e78, e80, e82] at p1x72
          try have q1x72 := congrArg Int32.toInt p1x72
          try simp only [e68, e69, e70, e71, e78, e80, e82] at p2x72
          try have q2x72 := congrArg Int32.toInt p2x72
          try simp only [e68, e69, e70, e71, e78, e80, e82] at p3x72
          try have q3x72 := congrArg Int32.toInt p3x72
          have h49 := p0x72; rw [c49, hs44] at h49; obtain ⟨t49, ht49⟩ : ∃ t, RDT R I73 r0 = t := ⟨_, rfl⟩; rw [ht49] at h49; have hd49 := RDT.c2 ht49 e80 (by omega)
          refine b_if_ne C (t := 57) rfl rfl rfl (fun c83 => ?_) (fun c83 => ?_)
          · skip
            refine k_aload_n C rfl rfl rfl ?_
            refine g_R C rfl rfl rfl T_r0 rfl R_r0_0 ?_
            refine z_iconst C (z := 3) rfl rfl rfl (fun x84 ex84 => ?_)
            refine z_iconst C (z := 0) rfl rfl rfl (fun x85 ex85 => ?_)
            refine c_VV C (s_X7_put_p hS hI73 (hs_SuSg hS H_r0_0) hU (by (try simp only [z_r0_0, z_r0_2, z_r0_0_0, z_r0_0_1]); first | omega | (simp only [e76, e78, e80, e82, and_true, true_and, or_true, true_or, and_false, false_and, or_false, false_or] <;> omega)) (by (try simp only [z_r0_0, z_r0_2, z_r0_0_0, z_r0_0_1]); first | omega | (simp only [e76, e78, e80, e82, and_true, true_and, or_true, true_or, and_false, false_and, or_false, false_or] <;> omega))) rfl rfl rfl rfl rfl ⟨_, rfl, rfl, T_r0_0, Nat.le_of_ble_eq_true rfl⟩ rfl rfl (Nat.le_of_ble_eq_true rfl) (Nat.le_of_ble_eq_true rfl) (Nat.le_of_ble_eq_true rfl) ?_
            rintro I87 L88 ⟨p0v86, p1v86, hI87, S89⟩
            try simp only [z_r0_0, z_r0_2, z_r0_0_0, z_r0_0_1] at S89
            have e90 := Chg.k S89 T_r0 (by decide) (by decide) e76
            have e91 := Chg.k S89 T_r0 (by decide) (by decide) e78
            have e92 := Chg.k S89 T_r0 (by decide) (by decide) e80
            obtain ⟨x93, e94⟩ : ∃ x, I87 r0_0 2 = x := ⟨_, rfl⟩
            have gx93 := rg x93
            try simp only [z_r0_0, z_r0_2, z_r0_0_0, z_r0_0_1] at p0v86
            try simp only [z_r0_0, z_r0_2, z_r0_0_0, z_r0_0_1] at p1v86
            try simp only [e76, e78, e80, e82, e94] at p0v86
            try have q0v86 := congrArg Int32.toInt p0v86
            try simp only [e76, e78, e80, e82, e94] at p1v86
            try have q1v86 := congrArg Int32.toInt p1v86
            have hs63 := RDT.ap ht49 z_r0_0 (Chg.at S89 (nm_3 (t_nq T_r0 T_r0_0 (by decide)) (t_nq T_r0 T_r0_0_0 (by decide)) (t_nq T_r0 T_r0_0_1 (by decide)))) p0v86 (a' := 3) (b' := 0) (by omega) (by omega)
            refine z_iinc C (z := 1) (lw := fun x95 => [(2, .int x95), (0, .ref r0), (1, .int n1)]) rfl rfl rfl (Nat.le_of_ble_eq_true rfl) rfl ⟨by omega, by omega⟩ (fun _ => rfl) (fun x95 ex95 => ?_)
            show V 69 [(2, .int x95), (0, .ref r0), (1, .int n1)] _ _ _ _
            refine k_goto C (pc2 := 12) rfl rfl ?_
            refine k_sub S [(0, .ref r0), (1, .int n1), (2, .int x95)] (List.forall_mem_cons.mpr ⟨List.mem_of_getElem? (i := 1) rfl, List.forall_mem_cons.mpr ⟨List.mem_of_getElem? (i := 2) rfl, List.forall_mem_cons.mpr ⟨List.mem_of_getElem? (i := 0) rfl, fun _ h => nomatch h⟩⟩⟩) ?_
            exact ihJ14 _ (MN.lt hmnn15 (by omega) (by omega)) I87 L88 x95 x77 x79 x93 rfl hI87 (Chg.cons S21 (Chg.cons (Chg.up S45 (List.forall_mem_cons.mpr ⟨List.mem_of_getElem? (i := 0) rfl, fun _ h => nomatch h⟩)) (Chg.cons (Chg.up S57 (List.forall_mem_cons.mpr ⟨List.mem_of_getElem? (i := 0) rfl, fun _ h => nomatch h⟩)) (Chg.cons (Chg.up S67 (List.forall_mem_cons.mpr ⟨List.mem_of_getElem? (i := 0) rfl, fun _ h => nomatch h⟩)) (Chg.cons (Chg.up S75 (List.forall_mem_cons.mpr ⟨List.mem_of_getElem? (i := 0) rfl, List.forall_mem_cons.mpr ⟨List.mem_of_getElem? (i := 1) rfl, List.forall_mem_cons.mpr ⟨List.mem_of_getElem? (i := 2) rfl, List.forall_mem_cons.mpr ⟨List.mem_of_getElem? (i := 3) rfl, fun _ h => nomatch h⟩⟩⟩⟩)) (Chg.mono (Chg.up S89 (List.forall_mem_cons.mpr ⟨List.mem_of_getElem? (i := 1) rfl, List.forall_mem_cons.mpr ⟨List.mem_of_getElem? (i := 2) rfl, List.forall_mem_cons.mpr ⟨List.mem_of_getElem? (i := 3) rfl, fun _ h => nomatch h⟩⟩⟩)) (by decide)) (by decide)) (by decide)) (by decide)) (by decide)) (by decide)) (by omega) (by omega) e91 (by omega) (by omega) e92 (by omega) (by omega) e94 (by omega) (by omega) (by rw [hs63]; exact LPI.s ff12_0 (by omega) (by omega) (h49.y (by omega)) (by omega) (by omega) rfl (by omega)) (by omega) (by omega)
          refine z_iconst C (z := 0) rfl rfl rfl (fun x96 ex96 => ?_)
          exact k_iret C rfl (Or.inr ⟨rfl, z01 (by omega) (by omega)⟩) (Nat.le_of_ble_eq_true rfl) (Nat.le_of_ble_eq_true rfl) ⟨_, _, _, rfl, rfl, by omega, by omega, by (try simp only [z_r0_0, z_r0_2, z_r0_0_0, z_r0_0_1]); rw [hcc, hs0]; exact RES.f (by omega) (ff12_0.no2 (by omega) (by omega) (h49.no (by omega))), by (try simp only [z_r0_0, z_r0_2, z_r0_0_0, z_r0_0_1]); first | omega | (simp only [e76, e78, e80, e82, k0_r0_3, k0_r0_4, k0_r0_5, k0_r0_0_2, and_true, true_and] <;> omega), by (try simp only [z_r0_0, z_r0_2, z_r0_0_0, z_r0_0_1]); intro h9; first | omega | (simp only [e76, e78, e80, e82, k0_r0_3, k0_r0_4, k0_r0_5, k0_r0_0_2, and_true, true_and] <;> omega), by (try simp only [z_r0_0, z_r0_2, z_r0_0_0, z_r0_0_1]); first | omega | (simp only [e76, e78, e80, e82, k0_r0_3, k0_r0_4, k0_r0_5, k0_r0_0_2, and_true, true_and] <;> omega), hI73, (by (try simp only [z_r0_0, z_r0_2, z_r0_0_0, z_r0_0_1]); exact (Chg.cons (Chg.up S4 (List.forall_mem_cons.mpr ⟨List.mem_of_getElem? (i := 0) rfl, List.forall_mem_cons.mpr ⟨List.mem_of_getElem? (i := 1) rfl, List.forall_mem_cons.mpr ⟨List.mem_of_getElem? (i := 2) rfl, List.forall_mem_cons.mpr ⟨List.mem_of_getElem? (i := 3) rfl, fun _ h => nomatch h⟩⟩⟩⟩)) (Chg.cons S21 (Chg.cons (Chg.up S45 (List.forall_mem_cons.mpr ⟨List.mem_of_getElem? (i := 0) rfl, fun _ h => nomatch h⟩)) (Chg.cons (Chg.up S57 (List.forall_mem_cons.mpr ⟨List.mem_of_getElem? (i := 0) rfl, fun _ h => nomatch h⟩)) (Chg.cons (Chg.up S67 (List.forall_mem_cons.mpr ⟨List.mem_of_getElem? (i := 0) rfl, fun _ h => nomatch h⟩)) (Chg.mono (Chg.up S75 (List.forall_mem_cons.mpr ⟨List.mem_of_getElem? (i := 0) rfl, List.forall_mem_cons.mpr ⟨List.mem_of_getElem? (i := 1) rfl, List.forall_mem_cons.mpr ⟨List.mem_of_getElem? (i := 2) rfl, List.forall_mem_cons.mpr ⟨List.mem_of_getElem? (i := 3) rfl, fun _ h => nomatch h⟩⟩⟩⟩)) (by decide)) (by decide)) (by decide)) (by decide)) (by decide)) (by decide)))⟩
        refine z_iconst C (z := 0) rfl rfl rfl (fun x97 ex97 => ?_)
        exact k_iret C rfl (Or.inr ⟨rfl, z01 (by omega) (by omega)⟩) (Nat.le_of_ble_eq_true rfl) (Nat.le_of_ble_eq_true rfl) ⟨_, _, _, rfl, rfl, by omega, by omega, by (try simp only [z_r0_0, z_r0_2, z_r0_0_0, z_r0_0_1]); rw [hcc, hs0]; exact RES.f (by omega) (ff12_0.no (by omega) (by omega)), by (try simp only [z_r0_0, z_r0_2, z_r0_0_0, z_r0_0_1]); first | omega | (simp only [e58, e59, e60, e62, k0_r0_3, k0_r0_4, k0_r0_5, k0_r0_0_2, and_true, true_and] <;> omega), by (try simp only [z_r0_0, z_r0_2, z_r0_0_0, z_r0_0_1]); intro h9; first | omega | (simp only [e58, e59, e60, e62, k0_r0_3, k0_r0_4, k0_r0_5, k0_r0_0_2, and_true, true_and] <;> omega), by (try simp only [z_r0_0, z_r0_2, z_r0_0_0, z_r0_0_1]); first | omega | (simp only [e58, e59, e60, e62, k0_r0_3, k0_r0_4, k0_r0_5, k0_r0_0_2, and_true, true_and] <;> omega), hI55, (by (try simp only [z_r0_0, z_r0_2, z_r0_0_0, z_r0_0_1]); exact (Chg.cons (Chg.up S4 (List.forall_mem_cons.mpr ⟨List.mem_of_getElem? (i := 0) rfl, List.forall_mem_cons.mpr ⟨List.mem_of_getElem? (i := 1) rfl, List.forall_mem_cons.mpr ⟨List.mem_of_getElem? (i := 2) rfl, List.forall_mem_cons.mpr ⟨List.mem_of_getElem? (i := 3) rfl, fun _ h => nomatch h⟩⟩⟩⟩)) (Chg.cons S21 (Chg.cons (Chg.up S45 (List.forall_mem_cons.mpr ⟨List.mem_of_getElem? (i := 0) rfl, fun _ h => nomatch h⟩)) (Chg.mono (Chg.up S57 (List.forall_mem_cons.mpr ⟨List.mem_of_getElem? (i := 0) rfl, fun _ h => nomatch h⟩)) (by decide)) (by decide)) (by decide)) (by decide)))⟩
    refine k_istore_n C (lw := [(2, .int x13), (0, .ref r0), (1, .int n1)]) rfl rfl (Nat.le_of_ble_eq_true rfl) rfl ?_
    refine k_sub S [(0, .ref r0), (1, .int n1), (2, .int x13)] (List.forall_mem_cons.mpr ⟨List.mem_of_getElem? (i := 1) rfl, List.forall_mem_cons.mpr ⟨List.mem_of_getElem? (i := 2) rfl, List.forall_mem_cons.mpr ⟨List.mem_of_getElem? (i := 0) rfl, fun _ h => nomatch h⟩⟩⟩) ?_
    exact J14 _ I2 L3 x13 x6 x8 x10 rfl hI2 Chg.rf (by omega) (by omega) e7 (by omega) (by omega) e9 (by omega) (by omega) e11 (by omega) (by omega) (by rw [ht2]; exact LPI.z (h2.y (by omega)) rfl (by omega) (by omega)) (by omega) (by omega)
  refine z_iconst C (z := 0) rfl rfl rfl (fun x98 ex98 => ?_)
  exact k_iret C rfl (Or.inr ⟨rfl, z01 (by omega) (by omega)⟩) (Nat.le_of_ble_eq_true rfl) (Nat.le_of_ble_eq_true rfl) ⟨_, _, _, rfl, rfl, by omega, by omega, by (try simp only [z_r0_0, z_r0_2, z_r0_0_0, z_r0_0_1]); rw [hcc, hs0]; exact RES.f (by omega) (by unfold RPR; rw [h2.no (by omega)]; rfl), by (try simp only [z_r0_0, z_r0_2, z_r0_0_0, z_r0_0_1]); first | omega | (simp only [e5, e7, e9, e11, k0_r0_3, k0_r0_4, k0_r0_5, k0_r0_0_2, and_true, true_and] <;> omega), by (try simp only [z_r0_0, z_r0_2, z_r0_0_0, z_r0_0_1]); intro h9; first | omega | (simp only [e5, e7, e9, e11, k0_r0_3, k0_r0_4, k0_r0_5, k0_r0_0_2, and_true, true_and] <;> omega), by (try simp only [z_r0_0, z_r0_2, z_r0_0_0, z_r0_0_1]); first | omega | (simp only [e5, e7, e9, e11, k0_r0_3, k0_r0_4, k0_r0_5, k0_r0_0_2, and_true, true_and] <;> omega), hI2, (by (try simp only [z_r0_0, z_r0_2, z_r0_0_0, z_r0_0_1]); exact (Chg.mono (Chg.up S4 (List.forall_mem_cons.mpr ⟨List.mem_of_getElem? (i := 0) rfl, List.forall_mem_cons.mpr ⟨List.mem_of_getElem? (i := 1) rfl, List.forall_mem_cons.mpr ⟨List.mem_of_getElem? (i := 2) rfl, List.forall_mem_cons.mpr ⟨List.mem_of_getElem? (i := 3) rfl, fun _ h => nomatch h⟩⟩⟩⟩)) (by decide)))⟩

theorem s_X4_readSum_g {d : Nat} {l : Int} {m : Nat} (hl0 : 0 ≤ l) (hl5 : l ≤ 5) (hProduct : CS_Product (d + 8) l m) : CS_Sum (d + 9) l m := by
  intro T N I L R A B r0 n1 hS hI H_r0 b0_n1 b1_n1 hU hp0 hp1 hp2 hp3 hp4 hp5
  refine ⟨_, rfl, Nat.le_of_ble_eq_true rfl, fun V C S => ?_⟩
  show V 0 [(0, .ref r0), (1, .int n1)] [] (T, N, I, L, R) 0 0
  have gn1 := rg n1
  obtain ⟨T_r0, A_r0, B_r0, ⟨r0_0, R_r0_0, H_r0_0⟩, ⟨r0_2, R_r0_2, H_r0_2⟩⟩ := id H_r0
  have z_r0_0 : rA R r0 0 = r0_0 := rA_e R_r0_0
  have z_r0_2 : rA R r0 2 = r0_2 := rA_e R_r0_2
  obtain ⟨T_r0_0, A_r0_0, B_r0_0, ⟨r0_0_0, R_r0_0_0, H_r0_0_0⟩, ⟨r0_0_1, R_r0_0_1, H_r0_0_1⟩⟩ := id H_r0_0
  have z_r0_0_0 : rA R r0_0 0 = r0_0_0 := rA_e R_r0_0_0
  have z_r0_0_1 : rA R r0_0 1 = r0_0_1 := rA_e R_r0_0_1
  obtain ⟨T_r0_2, N_r0_2, A_r0_2⟩ := id H_r0_2
  obtain ⟨T_r0_0_0, N_r0_0_0, A_r0_0_0⟩ := id H_r0_0_0
  obtain ⟨T_r0_0_1, N_r0_0_1, A_r0_0_1⟩ := id H_r0_0_1
  have nq20 : NQ8 r0_2 r0_0_0 := hU.ne (t20 T_r0_2) R_r0_2 R_r0_0_0 (Or.inl (t_nq T_r0 T_r0_0 (by decide)))
  have nq21 : NQ8 r0_2 r0_0_1 := hU.ne (t20 T_r0_2) R_r0_2 R_r0_0_1 (Or.inl (t_nq T_r0 T_r0_0 (by decide)))
  have nq01 : NQ8 r0_0_0 r0_0_1 := hU.ne (t20 T_r0_0_0) R_r0_0_0 R_r0_0_1 (Or.inr (by decide))
  try simp only [z_r0_0, z_r0_2, z_r0_0_0, z_r0_0_1] at hp0
  try simp only [z_r0_0, z_r0_2, z_r0_0_0, z_r0_0_1] at hp1
  try simp only [z_r0_0, z_r0_2, z_r0_0_0, z_r0_0_1] at hp2
  try simp only [z_r0_0, z_r0_2, z_r0_0_0, z_r0_0_1] at hp3
  try simp only [z_r0_0, z_r0_2, z_r0_0_0, z_r0_0_1] at hp4
  try simp only [z_r0_0, z_r0_2, z_r0_0_0, z_r0_0_1] at hp5
  obtain ⟨w_r0_3, k0_r0_3⟩ : ∃ x, I r0 3 = x := ⟨_, rfl⟩
  have gw_r0_3 := rg w_r0_3
  obtain ⟨w_r0_4, k0_r0_4⟩ : ∃ x, I r0 4 = x := ⟨_, rfl⟩
  have gw_r0_4 := rg w_r0_4
  obtain ⟨w_r0_5, k0_r0_5⟩ : ∃ x, I r0 5 = x := ⟨_, rfl⟩
  have gw_r0_5 := rg w_r0_5
  obtain ⟨w_r0_0_2, k0_r0_0_2⟩ : ∃ x, I r0_0 2 = x := ⟨_, rfl⟩
  have gw_r0_0_2 := rg w_r0_0_2
  try simp only [k0_r0_3, k0_r0_4, k0_r0_5, k0_r0_0_2] at hp0
  try simp only [k0_r0_3, k0_r0_4, k0_r0_5, k0_r0_0_2] at hp1
  try simp only [k0_r0_3, k0_r0_4, k0_r0_5, k0_r0_0_2] at hp2
  try simp only [k0_r0_3, k0_r0_4, k0_r0_5, k0_r0_0_2] at hp3
  try simp only [k0_r0_3, k0_r0_4, k0_r0_5, k0_r0_0_2] at hp4
  try simp only [k0_r0_3, k0_r0_4, k0_r0_5, k0_r0_0_2] at hp5
  obtain ⟨cc, hcc⟩ : ∃ c, RCH R I r0 = c := ⟨_, rfl⟩
  have hc40 : C40 cc := by rw [← hcc]; exact RCH.c40 (by rw [k0_r0_3]; omega)
  obtain ⟨s0, hs0⟩ : ∃ s, RDT R I r0 = s := ⟨_, rfl⟩
  have hp0 := RDT.c1 hs0 k0_r0_4 (by omega)
  have ht0 := RDT.c2 hs0 k0_r0_5 (by omega)
  refine k_aload_n C rfl rfl rfl ?_
  refine k_iload_n C rfl rfl rfl ?_
  have c2 : RCH R I r0 = cc := (RCH.mv (Chg.at (Chg.rf : Chg (SL [r0, r0_0, r0_0_0, r0_0_1]) T [(5, 4), (5, 5), (8, 2)] I L I L) (nm_4 (t_nq T_r0_2 T_r0 (by decide)) (t_nq T_r0_2 T_r0_0 (by decide)) (by first | exact nq20 | exact fun e => nq20 e.symm) (by first | exact nq21 | exact fun e => nq21 e.symm))) k0_r0_3 k0_r0_3 z_r0_2).trans hcc
  refine c_VI C (hProduct hS hI H_r0 (by omega) (by omega) hU (by (try simp only [z_r0_0, z_r0_2, z_r0_0_0, z_r0_0_1]); first | omega | (simp only [k0_r0_3, k0_r0_4, k0_r0_5, k0_r0_0_2, and_true, true_and, or_true, true_or, and_false, false_and, or_false, false_or] <;> omega)) (by (try simp only [z_r0_0, z_r0_2, z_r0_0_0, z_r0_0_1]); first | omega | (simp only [k0_r0_3, k0_r0_4, k0_r0_5, k0_r0_0_2, and_true, true_and, or_true, true_or, and_false, false_and, or_false, false_or] <;> omega)) (by (try simp only [z_r0_0, z_r0_2, z_r0_0_0, z_r0_0_1]); first | omega | (simp only [k0_r0_3, k0_r0_4, k0_r0_5, k0_r0_0_2, and_true, true_and, or_true, true_or, and_false, false_and, or_false, false_or] <;> omega)) (by (try simp only [z_r0_0, z_r0_2, z_r0_0_0, z_r0_0_1]); first | omega | (simp only [k0_r0_3, k0_r0_4, k0_r0_5, k0_r0_0_2, and_true, true_and, or_true, true_or, and_false, false_and, or_false, false_or] <;> omega)) (by (try simp only [z_r0_0, z_r0_2, z_r0_0_0, z_r0_0_1]); first | omega | (simp only [k0_r0_3, k0_r0_4, k0_r0_5, k0_r0_0_2, and_true, true_and, or_true, true_or, and_false, false_and, or_false, false_or] <;> omega)) (by (try simp only [z_r0_0, z_r0_2, z_r0_0_0, z_r0_0_1]); first | omega | (simp only [k0_r0_3, k0_r0_4, k0_r0_5, k0_r0_0_2, and_true, true_and, or_true, true_or, and_false, false_and, or_false, false_or] <;> omega))) rfl rfl rfl rfl rfl ⟨_, rfl, rfl, T_r0, Nat.le_of_ble_eq_true rfl⟩ rfl rfl (Nat.le_of_ble_eq_true rfl) (Nat.le_of_ble_eq_true rfl) (Nat.le_of_ble_eq_true rfl) ?_
  rintro x1 I2 L3 ⟨o0x1, o1x1, p0x1, p1x1, p2x1, p3x1, hI2, S4⟩
  try simp only [z_r0_0, z_r0_2, z_r0_0_0, z_r0_0_1] at S4
  have e5 := Chg.k S4 T_r0 (by decide) (by decide) k0_r0_3
  have gx1 := rg x1
  obtain ⟨x6, e7⟩ : ∃ x, I2 r0 4 = x := ⟨_, rfl⟩
  have gx6 := rg x6
  obtain ⟨x8, e9⟩ : ∃ x, I2 r0 5 = x := ⟨_, rfl⟩
  have gx8 := rg x8
  obtain ⟨x10, e11⟩ : ∃ x, I2 r0_0 2 = x := ⟨_, rfl⟩
  have gx10 := rg x10
  try simp only [z_r0_0, z_r0_2, z_r0_0_0, z_r0_0_1] at p0x1
  try simp only [z_r0_0, z_r0_2, z_r0_0_0, z_r0_0_1] at p1x1
  try simp only [z_r0_0, z_r0_2, z_r0_0_0, z_r0_0_1] at p2x1
  try simp only [z_r0_0, z_r0_2, z_r0_0_0, z_r0_0_1] at p3x1
  try simp only [k0_r0_3, k0_r0_4, k0_r0_5, k0_r0_0_2, e7, e9, e11] at p0x1
  try have q0x1 := congrArg Int32.toInt p0x1
  try simp only [k0_r0_3, k0_r0_4, k0_r0_5, k0_r0_0_2, e7, e9, e11] at p1x1
  try have q1x1 := congrArg Int32.toInt p1x1
  try simp only [k0_r0_3, k0_r0_4, k0_r0_5, k0_r0_0_2, e7, e9, e11] at p2x1
  try have q2x1 := congrArg Int32.toInt p2x1
  try simp only [k0_r0_3, k0_r0_4, k0_r0_5, k0_r0_0_2, e7, e9, e11] at p3x1
  try have q3x1 := congrArg Int32.toInt p3x1
  have h2 := p0x1; rw [c2, hs0] at h2; obtain ⟨t2, ht2⟩ : ∃ t, RDT R I2 r0 = t := ⟨_, rfl⟩; rw [ht2] at h2; have hd2 := RDT.c2 ht2 e9 (by omega)
  refine b_if_ne C (t := 10) rfl rfl rfl (fun c12 => ?_) (fun c12 => ?_)
  · skip
    refine z_iconst C (z := 0) rfl rfl rfl (fun x13 ex13 => ?_)
    have J14 : ∀ (nn15 : Nat) (I16 : IT) (L17 : LT) (x18 : Int32) (x23 : Int32) (x27 : Int32) (x31 : Int32), (MN (400 - x18.toInt) nn15) → (IX A T I16) → (Chg (SL [r0, r0_0, r0_0_0, r0_0_1]) T [(5, 4), (5, 5), (8, 2)] I2 L3 I16 L17) → (0 ≤ x18.toInt) → (x18.toInt ≤ 400) → (I16 r0 4 = x23) → (0 ≤ x23.toInt) → (x23.toInt ≤ 400) → (I16 r0 5 = x27) → (0 ≤ x27.toInt) → (x27.toInt ≤ 40) → (I16 r0_0 2 = x31) → (0 ≤ x31.toInt) → (x31.toInt ≤ 160) → (LPI 160 cc 43 2 (RPR 160 cc (RPT 160 cc m)) (RSU 160 cc (RPT 160 cc m) s0) (RDT R I16 r0) x18.toInt) → (w_r0_5.toInt ≤ x27.toInt) → (x23.toInt ≤ w_r0_3.toInt) → V 12 [(0, .ref r0), (1, .int n1), (2, .int x18)] [] (T, N, I16, L17, R) 0 0 := by
      intro nn15
      induction nn15 using Nat.strongRecOn with
      | _ nn15 ihJ14 =>
        intro I16 L17 x18 x23 x27 x31 hmnn15 hI22 S21 b19 b20 e24 b25 b26 e28 b29 b30 e32 b33 b34 ff12_0 ff12_1 ff12_2
        have gx18 := rg x18
        have gx23 := rg x23
        have gx27 := rg x27
        have gx31 := rg x31
        have e38 := Chg.k S21 T_r0 (by decide) (by decide) e5
        obtain ⟨t12, ht12⟩ : ∃ t, RDT R I16 r0 = t := ⟨_, rfl⟩
        rw [ht12] at ff12_0
        have htn := ff12_0.tn
        refine k_iload_n C rfl rfl rfl ?_
        refine z_sipush C (z := 400) rfl rfl rfl (fun x39 ex39 => ?_)
        refine b_icmp_ge C (t := 72) rfl rfl rfl (fun c40 => ?_) (fun c40 => ?_)
        · skip
          refine z_iconst C (z := 1) rfl rfl rfl (fun x41 ex41 => ?_)
          exact k_iret C rfl (Or.inr ⟨rfl, z01 (by omega) (by omega)⟩) (Nat.le_of_ble_eq_true rfl) (Nat.le_of_ble_eq_true rfl) ⟨_, _, _, rfl, rfl, by omega, by omega, by (try simp only [z_r0_0, z_r0_2, z_r0_0_0, z_r0_0_1]); rw [hcc, hs0]; first | (exfalso; omega) | (refine RES.t (by omega) ?_; rw [hs20]; exact ff12_0.out (by omega)), by (try simp only [z_r0_0, z_r0_2, z_r0_0_0, z_r0_0_1]); first | omega | (simp only [e38, e24, e28, e32, k0_r0_3, k0_r0_4, k0_r0_5, k0_r0_0_2, and_true, true_and] <;> omega), by (try simp only [z_r0_0, z_r0_2, z_r0_0_0, z_r0_0_1]); intro h9; first | omega | (simp only [e38, e24, e28, e32, k0_r0_3, k0_r0_4, k0_r0_5, k0_r0_0_2, and_true, true_and] <;> omega), by (try simp only [z_r0_0, z_r0_2, z_r0_0_0, z_r0_0_1]); first | omega | (simp only [e38, e24, e28, e32, k0_r0_3, k0_r0_4, k0_r0_5, k0_r0_0_2, and_true, true_and] <;> omega), hI22, (by (try simp only [z_r0_0, z_r0_2, z_r0_0_0, z_r0_0_1]); exact (Chg.cons (Chg.up S4 (List.forall_mem_cons.mpr ⟨List.mem_of_getElem? (i := 0) rfl, List.forall_mem_cons.mpr ⟨List.mem_of_getElem? (i := 1) rfl, List.forall_mem_cons.mpr ⟨List.mem_of_getElem? (i := 2) rfl, List.forall_mem_cons.mpr ⟨List.mem_of_getElem? (i := 3) rfl, fun _ h => nomatch h⟩⟩⟩⟩)) (Chg.mono S21 (by decide)) (by decide)))⟩
        refine k_aload_n C rfl rfl rfl ?_
        have c20 : RCH R I16 r0 = cc := (RCH.mv (Chg.at ((Chg.cons (Chg.up S4 (List.forall_mem_cons.mpr ⟨List.mem_of_getElem? (i := 0) rfl, List.forall_mem_cons.mpr ⟨List.mem_of_getElem? (i := 1) rfl, List.forall_mem_cons.mpr ⟨List.mem_of_getElem? (i := 2) rfl, List.forall_mem_cons.mpr ⟨List.mem_of_getElem? (i := 3) rfl, fun _ h => nomatch h⟩⟩⟩⟩)) (Chg.mono S21 (by decide)) (by decide)) : Chg (SL [r0, r0_0, r0_0_0, r0_0_1]) T [(5, 4), (5, 5), (8, 2)] I L I16 L17) (nm_4 (t_nq T_r0_2 T_r0 (by decide)) (t_nq T_r0_2 T_r0_0 (by decide)) (by first | exact nq20 | exact fun e => nq20 e.symm) (by first | exact nq21 | exact fun e => nq21 e.symm))) e38 k0_r0_3 z_r0_2).trans hcc
        have hc12 := RDT.c2 ht12 e28 (by omega)
        refine c_VI C (s_X4_next_x hS hI22 H_r0 (by (try simp only [z_r0_0, z_r0_2, z_r0_0_0, z_r0_0_1]); first | omega | (simp only [e38, e24, e28, e32, and_true, true_and, or_true, true_or, and_false, false_and, or_false, false_or] <;> omega)) (by (try simp only [z_r0_0, z_r0_2, z_r0_0_0, z_r0_0_1]); first | omega | (simp only [e38, e24, e28, e32, and_true, true_and, or_true, true_or, and_false, false_and, or_false, false_or] <;> omega)) (by (try simp only [z_r0_0, z_r0_2, z_r0_0_0, z_r0_0_1]); first | omega | (simp only [e38, e24, e28, e32, and_true, true_and, or_true, true_or, and_false, false_and, or_false, false_or] <;> omega)) (by (try simp only [z_r0_0, z_r0_2, z_r0_0_0, z_r0_0_1]); first | omega | (simp only [e38, e24, e28, e32, and_true, true_and, or_true, true_or, and_false, false_and, or_false, false_or] <;> omega))) rfl rfl rfl rfl rfl ⟨_, rfl, rfl, T_r0, Nat.le_of_ble_eq_true rfl⟩ rfl rfl (Nat.le_of_ble_eq_true rfl) (Nat.le_of_ble_eq_true rfl) (Nat.le_of_ble_eq_true rfl) ?_
        rintro x42 I43 L44 ⟨p0x42, p1x42, p2x42, p3x42, hI43, S45⟩
        try simp only [z_r0_0, z_r0_2, z_r0_0_0, z_r0_0_1] at S45
        have e46 := Chg.k S45 T_r0 (by decide) (by decide) e38
        have e47 := Chg.k S45 T_r0 (by decide) (by decide) e28
        have e48 := Chg.k S45 T_r0_0 (by decide) (by decide) e32
        have gx42 := rg x42
        obtain ⟨x49, e50⟩ : ∃ x, I43 r0 4 = x := ⟨_, rfl⟩
        have gx49 := rg x49
        try simp only [z_r0_0, z_r0_2, z_r0_0_0, z_r0_0_1] at p0x42
        try simp only [z_r0_0, z_r0_2, z_r0_0_0, z_r0_0_1] at p1x42
        try simp only [z_r0_0, z_r0_2, z_r0_0_0, z_r0_0_1] at p2x42
        try simp only [z_r0_0, z_r0_2, z_r0_0_0, z_r0_0_1] at p3x42
        try simp only [e38, e24, e28, e32, e50] at p0x42
        try have q0x42 := congrArg Int32.toInt p0x42
        try simp only [e38, e24, e28, e32, e50] at p1x42
        try have q1x42 := congrArg Int32.toInt p1x42
        try simp only [e38, e24, e28, e32, e50] at p2x42
        try have q2x42 := congrArg Int32.toInt p2x42
        try simp only [e38, e24, e28, e32, e50] at p3x42
        try have q3x42 := congrArg Int32.toInt p3x42
        have hx20 := p0x42; have hs20 := p1x42; rw [c20, ht12] at hx20 hs20; have hq20 := RDT.c1 hs20 e50 (by omega)
        refine z_bipush C (z := 43) rfl rfl rfl (fun x51 ex51 => ?_)
        refine b_icmp_ne C (t := 72) rfl rfl rfl (fun c52 => ?_) (fun c52 => ?_)
        · skip
          refine z_iconst C (z := 1) rfl rfl rfl (fun x53 ex53 => ?_)
          exact k_iret C rfl (Or.inr ⟨rfl, z01 (by omega) (by omega)⟩) (Nat.le_of_ble_eq_true rfl) (Nat.le_of_ble_eq_true rfl) ⟨_, _, _, rfl, rfl, by omega, by omega, by (try simp only [z_r0_0, z_r0_2, z_r0_0_0, z_r0_0_1]); rw [hcc, hs0]; first | (exfalso; omega) | (refine RES.t (by omega) ?_; rw [hs20]; exact ff12_0.out (by omega)), by (try simp only [z_r0_0, z_r0_2, z_r0_0_0, z_r0_0_1]); first | omega | (simp only [e46, e47, e48, e50, k0_r0_3, k0_r0_4, k0_r0_5, k0_r0_0_2, and_true, true_and] <;> omega), by (try simp only [z_r0_0, z_r0_2, z_r0_0_0, z_r0_0_1]); intro h9; first | omega | (simp only [e46, e47, e48, e50, k0_r0_3, k0_r0_4, k0_r0_5, k0_r0_0_2, and_true, true_and] <;> omega), by (try simp only [z_r0_0, z_r0_2, z_r0_0_0, z_r0_0_1]); first | omega | (simp only [e46, e47, e48, e50, k0_r0_3, k0_r0_4, k0_r0_5, k0_r0_0_2, and_true, true_and] <;> omega), hI43, (by (try simp only [z_r0_0, z_r0_2, z_r0_0_0, z_r0_0_1]); exact (Chg.cons (Chg.up S4 (List.forall_mem_cons.mpr ⟨List.mem_of_getElem? (i := 0) rfl, List.forall_mem_cons.mpr ⟨List.mem_of_getElem? (i := 1) rfl, List.forall_mem_cons.mpr ⟨List.mem_of_getElem? (i := 2) rfl, List.forall_mem_cons.mpr ⟨List.mem_of_getElem? (i := 3) rfl, fun _ h => nomatch h⟩⟩⟩⟩)) (Chg.cons S21 (Chg.mono (Chg.up S45 (List.forall_mem_cons.mpr ⟨List.mem_of_getElem? (i := 0) rfl, fun _ h => nomatch h⟩)) (by decide)) (by decide)) (by decide)))⟩
        refine k_aload_n C rfl rfl rfl ?_
        refine c_VI C (s_X4_isThingMore_x hS hI43 H_r0 (by (try simp only [z_r0_0, z_r0_2, z_r0_0_0, z_r0_0_1]); first | omega | (simp only [e46, e47, e48, e50, and_true, true_and, or_true, true_or, and_false, false_and, or_false, false_or] <;> omega)) (by (try simp only [z_r0_0, z_r0_2, z_r0_0_0, z_r0_0_1]); first | omega | (simp only [e46, e47, e48, e50, and_true, true_and, or_true, true_or, and_false, false_and, or_false, false_or] <;> omega))) rfl rfl rfl rfl rfl ⟨_, rfl, rfl, T_r0, Nat.le_of_ble_eq_true rfl⟩ rfl rfl (Nat.le_of_ble_eq_true rfl) (Nat.le_of_ble_eq_true rfl) (Nat.le_of_ble_eq_true rfl) ?_
        rintro x54 I55 L56 ⟨o0x54, o1x54, p0x54, p1x54, p2x54, p3x54, hI55, S57⟩
        try simp only [z_r0_0, z_r0_2, z_r0_0_0, z_r0_0_1] at S57
        have e58 := Chg.k S57 T_r0 (by decide) (by decide) e46
        have e59 := Chg.k S57 T_r0_0 (by decide) (by decide) e48
        have e60 := Chg.k S57 T_r0 (by decide) (by decide) e50
        have gx54 := rg x54
        obtain ⟨x61, e62⟩ : ∃ x, I55 r0 5 = x := ⟨_, rfl⟩
        have gx61 := rg x61
        try simp only [z_r0_0, z_r0_2, z_r0_0_0, z_r0_0_1] at p0x54
        try simp only [z_r0_0, z_r0_2, z_r0_0_0, z_r0_0_1] at p1x54
        try simp only [z_r0_0, z_r0_2, z_r0_0_0, z_r0_0_1] at p2x54
        try simp only [z_r0_0, z_r0_2, z_r0_0_0, z_r0_0_1] at p3x54
        try simp only [e46, e47, e48, e50, e62] at p0x54
        try have q0x54 := congrArg Int32.toInt p0x54
        try simp only [e46, e47, e48, e50, e62] at p1x54
        try have q1x54 := congrArg Int32.toInt p1x54
        try simp only [e46, e47, e48, e50, e62] at p2x54
        try have q2x54 := congrArg Int32.toInt p2x54
        try simp only [e46, e47, e48, e50, e62] at p3x54
        try have q3x54 := congrArg Int32.toInt p3x54
        have hs29 := p0x54; rw [hs20] at hs29; have hy29 := p1x54; have hn29 := p2x54
        refine b_if_ne C (t := 37) rfl rfl rfl (fun c63 => ?_) (fun c63 => ?_)
        · skip
          refine k_aload_n C rfl rfl rfl ?_
          refine k_dup C rfl rfl rfl ?_
          refine g_I C rfl rfl rfl T_r0 rfl e60 ?_
          refine z_iconst C (z := 1) rfl rfl rfl (fun x64 ex64 => ?_)
          refine z_iadd C rfl rfl ⟨by omega, by omega⟩ (fun x65 ex65 => ?_)
          refine z_pI C rfl rfl rfl T_r0 (Or.inr rfl) rfl (fun I66 uI66 => ?_)
          have hI66 : IX A T I66 := IX.f hI55 T_r0 (boX.tr (by decide) (by decide)) uI66
          have S67 : Chg (SL [r0]) T [(5, 4)] I55 L56 I66 L56 := Chg.f List.mem_cons_self T_r0 uI66
          have e68 := u2_j uI66 (by decide) e58
          have e69 := u2_j uI66 (by decide) e59
          have e70 := u2_j uI66 (by decide) e62
          have e71 := u2_e uI66
          have hq44 := uI66
          refine k_aload_n C rfl rfl rfl ?_
          refine k_iload_n C rfl rfl rfl ?_
          have hs44 := (RDT.nx (I1 := I66) hs29 z_r0_0 (p := SKP cc t12.1 + 1) (by rw [hq44, u2_k (by decide)]) (STL.fr z_r0_0_0 z_r0_0_1 (by rw [hq44, u2_r (t_nq T_r0_0 T_r0 (by decide))]) (by rw [hq44, u2_r (t_nq T_r0_0_0 T_r0 (by decide))]) (by rw [hq44, u2_r (t_nq T_r0_0_1 T_r0 (by decide))])) (by rw [e71]; omega))
          have c49 : RCH R I66 r0 = cc := (RCH.mv (Chg.at ((Chg.cons (Chg.up S4 (List.forall_mem_cons.mpr ⟨List.mem_of_getElem? (i := 0) rfl, List.forall_mem_cons.mpr ⟨List.mem_of_getElem? (i := 1) rfl, List.forall_mem_cons.mpr ⟨List.mem_of_getElem? (i := 2) rfl, List.forall_mem_cons.mpr ⟨List.mem_of_getElem? (i := 3) rfl, fun _ h => nomatch h⟩⟩⟩⟩)) (Chg.cons S21 (Chg.cons (Chg.up S45 (List.forall_mem_cons.mpr ⟨List.mem_of_getElem? (i := 0) rfl, fun _ h => nomatch h⟩)) (Chg.cons (Chg.up S57 (List.forall_mem_cons.mpr ⟨List.mem_of_getElem? (i := 0) rfl, fun _ h => nomatch h⟩)) (Chg.mono (Chg.up S67 (List.forall_mem_cons.mpr ⟨List.mem_of_getElem? (i := 0) rfl, fun _ h => nomatch h⟩)) (by decide)) (by decide)) (by decide)) (by decide)) (by decide)) : Chg (SL [r0, r0_0, r0_0_0, r0_0_1]) T [(5, 4), (5, 5), (8, 2)] I L I66 L56) (nm_4 (t_nq T_r0_2 T_r0 (by decide)) (t_nq T_r0_2 T_r0_0 (by decide)) (by first | exact nq20 | exact fun e => nq20 e.symm) (by first | exact nq21 | exact fun e => nq21 e.symm))) e68 k0_r0_3 z_r0_2).trans hcc
          refine c_VI C (hProduct hS hI66 H_r0 (by omega) (by omega) hU (by (try simp only [z_r0_0, z_r0_2, z_r0_0_0, z_r0_0_1]); first | omega | (simp only [e68, e69, e70, e71, and_true, true_and, or_true, true_or, and_false, false_and, or_false, false_or] <;> omega)) (by (try simp only [z_r0_0, z_r0_2, z_r0_0_0, z_r0_0_1]); first | omega | (simp only [e68, e69, e70, e71, and_true, true_and, or_true, true_or, and_false, false_and, or_false, false_or] <;> omega)) (by (try simp only [z_r0_0, z_r0_2, z_r0_0_0, z_r0_0_1]); first | omega | (simp only [e68, e69, e70, e71, and_true, true_and, or_true, true_or, and_false, false_and, or_false, false_or] <;> omega)) (by (try simp only [z_r0_0, z_r0_2, z_r0_0_0, z_r0_0_1]); first | omega | (simp only [e68, e69, e70, e71, and_true, true_and, or_true, true_or, and_false, false_and, or_false, false_or] <;> omega)) (by (try simp only [z_r0_0, z_r0_2, z_r0_0_0, z_r0_0_1]); first | omega | (simp only [e68, e69, e70, e71, and_true, true_and, or_true, true_or, and_false, false_and, or_false, false_or] <;> omega)) (by (try simp only [z_r0_0, z_r0_2, z_r0_0_0, z_r0_0_1]); first | omega | (simp only [e68, e69, e70, e71, and_true, true_and, or_true, true_or, and_false, false_and, or_false, false_or] <;> omega))) rfl rfl rfl rfl rfl ⟨_, rfl, rfl, T_r0, Nat.le_of_ble_eq_true rfl⟩ rfl rfl (Nat.le_of_ble_eq_true rfl) (Nat.le_of_ble_eq_true rfl) (Nat.le_of_ble_eq_true rfl) ?_
          rintro x72 I73 L74 ⟨o0x72, o1x72, p0x72, p1x72, p2x72, p3x72, hI73, S75⟩
          try simp only [z_r0_0, z_r0_2, z_r0_0_0, z_r0_0_1] at S75
          have e76 := Chg.k S75 T_r0 (by decide) (by decide) e68
          have gx72 := rg x72
          obtain ⟨x77, e78⟩ : ∃ x, I73 r0 4 = x := ⟨_, rfl⟩
          have gx77 := rg x77
          obtain ⟨x79, e80⟩ : ∃ x, I73 r0 5 = x := ⟨_, rfl⟩
          have gx79 := rg x79
          obtain ⟨x81, e82⟩ : ∃ x, I73 r0_0 2 = x := ⟨_, rfl⟩
          have gx81 := rg x81
          try simp only [z_r0_0, z_r0_2, z_r0_0_0, z_r0_0_1] at p0x72
          try simp only [z_r0_0, z_r0_2, z_r0_0_0, z_r0_0_1] at p1x72
          try simp only [z_r0_0, z_r0_2, z_r0_0_0, z_r0_0_1] at p2x72
          try simp only [z_r0_0, z_r0_2, z_r0_0_0, z_r0_0_1] at p3x72
          try simp only [e68, e69, e70, e71, e78, e80, e82] at p0x72
          try have q0x72 := congrArg Int32.toInt p0x72
          try simp only [e68, e69, e70, e71, e78, e80, e82] at p1x72
          try have q1x72 := congrArg Int32.toInt p1x72
          try simp only [e68, e69, e70, e71, e78, e80, e82] at p2x72
          try have q2x72 := congrArg Int32.toInt p2x72
          try simp only [e68, e69, e70, e71, e78, e80, e82] at p3x72
          try have q3x72 := congrArg Int32.toInt p3x72
          have h49 := p0x72; rw [c49, hs44] at h49; obtain ⟨t49, ht49⟩ : ∃ t, RDT R I73 r0 = t := ⟨_, rfl⟩; rw [ht49] at h49; have hd49 := RDT.c2 ht49 e80 (by omega)
          refine b_if_ne C (t := 57) rfl rfl rfl (fun c83 => ?_) (fun c83 => ?_)
          · skip
            refine k_aload_n C rfl rfl rfl ?_
            refine g_R C rfl rfl rfl T_r0 rfl R_r0_0 ?_
            refine z_iconst C (z := 2) rfl rfl rfl (fun x84 ex84 => ?_)
            refine z_iconst C (z := 0) rfl rfl rfl (fun x85 ex85 => ?_)
            refine c_VV C (s_X7_put_p hS hI73 (hs_SuSg hS H_r0_0) hU (by (try simp only [z_r0_0, z_r0_2, z_r0_0_0, z_r0_0_1]); first | omega | (simp only [e76, e78, e80, e82, and_true, true_and, or_true, true_or, and_false, false_and, or_false, false_or] <;> omega)) (by (try simp only [z_r0_0, z_r0_2, z_r0_0_0, z_r0_0_1]); first | omega | (simp only [e76, e78, e80, e82, and_true, true_and, or_true, true_or, and_false, false_and, or_false, false_or] <;> omega))) rfl rfl rfl rfl rfl ⟨_, rfl, rfl, T_r0_0, Nat.le_of_ble_eq_true rfl⟩ rfl rfl (Nat.le_of_ble_eq_true rfl) (Nat.le_of_ble_eq_true rfl) (Nat.le_of_ble_eq_true rfl) ?_
            rintro I87 L88 ⟨p0v86, p1v86, hI87, S89⟩
            try simp only [z_r0_0, z_r0_2, z_r0_0_0, z_r0_0_1] at S89
            have e90 := Chg.k S89 T_r0 (by decide) (by decide) e76
            have e91 := Chg.k S89 T_r0 (by decide) (by decide) e78
            have e92 := Chg.k S89 T_r0 (by decide) (by decide) e80
            obtain ⟨x93, e94⟩ : ∃ x, I87 r0_0 2 = x := ⟨_, rfl⟩
            have gx93 := rg x93
            try simp only [z_r0_0, z_r0_2, z_r0_0_0, z_r0_0_1] at p0v86
            try simp only [z_r0_0, z_r0_2, z_r0_0_0, z_r0_0_1] at p1v86
            try simp only [e76, e78, e80, e82, e94] at p0v86
            try have q0v86 := congrArg Int32.toInt p0v86
            try simp only [e76, e78, e80, e82, e94] at p1v86
            try have q1v86 := congrArg Int32.toInt p1v86
            have hs63 := RDT.ap ht49 z_r0_0 (Chg.at S89 (nm_3 (t_nq T_r0 T_r0_0 (by decide)) (t_nq T_r0 T_r0_0_0 (by decide)) (t_nq T_r0 T_r0_0_1 (by decide)))) p0v86 (a' := 2) (b' := 0) (by omega) (by omega)
            refine z_iinc C (z := 1) (lw := fun x95 => [(2, .int x95), (0, .ref r0), (1, .int n1)]) rfl rfl rfl (Nat.le_of_ble_eq_true rfl) rfl ⟨by omega, by omega⟩ (fun _ => rfl) (fun x95 ex95 => ?_)
            show V 69 [(2, .int x95), (0, .ref r0), (1, .int n1)] _ _ _ _
            refine k_goto C (pc2 := 12) rfl rfl ?_
            refine k_sub S [(0, .ref r0), (1, .int n1), (2, .int x95)] (List.forall_mem_cons.mpr ⟨List.mem_of_getElem? (i := 1) rfl, List.forall_mem_cons.mpr ⟨List.mem_of_getElem? (i := 2) rfl, List.forall_mem_cons.mpr ⟨List.mem_of_getElem? (i := 0) rfl, fun _ h => nomatch h⟩⟩⟩) ?_
            exact ihJ14 _ (MN.lt hmnn15 (by omega) (by omega)) I87 L88 x95 x77 x79 x93 rfl hI87 (Chg.cons S21 (Chg.cons (Chg.up S45 (List.forall_mem_cons.mpr ⟨List.mem_of_getElem? (i := 0) rfl, fun _ h => nomatch h⟩)) (Chg.cons (Chg.up S57 (List.forall_mem_cons.mpr ⟨List.mem_of_getElem? (i := 0) rfl, fun _ h => nomatch h⟩)) (Chg.cons (Chg.up S67 (List.forall_mem_cons.mpr ⟨List.mem_of_getElem? (i := 0) rfl, fun _ h => nomatch h⟩)) (Chg.cons (Chg.up S75 (List.forall_mem_cons.mpr ⟨List.mem_of_getElem? (i := 0) rfl, List.forall_mem_cons.mpr ⟨List.mem_of_getElem? (i := 1) rfl, List.forall_mem_cons.mpr ⟨List.mem_of_getElem? (i := 2) rfl, List.forall_mem_cons.mpr ⟨List.mem_of_getElem? (i := 3) rfl, fun _ h => nomatch h⟩⟩⟩⟩)) (Chg.mono (Chg.up S89 (List.forall_mem_cons.mpr ⟨List.mem_of_getElem? (i := 1) rfl, List.forall_mem_cons.mpr ⟨List.mem_of_getElem? (i := 2) rfl, List.forall_mem_cons.mpr ⟨List.mem_of_getElem? (i := 3) rfl, fun _ h => nomatch h⟩⟩⟩)) (by decide)) (by decide)) (by decide)) (by decide)) (by decide)) (by decide)) (by omega) (by omega) e91 (by omega) (by omega) e92 (by omega) (by omega) e94 (by omega) (by omega) (by rw [hs63]; exact LPI.s ff12_0 (by omega) (by omega) (h49.y (by omega)) (by omega) (by omega) rfl (by omega)) (by omega) (by omega)
          refine z_iconst C (z := 0) rfl rfl rfl (fun x96 ex96 => ?_)
          exact k_iret C rfl (Or.inr ⟨rfl, z01 (by omega) (by omega)⟩) (Nat.le_of_ble_eq_true rfl) (Nat.le_of_ble_eq_true rfl) ⟨_, _, _, rfl, rfl, by omega, by omega, by (try simp only [z_r0_0, z_r0_2, z_r0_0_0, z_r0_0_1]); rw [hcc, hs0]; exact RES.f (by omega) (ff12_0.no2 (by omega) (by omega) (h49.no (by omega))), by (try simp only [z_r0_0, z_r0_2, z_r0_0_0, z_r0_0_1]); first | omega | (simp only [e76, e78, e80, e82, k0_r0_3, k0_r0_4, k0_r0_5, k0_r0_0_2, and_true, true_and] <;> omega), by (try simp only [z_r0_0, z_r0_2, z_r0_0_0, z_r0_0_1]); intro h9; first | omega | (simp only [e76, e78, e80, e82, k0_r0_3, k0_r0_4, k0_r0_5, k0_r0_0_2, and_true, true_and] <;> omega), by (try simp only [z_r0_0, z_r0_2, z_r0_0_0, z_r0_0_1]); first | omega | (simp only [e76, e78, e80, e82, k0_r0_3, k0_r0_4, k0_r0_5, k0_r0_0_2, and_true, true_and] <;> omega), hI73, (by (try simp only [z_r0_0, z_r0_2, z_r0_0_0, z_r0_0_1]); exact (Chg.cons (Chg.up S4 (List.forall_mem_cons.mpr ⟨List.mem_of_getElem? (i := 0) rfl, List.forall_mem_cons.mpr ⟨List.mem_of_getElem? (i := 1) rfl, List.forall_mem_cons.mpr ⟨List.mem_of_getElem? (i := 2) rfl, List.forall_mem_cons.mpr ⟨List.mem_of_getElem? (i := 3) rfl, fun _ h => nomatch h⟩⟩⟩⟩)) (Chg.cons S21 (Chg.cons (Chg.up S45 (List.forall_mem_cons.mpr ⟨List.mem_of_getElem? (i := 0) rfl, fun _ h => nomatch h⟩)) (Chg.cons (Chg.up S57 (List.forall_mem_cons.mpr ⟨List.mem_of_getElem? (i := 0) rfl, fun _ h => nomatch h⟩)) (Chg.cons (Chg.up S67 (List.forall_mem_cons.mpr ⟨List.mem_of_getElem? (i := 0) rfl, fun _ h => nomatch h⟩)) (Chg.mono (Chg.up S75 (List.forall_mem_cons.mpr ⟨List.mem_of_getElem? (i := 0) rfl, List.forall_mem_cons.mpr ⟨List.mem_of_getElem? (i := 1) rfl, List.forall_mem_cons.mpr ⟨List.mem_of_getElem? (i := 2) rfl, List.forall_mem_cons.mpr ⟨List.mem_of_getElem? (i := 3) rfl, fun _ h => nomatch h⟩⟩⟩⟩)) (by decide)) (by decide)) (by decide)) (by decide)) (by decide)) (by decide)))⟩
        refine z_iconst C (z := 0) rfl rfl rfl (fun x97 ex97 => ?_)
        exact k_iret C rfl (Or.inr ⟨rfl, z01 (by omega) (by omega)⟩) (Nat.le_of_ble_eq_true rfl) (Nat.le_of_ble_eq_true rfl) ⟨_, _, _, rfl, rfl, by omega, by omega, by (try simp only [z_r0_0, z_r0_2, z_r0_0_0, z_r0_0_1]); rw [hcc, hs0]; exact RES.f (by omega) (ff12_0.no (by omega) (by omega)), by (try simp only [z_r0_0, z_r0_2, z_r0_0_0, z_r0_0_1]); first | omega | (simp only [e58, e59, e60, e62, k0_r0_3, k0_r0_4, k0_r0_5, k0_r0_0_2, and_true, true_and] <;> omega), by (try simp only [z_r0_0, z_r0_2, z_r0_0_0, z_r0_0_1]); intro h9; first | omega | (simp only [e58, e59, e60, e62, k0_r0_3, k0_r0_4, k0_r0_5, k0_r0_0_2, and_true, true_and] <;> omega), by (try simp only [z_r0_0, z_r0_2, z_r0_0_0, z_r0_0_1]); first | omega | (simp only [e58, e59, e60, e62, k0_r0_3, k0_r0_4, k0_r0_5, k0_r0_0_2, and_true, true_and] <;> omega), hI55, (by (try simp only [z_r0_0, z_r0_2, z_r0_0_0, z_r0_0_1]); exact (Chg.cons (Chg.up S4 (List.forall_mem_cons.mpr ⟨List.mem_of_getElem? (i := 0) rfl, List.forall_mem_cons.mpr ⟨List.mem_of_getElem? (i := 1) rfl, List.forall_mem_cons.mpr ⟨List.mem_of_getElem? (i := 2) rfl, List.forall_mem_cons.mpr ⟨List.mem_of_getElem? (i := 3) rfl, fun _ h => nomatch h⟩⟩⟩⟩)) (Chg.cons S21 (Chg.cons (Chg.up S45 (List.forall_mem_cons.mpr ⟨List.mem_of_getElem? (i := 0) rfl, fun _ h => nomatch h⟩)) (Chg.mono (Chg.up S57 (List.forall_mem_cons.mpr ⟨List.mem_of_getElem? (i := 0) rfl, fun _ h => nomatch h⟩)) (by decide)) (by decide)) (by decide)) (by decide)))⟩
    refine k_istore_n C (lw := [(2, .int x13), (0, .ref r0), (1, .int n1)]) rfl rfl (Nat.le_of_ble_eq_true rfl) rfl ?_
    refine k_sub S [(0, .ref r0), (1, .int n1), (2, .int x13)] (List.forall_mem_cons.mpr ⟨List.mem_of_getElem? (i := 1) rfl, List.forall_mem_cons.mpr ⟨List.mem_of_getElem? (i := 2) rfl, List.forall_mem_cons.mpr ⟨List.mem_of_getElem? (i := 0) rfl, fun _ h => nomatch h⟩⟩⟩) ?_
    exact J14 _ I2 L3 x13 x6 x8 x10 rfl hI2 Chg.rf (by omega) (by omega) e7 (by omega) (by omega) e9 (by omega) (by omega) e11 (by omega) (by omega) (by rw [ht2]; exact LPI.z (h2.y (by omega)) rfl (by omega) (by omega)) (by omega) (by omega)
  refine z_iconst C (z := 0) rfl rfl rfl (fun x98 ex98 => ?_)
  exact k_iret C rfl (Or.inr ⟨rfl, z01 (by omega) (by omega)⟩) (Nat.le_of_ble_eq_true rfl) (Nat.le_of_ble_eq_true rfl) ⟨_, _, _, rfl, rfl, by omega, by omega, by (try simp only [z_r0_0, z_r0_2, z_r0_0_0, z_r0_0_1]); rw [hcc, hs0]; exact RES.f (by omega) (by unfold RSU; rw [h2.no (by omega)]; rfl), by (try simp only [z_r0_0, z_r0_2, z_r0_0_0, z_r0_0_1]); first | omega | (simp only [e5, e7, e9, e11, k0_r0_3, k0_r0_4, k0_r0_5, k0_r0_0_2, and_true, true_and] <;> omega), by (try simp only [z_r0_0, z_r0_2, z_r0_0_0, z_r0_0_1]); intro h9; first | omega | (simp only [e5, e7, e9, e11, k0_r0_3, k0_r0_4, k0_r0_5, k0_r0_0_2, and_true, true_and] <;> omega), by (try simp only [z_r0_0, z_r0_2, z_r0_0_0, z_r0_0_1]); first | omega | (simp only [e5, e7, e9, e11, k0_r0_3, k0_r0_4, k0_r0_5, k0_r0_0_2, and_true, true_and] <;> omega), hI2, (by (try simp only [z_r0_0, z_r0_2, z_r0_0_0, z_r0_0_1]); exact (Chg.mono (Chg.up S4 (List.forall_mem_cons.mpr ⟨List.mem_of_getElem? (i := 0) rfl, List.forall_mem_cons.mpr ⟨List.mem_of_getElem? (i := 1) rfl, List.forall_mem_cons.mpr ⟨List.mem_of_getElem? (i := 2) rfl, List.forall_mem_cons.mpr ⟨List.mem_of_getElem? (i := 3) rfl, fun _ h => nomatch h⟩⟩⟩⟩)) (by decide)))⟩

