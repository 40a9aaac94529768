/-! signs told: exactly -/
theorem s_X7_kindAt_x {d : Nat} {T N : Nat → Nat} {I : IT} {L : LT} {R : RT} {A B : Nat → Prop} {r0 : Nat} {n1 : Int32} (hS : SUB B A) (hI : IX A T I) (H_r0 : (hs_Sg T N R A B) r0) : Ex (d + 1) 35 [.ref r0, .int n1] (T, N, I, L, R) 0 0 (pI T N R (fun x9 I9 L9 => (KAD x9 (I (rA R r0 0)) n1) ∧ (I = I9 ∧ L = L9))) := by
  refine ⟨_, rfl, Nat.le_of_ble_eq_true rfl, fun V C S => ?_⟩
  show V 0 [(0, .ref r0), (1, .int n1)] [] (T, N, I, L, R) 0 0
  have gn1 := rg n1
  obtain ⟨T_r0, A_r0, ⟨r0_0, R_r0_0, H_r0_0⟩, ⟨r0_1, R_r0_1, H_r0_1⟩⟩ := id H_r0
  have z_r0_0 : rA R r0 0 = r0_0 := rA_e R_r0_0
  have z_r0_1 : rA R r0 1 = r0_1 := rA_e R_r0_1
  obtain ⟨T_r0_0, N_r0_0, A_r0_0⟩ := id H_r0_0
  refine k_iload_n C rfl rfl rfl ?_
  refine b_if_lt C (t := 13) rfl rfl rfl (fun c1 => ?_) (fun c1 => ?_)
  · skip
    refine z_iconst C (z := 0) rfl rfl rfl (fun x2 ex2 => ?_)
    refine k_goto C (pc2 := 23) rfl rfl ?_
    exact k_iret C rfl (Or.inl rfl) (Nat.le_of_ble_eq_true rfl) (Nat.le_of_ble_eq_true rfl) ⟨_, _, _, rfl, rfl, by (try simp only [z_r0_0, z_r0_1]); first | exact (fun _ _ => ex2) | exact (fun h1 h2 => by exfalso; omega), rfl, rfl⟩
  refine k_iload_n C rfl rfl rfl ?_
  refine k_aload_n C rfl rfl rfl ?_
  refine g_R C rfl rfl rfl T_r0 rfl R_r0_0 ?_
  refine z_len C (n := 160) rfl rfl (by rw [T_r0_0]; exact Nat.le_of_ble_eq_true rfl) N_r0_0 (Nat.le_of_ble_eq_true rfl) (fun x3 ex3 => ?_)
  refine b_icmp_lt C (t := 17) rfl rfl rfl (fun c4 => ?_) (fun c4 => ?_)
  · skip
    refine k_aload_n C rfl rfl rfl ?_
    refine g_R C rfl rfl rfl T_r0 rfl R_r0_0 ?_
    refine k_iload_n C rfl rfl rfl ?_
    refine z_aI C rfl rfl T_r0_0 N_r0_0 (by omega) (by omega) (fun x5 ex5 => ?_)
    have gx5 := rg x5
    exact k_iret C rfl (Or.inl rfl) (Nat.le_of_ble_eq_true rfl) (Nat.le_of_ble_eq_true rfl) ⟨_, _, _, rfl, rfl, by (try simp only [z_r0_0, z_r0_1]); first | exact (fun _ _ => ex5) | exact (fun h1 h2 => by exfalso; omega), rfl, rfl⟩
  refine z_iconst C (z := 0) rfl rfl rfl (fun x6 ex6 => ?_)
  refine k_goto C (pc2 := 23) rfl rfl ?_
  exact k_iret C rfl (Or.inl rfl) (Nat.le_of_ble_eq_true rfl) (Nat.le_of_ble_eq_true rfl) ⟨_, _, _, rfl, rfl, by (try simp only [z_r0_0, z_r0_1]); first | exact (fun _ _ => ex6) | exact (fun h1 h2 => by exfalso; omega), rfl, rfl⟩

theorem s_X7_sizeAt_x {d : Nat} {T N : Nat → Nat} {I : IT} {L : LT} {R : RT} {A B : Nat → Prop} {r0 : Nat} {n1 : Int32} (hS : SUB B A) (hI : IX A T I) (H_r0 : (hs_Sg T N R A B) r0) : Ex (d + 1) 38 [.ref r0, .int n1] (T, N, I, L, R) 0 0 (pI T N R (fun x9 I9 L9 => (KAD x9 (I (rA R r0 1)) n1) ∧ (I = I9 ∧ L = L9))) := by
  refine ⟨_, rfl, Nat.le_of_ble_eq_true rfl, fun V C S => ?_⟩
  show V 0 [(0, .ref r0), (1, .int n1)] [] (T, N, I, L, R) 0 0
  have gn1 := rg n1
  obtain ⟨T_r0, A_r0, ⟨r0_0, R_r0_0, H_r0_0⟩, ⟨r0_1, R_r0_1, H_r0_1⟩⟩ := id H_r0
  have z_r0_0 : rA R r0 0 = r0_0 := rA_e R_r0_0
  have z_r0_1 : rA R r0 1 = r0_1 := rA_e R_r0_1
  obtain ⟨T_r0_1, N_r0_1, A_r0_1⟩ := id H_r0_1
  refine k_iload_n C rfl rfl rfl ?_
  refine b_if_lt C (t := 13) rfl rfl rfl (fun c1 => ?_) (fun c1 => ?_)
  · skip
    refine z_iconst C (z := 0) rfl rfl rfl (fun x2 ex2 => ?_)
    refine k_goto C (pc2 := 23) rfl rfl ?_
    exact k_iret C rfl (Or.inl rfl) (Nat.le_of_ble_eq_true rfl) (Nat.le_of_ble_eq_true rfl) ⟨_, _, _, rfl, rfl, by (try simp only [z_r0_0, z_r0_1]); first | exact (fun _ _ => ex2) | exact (fun h1 h2 => by exfalso; omega), rfl, rfl⟩
  refine k_iload_n C rfl rfl rfl ?_
  refine k_aload_n C rfl rfl rfl ?_
  refine g_R C rfl rfl rfl T_r0 rfl R_r0_1 ?_
  refine z_len C (n := 160) rfl rfl (by rw [T_r0_1]; exact Nat.le_of_ble_eq_true rfl) N_r0_1 (Nat.le_of_ble_eq_true rfl) (fun x3 ex3 => ?_)
  refine b_icmp_lt C (t := 17) rfl rfl rfl (fun c4 => ?_) (fun c4 => ?_)
  · skip
    refine k_aload_n C rfl rfl rfl ?_
    refine g_R C rfl rfl rfl T_r0 rfl R_r0_1 ?_
    refine k_iload_n C rfl rfl rfl ?_
    refine z_aI C rfl rfl T_r0_1 N_r0_1 (by omega) (by omega) (fun x5 ex5 => ?_)
    have gx5 := rg x5
    exact k_iret C rfl (Or.inl rfl) (Nat.le_of_ble_eq_true rfl) (Nat.le_of_ble_eq_true rfl) ⟨_, _, _, rfl, rfl, by (try simp only [z_r0_0, z_r0_1]); first | exact (fun _ _ => ex5) | exact (fun h1 h2 => by exfalso; omega), rfl, rfl⟩
  refine z_iconst C (z := 0) rfl rfl rfl (fun x6 ex6 => ?_)
  refine k_goto C (pc2 := 23) rfl rfl ?_
  exact k_iret C rfl (Or.inl rfl) (Nat.le_of_ble_eq_true rfl) (Nat.le_of_ble_eq_true rfl) ⟨_, _, _, rfl, rfl, by (try simp only [z_r0_0, z_r0_1]); first | exact (fun _ _ => ex6) | exact (fun h1 h2 => by exfalso; omega), rfl, rfl⟩

theorem s_X7_copyFrom_p {d : Nat} {T N : Nat → Nat} {I : IT} {L : LT} {R : RT} {A B : Nat → Prop} {r0 r1 : Nat} (hS : SUB B A) (hI : IX A T I) (H_r0 : (hs_Sg T N R A B) r0) (H_r1 : (hs_Sg T N R A B) r1) (hU : UPR T R) (hp0 : NQ8 r0 r1) (hp1 : 0 ≤ (I r1 2).toInt ∧ (I r1 2).toInt ≤ 160) : Ex (d + 2) 93 [.ref r0, .ref r1] (T, N, I, L, R) 0 0 (pV T N R (fun I9 L9 => (STL R I9 r0 = STL R I r1) ∧ (0 ≤ (I9 r0 2).toInt ∧ (I9 r0 2).toInt ≤ 160) ∧ (IX A T I9 ∧ Chg (SL [r0, (rA R r0 0), (rA R r0 1)]) T [(8, 2)] I L I9 L9))) := by
  refine ⟨_, rfl, Nat.le_of_ble_eq_true rfl, fun V C S => ?_⟩
  show V 0 [(0, .ref r0), (1, .ref r1)] [] (T, N, I, L, R) 0 0
  obtain ⟨T_r0, A_r0, ⟨r0_0, R_r0_0, H_r0_0⟩, ⟨r0_1, R_r0_1, H_r0_1⟩⟩ := id H_r0
  have z_r0_0 : rA R r0 0 = r0_0 := rA_e R_r0_0
  have z_r0_1 : rA R r0 1 = r0_1 := rA_e R_r0_1
  obtain ⟨T_r0_0, N_r0_0, A_r0_0⟩ := id H_r0_0
  obtain ⟨T_r0_1, N_r0_1, A_r0_1⟩ := id H_r0_1
  obtain ⟨T_r1, A_r1, ⟨r1_0, R_r1_0, H_r1_0⟩, ⟨r1_1, R_r1_1, H_r1_1⟩⟩ := id H_r1
  have z_r1_0 : rA R r1 0 = r1_0 := rA_e R_r1_0
  have z_r1_1 : rA R r1 1 = r1_1 := rA_e R_r1_1
  obtain ⟨T_r1_0, N_r1_0, A_r1_0⟩ := id H_r1_0
  obtain ⟨T_r1_1, N_r1_1, A_r1_1⟩ := id H_r1_1
  try simp only [z_r0_0, z_r0_1, z_r1_0, z_r1_1] at hp0
  try simp only [z_r0_0, z_r0_1, z_r1_0, z_r1_1] at hp1
  obtain ⟨w_r1_2, k0_r1_2⟩ : ∃ x, I r1 2 = x := ⟨_, rfl⟩
  have gw_r1_2 := rg w_r1_2
  try simp only [k0_r1_2] at hp0
  try simp only [k0_r1_2] at hp1
  have n00 : NQ8 r0_0 r1_0 := hU.ne (t20 T_r0_0) R_r0_0 R_r1_0 (Or.inl hp0)
  have n01 : NQ8 r0_0 r1_1 := hU.ne (t20 T_r0_0) R_r0_0 R_r1_1 (Or.inl hp0)
  have n10 : NQ8 r0_1 r1_0 := hU.ne (t20 T_r0_1) R_r0_1 R_r1_0 (Or.inl hp0)
  have n11 : NQ8 r0_1 r1_1 := hU.ne (t20 T_r0_1) R_r0_1 R_r1_1 (Or.inl hp0)
  refine k_aload_n C rfl rfl rfl ?_
  refine z_iconst C (z := 0) rfl rfl rfl (fun x1 ex1 => ?_)
  refine z_pI C rfl rfl rfl T_r0 (Or.inr rfl) rfl (fun I2 uI2 => ?_)
  have hI2 : IX A T I2 := IX.f hI T_r0 (boX.tr (by decide) (by decide)) uI2
  have S3 : Chg (SL [r0]) T [(8, 2)] I L I2 L := Chg.f List.mem_cons_self T_r0 uI2
  have e4 := u2_n uI2 (by first | exact hp0 | exact fun e => hp0 e.symm) k0_r1_2
  have e5 := u2_e uI2
  refine z_iconst C (z := 0) rfl rfl rfl (fun x6 ex6 => ?_)
  have J7 : ∀ (nn8 : Nat) (I9 : IT) (L10 : LT) (x11 : Int32) (x15 : Int32) (x19 : Int32), (MN (2147483647 - x11.toInt) nn8) → (IX A T I9) → (Chg (SL [r0, r0_0, r0_1]) T [(8, 2)] I2 L I9 L10) → (0 ≤ x11.toInt) → (I9 r0 2 = x15) → (0 ≤ x15.toInt) → (x15.toInt ≤ 160) → (I9 r1 2 = x19) → (0 ≤ x19.toInt) → (x19.toInt ≤ 160) → (STL R I9 r0 = (STL R I r1).take x11.toInt.toNat) → (x19.toInt = w_r1_2.toInt) → V 7 [(0, .ref r0), (1, .ref r1), (2, .int x11)] [] (T, N, I9, L10, R) 0 0 := by
    intro nn8
    induction nn8 using Nat.strongRecOn with
    | _ nn8 ihJ7 =>
      intro I9 L10 x11 x15 x19 hmnn8 hI14 S13 b12 e16 b17 b18 e20 b21 b22 ff7_0 ff7_1
      have gx11 := rg x11
      have gx15 := rg x15
      have gx19 := rg x19
      refine k_iload_n C rfl rfl rfl ?_
      refine k_aload_n C rfl rfl rfl ?_
      refine g_I C rfl rfl rfl T_r1 rfl e20 ?_
      refine b_icmp_ge C (t := 35) rfl rfl rfl (fun c25 => ?_) (fun c25 => ?_)
      · skip
        exact k_vret C rfl rfl (Nat.le_of_ble_eq_true rfl) (Nat.le_of_ble_eq_true rfl) ⟨_, _, rfl, rfl, by (try simp only [z_r0_0, z_r0_1, z_r1_0, z_r1_1]); exact STL.ce ff7_0 (by rw [k0_r1_2]; omega), by (try simp only [z_r0_0, z_r0_1, z_r1_0, z_r1_1]); rw [e16]; omega, hI14, (by (try simp only [z_r0_0, z_r0_1, z_r1_0, z_r1_1]); exact (Chg.cons (Chg.up S3 (List.forall_mem_cons.mpr ⟨List.mem_of_getElem? (i := 0) rfl, fun _ h => nomatch h⟩)) (Chg.mono S13 (by decide)) (by decide)))⟩
      refine k_aload_n C rfl rfl rfl ?_
      refine k_aload_n C rfl rfl rfl ?_
      refine k_iload_n C rfl rfl rfl ?_
      refine c_VI C (s_X7_kindAt_x hS hI14 H_r1) rfl rfl rfl rfl rfl ⟨_, rfl, rfl, T_r1, Nat.le_of_ble_eq_true rfl⟩ rfl rfl (Nat.le_of_ble_eq_true rfl) (Nat.le_of_ble_eq_true rfl) (Nat.le_of_ble_eq_true rfl) ?_
      rintro x26 _ _ ⟨p0x26, rfl, rfl⟩
      have gx26 := rg x26
      try simp only [z_r0_0, z_r0_1, z_r1_0, z_r1_1] at p0x26
      try simp only [e16, e20] at p0x26
      try have q0x26 := congrArg Int32.toInt p0x26
      have hk := p0x26; have hk1 := (Chg.at ((Chg.cons (Chg.up S3 (List.forall_mem_cons.mpr ⟨List.mem_of_getElem? (i := 0) rfl, fun _ h => nomatch h⟩)) (Chg.mono S13 (by decide)) (by decide)) : Chg (SL [r0, r0_0, r0_1]) T [(8, 2)] I L I9 L10) (nm_3 (t_nq T_r1_0 T_r0 (by decide)) (by first | exact n00 | exact fun e => n00 e.symm) (by first | exact n10 | exact fun e => n10 e.symm)))
      refine k_aload_n C rfl rfl rfl ?_
      refine k_iload_n C rfl rfl rfl ?_
      refine c_VI C (s_X7_sizeAt_x hS hI14 H_r1) rfl rfl rfl rfl rfl ⟨_, rfl, rfl, T_r1, Nat.le_of_ble_eq_true rfl⟩ rfl rfl (Nat.le_of_ble_eq_true rfl) (Nat.le_of_ble_eq_true rfl) (Nat.le_of_ble_eq_true rfl) ?_
      rintro x27 _ _ ⟨p0x27, rfl, rfl⟩
      have gx27 := rg x27
      try simp only [z_r0_0, z_r0_1, z_r1_0, z_r1_1] at p0x27
      try simp only [e16, e20] at p0x27
      try have q0x27 := congrArg Int32.toInt p0x27
      have hz := p0x27; have hz1 := (Chg.at ((Chg.cons (Chg.up S3 (List.forall_mem_cons.mpr ⟨List.mem_of_getElem? (i := 0) rfl, fun _ h => nomatch h⟩)) (Chg.mono S13 (by decide)) (by decide)) : Chg (SL [r0, r0_0, r0_1]) T [(8, 2)] I L I9 L10) (nm_3 (t_nq T_r1_1 T_r0 (by decide)) (by first | exact n01 | exact fun e => n01 e.symm) (by first | exact n11 | exact fun e => n11 e.symm)))
      refine c_VV C (s_X7_put_p hS hI14 H_r0 hU (by first | omega | (simp only [e16, e20, and_true, true_and, or_true, true_or, and_false, false_and, or_false, false_or] <;> omega)) (by first | omega | (simp only [e16, e20, and_true, true_and, or_true, true_or, and_false, false_and, or_false, false_or] <;> omega))) rfl rfl rfl rfl rfl ⟨_, rfl, rfl, T_r0, Nat.le_of_ble_eq_true rfl⟩ rfl rfl (Nat.le_of_ble_eq_true rfl) (Nat.le_of_ble_eq_true rfl) (Nat.le_of_ble_eq_true rfl) ?_
      rintro I29 L30 ⟨p0v28, p1v28, hI29, S31⟩
      try simp only [z_r0_0, z_r0_1, z_r1_0, z_r1_1] at S31
      have e32 := (congrFun (Chg.at S31 (nm_3 (by first | exact hp0 | exact fun e => hp0 e.symm) (t_nq T_r1 T_r0_0 (by decide)) (t_nq T_r1 T_r0_1 (by decide)))) 2).trans e20
      obtain ⟨x33, e34⟩ : ∃ x, I29 r0 2 = x := ⟨_, rfl⟩
      have gx33 := rg x33
      try simp only [z_r0_0, z_r0_1, z_r1_0, z_r1_1] at p0v28
      try simp only [z_r0_0, z_r0_1, z_r1_0, z_r1_1] at p1v28
      try simp only [e16, e20, e34] at p0v28
      try have q0v28 := congrArg Int32.toInt p0v28
      try simp only [e16, e20, e34] at p1v28
      try have q1v28 := congrArg Int32.toInt p1v28
      have hpt := p0v28
      refine z_iinc C (z := 1) (lw := fun x35 => [(2, .int x35), (0, .ref r0), (1, .ref r1)]) rfl rfl rfl (Nat.le_of_ble_eq_true rfl) rfl ⟨by omega, by omega⟩ (fun _ => rfl) (fun x35 ex35 => ?_)
      show V 32 [(2, .int x35), (0, .ref r0), (1, .ref r1)] _ _ _ _
      refine k_goto C (pc2 := 7) rfl rfl ?_
      refine k_sub S [(0, .ref r0), (1, .ref r1), (2, .int x35)] (List.forall_mem_cons.mpr ⟨List.mem_of_getElem? (i := 1) rfl, List.forall_mem_cons.mpr ⟨List.mem_of_getElem? (i := 2) rfl, List.forall_mem_cons.mpr ⟨List.mem_of_getElem? (i := 0) rfl, fun _ h => nomatch h⟩⟩⟩) ?_
      exact ihJ7 _ (MN.lt hmnn8 (by omega) (by omega)) I29 L30 x35 x33 x19 rfl hI29 (Chg.cons S13 (Chg.mono (Chg.up S31 (List.forall_mem_cons.mpr ⟨List.mem_of_getElem? (i := 0) rfl, List.forall_mem_cons.mpr ⟨List.mem_of_getElem? (i := 1) rfl, List.forall_mem_cons.mpr ⟨List.mem_of_getElem? (i := 2) rfl, fun _ h => nomatch h⟩⟩⟩)) (by decide)) (by decide)) (by omega) e34 (by omega) (by omega) e32 (by omega) (by omega) (by exact STL.cs ff7_0 hpt z_r1_0 z_r1_1 hk hk1 hz hz1 (congrArg Int32.toInt k0_r1_2) (by omega) (by omega) (by omega) (by omega)) (by omega)
  refine k_istore_n C (lw := [(2, .int x6), (0, .ref r0), (1, .ref r1)]) rfl rfl (Nat.le_of_ble_eq_true rfl) rfl ?_
  refine k_sub S [(0, .ref r0), (1, .ref r1), (2, .int x6)] (List.forall_mem_cons.mpr ⟨List.mem_of_getElem? (i := 1) rfl, List.forall_mem_cons.mpr ⟨List.mem_of_getElem? (i := 2) rfl, List.forall_mem_cons.mpr ⟨List.mem_of_getElem? (i := 0) rfl, fun _ h => nomatch h⟩⟩⟩) ?_
  exact J7 _ I2 L x6 x1 w_r1_2 rfl hI2 Chg.rf (by omega) e5 (by omega) (by omega) e4 (by omega) (by omega) (by exact STL.z (by rw [e5]; omega) (by omega)) (by omega)

theorem s_X8_copyFrom_p {d : Nat} {T N : Nat → Nat} {I : IT} {L : LT} {R : RT} {A B : Nat → Prop} {r0 r1 : Nat} (hS : SUB B A) (hI : IX A T I) (H_r0 : (hs_St T N R A B) r0) (H_r1 : (hs_St T N R A B) r1) (hU : UPR T R) (hp0 : r0 ≠ r1) (hp1 : (I r1 1).toInt ≤ 16) (hp2 : (I r1 2).toInt ≤ 8) (hp3 : (I r1 3).toInt ≤ 8) (hp4 : ∀ j : Nat, j < 8 → (j : Int) < (I r1 3).toInt → 0 ≤ (I (SA R r1 j) 2).toInt ∧ (I (SA R r1 j) 2).toInt ≤ 160) : Ex (d + 4) 110 [.ref r0, .ref r1] (T, N, I, L, R) 0 0 (pV T N R (fun I9 L9 => ((I9 r0 0).toInt = (I r1 0).toInt) ∧ ((I9 r0 1).toInt = (I r1 1).toInt) ∧ ((I9 r0 2).toInt = (I r1 2).toInt) ∧ ((I9 r0 3).toInt = (I r1 3).toInt) ∧ ((I9 r0 4).toInt = (I r1 4).toInt) ∧ ((I9 r0 5).toInt = (I r1 5).toInt) ∧ (CAL R I9 I r0 r1 40) ∧ (FLL R I9 I r0 r1 (I r1 1).toInt) ∧ (TLL R I9 I r0 r1 (I r1 2).toInt) ∧ (SLL R I9 I r0 r1 (I r1 3).toInt) ∧ (IX A T I9 ∧ Chg (OWN R r0) T [(3, 0), (8, 2), (9, 0), (9, 1), (9, 2), (9, 3), (9, 4), (9, 5), (10, 0), (10, 1), (10, 2), (10, 3)] I L I9 L9))) := by
  refine ⟨_, rfl, Nat.le_of_ble_eq_true rfl, fun V C S => ?_⟩
  show V 0 [(0, .ref r0), (1, .ref r1)] [] (T, N, I, L, R) 0 0
  obtain ⟨T_r0, A_r0, B_r0, ⟨r0_6, R_r0_6, H_r0_6⟩, ⟨r0_7, R_r0_7, H_r0_7⟩, ⟨r0_8, R_r0_8, H_r0_8⟩, ⟨r0_9, R_r0_9, H_r0_9⟩, ⟨r0_10, R_r0_10, H_r0_10⟩⟩ := id H_r0
  have z_r0_6 : rA R r0 6 = r0_6 := rA_e R_r0_6
  have z_r0_7 : rA R r0 7 = r0_7 := rA_e R_r0_7
  have z_r0_8 : rA R r0 8 = r0_8 := rA_e R_r0_8
  have z_r0_9 : rA R r0 9 = r0_9 := rA_e R_r0_9
  have z_r0_10 : rA R r0 10 = r0_10 := rA_e R_r0_10
  obtain ⟨T_r1, A_r1, B_r1, ⟨r1_6, R_r1_6, H_r1_6⟩, ⟨r1_7, R_r1_7, H_r1_7⟩, ⟨r1_8, R_r1_8, H_r1_8⟩, ⟨r1_9, R_r1_9, H_r1_9⟩, ⟨r1_10, R_r1_10, H_r1_10⟩⟩ := id H_r1
  have z_r1_6 : rA R r1 6 = r1_6 := rA_e R_r1_6
  have z_r1_7 : rA R r1 7 = r1_7 := rA_e R_r1_7
  have z_r1_8 : rA R r1 8 = r1_8 := rA_e R_r1_8
  have z_r1_9 : rA R r1 9 = r1_9 := rA_e R_r1_9
  have z_r1_10 : rA R r1 10 = r1_10 := rA_e R_r1_10
  have hG := GS.of H_r0
  have hG1 := GS.of H_r1
  have hg := GG.of H_r0
  have hg1 := GG.of H_r1
  obtain ⟨T_r0_8, N_r0_8, A_r0_8, E_r0_8⟩ := id H_r0_8
  obtain ⟨T_r0_9, N_r0_9, A_r0_9, E_r0_9⟩ := id H_r0_9
  obtain ⟨T_r0_10, N_r0_10, A_r0_10, E_r0_10⟩ := id H_r0_10
  obtain ⟨T_r1_8, N_r1_8, A_r1_8, E_r1_8⟩ := id H_r1_8
  obtain ⟨T_r1_9, N_r1_9, A_r1_9, E_r1_9⟩ := id H_r1_9
  obtain ⟨T_r1_10, N_r1_10, A_r1_10, E_r1_10⟩ := id H_r1_10
  try simp only [z_r0_6, z_r0_7, z_r0_8, z_r0_9, z_r0_10, z_r1_6, z_r1_7, z_r1_8, z_r1_9, z_r1_10] at hp0
  try simp only [z_r0_6, z_r0_7, z_r0_8, z_r0_9, z_r0_10, z_r1_6, z_r1_7, z_r1_8, z_r1_9, z_r1_10] at hp1
  try simp only [z_r0_6, z_r0_7, z_r0_8, z_r0_9, z_r0_10, z_r1_6, z_r1_7, z_r1_8, z_r1_9, z_r1_10] at hp2
  try simp only [z_r0_6, z_r0_7, z_r0_8, z_r0_9, z_r0_10, z_r1_6, z_r1_7, z_r1_8, z_r1_9, z_r1_10] at hp3
  try simp only [z_r0_6, z_r0_7, z_r0_8, z_r0_9, z_r0_10, z_r1_6, z_r1_7, z_r1_8, z_r1_9, z_r1_10] at hp4
  obtain ⟨w_r1_0, k0_r1_0⟩ : ∃ x, I r1 0 = x := ⟨_, rfl⟩
  have gw_r1_0 := rg w_r1_0
  have ow_r1_0 := IX.p hI A_r1 T_r1 k0_r1_0
  obtain ⟨w_r1_1, k0_r1_1⟩ : ∃ x, I r1 1 = x := ⟨_, rfl⟩
  have gw_r1_1 := rg w_r1_1
  obtain ⟨w_r1_2, k0_r1_2⟩ : ∃ x, I r1 2 = x := ⟨_, rfl⟩
  have gw_r1_2 := rg w_r1_2
  obtain ⟨w_r1_3, k0_r1_3⟩ : ∃ x, I r1 3 = x := ⟨_, rfl⟩
  have gw_r1_3 := rg w_r1_3
  obtain ⟨w_r1_4, k0_r1_4⟩ : ∃ x, I r1 4 = x := ⟨_, rfl⟩
  have gw_r1_4 := rg w_r1_4
  obtain ⟨w_r1_5, k0_r1_5⟩ : ∃ x, I r1 5 = x := ⟨_, rfl⟩
  have gw_r1_5 := rg w_r1_5
  try simp only [k0_r1_0, k0_r1_1, k0_r1_2, k0_r1_3, k0_r1_4, k0_r1_5] at hp0
  try simp only [k0_r1_0, k0_r1_1, k0_r1_2, k0_r1_3, k0_r1_4, k0_r1_5] at hp1
  try simp only [k0_r1_0, k0_r1_1, k0_r1_2, k0_r1_3, k0_r1_4, k0_r1_5] at hp2
  try simp only [k0_r1_0, k0_r1_1, k0_r1_2, k0_r1_3, k0_r1_4, k0_r1_5] at hp3
  try simp only [k0_r1_0, k0_r1_1, k0_r1_2, k0_r1_3, k0_r1_4, k0_r1_5] at hp4
  refine k_aload_n C rfl rfl rfl ?_
  refine k_aload_n C rfl rfl rfl ?_
  refine g_I C rfl rfl rfl T_r1 rfl k0_r1_0 ?_
  refine z_pI C rfl rfl rfl T_r0 (Or.inr rfl) rfl (fun I1 uI1 => ?_)
  have hI1 : IX A T I1 := IX.f hI T_r0 ⟨fun h => absurd h (by decide), fun _ _ => ⟨by omega, by omega⟩⟩ uI1
  have S2 : Chg (SL [r0]) T [(9, 0)] I L I1 L := Chg.f List.mem_cons_self T_r0 uI1
  have e3 := u2_n uI1 (by first | exact hp0 | exact fun e => hp0 e.symm) k0_r1_0
  have e4 := u2_j uI1 (by decide) k0_r1_1
  have e5 := u2_j uI1 (by decide) k0_r1_2
  have e6 := u2_j uI1 (by decide) k0_r1_3
  have e7 := u2_j uI1 (by decide) k0_r1_4
  have e8 := u2_j uI1 (by decide) k0_r1_5
  have e9 := u2_e uI1
  have hq0 := uI1
  refine k_aload_n C rfl rfl rfl ?_
  refine k_aload_n C rfl rfl rfl ?_
  refine g_I C rfl rfl rfl T_r1 rfl e4 ?_
  refine z_pI C rfl rfl rfl T_r0 (Or.inr rfl) rfl (fun I10 uI10 => ?_)
  have hI10 : IX A T I10 := IX.f hI1 T_r0 (boX.tr (by decide) (by decide)) uI10
  have S11 : Chg (SL [r0]) T [(9, 1)] I1 L I10 L := Chg.f List.mem_cons_self T_r0 uI10
  have e12 := u2_j uI10 (by decide) e3
  have e13 := u2_n uI10 (by first | exact hp0 | exact fun e => hp0 e.symm) e4
  have e14 := u2_j uI10 (by decide) e5
  have e15 := u2_j uI10 (by decide) e6
  have e16 := u2_j uI10 (by decide) e7
  have e17 := u2_j uI10 (by decide) e8
  have e18 := u2_j uI10 (by decide) e9
  have e19 := u2_e uI10
  have hq1 := uI10
  refine k_aload_n C rfl rfl rfl ?_
  refine k_aload_n C rfl rfl rfl ?_
  refine g_I C rfl rfl rfl T_r1 rfl e14 ?_
  refine z_pI C rfl rfl rfl T_r0 (Or.inr rfl) rfl (fun I20 uI20 => ?_)
  have hI20 : IX A T I20 := IX.f hI10 T_r0 (boX.tr (by decide) (by decide)) uI20
  have S21 : Chg (SL [r0]) T [(9, 2)] I10 L I20 L := Chg.f List.mem_cons_self T_r0 uI20
  have e22 := u2_j uI20 (by decide) e12
  have e23 := u2_j uI20 (by decide) e13
  have e24 := u2_n uI20 (by first | exact hp0 | exact fun e => hp0 e.symm) e14
  have e25 := u2_j uI20 (by decide) e15
  have e26 := u2_j uI20 (by decide) e16
  have e27 := u2_j uI20 (by decide) e17
  have e28 := u2_j uI20 (by decide) e18
  have e29 := u2_j uI20 (by decide) e19
  have e30 := u2_e uI20
  have hq2 := uI20
  refine k_aload_n C rfl rfl rfl ?_
  refine k_aload_n C rfl rfl rfl ?_
  refine g_I C rfl rfl rfl T_r1 rfl e25 ?_
  refine z_pI C rfl rfl rfl T_r0 (Or.inr rfl) rfl (fun I31 uI31 => ?_)
  have hI31 : IX A T I31 := IX.f hI20 T_r0 (boX.tr (by decide) (by decide)) uI31
  have S32 : Chg (SL [r0]) T [(9, 3)] I20 L I31 L := Chg.f List.mem_cons_self T_r0 uI31
  have e33 := u2_j uI31 (by decide) e22
  have e34 := u2_j uI31 (by decide) e23
  have e35 := u2_j uI31 (by decide) e24
  have e36 := u2_n uI31 (by first | exact hp0 | exact fun e => hp0 e.symm) e25
  have e37 := u2_j uI31 (by decide) e26
  have e38 := u2_j uI31 (by decide) e27
  have e39 := u2_j uI31 (by decide) e28
  have e40 := u2_j uI31 (by decide) e29
  have e41 := u2_j uI31 (by decide) e30
  have e42 := u2_e uI31
  have hq3 := uI31
  refine k_aload_n C rfl rfl rfl ?_
  refine k_aload_n C rfl rfl rfl ?_
  refine c_VV C (s_X8_copyActs_x hS hI31 H_r0 H_r1 hU hp0) rfl rfl rfl rfl rfl ⟨_, rfl, rfl, T_r0, Nat.le_of_ble_eq_true rfl⟩ rfl rfl (Nat.le_of_ble_eq_true rfl) (Nat.le_of_ble_eq_true rfl) (Nat.le_of_ble_eq_true rfl) ?_
  rintro I44 L45 ⟨p0v43, p1v43, p2v43, hI44, S46⟩
  try simp only [z_r0_6, z_r0_7, z_r0_8, z_r0_9, z_r0_10, z_r1_6, z_r1_7, z_r1_8, z_r1_9, z_r1_10] at S46
  have e47 := Chg.k S46 T_r1 (by decide) (by decide) e33
  have e48 := Chg.k S46 T_r1 (by decide) (by decide) e34
  have e49 := Chg.k S46 T_r1 (by decide) (by decide) e35
  have e50 := Chg.k S46 T_r1 (by decide) (by decide) e36
  have e51 := Chg.k S46 T_r0 (by decide) (by decide) e39
  have e52 := Chg.k S46 T_r0 (by decide) (by decide) e40
  have e53 := Chg.k S46 T_r0 (by decide) (by decide) e41
  have e54 := Chg.k S46 T_r0 (by decide) (by decide) e42
  obtain ⟨x55, e56⟩ : ∃ x, I44 r0 4 = x := ⟨_, rfl⟩
  have gx55 := rg x55
  obtain ⟨x57, e58⟩ : ∃ x, I44 r0 5 = x := ⟨_, rfl⟩
  have gx57 := rg x57
  try simp only [z_r0_6, z_r0_7, z_r0_8, z_r0_9, z_r0_10, z_r1_6, z_r1_7, z_r1_8, z_r1_9, z_r1_10] at p0v43
  try simp only [z_r0_6, z_r0_7, z_r0_8, z_r0_9, z_r0_10, z_r1_6, z_r1_7, z_r1_8, z_r1_9, z_r1_10] at p1v43
  try simp only [z_r0_6, z_r0_7, z_r0_8, z_r0_9, z_r0_10, z_r1_6, z_r1_7, z_r1_8, z_r1_9, z_r1_10] at p2v43
  try simp only [e33, e34, e35, e36, e37, e38, e39, e40, e41, e42, e56, e58] at p0v43
  try have q0v43 := congrArg Int32.toInt p0v43
  try simp only [e33, e34, e35, e36, e37, e38, e39, e40, e41, e42, e56, e58] at p1v43
  try have q1v43 := congrArg Int32.toInt p1v43
  try simp only [e33, e34, e35, e36, e37, e38, e39, e40, e41, e42, e56, e58] at p2v43
  try have q2v43 := congrArg Int32.toInt p2v43
  have hca := p0v43
  refine z_iconst C (z := 0) rfl rfl rfl (fun x59 ex59 => ?_)
  have J60 : ∀ (nn61 : Nat) (I62 : IT) (L63 : LT) (x64 : Int32) (x68 : Int32) (x70 : Int32) (x72 : Int32) (x74 : Int32) (x76 : Int32) (x78 : Int32), (MN (2147483647 - x64.toInt) nn61) → (IX A T I62) → (Chg (OWN R r0) T [(3, 0)] I44 L45 I62 L63) → (0 ≤ x64.toInt) → (I62 r0 0 = x68) → (I62 r0 1 = x70) → (I62 r0 2 = x72) → (I62 r0 3 = x74) → (I62 r0 4 = x76) → (I62 r0 5 = x78) → (CAL R I62 I r0 r1 40) → (FLL R I62 I r0 r1 x64.toInt) → (x68.toInt = w_r1_0.toInt) → (x70.toInt = w_r1_1.toInt) → (x72.toInt = w_r1_2.toInt) → (x74.toInt = w_r1_3.toInt) → (x76.toInt = w_r1_4.toInt) → (x78.toInt = w_r1_5.toInt) → V 39 [(0, .ref r0), (1, .ref r1), (2, .int x64)] [] (T, N, I62, L63, R) 0 0 := by
    intro nn61
    induction nn61 using Nat.strongRecOn with
    | _ nn61 ihJ60 =>
      intro I62 L63 x64 x68 x70 x72 x74 x76 x78 hmnn61 hI67 S66 b65 e69 e71 e73 e75 e77 e79 ff39_0 ff39_1 ff39_2 ff39_3 ff39_4 ff39_5 ff39_6 ff39_7
      have gx64 := rg x64
      have gx68 := rg x68
      have gx70 := rg x70
      have gx72 := rg x72
      have gx74 := rg x74
      have gx76 := rg x76
      have gx78 := rg x78
      have e88 := Chg.k S66 T_r1 (by decide) (by decide) e47
      have e89 := Chg.k S66 T_r1 (by decide) (by decide) e48
      have e90 := Chg.k S66 T_r1 (by decide) (by decide) e49
      have e91 := Chg.k S66 T_r1 (by decide) (by decide) e50
      have e92 := Chg.k S66 T_r0 (by decide) (by decide) e51
      have e93 := Chg.k S66 T_r0 (by decide) (by decide) e52
      have e94 := Chg.k S66 T_r0 (by decide) (by decide) e53
      have e95 := Chg.k S66 T_r0 (by decide) (by decide) e54
      have e96 := Chg.k S66 T_r0 (by decide) (by decide) e56
      have e97 := Chg.k S66 T_r0 (by decide) (by decide) e58
      refine k_iload_n C rfl rfl rfl ?_
      refine k_aload_n C rfl rfl rfl ?_
      refine g_I C rfl rfl rfl T_r0 rfl e71 ?_
      refine b_icmp_ge C (t := 81) rfl rfl rfl (fun c98 => ?_) (fun c98 => ?_)
      · skip
        refine z_iconst C (z := 0) rfl rfl rfl (fun x99 ex99 => ?_)
        have J100 : ∀ (nn101 : Nat) (I102 : IT) (L103 : LT) (x104 : Int32) (x108 : Int32) (x110 : Int32) (x112 : Int32) (x114 : Int32) (x116 : Int32) (x118 : Int32), (MN (2147483647 - x104.toInt) nn101) → (IX A T I102) → (Chg (OWN R r0) T [(10, 0), (10, 1), (10, 2), (10, 3)] I62 L63 I102 L103) → (0 ≤ x104.toInt) → (I102 r0 0 = x108) → (I102 r0 1 = x110) → (I102 r0 2 = x112) → (I102 r0 3 = x114) → (I102 r0 4 = x116) → (I102 r0 5 = x118) → (CAL R I102 I r0 r1 40) → (FLL R I102 I r0 r1 w_r1_1.toInt) → (TLL R I102 I r0 r1 x104.toInt) → (x108.toInt = w_r1_0.toInt) → (x110.toInt = w_r1_1.toInt) → (x112.toInt = w_r1_2.toInt) → (x114.toInt = w_r1_3.toInt) → (x116.toInt = w_r1_4.toInt) → (x118.toInt = w_r1_5.toInt) → V 83 [(0, .ref r0), (1, .ref r1), (2, .int x104)] [] (T, N, I102, L103, R) 0 0 := by
          intro nn101
          induction nn101 using Nat.strongRecOn with
          | _ nn101 ihJ100 =>
            intro I102 L103 x104 x108 x110 x112 x114 x116 x118 hmnn101 hI107 S106 b105 e109 e111 e113 e115 e117 e119 ff83_0 ff83_1 ff83_2 ff83_3 ff83_4 ff83_5 ff83_6 ff83_7 ff83_8
            have gx104 := rg x104
            have gx108 := rg x108
            have gx110 := rg x110
            have gx112 := rg x112
            have gx114 := rg x114
            have gx116 := rg x116
            have gx118 := rg x118
            have e129 := Chg.k S106 T_r1 (by decide) (by decide) e88
            have e130 := Chg.k S106 T_r1 (by decide) (by decide) e89
            have e131 := Chg.k S106 T_r1 (by decide) (by decide) e90
            have e132 := Chg.k S106 T_r1 (by decide) (by decide) e91
            have e133 := Chg.k S106 T_r0 (by decide) (by decide) e69
            have e134 := Chg.k S106 T_r0 (by decide) (by decide) e71
            have e135 := Chg.k S106 T_r0 (by decide) (by decide) e73
            have e136 := Chg.k S106 T_r0 (by decide) (by decide) e75
            have e137 := Chg.k S106 T_r0 (by decide) (by decide) e77
            have e138 := Chg.k S106 T_r0 (by decide) (by decide) e79
            refine k_iload_n C rfl rfl rfl ?_
            refine k_aload_n C rfl rfl rfl ?_
            refine g_I C rfl rfl rfl T_r0 rfl e113 ?_
            refine b_icmp_ge C (t := 143) rfl rfl rfl (fun c139 => ?_) (fun c139 => ?_)
            · skip
              refine z_iconst C (z := 0) rfl rfl rfl (fun x140 ex140 => ?_)
              have J141 : ∀ (nn142 : Nat) (I143 : IT) (L144 : LT) (x145 : Int32) (x149 : Int32) (x151 : Int32) (x153 : Int32) (x155 : Int32) (x157 : Int32) (x159 : Int32), (MN (2147483647 - x145.toInt) nn142) → (IX A T I143) → (Chg (OWN R r0) T [(8, 2)] I102 L103 I143 L144) → (0 ≤ x145.toInt) → (I143 r0 0 = x149) → (I143 r0 1 = x151) → (I143 r0 2 = x153) → (I143 r0 3 = x155) → (I143 r0 4 = x157) → (I143 r0 5 = x159) → (CAL R I143 I r0 r1 40) → (FLL R I143 I r0 r1 w_r1_1.toInt) → (TLL R I143 I r0 r1 w_r1_2.toInt) → (x149.toInt = w_r1_0.toInt) → (x151.toInt = w_r1_1.toInt) → (x153.toInt = w_r1_2.toInt) → (x155.toInt = w_r1_3.toInt) → (x157.toInt = w_r1_4.toInt) → (x159.toInt = w_r1_5.toInt) → (SLL R I143 I r0 r1 x145.toInt) → (x145.toInt ≤ 8) → V 145 [(0, .ref r0), (1, .ref r1), (2, .int x145)] [] (T, N, I143, L144, R) 0 0 := by
                intro nn142
                induction nn142 using Nat.strongRecOn with
                | _ nn142 ihJ141 =>
                  intro I143 L144 x145 x149 x151 x153 x155 x157 x159 hmnn142 hI148 S147 b146 e150 e152 e154 e156 e158 e160 ff145_0 ff145_1 ff145_2 ff145_3 ff145_4 ff145_5 ff145_6 ff145_7 ff145_8 ff145_9 ff145_10
                  have gx145 := rg x145
                  have gx149 := rg x149
                  have gx151 := rg x151
                  have gx153 := rg x153
                  have gx155 := rg x155
                  have gx157 := rg x157
                  have gx159 := rg x159
                  have e172 := Chg.k S147 T_r1 (by decide) (by decide) e129
                  have e173 := Chg.k S147 T_r1 (by decide) (by decide) e130
                  have e174 := Chg.k S147 T_r1 (by decide) (by decide) e131
                  have e175 := Chg.k S147 T_r1 (by decide) (by decide) e132
                  have e176 := Chg.k S147 T_r0 (by decide) (by decide) e109
                  have e177 := Chg.k S147 T_r0 (by decide) (by decide) e111
                  have e178 := Chg.k S147 T_r0 (by decide) (by decide) e113
                  have e179 := Chg.k S147 T_r0 (by decide) (by decide) e115
                  have e180 := Chg.k S147 T_r0 (by decide) (by decide) e117
                  have e181 := Chg.k S147 T_r0 (by decide) (by decide) e119
                  refine k_iload_n C rfl rfl rfl ?_
                  refine k_aload_n C rfl rfl rfl ?_
                  refine g_I C rfl rfl rfl T_r0 rfl e156 ?_
                  refine b_icmp_ge C (t := 187) rfl rfl rfl (fun c182 => ?_) (fun c182 => ?_)
                  · skip
                    exact k_vret C rfl rfl (Nat.le_of_ble_eq_true rfl) (Nat.le_of_ble_eq_true rfl) ⟨_, _, rfl, rfl, by (try simp only [z_r0_6, z_r0_7, z_r0_8, z_r0_9, z_r0_10, z_r1_6, z_r1_7, z_r1_8, z_r1_9, z_r1_10]); rw [e150]; simp only [k0_r1_0]; omega, by (try simp only [z_r0_6, z_r0_7, z_r0_8, z_r0_9, z_r0_10, z_r1_6, z_r1_7, z_r1_8, z_r1_9, z_r1_10]); rw [e152]; simp only [k0_r1_1]; omega, by (try simp only [z_r0_6, z_r0_7, z_r0_8, z_r0_9, z_r0_10, z_r1_6, z_r1_7, z_r1_8, z_r1_9, z_r1_10]); rw [e154]; simp only [k0_r1_2]; omega, by (try simp only [z_r0_6, z_r0_7, z_r0_8, z_r0_9, z_r0_10, z_r1_6, z_r1_7, z_r1_8, z_r1_9, z_r1_10]); rw [e156]; simp only [k0_r1_3]; omega, by (try simp only [z_r0_6, z_r0_7, z_r0_8, z_r0_9, z_r0_10, z_r1_6, z_r1_7, z_r1_8, z_r1_9, z_r1_10]); rw [e158]; simp only [k0_r1_4]; omega, by (try simp only [z_r0_6, z_r0_7, z_r0_8, z_r0_9, z_r0_10, z_r1_6, z_r1_7, z_r1_8, z_r1_9, z_r1_10]); rw [e160]; simp only [k0_r1_5]; omega, by (try simp only [z_r0_6, z_r0_7, z_r0_8, z_r0_9, z_r0_10, z_r1_6, z_r1_7, z_r1_8, z_r1_9, z_r1_10]); exact ff145_0, by (try simp only [z_r0_6, z_r0_7, z_r0_8, z_r0_9, z_r0_10, z_r1_6, z_r1_7, z_r1_8, z_r1_9, z_r1_10]); simp only [k0_r1_1]; exact ff145_1, by (try simp only [z_r0_6, z_r0_7, z_r0_8, z_r0_9, z_r0_10, z_r1_6, z_r1_7, z_r1_8, z_r1_9, z_r1_10]); simp only [k0_r1_2]; exact ff145_2, by (try simp only [z_r0_6, z_r0_7, z_r0_8, z_r0_9, z_r0_10, z_r1_6, z_r1_7, z_r1_8, z_r1_9, z_r1_10]); simp only [k0_r1_3]; exact fun j hj hk => ff145_9 j hj (by omega), hI148, (Chg.cons (Chg.up S2 (sl_1 (Or.inl (Or.inl rfl)))) (Chg.cons (Chg.up S11 (sl_1 (Or.inl (Or.inl rfl)))) (Chg.cons (Chg.up S21 (sl_1 (Or.inl (Or.inl rfl)))) (Chg.cons (Chg.up S32 (sl_1 (Or.inl (Or.inl rfl)))) (Chg.cons (Chg.up S46 (fun _ h => Or.inl h)) (Chg.cons S66 (Chg.cons S106 (Chg.mono S147 (by decide)) (by decide)) (by decide)) (by decide)) (by decide)) (by decide)) (by decide)) (by decide))⟩
                  refine k_aload_n C rfl rfl rfl ?_
                  refine k_iload_n C rfl rfl rfl ?_
                  have hA9 := fun h => ncn (n := 8) (j := x145) (by omega) h
                  refine c_VR C (s_X8_signsAt_x hS hI148 H_r0) rfl rfl rfl rfl rfl ⟨_, rfl, rfl, T_r0, Nat.le_of_ble_eq_true rfl⟩ rfl rfl (Nat.le_of_ble_eq_true rfl) (Nat.le_of_ble_eq_true rfl) (Nat.le_of_ble_eq_true rfl) ?_
                  rintro yy183 _ _ ⟨hyy183, p0yy183, rfl, rfl⟩
                  try simp only [z_r0_6, z_r0_7, z_r0_8, z_r0_9, z_r0_10, z_r1_6, z_r1_7, z_r1_8, z_r1_9, z_r1_10] at p0yy183
                  try simp only [e172, e173, e174, e175, e150, e152, e154, e156, e158, e160] at p0yy183
                  try have q0yy183 := congrArg Int32.toInt p0yy183
                  have hgA := p0yy183
                  refine k_astore_nV C (x := yy183) (lw := [(3, va_rf yy183), (0, .ref r0), (1, .ref r1), (2, .int x145)]) rfl rfl (Nat.le_of_ble_eq_true rfl) rfl ?_
                  refine k_aload_n C rfl rfl rfl ?_
                  refine k_iload_n C rfl rfl rfl ?_
                  refine c_VR C (s_X8_signsAt_x hS hI148 H_r1) rfl rfl rfl rfl rfl ⟨_, rfl, rfl, T_r1, Nat.le_of_ble_eq_true rfl⟩ rfl rfl (Nat.le_of_ble_eq_true rfl) (Nat.le_of_ble_eq_true rfl) (Nat.le_of_ble_eq_true rfl) ?_
                  rintro yy184 _ _ ⟨hyy184, p0yy184, rfl, rfl⟩
                  try simp only [z_r0_6, z_r0_7, z_r0_8, z_r0_9, z_r0_10, z_r1_6, z_r1_7, z_r1_8, z_r1_9, z_r1_10] at p0yy184
                  try simp only [e172, e173, e174, e175, e150, e152, e154, e156, e158, e160] at p0yy184
                  try have q0yy184 := congrArg Int32.toInt p0yy184
                  have hgB := p0yy184
                  refine k_astoreV C (x := yy184) (lw := [(4, va_rf yy184), (3, va_rf yy183), (0, .ref r0), (1, .ref r1), (2, .int x145)]) rfl rfl (Nat.le_of_ble_eq_true rfl) (by cases yy183 <;> rfl) ?_
                  refine k_aload_nV C (x := yy183) rfl rfl rfl ?_
                  refine k_ifnull C (x := yy183) (t := 181) rfl rfl rfl (fun c185 => ?_) (fun rr186 c185 => ?_)
                  · skip
                    subst c185
                    exfalso; have q9 := FAD.no hgA E_r0_10; omega
                  subst c185
                  have H_rr186 := hyy183 rr186 rfl
                  have oA := SA_e z_r0_10 (FAD.q hgA).2.2.2; have h8 := hA9 (by have := FAD.q hgA; omega); have W9rr186 := OWN.s oA h8; have W9rr186_0 := OWN.s0 oA h8; have W9rr186_1 := OWN.s1 oA h8
                  refine k_aloadV C (x := yy184) rfl rfl rfl ?_
                  refine k_ifnull C (x := yy184) (t := 181) rfl rfl rfl (fun c187 => ?_) (fun rr188 c187 => ?_)
                  · skip
                    subst c187
                    exfalso; have q9 := FAD.no hgB E_r1_10; omega
                  subst c187
                  have H_rr188 := hyy184 rr188 rfl
                  have oB := SA_e z_r1_10 (FAD.q hgB).2.2.2
                  refine k_aload_n C rfl rfl rfl ?_
                  refine k_aload C rfl rfl rfl ?_
                  have hFR178 := (((Chg.cons (Chg.up S2 (sl_1 (Or.inl (Or.inl rfl)))) (Chg.cons (Chg.up S11 (sl_1 (Or.inl (Or.inl rfl)))) (Chg.cons (Chg.up S21 (sl_1 (Or.inl (Or.inl rfl)))) (Chg.cons (Chg.up S32 (sl_1 (Or.inl (Or.inl rfl)))) (Chg.cons (Chg.up S46 (fun _ h => Or.inl h)) (Chg.cons S66 (Chg.cons S106 (Chg.mono S147 (by decide)) (by decide)) (by decide)) (by decide)) (by decide)) (by decide)) (by decide)) (by decide)) : Chg (OWN R r0) T [(3, 0), (8, 2), (9, 0), (9, 1), (9, 2), (9, 3), (9, 4), (9, 5), (10, 0), (10, 1), (10, 2), (10, 3)] I L I143 L144)); have nAB : NQ8 rr186 rr188 := (fun e9 => hp0 (SG3.u hU hg hg1 h8 h8 (Or.inl oA.symm) (Or.inl (e9.trans oB.symm))).1)
                  obtain ⟨T_rr186, A_rr186, ⟨rr186_0, R_rr186_0, H_rr186_0⟩, ⟨rr186_1, R_rr186_1, H_rr186_1⟩⟩ := id H_rr186
                  have z_rr186_0 : rA R rr186 0 = rr186_0 := rA_e R_rr186_0
                  have z_rr186_1 : rA R rr186 1 = rr186_1 := rA_e R_rr186_1
                  obtain ⟨T_rr188, A_rr188, ⟨rr188_0, R_rr188_0, H_rr188_0⟩, ⟨rr188_1, R_rr188_1, H_rr188_1⟩⟩ := id H_rr188
                  have z_rr188_0 : rA R rr188 0 = rr188_0 := rA_e R_rr188_0
                  have z_rr188_1 : rA R rr188 1 = rr188_1 := rA_e R_rr188_1
                  refine c_VV C (s_X7_copyFrom_p hS hI148 H_rr186 H_rr188 hU nAB (by rw [← oB, Chg.at hFR178 (OWN.ns hU hG hg hg1 hp0 h8 (Or.inl rfl))]; exact hp4 _ h8 (by have h9 := ncz (x := x145) (by omega); (try rw [k0_r1_3]); omega))) rfl rfl rfl rfl rfl ⟨_, rfl, rfl, T_rr186, Nat.le_of_ble_eq_true rfl⟩ rfl rfl (Nat.le_of_ble_eq_true rfl) (Nat.le_of_ble_eq_true rfl) (Nat.le_of_ble_eq_true rfl) ?_
                  rintro I190 L191 ⟨p0v189, p1v189, hI190, S192⟩
                  try simp only [z_r0_6, z_r0_7, z_r0_8, z_r0_9, z_r0_10, z_r1_6, z_r1_7, z_r1_8, z_r1_9, z_r1_10, z_rr186_0, z_rr186_1, z_rr188_0, z_rr188_1] at S192
                  have e193 := Chg.k S192 T_r1 (by decide) (by decide) e172
                  have e194 := Chg.k S192 T_r1 (by decide) (by decide) e173
                  have e195 := Chg.k S192 T_r1 (by decide) (by decide) e174
                  have e196 := Chg.k S192 T_r1 (by decide) (by decide) e175
                  have e197 := Chg.k S192 T_r0 (by decide) (by decide) e150
                  have e198 := Chg.k S192 T_r0 (by decide) (by decide) e152
                  have e199 := Chg.k S192 T_r0 (by decide) (by decide) e154
                  have e200 := Chg.k S192 T_r0 (by decide) (by decide) e156
                  have e201 := Chg.k S192 T_r0 (by decide) (by decide) e158
                  have e202 := Chg.k S192 T_r0 (by decide) (by decide) e160
                  try simp only [z_r0_6, z_r0_7, z_r0_8, z_r0_9, z_r0_10, z_r1_6, z_r1_7, z_r1_8, z_r1_9, z_r1_10, z_rr186_0, z_rr186_1, z_rr188_0, z_rr188_1] at p0v189
                  try simp only [z_r0_6, z_r0_7, z_r0_8, z_r0_9, z_r0_10, z_r1_6, z_r1_7, z_r1_8, z_r1_9, z_r1_10, z_rr186_0, z_rr186_1, z_rr188_0, z_rr188_1] at p1v189
                  try simp only [e172, e173, e174, e175, e150, e152, e154, e156, e158, e160] at p0v189
                  try have q0v189 := congrArg Int32.toInt p0v189
                  try simp only [e172, e173, e174, e175, e150, e152, e154, e156, e158, e160] at p1v189
                  try have q1v189 := congrArg Int32.toInt p1v189
                  have hsS := S192; have hce := p0v189; have hcb := p1v189
                  refine z_iinc C (z := 1) (lw := fun x203 => [(2, .int x203), (4, .ref rr188), (3, .ref rr186), (0, .ref r0), (1, .ref r1)]) rfl rfl rfl (Nat.le_of_ble_eq_true rfl) rfl ⟨by omega, by omega⟩ (fun _ => rfl) (fun x203 ex203 => ?_)
                  show V 184 [(2, .int x203), (4, .ref rr188), (3, .ref rr186), (0, .ref r0), (1, .ref r1)] _ _ _ _
                  refine k_goto C (pc2 := 145) rfl rfl ?_
                  refine k_sub S [(0, .ref r0), (1, .ref r1), (2, .int x203)] (List.forall_mem_cons.mpr ⟨List.mem_of_getElem? (i := 3) rfl, List.forall_mem_cons.mpr ⟨List.mem_of_getElem? (i := 4) rfl, List.forall_mem_cons.mpr ⟨List.mem_of_getElem? (i := 0) rfl, fun _ h => nomatch h⟩⟩⟩) ?_
                  exact ihJ141 _ (MN.lt hmnn142 (by omega) (by omega)) I190 L191 x203 x149 x151 x153 x155 x157 x159 rfl hI190 (Chg.cons S147 (Chg.mono (Chg.up S192 (sl_3 (W9rr186) ((z_rr186_0 ▸ W9rr186_0)) ((z_rr186_1 ▸ W9rr186_1)))) (by decide)) (by decide)) (by omega) e197 e198 e199 e200 e201 e202 (by first | exact ff145_0 | exact CAL.at ff145_0 hsS (nWs hU hG hg oA h8 (by assumption) (by assumption))) (by first | exact ff145_1 | exact FLL.at ff145_1 hsS (nFs hU hG hg oA h8 (by assumption) (by assumption))) (by first | exact ff145_2 | exact TLL.at ff145_2 hsS (nTs hG hg oA h8 (by assumption) (by assumption))) (by omega) (by omega) (by omega) (by omega) (by omega) (by omega) (by first | exact SLL.s ff145_9 hU hG hg hg1 hp0 hFR178 hsS oA oB (by assumption) (by assumption) hce hcb (by omega) (by omega) (by omega)) (by omega)
              refine k_istore_n C (lw := [(2, .int x140), (0, .ref r0), (1, .ref r1)]) rfl rfl (Nat.le_of_ble_eq_true rfl) rfl ?_
              refine k_sub S [(0, .ref r0), (1, .ref r1), (2, .int x140)] (List.forall_mem_cons.mpr ⟨List.mem_of_getElem? (i := 1) rfl, List.forall_mem_cons.mpr ⟨List.mem_of_getElem? (i := 2) rfl, List.forall_mem_cons.mpr ⟨List.mem_of_getElem? (i := 0) rfl, fun _ h => nomatch h⟩⟩⟩) ?_
              exact J141 _ I102 L103 x140 x108 x110 x112 x114 x116 x118 rfl hI107 Chg.rf (by omega) e109 e111 e113 e115 e117 e119 (by exact ff83_0) (by exact ff83_1) (by exact fun j hj h9 => ff83_2 j (by omega) h9) (by omega) (by omega) (by omega) (by omega) (by omega) (by omega) (by exact SLL.z (by omega)) (by omega)
            refine k_aload_n C rfl rfl rfl ?_
            refine k_iload_n C rfl rfl rfl ?_
            have hFR := (((Chg.cons (Chg.up S2 (sl_1 (Or.inl (Or.inl rfl)))) (Chg.cons (Chg.up S11 (sl_1 (Or.inl (Or.inl rfl)))) (Chg.cons (Chg.up S21 (sl_1 (Or.inl (Or.inl rfl)))) (Chg.cons (Chg.up S32 (sl_1 (Or.inl (Or.inl rfl)))) (Chg.cons (Chg.up S46 (fun _ h => Or.inl h)) (Chg.cons S66 (Chg.mono S106 (by decide)) (by decide)) (by decide)) (by decide)) (by decide)) (by decide)) (by decide)) : Chg (OWN R r0) T [(3, 0), (8, 2), (9, 0), (9, 1), (9, 2), (9, 3), (9, 4), (9, 5), (10, 0), (10, 1), (10, 2), (10, 3)] I L I102 L103)); have hA9 := fun h => ncn (n := 8) (j := x104) (by omega) h
            refine c_VR C (s_X8_tableAt_x hS hI107 H_r0) rfl rfl rfl rfl rfl ⟨_, rfl, rfl, T_r0, Nat.le_of_ble_eq_true rfl⟩ rfl rfl (Nat.le_of_ble_eq_true rfl) (Nat.le_of_ble_eq_true rfl) (Nat.le_of_ble_eq_true rfl) ?_
            rintro yy204 _ _ ⟨hyy204, p0yy204, rfl, rfl⟩
            try simp only [z_r0_6, z_r0_7, z_r0_8, z_r0_9, z_r0_10, z_r1_6, z_r1_7, z_r1_8, z_r1_9, z_r1_10] at p0yy204
            try simp only [e129, e130, e131, e132, e109, e111, e113, e115, e117, e119] at p0yy204
            try have q0yy204 := congrArg Int32.toInt p0yy204
            have htA := p0yy204
            refine k_astore_nV C (x := yy204) (lw := [(3, va_rf yy204), (0, .ref r0), (1, .ref r1), (2, .int x104)]) rfl rfl (Nat.le_of_ble_eq_true rfl) rfl ?_
            refine k_aload_n C rfl rfl rfl ?_
            refine k_iload_n C rfl rfl rfl ?_
            refine c_VR C (s_X8_tableAt_x hS hI107 H_r1) rfl rfl rfl rfl rfl ⟨_, rfl, rfl, T_r1, Nat.le_of_ble_eq_true rfl⟩ rfl rfl (Nat.le_of_ble_eq_true rfl) (Nat.le_of_ble_eq_true rfl) (Nat.le_of_ble_eq_true rfl) ?_
            rintro yy205 _ _ ⟨hyy205, p0yy205, rfl, rfl⟩
            try simp only [z_r0_6, z_r0_7, z_r0_8, z_r0_9, z_r0_10, z_r1_6, z_r1_7, z_r1_8, z_r1_9, z_r1_10] at p0yy205
            try simp only [e129, e130, e131, e132, e109, e111, e113, e115, e117, e119] at p0yy205
            try have q0yy205 := congrArg Int32.toInt p0yy205
            have htB := p0yy205
            refine k_astoreV C (x := yy205) (lw := [(4, va_rf yy205), (3, va_rf yy204), (0, .ref r0), (1, .ref r1), (2, .int x104)]) rfl rfl (Nat.le_of_ble_eq_true rfl) (by cases yy204 <;> rfl) ?_
            refine k_aload_nV C (x := yy204) rfl rfl rfl ?_
            refine k_ifnull C (x := yy204) (t := 137) rfl rfl rfl (fun c206 => ?_) (fun rr207 c206 => ?_)
            · skip
              subst c206
              exfalso; have q9 := FAD.no htA E_r0_9; omega
            subst c206
            have H_rr207 := hyy204 rr207 rfl
            have oA := TA_e z_r0_9 (FAD.q htA).2.2.2; have h8 := hA9 (by omega); have W9rr207 := OWN.t oA h8; have tA := H_rr207.1
            refine k_aloadV C (x := yy205) rfl rfl rfl ?_
            refine k_ifnull C (x := yy205) (t := 137) rfl rfl rfl (fun c208 => ?_) (fun rr209 c208 => ?_)
            · skip
              subst c208
              exfalso; have q9 := FAD.no htB E_r1_9; omega
            subst c208
            have H_rr209 := hyy205 rr209 rfl
            have oB := TA_e z_r1_9 (FAD.q htB).2.2.2
            refine k_aload_n C rfl rfl rfl ?_
            refine k_aload C rfl rfl rfl ?_
            obtain ⟨T_rr209, A_rr209, B_rr209⟩ := id H_rr209
            refine z_gI C rfl rfl rfl T_rr209 rfl (fun x210 ex210 => ?_)
            have gx210 := rg x210
            refine k_aload C rfl rfl rfl ?_
            refine z_gI C rfl rfl rfl T_rr209 rfl (fun x211 ex211 => ?_)
            have gx211 := rg x211
            refine k_aload C rfl rfl rfl ?_
            refine z_gI C rfl rfl rfl T_rr209 rfl (fun x212 ex212 => ?_)
            have gx212 := rg x212
            refine k_aload C rfl rfl rfl ?_
            refine z_gI C rfl rfl rfl T_rr209 rfl (fun x213 ex213 => ?_)
            have gx213 := rg x213
            obtain ⟨T_rr207, A_rr207, B_rr207⟩ := id H_rr207
            refine c_VV C (s_X9_set_x hS hI107 H_rr207) rfl rfl rfl rfl rfl ⟨_, rfl, rfl, T_rr207, Nat.le_of_ble_eq_true rfl⟩ rfl rfl (Nat.le_of_ble_eq_true rfl) (Nat.le_of_ble_eq_true rfl) (Nat.le_of_ble_eq_true rfl) ?_
            rintro I215 L216 ⟨p0v214, p1v214, p2v214, p3v214, hI215, S217⟩
            try simp only [z_r0_6, z_r0_7, z_r0_8, z_r0_9, z_r0_10, z_r1_6, z_r1_7, z_r1_8, z_r1_9, z_r1_10] at S217
            have e218 := Chg.k S217 T_r1 (by decide) (by decide) e129
            have e219 := Chg.k S217 T_r1 (by decide) (by decide) e130
            have e220 := Chg.k S217 T_r1 (by decide) (by decide) e131
            have e221 := Chg.k S217 T_r1 (by decide) (by decide) e132
            have e222 := Chg.k S217 T_r0 (by decide) (by decide) e109
            have e223 := Chg.k S217 T_r0 (by decide) (by decide) e111
            have e224 := Chg.k S217 T_r0 (by decide) (by decide) e113
            have e225 := Chg.k S217 T_r0 (by decide) (by decide) e115
            have e226 := Chg.k S217 T_r0 (by decide) (by decide) e117
            have e227 := Chg.k S217 T_r0 (by decide) (by decide) e119
            try simp only [z_r0_6, z_r0_7, z_r0_8, z_r0_9, z_r0_10, z_r1_6, z_r1_7, z_r1_8, z_r1_9, z_r1_10] at p0v214
            try simp only [z_r0_6, z_r0_7, z_r0_8, z_r0_9, z_r0_10, z_r1_6, z_r1_7, z_r1_8, z_r1_9, z_r1_10] at p1v214
            try simp only [z_r0_6, z_r0_7, z_r0_8, z_r0_9, z_r0_10, z_r1_6, z_r1_7, z_r1_8, z_r1_9, z_r1_10] at p2v214
            try simp only [z_r0_6, z_r0_7, z_r0_8, z_r0_9, z_r0_10, z_r1_6, z_r1_7, z_r1_8, z_r1_9, z_r1_10] at p3v214
            try simp only [e129, e130, e131, e132, e109, e111, e113, e115, e117, e119, ex210, ex211, ex212, ex213] at p0v214
            try have q0v214 := congrArg Int32.toInt p0v214
            try simp only [e129, e130, e131, e132, e109, e111, e113, e115, e117, e119, ex210, ex211, ex212, ex213] at p1v214
            try have q1v214 := congrArg Int32.toInt p1v214
            try simp only [e129, e130, e131, e132, e109, e111, e113, e115, e117, e119, ex210, ex211, ex212, ex213] at p2v214
            try have q2v214 := congrArg Int32.toInt p2v214
            try simp only [e129, e130, e131, e132, e109, e111, e113, e115, e117, e119, ex210, ex211, ex212, ex213] at p3v214
            try have q3v214 := congrArg Int32.toInt p3v214
            have hs0 := p0v214; have hs1 := p1v214; have hs2 := p2v214; have hs3 := p3v214; have hsS := S217
            refine z_iinc C (z := 1) (lw := fun x228 => [(2, .int x228), (4, .ref rr209), (3, .ref rr207), (0, .ref r0), (1, .ref r1)]) rfl rfl rfl (Nat.le_of_ble_eq_true rfl) rfl ⟨by omega, by omega⟩ (fun _ => rfl) (fun x228 ex228 => ?_)
            show V 140 [(2, .int x228), (4, .ref rr209), (3, .ref rr207), (0, .ref r0), (1, .ref r1)] _ _ _ _
            refine k_goto C (pc2 := 83) rfl rfl ?_
            refine k_sub S [(0, .ref r0), (1, .ref r1), (2, .int x228)] (List.forall_mem_cons.mpr ⟨List.mem_of_getElem? (i := 3) rfl, List.forall_mem_cons.mpr ⟨List.mem_of_getElem? (i := 4) rfl, List.forall_mem_cons.mpr ⟨List.mem_of_getElem? (i := 0) rfl, fun _ h => nomatch h⟩⟩⟩) ?_
            exact ihJ100 _ (MN.lt hmnn101 (by omega) (by omega)) I215 L216 x228 x108 x110 x112 x114 x116 x118 rfl hI215 (Chg.cons S106 (Chg.mono (Chg.up S217 (sl_1 (W9rr207))) (by decide)) (by decide)) (by omega) e222 e223 e224 e225 e226 e227 (by exact CAL.at ff83_0 hsS (nWt hG tA)) (by exact FLL.at ff83_1 hsS (nFt hG tA)) (by exact TLL.s ff83_2 hU hG hG1 hg hp0 hFR oA oB hs0 hs1 hs2 hs3 (by assumption) (by assumption) (by assumption) (by assumption) hsS (by omega) (by omega) (by omega)) (by omega) (by omega) (by omega) (by omega) (by omega) (by omega)
        refine k_istore_n C (lw := [(2, .int x99), (0, .ref r0), (1, .ref r1)]) rfl rfl (Nat.le_of_ble_eq_true rfl) rfl ?_
        refine k_sub S [(0, .ref r0), (1, .ref r1), (2, .int x99)] (List.forall_mem_cons.mpr ⟨List.mem_of_getElem? (i := 1) rfl, List.forall_mem_cons.mpr ⟨List.mem_of_getElem? (i := 2) rfl, List.forall_mem_cons.mpr ⟨List.mem_of_getElem? (i := 0) rfl, fun _ h => nomatch h⟩⟩⟩) ?_
        exact J100 _ I62 L63 x99 x68 x70 x72 x74 x76 x78 rfl hI67 Chg.rf (by omega) e69 e71 e73 e75 e77 e79 (by exact ff39_0) (by exact fun j hj h9 => ff39_1 j (by omega) h9) (by exact TLL.z (by omega)) (by omega) (by omega) (by omega) (by omega) (by omega) (by omega)
      refine k_aload_n C rfl rfl rfl ?_
      refine k_iload_n C rfl rfl rfl ?_
      have hFR := (((Chg.cons (Chg.up S2 (sl_1 (Or.inl (Or.inl rfl)))) (Chg.cons (Chg.up S11 (sl_1 (Or.inl (Or.inl rfl)))) (Chg.cons (Chg.up S21 (sl_1 (Or.inl (Or.inl rfl)))) (Chg.cons (Chg.up S32 (sl_1 (Or.inl (Or.inl rfl)))) (Chg.cons (Chg.up S46 (fun _ h => Or.inl h)) (Chg.mono S66 (by decide)) (by decide)) (by decide)) (by decide)) (by decide)) (by decide)) : Chg (OWN R r0) T [(3, 0), (8, 2), (9, 0), (9, 1), (9, 2), (9, 3), (9, 4), (9, 5), (10, 0), (10, 1), (10, 2), (10, 3)] I L I62 L63)); have hA9 := fun h => ncn (n := 16) (j := x64) (by omega) h
      refine c_VR C (s_X8_formAt_x hS hI67 H_r0) rfl rfl rfl rfl rfl ⟨_, rfl, rfl, T_r0, Nat.le_of_ble_eq_true rfl⟩ rfl rfl (Nat.le_of_ble_eq_true rfl) (Nat.le_of_ble_eq_true rfl) (Nat.le_of_ble_eq_true rfl) ?_
      rintro yy229 _ _ ⟨hyy229, p0yy229, rfl, rfl⟩
      try simp only [z_r0_6, z_r0_7, z_r0_8, z_r0_9, z_r0_10, z_r1_6, z_r1_7, z_r1_8, z_r1_9, z_r1_10] at p0yy229
      try simp only [e88, e89, e90, e91, e69, e71, e73, e75, e77, e79] at p0yy229
      try have q0yy229 := congrArg Int32.toInt p0yy229
      have hfA := p0yy229
      refine k_astore_nV C (x := yy229) (lw := [(3, va_rf yy229), (0, .ref r0), (1, .ref r1), (2, .int x64)]) rfl rfl (Nat.le_of_ble_eq_true rfl) rfl ?_
      refine k_aload_n C rfl rfl rfl ?_
      refine k_iload_n C rfl rfl rfl ?_
      refine c_VR C (s_X8_formAt_x hS hI67 H_r1) rfl rfl rfl rfl rfl ⟨_, rfl, rfl, T_r1, Nat.le_of_ble_eq_true rfl⟩ rfl rfl (Nat.le_of_ble_eq_true rfl) (Nat.le_of_ble_eq_true rfl) (Nat.le_of_ble_eq_true rfl) ?_
      rintro yy230 _ _ ⟨hyy230, p0yy230, rfl, rfl⟩
      try simp only [z_r0_6, z_r0_7, z_r0_8, z_r0_9, z_r0_10, z_r1_6, z_r1_7, z_r1_8, z_r1_9, z_r1_10] at p0yy230
      try simp only [e88, e89, e90, e91, e69, e71, e73, e75, e77, e79] at p0yy230
      try have q0yy230 := congrArg Int32.toInt p0yy230
      have hfB := p0yy230
      refine k_astoreV C (x := yy230) (lw := [(4, va_rf yy230), (3, va_rf yy229), (0, .ref r0), (1, .ref r1), (2, .int x64)]) rfl rfl (Nat.le_of_ble_eq_true rfl) (by cases yy229 <;> rfl) ?_
      refine k_aload_nV C (x := yy229) rfl rfl rfl ?_
      refine k_ifnull C (x := yy229) (t := 75) rfl rfl rfl (fun c231 => ?_) (fun rr232 c231 => ?_)
      · skip
        subst c231
        exfalso; have q9 := FAD.no hfA E_r0_8; omega
      subst c231
      have H_rr232 := hyy229 rr232 rfl
      have oA := FA_e z_r0_8 (FAD.q hfA).2.2.2; have h16 := hA9 (by omega); have W9rr232 := OWN.f oA h16; have W9rr232_1 := OWN.fb oA h16; have fA := FO.of H_rr232
      refine k_aloadV C (x := yy230) rfl rfl rfl ?_
      refine k_ifnull C (x := yy230) (t := 75) rfl rfl rfl (fun c233 => ?_) (fun rr234 c233 => ?_)
      · skip
        subst c233
        exfalso; have q9 := FAD.no hfB E_r1_8; omega
      subst c233
      have H_rr234 := hyy230 rr234 rfl
      have oB := FA_e z_r1_8 (FAD.q hfB).2.2.2; have fB := FO.of H_rr234
      refine k_aload_n C rfl rfl rfl ?_
      refine k_aload C rfl rfl rfl ?_
      obtain ⟨T_rr232, A_rr232, ⟨rr232_1, R_rr232_1, H_rr232_1⟩⟩ := id H_rr232
      have z_rr232_1 : rA R rr232 1 = rr232_1 := rA_e R_rr232_1
      obtain ⟨T_rr234, A_rr234, ⟨rr234_1, R_rr234_1, H_rr234_1⟩⟩ := id H_rr234
      have z_rr234_1 : rA R rr234 1 = rr234_1 := rA_e R_rr234_1
      refine c_VV C (s_X2_copyFrom_x hS hI67 H_rr232 H_rr234 (ffne hU hG hG1 hp0 oA oB h16) (obneq hU fA fB (ffne hU hG hG1 hp0 oA oB h16))) rfl rfl rfl rfl rfl ⟨_, rfl, rfl, T_rr232, Nat.le_of_ble_eq_true rfl⟩ rfl rfl (Nat.le_of_ble_eq_true rfl) (Nat.le_of_ble_eq_true rfl) (Nat.le_of_ble_eq_true rfl) ?_
      rintro I236 L237 ⟨p0v235, hI236, S238⟩
      try simp only [z_r0_6, z_r0_7, z_r0_8, z_r0_9, z_r0_10, z_r1_6, z_r1_7, z_r1_8, z_r1_9, z_r1_10, z_rr232_1, z_rr234_1] at S238
      have e239 := Chg.k S238 T_r1 (by decide) (by decide) e88
      have e240 := Chg.k S238 T_r1 (by decide) (by decide) e89
      have e241 := Chg.k S238 T_r1 (by decide) (by decide) e90
      have e242 := Chg.k S238 T_r1 (by decide) (by decide) e91
      have e243 := Chg.k S238 T_r0 (by decide) (by decide) e69
      have e244 := Chg.k S238 T_r0 (by decide) (by decide) e71
      have e245 := Chg.k S238 T_r0 (by decide) (by decide) e73
      have e246 := Chg.k S238 T_r0 (by decide) (by decide) e75
      have e247 := Chg.k S238 T_r0 (by decide) (by decide) e77
      have e248 := Chg.k S238 T_r0 (by decide) (by decide) e79
      obtain ⟨x249, e250⟩ : ∃ x, I236 rr232 0 = x := ⟨_, rfl⟩
      have gx249 := rg x249
      have ox249 := IX.deg hI236 A_rr232 T_rr232 e250
      try simp only [z_r0_6, z_r0_7, z_r0_8, z_r0_9, z_r0_10, z_r1_6, z_r1_7, z_r1_8, z_r1_9, z_r1_10, z_rr232_1, z_rr234_1] at p0v235
      try simp only [e88, e89, e90, e91, e69, e71, e73, e75, e77, e79, e250] at p0v235
      try have q0v235 := congrArg Int32.toInt p0v235
      have hcp := p0v235; have hcS := S238
      refine z_iinc C (z := 1) (lw := fun x251 => [(2, .int x251), (4, .ref rr234), (3, .ref rr232), (0, .ref r0), (1, .ref r1)]) rfl rfl rfl (Nat.le_of_ble_eq_true rfl) rfl ⟨by omega, by omega⟩ (fun _ => rfl) (fun x251 ex251 => ?_)
      show V 78 [(2, .int x251), (4, .ref rr234), (3, .ref rr232), (0, .ref r0), (1, .ref r1)] _ _ _ _
      refine k_goto C (pc2 := 39) rfl rfl ?_
      refine k_sub S [(0, .ref r0), (1, .ref r1), (2, .int x251)] (List.forall_mem_cons.mpr ⟨List.mem_of_getElem? (i := 3) rfl, List.forall_mem_cons.mpr ⟨List.mem_of_getElem? (i := 4) rfl, List.forall_mem_cons.mpr ⟨List.mem_of_getElem? (i := 0) rfl, fun _ h => nomatch h⟩⟩⟩) ?_
      exact ihJ60 _ (MN.lt hmnn61 (by omega) (by omega)) I236 L237 x251 x68 x70 x72 x74 x76 x78 rfl hI236 (Chg.cons S66 (Chg.mono (Chg.up S238 (sl_2 (W9rr232) ((z_rr232_1 ▸ W9rr232_1)))) (by decide)) (by decide)) (by omega) e243 e244 e245 e246 e247 e248 (by exact CAL.at ff39_0 hcS (nWf hU hG oA h16 (by assumption))) (by exact FLL.s ff39_1 hU hG hG1 hg hp0 hFR oA oB (by assumption) hcp hcS (by omega) (by omega) (by omega)) (by omega) (by omega) (by omega) (by omega) (by omega) (by omega)
  refine k_istore_n C (lw := [(2, .int x59), (0, .ref r0), (1, .ref r1)]) rfl rfl (Nat.le_of_ble_eq_true rfl) rfl ?_
  refine k_sub S [(0, .ref r0), (1, .ref r1), (2, .int x59)] (List.forall_mem_cons.mpr ⟨List.mem_of_getElem? (i := 1) rfl, List.forall_mem_cons.mpr ⟨List.mem_of_getElem? (i := 2) rfl, List.forall_mem_cons.mpr ⟨List.mem_of_getElem? (i := 0) rfl, fun _ h => nomatch h⟩⟩⟩) ?_
  exact J60 _ I44 L45 x59 w_r1_0 w_r1_1 w_r1_2 w_r1_3 x55 x57 rfl hI44 Chg.rf (by omega) e51 e52 e53 e54 e56 e58 (by exact fun j h8 h9 => (hca j h8 h9).tr ((AEQ.put hG1 T_r0 hq3 h9).tr ((AEQ.put hG1 T_r0 hq2 h9).tr ((AEQ.put hG1 T_r0 hq1 h9).tr (AEQ.put hG1 T_r0 hq0 h9))))) (by exact FLL.z (by omega)) (by omega) (by omega) (by omega) (by omega) (by omega) (by omega)

theorem s_X11_image_p {d : Nat} {T N : Nat → Nat} {I : IT} {L : LT} {R : RT} {A B : Nat → Prop} {r0 : Nat} (hS : SUB B A) (hI : IX A T I) (H_r0 : (hs_LF T N R A B) r0) (hU : UPR T R) (hp0 : (rA R r0 2) ≠ (rA R r0 1)) (hp1 : (I (rA R r0 1) 1).toInt ≤ 16) (hp2 : (I (rA R r0 1) 2).toInt ≤ 8) (hp3 : (I (rA R r0 1) 3).toInt ≤ 8) (hp4 : ∀ j : Nat, j < 8 → (j : Int) < (I (rA R r0 1) 3).toInt → 0 ≤ (I (SA R (rA R r0 1) j) 2).toInt ∧ (I (SA R (rA R r0 1) j) 2).toInt ≤ 160) : Ex (d + 5) 174 [.ref r0] (T, N, I, L, R) 0 0 (pV T N R (fun I9 L9 => ((I9 r0 3).toInt = 1) ∧ ((I9 (rA R r0 2) 0).toInt = (I (rA R r0 1) 0).toInt) ∧ ((I9 (rA R r0 2) 1).toInt = (I (rA R r0 1) 1).toInt) ∧ ((I9 (rA R r0 2) 2).toInt = (I (rA R r0 1) 2).toInt) ∧ ((I9 (rA R r0 2) 3).toInt = (I (rA R r0 1) 3).toInt) ∧ ((I9 (rA R r0 2) 4).toInt = (I (rA R r0 1) 4).toInt) ∧ ((I9 (rA R r0 2) 5).toInt = (I (rA R r0 1) 5).toInt) ∧ (CAL R I9 I (rA R r0 2) (rA R r0 1) 40) ∧ (FLL R I9 I (rA R r0 2) (rA R r0 1) (I (rA R r0 1) 1).toInt) ∧ (TLL R I9 I (rA R r0 2) (rA R r0 1) (I (rA R r0 1) 2).toInt) ∧ (SLL R I9 I (rA R r0 2) (rA R r0 1) (I (rA R r0 1) 3).toInt) ∧ (IX A T I9 ∧ Chg (fun a => OWN R (rA R r0 2) a ∨ a = r0) T [(3, 0), (8, 2), (9, 0), (9, 1), (9, 2), (9, 3), (9, 4), (9, 5), (10, 0), (10, 1), (10, 2), (10, 3), (12, 3)] I L I9 L9))) := by
  refine ⟨_, rfl, Nat.le_of_ble_eq_true rfl, fun V C S => ?_⟩
  show V 0 [(0, .ref r0)] [] (T, N, I, L, R) 0 0
  obtain ⟨T_r0, A_r0, B_r0, ⟨r0_0, R_r0_0, H_r0_0⟩, ⟨r0_1, R_r0_1, H_r0_1⟩, ⟨r0_2, R_r0_2, H_r0_2⟩, ⟨r0_5, R_r0_5, H_r0_5⟩, ⟨r0_6, R_r0_6, H_r0_6⟩, ⟨r0_7, R_r0_7, H_r0_7⟩, ⟨r0_8, R_r0_8, H_r0_8⟩, ⟨r0_9, R_r0_9, H_r0_9⟩, ⟨r0_10, R_r0_10, H_r0_10⟩, ⟨r0_11, R_r0_11, H_r0_11⟩, ⟨r0_12, R_r0_12, H_r0_12⟩, ⟨r0_13, R_r0_13, H_r0_13⟩⟩ := id H_r0
  have z_r0_0 : rA R r0 0 = r0_0 := rA_e R_r0_0
  have z_r0_1 : rA R r0 1 = r0_1 := rA_e R_r0_1
  have z_r0_2 : rA R r0 2 = r0_2 := rA_e R_r0_2
  have z_r0_5 : rA R r0 5 = r0_5 := rA_e R_r0_5
  have z_r0_6 : rA R r0 6 = r0_6 := rA_e R_r0_6
  have z_r0_7 : rA R r0 7 = r0_7 := rA_e R_r0_7
  have z_r0_8 : rA R r0 8 = r0_8 := rA_e R_r0_8
  have z_r0_9 : rA R r0 9 = r0_9 := rA_e R_r0_9
  have z_r0_10 : rA R r0 10 = r0_10 := rA_e R_r0_10
  have z_r0_11 : rA R r0 11 = r0_11 := rA_e R_r0_11
  have z_r0_12 : rA R r0 12 = r0_12 := rA_e R_r0_12
  have z_r0_13 : rA R r0 13 = r0_13 := rA_e R_r0_13
  obtain ⟨T_r0_1, A_r0_1, B_r0_1, ⟨r0_1_6, R_r0_1_6, H_r0_1_6⟩, ⟨r0_1_7, R_r0_1_7, H_r0_1_7⟩, ⟨r0_1_8, R_r0_1_8, H_r0_1_8⟩, ⟨r0_1_9, R_r0_1_9, H_r0_1_9⟩, ⟨r0_1_10, R_r0_1_10, H_r0_1_10⟩⟩ := id H_r0_1
  have z_r0_1_6 : rA R r0_1 6 = r0_1_6 := rA_e R_r0_1_6
  have z_r0_1_7 : rA R r0_1 7 = r0_1_7 := rA_e R_r0_1_7
  have z_r0_1_8 : rA R r0_1 8 = r0_1_8 := rA_e R_r0_1_8
  have z_r0_1_9 : rA R r0_1 9 = r0_1_9 := rA_e R_r0_1_9
  have z_r0_1_10 : rA R r0_1 10 = r0_1_10 := rA_e R_r0_1_10
  obtain ⟨T_r0_2, A_r0_2, B_r0_2, ⟨r0_2_6, R_r0_2_6, H_r0_2_6⟩, ⟨r0_2_7, R_r0_2_7, H_r0_2_7⟩, ⟨r0_2_8, R_r0_2_8, H_r0_2_8⟩, ⟨r0_2_9, R_r0_2_9, H_r0_2_9⟩, ⟨r0_2_10, R_r0_2_10, H_r0_2_10⟩⟩ := id H_r0_2
  have z_r0_2_6 : rA R r0_2 6 = r0_2_6 := rA_e R_r0_2_6
  have z_r0_2_7 : rA R r0_2 7 = r0_2_7 := rA_e R_r0_2_7
  have z_r0_2_8 : rA R r0_2 8 = r0_2_8 := rA_e R_r0_2_8
  have z_r0_2_9 : rA R r0_2 9 = r0_2_9 := rA_e R_r0_2_9
  have z_r0_2_10 : rA R r0_2 10 = r0_2_10 := rA_e R_r0_2_10
  have hG := GS.of H_r0_2
  have hg := GG.of H_r0_2
  try simp only [z_r0_0, z_r0_1, z_r0_2, z_r0_5, z_r0_6, z_r0_7, z_r0_8, z_r0_9, z_r0_10, z_r0_11, z_r0_12, z_r0_13, z_r0_1_6, z_r0_1_7, z_r0_1_8, z_r0_1_9, z_r0_1_10, z_r0_2_6, z_r0_2_7, z_r0_2_8, z_r0_2_9, z_r0_2_10] at hp0
  try simp only [z_r0_0, z_r0_1, z_r0_2, z_r0_5, z_r0_6, z_r0_7, z_r0_8, z_r0_9, z_r0_10, z_r0_11, z_r0_12, z_r0_13, z_r0_1_6, z_r0_1_7, z_r0_1_8, z_r0_1_9, z_r0_1_10, z_r0_2_6, z_r0_2_7, z_r0_2_8, z_r0_2_9, z_r0_2_10] at hp1
  try simp only [z_r0_0, z_r0_1, z_r0_2, z_r0_5, z_r0_6, z_r0_7, z_r0_8, z_r0_9, z_r0_10, z_r0_11, z_r0_12, z_r0_13, z_r0_1_6, z_r0_1_7, z_r0_1_8, z_r0_1_9, z_r0_1_10, z_r0_2_6, z_r0_2_7, z_r0_2_8, z_r0_2_9, z_r0_2_10] at hp2
  try simp only [z_r0_0, z_r0_1, z_r0_2, z_r0_5, z_r0_6, z_r0_7, z_r0_8, z_r0_9, z_r0_10, z_r0_11, z_r0_12, z_r0_13, z_r0_1_6, z_r0_1_7, z_r0_1_8, z_r0_1_9, z_r0_1_10, z_r0_2_6, z_r0_2_7, z_r0_2_8, z_r0_2_9, z_r0_2_10] at hp3
  try simp only [z_r0_0, z_r0_1, z_r0_2, z_r0_5, z_r0_6, z_r0_7, z_r0_8, z_r0_9, z_r0_10, z_r0_11, z_r0_12, z_r0_13, z_r0_1_6, z_r0_1_7, z_r0_1_8, z_r0_1_9, z_r0_1_10, z_r0_2_6, z_r0_2_7, z_r0_2_8, z_r0_2_9, z_r0_2_10] at hp4
  obtain ⟨w_r0_1_0, k0_r0_1_0⟩ : ∃ x, I r0_1 0 = x := ⟨_, rfl⟩
  have gw_r0_1_0 := rg w_r0_1_0
  have ow_r0_1_0 := IX.p hI A_r0_1 T_r0_1 k0_r0_1_0
  obtain ⟨w_r0_1_1, k0_r0_1_1⟩ : ∃ x, I r0_1 1 = x := ⟨_, rfl⟩
  have gw_r0_1_1 := rg w_r0_1_1
  obtain ⟨w_r0_1_2, k0_r0_1_2⟩ : ∃ x, I r0_1 2 = x := ⟨_, rfl⟩
  have gw_r0_1_2 := rg w_r0_1_2
  obtain ⟨w_r0_1_3, k0_r0_1_3⟩ : ∃ x, I r0_1 3 = x := ⟨_, rfl⟩
  have gw_r0_1_3 := rg w_r0_1_3
  obtain ⟨w_r0_1_4, k0_r0_1_4⟩ : ∃ x, I r0_1 4 = x := ⟨_, rfl⟩
  have gw_r0_1_4 := rg w_r0_1_4
  obtain ⟨w_r0_1_5, k0_r0_1_5⟩ : ∃ x, I r0_1 5 = x := ⟨_, rfl⟩
  have gw_r0_1_5 := rg w_r0_1_5
  try simp only [k0_r0_1_0, k0_r0_1_1, k0_r0_1_2, k0_r0_1_3, k0_r0_1_4, k0_r0_1_5] at hp0
  try simp only [k0_r0_1_0, k0_r0_1_1, k0_r0_1_2, k0_r0_1_3, k0_r0_1_4, k0_r0_1_5] at hp1
  try simp only [k0_r0_1_0, k0_r0_1_1, k0_r0_1_2, k0_r0_1_3, k0_r0_1_4, k0_r0_1_5] at hp2
  try simp only [k0_r0_1_0, k0_r0_1_1, k0_r0_1_2, k0_r0_1_3, k0_r0_1_4, k0_r0_1_5] at hp3
  try simp only [k0_r0_1_0, k0_r0_1_1, k0_r0_1_2, k0_r0_1_3, k0_r0_1_4, k0_r0_1_5] at hp4
  refine k_aload_n C rfl rfl rfl ?_
  refine g_R C rfl rfl rfl T_r0 rfl R_r0_2 ?_
  refine k_aload_n C rfl rfl rfl ?_
  refine g_R C rfl rfl rfl T_r0 rfl R_r0_1 ?_
  refine c_VV C (s_X8_copyFrom_p hS hI H_r0_2 H_r0_1 hU hp0 (by rw [k0_r0_1_1]; omega) (by rw [k0_r0_1_2]; omega) (by rw [k0_r0_1_3]; omega) (by (try simp only [z_r0_0, z_r0_1, z_r0_2, z_r0_5, z_r0_6, z_r0_7, z_r0_8, z_r0_9, z_r0_10, z_r0_11, z_r0_12, z_r0_13, z_r0_1_6, z_r0_1_7, z_r0_1_8, z_r0_1_9, z_r0_1_10, z_r0_2_6, z_r0_2_7, z_r0_2_8, z_r0_2_9, z_r0_2_10] at hp4); first | exact hp4 | (simp only [k0_r0_1_3]; exact hp4))) rfl rfl rfl rfl rfl ⟨_, rfl, rfl, T_r0_2, Nat.le_of_ble_eq_true rfl⟩ rfl rfl (Nat.le_of_ble_eq_true rfl) (Nat.le_of_ble_eq_true rfl) (Nat.le_of_ble_eq_true rfl) ?_
  rintro I2 L3 ⟨p0v1, p1v1, p2v1, p3v1, p4v1, p5v1, p6v1, p7v1, p8v1, p9v1, hI2, S4⟩
  try simp only [z_r0_0, z_r0_1, z_r0_2, z_r0_5, z_r0_6, z_r0_7, z_r0_8, z_r0_9, z_r0_10, z_r0_11, z_r0_12, z_r0_13, z_r0_1_6, z_r0_1_7, z_r0_1_8, z_r0_1_9, z_r0_1_10, z_r0_2_6, z_r0_2_7, z_r0_2_8, z_r0_2_9, z_r0_2_10] at S4
  obtain ⟨x5, e6⟩ : ∃ x, I2 r0_2 0 = x := ⟨_, rfl⟩
  have gx5 := rg x5
  have ox5 := IX.p hI2 A_r0_2 T_r0_2 e6
  obtain ⟨x7, e8⟩ : ∃ x, I2 r0_2 1 = x := ⟨_, rfl⟩
  have gx7 := rg x7
  obtain ⟨x9, e10⟩ : ∃ x, I2 r0_2 2 = x := ⟨_, rfl⟩
  have gx9 := rg x9
  obtain ⟨x11, e12⟩ : ∃ x, I2 r0_2 3 = x := ⟨_, rfl⟩
  have gx11 := rg x11
  obtain ⟨x13, e14⟩ : ∃ x, I2 r0_2 4 = x := ⟨_, rfl⟩
  have gx13 := rg x13
  obtain ⟨x15, e16⟩ : ∃ x, I2 r0_2 5 = x := ⟨_, rfl⟩
  have gx15 := rg x15
  try simp only [z_r0_0, z_r0_1, z_r0_2, z_r0_5, z_r0_6, z_r0_7, z_r0_8, z_r0_9, z_r0_10, z_r0_11, z_r0_12, z_r0_13, z_r0_1_6, z_r0_1_7, z_r0_1_8, z_r0_1_9, z_r0_1_10, z_r0_2_6, z_r0_2_7, z_r0_2_8, z_r0_2_9, z_r0_2_10] at p0v1
  try simp only [z_r0_0, z_r0_1, z_r0_2, z_r0_5, z_r0_6, z_r0_7, z_r0_8, z_r0_9, z_r0_10, z_r0_11, z_r0_12, z_r0_13, z_r0_1_6, z_r0_1_7, z_r0_1_8, z_r0_1_9, z_r0_1_10, z_r0_2_6, z_r0_2_7, z_r0_2_8, z_r0_2_9, z_r0_2_10] at p1v1
  try simp only [z_r0_0, z_r0_1, z_r0_2, z_r0_5, z_r0_6, z_r0_7, z_r0_8, z_r0_9, z_r0_10, z_r0_11, z_r0_12, z_r0_13, z_r0_1_6, z_r0_1_7, z_r0_1_8, z_r0_1_9, z_r0_1_10, z_r0_2_6, z_r0_2_7, z_r0_2_8, z_r0_2_9, z_r0_2_10] at p2v1
  try simp only [z_r0_0, z_r0_1, z_r0_2, z_r0_5, z_r0_6, z_r0_7, z_r0_8, z_r0_9, z_r0_10, z_r0_11, z_r0_12, z_r0_13, z_r0_1_6, z_r0_1_7, z_r0_1_8, z_r0_1_9, z_r0_1_10, z_r0_2_6, z_r0_2_7, z_r0_2_8, z_r0_2_9, z_r0_2_10] at p3v1
  try simp only [z_r0_0, z_r0_1, z_r0_2, z_r0_5, z_r0_6, z_r0_7, z_r0_8, z_r0_9, z_r0_10, z_r0_11, z_r0_12, z_r0_13, z_r0_1_6, z_r0_1_7, z_r0_1_8, z_r0_1_9, z_r0_1_10, z_r0_2_6, z_r0_2_7, z_r0_2_8, z_r0_2_9, z_r0_2_10] at p4v1
  try simp only [z_r0_0, z_r0_1, z_r0_2, z_r0_5, z_r0_6, z_r0_7, z_r0_8, z_r0_9, z_r0_10, z_r0_11, z_r0_12, z_r0_13, z_r0_1_6, z_r0_1_7, z_r0_1_8, z_r0_1_9, z_r0_1_10, z_r0_2_6, z_r0_2_7, z_r0_2_8, z_r0_2_9, z_r0_2_10] at p5v1
  try simp only [z_r0_0, z_r0_1, z_r0_2, z_r0_5, z_r0_6, z_r0_7, z_r0_8, z_r0_9, z_r0_10, z_r0_11, z_r0_12, z_r0_13, z_r0_1_6, z_r0_1_7, z_r0_1_8, z_r0_1_9, z_r0_1_10, z_r0_2_6, z_r0_2_7, z_r0_2_8, z_r0_2_9, z_r0_2_10] at p6v1
  try simp only [z_r0_0, z_r0_1, z_r0_2, z_r0_5, z_r0_6, z_r0_7, z_r0_8, z_r0_9, z_r0_10, z_r0_11, z_r0_12, z_r0_13, z_r0_1_6, z_r0_1_7, z_r0_1_8, z_r0_1_9, z_r0_1_10, z_r0_2_6, z_r0_2_7, z_r0_2_8, z_r0_2_9, z_r0_2_10] at p7v1
  try simp only [z_r0_0, z_r0_1, z_r0_2, z_r0_5, z_r0_6, z_r0_7, z_r0_8, z_r0_9, z_r0_10, z_r0_11, z_r0_12, z_r0_13, z_r0_1_6, z_r0_1_7, z_r0_1_8, z_r0_1_9, z_r0_1_10, z_r0_2_6, z_r0_2_7, z_r0_2_8, z_r0_2_9, z_r0_2_10] at p8v1
  try simp only [z_r0_0, z_r0_1, z_r0_2, z_r0_5, z_r0_6, z_r0_7, z_r0_8, z_r0_9, z_r0_10, z_r0_11, z_r0_12, z_r0_13, z_r0_1_6, z_r0_1_7, z_r0_1_8, z_r0_1_9, z_r0_1_10, z_r0_2_6, z_r0_2_7, z_r0_2_8, z_r0_2_9, z_r0_2_10] at p9v1
  try simp only [k0_r0_1_0, k0_r0_1_1, k0_r0_1_2, k0_r0_1_3, k0_r0_1_4, k0_r0_1_5, e6, e8, e10, e12, e14, e16] at p0v1
  try have q0v1 := congrArg Int32.toInt p0v1
  try simp only [k0_r0_1_0, k0_r0_1_1, k0_r0_1_2, k0_r0_1_3, k0_r0_1_4, k0_r0_1_5, e6, e8, e10, e12, e14, e16] at p1v1
  try have q1v1 := congrArg Int32.toInt p1v1
  try simp only [k0_r0_1_0, k0_r0_1_1, k0_r0_1_2, k0_r0_1_3, k0_r0_1_4, k0_r0_1_5, e6, e8, e10, e12, e14, e16] at p2v1
  try have q2v1 := congrArg Int32.toInt p2v1
  try simp only [k0_r0_1_0, k0_r0_1_1, k0_r0_1_2, k0_r0_1_3, k0_r0_1_4, k0_r0_1_5, e6, e8, e10, e12, e14, e16] at p3v1
  try have q3v1 := congrArg Int32.toInt p3v1
  try simp only [k0_r0_1_0, k0_r0_1_1, k0_r0_1_2, k0_r0_1_3, k0_r0_1_4, k0_r0_1_5, e6, e8, e10, e12, e14, e16] at p4v1
  try have q4v1 := congrArg Int32.toInt p4v1
  try simp only [k0_r0_1_0, k0_r0_1_1, k0_r0_1_2, k0_r0_1_3, k0_r0_1_4, k0_r0_1_5, e6, e8, e10, e12, e14, e16] at p5v1
  try have q5v1 := congrArg Int32.toInt p5v1
  try simp only [k0_r0_1_0, k0_r0_1_1, k0_r0_1_2, k0_r0_1_3, k0_r0_1_4, k0_r0_1_5, e6, e8, e10, e12, e14, e16] at p6v1
  try have q6v1 := congrArg Int32.toInt p6v1
  try simp only [k0_r0_1_0, k0_r0_1_1, k0_r0_1_2, k0_r0_1_3, k0_r0_1_4, k0_r0_1_5, e6, e8, e10, e12, e14, e16] at p7v1
  try have q7v1 := congrArg Int32.toInt p7v1
  try simp only [k0_r0_1_0, k0_r0_1_1, k0_r0_1_2, k0_r0_1_3, k0_r0_1_4, k0_r0_1_5, e6, e8, e10, e12, e14, e16] at p8v1
  try have q8v1 := congrArg Int32.toInt p8v1
  try simp only [k0_r0_1_0, k0_r0_1_1, k0_r0_1_2, k0_r0_1_3, k0_r0_1_4, k0_r0_1_5, e6, e8, e10, e12, e14, e16] at p9v1
  try have q9v1 := congrArg Int32.toInt p9v1
  have hca := p6v1; have hfl := p7v1; have htl := p8v1; have hsl := p9v1
  refine k_aload_n C rfl rfl rfl ?_
  refine z_iconst C (z := 1) rfl rfl rfl (fun x17 ex17 => ?_)
  refine z_pZ C rfl rfl rfl T_r0 (Or.inr rfl) rfl (z01 (by omega) (by omega)) (fun I18 uI18 => ?_)
  have hI18 : IX A T I18 := IX.f hI2 T_r0 (boX.tr (by decide) (by decide)) uI18
  have S19 : Chg (SL [r0]) T [(12, 3)] I2 L3 I18 L3 := Chg.f List.mem_cons_self T_r0 uI18
  have e20 := u2_j uI18 (by decide) e6
  have e21 := u2_j uI18 (by decide) e8
  have e22 := u2_j uI18 (by decide) e10
  have e23 := u2_n uI18 (t_nq T_r0_2 T_r0 (by decide)) e12
  have e24 := u2_j uI18 (by decide) e14
  have e25 := u2_j uI18 (by decide) e16
  have e26 := u2_e uI18
  have hput := uI18
  exact k_vret C rfl rfl (Nat.le_of_ble_eq_true rfl) (Nat.le_of_ble_eq_true rfl) ⟨_, _, rfl, rfl, by first | omega | (simp only [e20, e21, e22, e23, e24, e25, e26, k0_r0_1_0, k0_r0_1_1, k0_r0_1_2, k0_r0_1_3, k0_r0_1_4, k0_r0_1_5, and_true, true_and, or_true, true_or, and_false, false_and, or_false, false_or] <;> omega), by (try simp only [z_r0_0, z_r0_1, z_r0_2, z_r0_5, z_r0_6, z_r0_7, z_r0_8, z_r0_9, z_r0_10, z_r0_11, z_r0_12, z_r0_13, z_r0_1_6, z_r0_1_7, z_r0_1_8, z_r0_1_9, z_r0_1_10, z_r0_2_6, z_r0_2_7, z_r0_2_8, z_r0_2_9, z_r0_2_10]); rw [e20]; simp only [k0_r0_1_0]; omega, by (try simp only [z_r0_0, z_r0_1, z_r0_2, z_r0_5, z_r0_6, z_r0_7, z_r0_8, z_r0_9, z_r0_10, z_r0_11, z_r0_12, z_r0_13, z_r0_1_6, z_r0_1_7, z_r0_1_8, z_r0_1_9, z_r0_1_10, z_r0_2_6, z_r0_2_7, z_r0_2_8, z_r0_2_9, z_r0_2_10]); rw [e21]; simp only [k0_r0_1_1]; omega, by (try simp only [z_r0_0, z_r0_1, z_r0_2, z_r0_5, z_r0_6, z_r0_7, z_r0_8, z_r0_9, z_r0_10, z_r0_11, z_r0_12, z_r0_13, z_r0_1_6, z_r0_1_7, z_r0_1_8, z_r0_1_9, z_r0_1_10, z_r0_2_6, z_r0_2_7, z_r0_2_8, z_r0_2_9, z_r0_2_10]); rw [e22]; simp only [k0_r0_1_2]; omega, by (try simp only [z_r0_0, z_r0_1, z_r0_2, z_r0_5, z_r0_6, z_r0_7, z_r0_8, z_r0_9, z_r0_10, z_r0_11, z_r0_12, z_r0_13, z_r0_1_6, z_r0_1_7, z_r0_1_8, z_r0_1_9, z_r0_1_10, z_r0_2_6, z_r0_2_7, z_r0_2_8, z_r0_2_9, z_r0_2_10]); rw [e23]; simp only [k0_r0_1_3]; omega, by (try simp only [z_r0_0, z_r0_1, z_r0_2, z_r0_5, z_r0_6, z_r0_7, z_r0_8, z_r0_9, z_r0_10, z_r0_11, z_r0_12, z_r0_13, z_r0_1_6, z_r0_1_7, z_r0_1_8, z_r0_1_9, z_r0_1_10, z_r0_2_6, z_r0_2_7, z_r0_2_8, z_r0_2_9, z_r0_2_10]); rw [e24]; simp only [k0_r0_1_4]; omega, by (try simp only [z_r0_0, z_r0_1, z_r0_2, z_r0_5, z_r0_6, z_r0_7, z_r0_8, z_r0_9, z_r0_10, z_r0_11, z_r0_12, z_r0_13, z_r0_1_6, z_r0_1_7, z_r0_1_8, z_r0_1_9, z_r0_1_10, z_r0_2_6, z_r0_2_7, z_r0_2_8, z_r0_2_9, z_r0_2_10]); rw [e25]; simp only [k0_r0_1_5]; omega, by (try simp only [z_r0_0, z_r0_1, z_r0_2, z_r0_5, z_r0_6, z_r0_7, z_r0_8, z_r0_9, z_r0_10, z_r0_11, z_r0_12, z_r0_13, z_r0_1_6, z_r0_1_7, z_r0_1_8, z_r0_1_9, z_r0_1_10, z_r0_2_6, z_r0_2_7, z_r0_2_8, z_r0_2_9, z_r0_2_10]); exact hca.sl S19 (nOl hG hg T_r0), by (try simp only [z_r0_0, z_r0_1, z_r0_2, z_r0_5, z_r0_6, z_r0_7, z_r0_8, z_r0_9, z_r0_10, z_r0_11, z_r0_12, z_r0_13, z_r0_1_6, z_r0_1_7, z_r0_1_8, z_r0_1_9, z_r0_1_10, z_r0_2_6, z_r0_2_7, z_r0_2_8, z_r0_2_9, z_r0_2_10]); simp only [k0_r0_1_1]; exact hfl.sl S19 (nOl hG hg T_r0), by (try simp only [z_r0_0, z_r0_1, z_r0_2, z_r0_5, z_r0_6, z_r0_7, z_r0_8, z_r0_9, z_r0_10, z_r0_11, z_r0_12, z_r0_13, z_r0_1_6, z_r0_1_7, z_r0_1_8, z_r0_1_9, z_r0_1_10, z_r0_2_6, z_r0_2_7, z_r0_2_8, z_r0_2_9, z_r0_2_10]); simp only [k0_r0_1_2]; exact htl.sl S19 (nOl hG hg T_r0), by (try simp only [z_r0_0, z_r0_1, z_r0_2, z_r0_5, z_r0_6, z_r0_7, z_r0_8, z_r0_9, z_r0_10, z_r0_11, z_r0_12, z_r0_13, z_r0_1_6, z_r0_1_7, z_r0_1_8, z_r0_1_9, z_r0_1_10, z_r0_2_6, z_r0_2_7, z_r0_2_8, z_r0_2_9, z_r0_2_10]); simp only [k0_r0_1_3]; exact hsl.at (fun a j hj ha => by rw [hput]; exact u2_r (fun e9 => by have ty := SG3.ty hg hj ha; rw [e9, T_r0] at ty; omega)), hI18, (by (try simp only [z_r0_0, z_r0_1, z_r0_2, z_r0_5, z_r0_6, z_r0_7, z_r0_8, z_r0_9, z_r0_10, z_r0_11, z_r0_12, z_r0_13, z_r0_1_6, z_r0_1_7, z_r0_1_8, z_r0_1_9, z_r0_1_10, z_r0_2_6, z_r0_2_7, z_r0_2_8, z_r0_2_9, z_r0_2_10]); exact (Chg.cons (Chg.up S4 (fun _ h => Or.inl h)) (Chg.mono (Chg.up S19 (sl_1 (Or.inr rfl))) (by decide)) (by decide)))⟩

theorem s_X11_back_p {d : Nat} {T N : Nat → Nat} {I : IT} {L : LT} {R : RT} {A B : Nat → Prop} {r0 : Nat} (hS : SUB B A) (hI : IX A T I) (H_r0 : (hs_LF T N R A B) r0) (hU : UPR T R) (hp0 : (rA R r0 1) ≠ (rA R r0 2)) (hp1 : (I r0 3).toInt ≠ 0 → (I (rA R r0 2) 1).toInt ≤ 16) (hp2 : (I r0 3).toInt ≠ 0 → (I (rA R r0 2) 2).toInt ≤ 8) (hp3 : (I r0 3).toInt ≠ 0 → (I (rA R r0 2) 3).toInt ≤ 8) (hp4 : (I r0 3).toInt ≠ 0 → (∀ j : Nat, j < 8 → (j : Int) < (I (rA R r0 2) 3).toInt → 0 ≤ (I (SA R (rA R r0 2) j) 2).toInt ∧ (I (SA R (rA R r0 2) j) 2).toInt ≤ 160)) : Ex (d + 5) 175 [.ref r0] (T, N, I, L, R) 0 0 (pI T N R (fun x9 I9 L9 => (0 ≤ x9.toInt) ∧ (x9.toInt ≤ 1) ∧ (BKX R I9 I (rA R r0 1) (rA R r0 2) x9.toInt (I r0 3).toInt) ∧ (x9.toInt ≠ 0 → SLL R I9 I (rA R r0 1) (rA R r0 2) (I (rA R r0 2) 3).toInt) ∧ (IX A T I9 ∧ Chg (OWN R (rA R r0 1)) T [(3, 0), (8, 2), (9, 0), (9, 1), (9, 2), (9, 3), (9, 4), (9, 5), (10, 0), (10, 1), (10, 2), (10, 3)] I L I9 L9))) := by
  refine ⟨_, rfl, Nat.le_of_ble_eq_true rfl, fun V C S => ?_⟩
  show V 0 [(0, .ref r0)] [] (T, N, I, L, R) 0 0
  obtain ⟨T_r0, A_r0, B_r0, ⟨r0_0, R_r0_0, H_r0_0⟩, ⟨r0_1, R_r0_1, H_r0_1⟩, ⟨r0_2, R_r0_2, H_r0_2⟩, ⟨r0_5, R_r0_5, H_r0_5⟩, ⟨r0_6, R_r0_6, H_r0_6⟩, ⟨r0_7, R_r0_7, H_r0_7⟩, ⟨r0_8, R_r0_8, H_r0_8⟩, ⟨r0_9, R_r0_9, H_r0_9⟩, ⟨r0_10, R_r0_10, H_r0_10⟩, ⟨r0_11, R_r0_11, H_r0_11⟩, ⟨r0_12, R_r0_12, H_r0_12⟩, ⟨r0_13, R_r0_13, H_r0_13⟩⟩ := id H_r0
  have z_r0_0 : rA R r0 0 = r0_0 := rA_e R_r0_0
  have z_r0_1 : rA R r0 1 = r0_1 := rA_e R_r0_1
  have z_r0_2 : rA R r0 2 = r0_2 := rA_e R_r0_2
  have z_r0_5 : rA R r0 5 = r0_5 := rA_e R_r0_5
  have z_r0_6 : rA R r0 6 = r0_6 := rA_e R_r0_6
  have z_r0_7 : rA R r0 7 = r0_7 := rA_e R_r0_7
  have z_r0_8 : rA R r0 8 = r0_8 := rA_e R_r0_8
  have z_r0_9 : rA R r0 9 = r0_9 := rA_e R_r0_9
  have z_r0_10 : rA R r0 10 = r0_10 := rA_e R_r0_10
  have z_r0_11 : rA R r0 11 = r0_11 := rA_e R_r0_11
  have z_r0_12 : rA R r0 12 = r0_12 := rA_e R_r0_12
  have z_r0_13 : rA R r0 13 = r0_13 := rA_e R_r0_13
  obtain ⟨T_r0_1, A_r0_1, B_r0_1, ⟨r0_1_6, R_r0_1_6, H_r0_1_6⟩, ⟨r0_1_7, R_r0_1_7, H_r0_1_7⟩, ⟨r0_1_8, R_r0_1_8, H_r0_1_8⟩, ⟨r0_1_9, R_r0_1_9, H_r0_1_9⟩, ⟨r0_1_10, R_r0_1_10, H_r0_1_10⟩⟩ := id H_r0_1
  have z_r0_1_6 : rA R r0_1 6 = r0_1_6 := rA_e R_r0_1_6
  have z_r0_1_7 : rA R r0_1 7 = r0_1_7 := rA_e R_r0_1_7
  have z_r0_1_8 : rA R r0_1 8 = r0_1_8 := rA_e R_r0_1_8
  have z_r0_1_9 : rA R r0_1 9 = r0_1_9 := rA_e R_r0_1_9
  have z_r0_1_10 : rA R r0_1 10 = r0_1_10 := rA_e R_r0_1_10
  obtain ⟨T_r0_2, A_r0_2, B_r0_2, ⟨r0_2_6, R_r0_2_6, H_r0_2_6⟩, ⟨r0_2_7, R_r0_2_7, H_r0_2_7⟩, ⟨r0_2_8, R_r0_2_8, H_r0_2_8⟩, ⟨r0_2_9, R_r0_2_9, H_r0_2_9⟩, ⟨r0_2_10, R_r0_2_10, H_r0_2_10⟩⟩ := id H_r0_2
  have z_r0_2_6 : rA R r0_2 6 = r0_2_6 := rA_e R_r0_2_6
  have z_r0_2_7 : rA R r0_2 7 = r0_2_7 := rA_e R_r0_2_7
  have z_r0_2_8 : rA R r0_2 8 = r0_2_8 := rA_e R_r0_2_8
  have z_r0_2_9 : rA R r0_2 9 = r0_2_9 := rA_e R_r0_2_9
  have z_r0_2_10 : rA R r0_2 10 = r0_2_10 := rA_e R_r0_2_10
  try simp only [z_r0_0, z_r0_1, z_r0_2, z_r0_5, z_r0_6, z_r0_7, z_r0_8, z_r0_9, z_r0_10, z_r0_11, z_r0_12, z_r0_13, z_r0_1_6, z_r0_1_7, z_r0_1_8, z_r0_1_9, z_r0_1_10, z_r0_2_6, z_r0_2_7, z_r0_2_8, z_r0_2_9, z_r0_2_10] at hp0
  try simp only [z_r0_0, z_r0_1, z_r0_2, z_r0_5, z_r0_6, z_r0_7, z_r0_8, z_r0_9, z_r0_10, z_r0_11, z_r0_12, z_r0_13, z_r0_1_6, z_r0_1_7, z_r0_1_8, z_r0_1_9, z_r0_1_10, z_r0_2_6, z_r0_2_7, z_r0_2_8, z_r0_2_9, z_r0_2_10] at hp1
  try simp only [z_r0_0, z_r0_1, z_r0_2, z_r0_5, z_r0_6, z_r0_7, z_r0_8, z_r0_9, z_r0_10, z_r0_11, z_r0_12, z_r0_13, z_r0_1_6, z_r0_1_7, z_r0_1_8, z_r0_1_9, z_r0_1_10, z_r0_2_6, z_r0_2_7, z_r0_2_8, z_r0_2_9, z_r0_2_10] at hp2
  try simp only [z_r0_0, z_r0_1, z_r0_2, z_r0_5, z_r0_6, z_r0_7, z_r0_8, z_r0_9, z_r0_10, z_r0_11, z_r0_12, z_r0_13, z_r0_1_6, z_r0_1_7, z_r0_1_8, z_r0_1_9, z_r0_1_10, z_r0_2_6, z_r0_2_7, z_r0_2_8, z_r0_2_9, z_r0_2_10] at hp3
  try simp only [z_r0_0, z_r0_1, z_r0_2, z_r0_5, z_r0_6, z_r0_7, z_r0_8, z_r0_9, z_r0_10, z_r0_11, z_r0_12, z_r0_13, z_r0_1_6, z_r0_1_7, z_r0_1_8, z_r0_1_9, z_r0_1_10, z_r0_2_6, z_r0_2_7, z_r0_2_8, z_r0_2_9, z_r0_2_10] at hp4
  obtain ⟨w_r0_2_0, k0_r0_2_0⟩ : ∃ x, I r0_2 0 = x := ⟨_, rfl⟩
  have gw_r0_2_0 := rg w_r0_2_0
  have ow_r0_2_0 := IX.p hI A_r0_2 T_r0_2 k0_r0_2_0
  obtain ⟨w_r0_2_1, k0_r0_2_1⟩ : ∃ x, I r0_2 1 = x := ⟨_, rfl⟩
  have gw_r0_2_1 := rg w_r0_2_1
  obtain ⟨w_r0_2_2, k0_r0_2_2⟩ : ∃ x, I r0_2 2 = x := ⟨_, rfl⟩
  have gw_r0_2_2 := rg w_r0_2_2
  obtain ⟨w_r0_2_3, k0_r0_2_3⟩ : ∃ x, I r0_2 3 = x := ⟨_, rfl⟩
  have gw_r0_2_3 := rg w_r0_2_3
  obtain ⟨w_r0_2_4, k0_r0_2_4⟩ : ∃ x, I r0_2 4 = x := ⟨_, rfl⟩
  have gw_r0_2_4 := rg w_r0_2_4
  obtain ⟨w_r0_2_5, k0_r0_2_5⟩ : ∃ x, I r0_2 5 = x := ⟨_, rfl⟩
  have gw_r0_2_5 := rg w_r0_2_5
  obtain ⟨w_r0_3, k0_r0_3⟩ : ∃ x, I r0 3 = x := ⟨_, rfl⟩
  have gw_r0_3 := rg w_r0_3
  try simp only [k0_r0_2_0, k0_r0_2_1, k0_r0_2_2, k0_r0_2_3, k0_r0_2_4, k0_r0_2_5, k0_r0_3] at hp0
  try simp only [k0_r0_2_0, k0_r0_2_1, k0_r0_2_2, k0_r0_2_3, k0_r0_2_4, k0_r0_2_5, k0_r0_3] at hp1
  try simp only [k0_r0_2_0, k0_r0_2_1, k0_r0_2_2, k0_r0_2_3, k0_r0_2_4, k0_r0_2_5, k0_r0_3] at hp2
  try simp only [k0_r0_2_0, k0_r0_2_1, k0_r0_2_2, k0_r0_2_3, k0_r0_2_4, k0_r0_2_5, k0_r0_3] at hp3
  try simp only [k0_r0_2_0, k0_r0_2_1, k0_r0_2_2, k0_r0_2_3, k0_r0_2_4, k0_r0_2_5, k0_r0_3] at hp4
  refine k_aload_n C rfl rfl rfl ?_
  refine g_I C rfl rfl rfl T_r0 rfl k0_r0_3 ?_
  refine b_if_ne C (t := 9) rfl rfl rfl (fun c1 => ?_) (fun c1 => ?_)
  · skip
    refine k_aload_n C rfl rfl rfl ?_
    refine g_R C rfl rfl rfl T_r0 rfl R_r0_1 ?_
    refine k_aload_n C rfl rfl rfl ?_
    refine g_R C rfl rfl rfl T_r0 rfl R_r0_2 ?_
    have hp1 := hp1 (by omega); have hp2 := hp2 (by omega); have hp3 := hp3 (by omega); have hp4 := hp4 (by omega)
    refine c_VV C (s_X8_copyFrom_p hS hI H_r0_1 H_r0_2 hU hp0 (by rw [k0_r0_2_1]; omega) (by rw [k0_r0_2_2]; omega) (by rw [k0_r0_2_3]; omega) (by (try simp only [z_r0_0, z_r0_1, z_r0_2, z_r0_5, z_r0_6, z_r0_7, z_r0_8, z_r0_9, z_r0_10, z_r0_11, z_r0_12, z_r0_13, z_r0_1_6, z_r0_1_7, z_r0_1_8, z_r0_1_9, z_r0_1_10, z_r0_2_6, z_r0_2_7, z_r0_2_8, z_r0_2_9, z_r0_2_10] at hp4); first | exact hp4 | (simp only [k0_r0_2_3]; exact hp4))) rfl rfl rfl rfl rfl ⟨_, rfl, rfl, T_r0_1, Nat.le_of_ble_eq_true rfl⟩ rfl rfl (Nat.le_of_ble_eq_true rfl) (Nat.le_of_ble_eq_true rfl) (Nat.le_of_ble_eq_true rfl) ?_
    rintro I3 L4 ⟨p0v2, p1v2, p2v2, p3v2, p4v2, p5v2, p6v2, p7v2, p8v2, p9v2, hI3, S5⟩
    try simp only [z_r0_0, z_r0_1, z_r0_2, z_r0_5, z_r0_6, z_r0_7, z_r0_8, z_r0_9, z_r0_10, z_r0_11, z_r0_12, z_r0_13, z_r0_1_6, z_r0_1_7, z_r0_1_8, z_r0_1_9, z_r0_1_10, z_r0_2_6, z_r0_2_7, z_r0_2_8, z_r0_2_9, z_r0_2_10] at S5
    have e6 := Chg.k S5 T_r0 (by decide) (by decide) k0_r0_3
    obtain ⟨x7, e8⟩ : ∃ x, I3 r0_1 0 = x := ⟨_, rfl⟩
    have gx7 := rg x7
    have ox7 := IX.p hI3 A_r0_1 T_r0_1 e8
    obtain ⟨x9, e10⟩ : ∃ x, I3 r0_1 1 = x := ⟨_, rfl⟩
    have gx9 := rg x9
    obtain ⟨x11, e12⟩ : ∃ x, I3 r0_1 2 = x := ⟨_, rfl⟩
    have gx11 := rg x11
    obtain ⟨x13, e14⟩ : ∃ x, I3 r0_1 3 = x := ⟨_, rfl⟩
    have gx13 := rg x13
    obtain ⟨x15, e16⟩ : ∃ x, I3 r0_1 4 = x := ⟨_, rfl⟩
    have gx15 := rg x15
    obtain ⟨x17, e18⟩ : ∃ x, I3 r0_1 5 = x := ⟨_, rfl⟩
    have gx17 := rg x17
    try simp only [z_r0_0, z_r0_1, z_r0_2, z_r0_5, z_r0_6, z_r0_7, z_r0_8, z_r0_9, z_r0_10, z_r0_11, z_r0_12, z_r0_13, z_r0_1_6, z_r0_1_7, z_r0_1_8, z_r0_1_9, z_r0_1_10, z_r0_2_6, z_r0_2_7, z_r0_2_8, z_r0_2_9, z_r0_2_10] at p0v2
    try simp only [z_r0_0, z_r0_1, z_r0_2, z_r0_5, z_r0_6, z_r0_7, z_r0_8, z_r0_9, z_r0_10, z_r0_11, z_r0_12, z_r0_13, z_r0_1_6, z_r0_1_7, z_r0_1_8, z_r0_1_9, z_r0_1_10, z_r0_2_6, z_r0_2_7, z_r0_2_8, z_r0_2_9, z_r0_2_10] at p1v2
    try simp only [z_r0_0, z_r0_1, z_r0_2, z_r0_5, z_r0_6, z_r0_7, z_r0_8, z_r0_9, z_r0_10, z_r0_11, z_r0_12, z_r0_13, z_r0_1_6, z_r0_1_7, z_r0_1_8, z_r0_1_9, z_r0_1_10, z_r0_2_6, z_r0_2_7, z_r0_2_8, z_r0_2_9, z_r0_2_10] at p2v2
    try simp only [z_r0_0, z_r0_1, z_r0_2, z_r0_5, z_r0_6, z_r0_7, z_r0_8, z_r0_9, z_r0_10, z_r0_11, z_r0_12, z_r0_13, z_r0_1_6, z_r0_1_7, z_r0_1_8, z_r0_1_9, z_r0_1_10, z_r0_2_6, z_r0_2_7, z_r0_2_8, z_r0_2_9, z_r0_2_10] at p3v2
    try simp only [z_r0_0, z_r0_1, z_r0_2, z_r0_5, z_r0_6, z_r0_7, z_r0_8, z_r0_9, z_r0_10, z_r0_11, z_r0_12, z_r0_13, z_r0_1_6, z_r0_1_7, z_r0_1_8, z_r0_1_9, z_r0_1_10, z_r0_2_6, z_r0_2_7, z_r0_2_8, z_r0_2_9, z_r0_2_10] at p4v2
    try simp only [z_r0_0, z_r0_1, z_r0_2, z_r0_5, z_r0_6, z_r0_7, z_r0_8, z_r0_9, z_r0_10, z_r0_11, z_r0_12, z_r0_13, z_r0_1_6, z_r0_1_7, z_r0_1_8, z_r0_1_9, z_r0_1_10, z_r0_2_6, z_r0_2_7, z_r0_2_8, z_r0_2_9, z_r0_2_10] at p5v2
    try simp only [z_r0_0, z_r0_1, z_r0_2, z_r0_5, z_r0_6, z_r0_7, z_r0_8, z_r0_9, z_r0_10, z_r0_11, z_r0_12, z_r0_13, z_r0_1_6, z_r0_1_7, z_r0_1_8, z_r0_1_9, z_r0_1_10, z_r0_2_6, z_r0_2_7, z_r0_2_8, z_r0_2_9, z_r0_2_10] at p6v2
    try simp only [z_r0_0, z_r0_1, z_r0_2, z_r0_5, z_r0_6, z_r0_7, z_r0_8, z_r0_9, z_r0_10, z_r0_11, z_r0_12, z_r0_13, z_r0_1_6, z_r0_1_7, z_r0_1_8, z_r0_1_9, z_r0_1_10, z_r0_2_6, z_r0_2_7, z_r0_2_8, z_r0_2_9, z_r0_2_10] at p7v2
    try simp only [z_r0_0, z_r0_1, z_r0_2, z_r0_5, z_r0_6, z_r0_7, z_r0_8, z_r0_9, z_r0_10, z_r0_11, z_r0_12, z_r0_13, z_r0_1_6, z_r0_1_7, z_r0_1_8, z_r0_1_9, z_r0_1_10, z_r0_2_6, z_r0_2_7, z_r0_2_8, z_r0_2_9, z_r0_2_10] at p8v2
    try simp only [z_r0_0, z_r0_1, z_r0_2, z_r0_5, z_r0_6, z_r0_7, z_r0_8, z_r0_9, z_r0_10, z_r0_11, z_r0_12, z_r0_13, z_r0_1_6, z_r0_1_7, z_r0_1_8, z_r0_1_9, z_r0_1_10, z_r0_2_6, z_r0_2_7, z_r0_2_8, z_r0_2_9, z_r0_2_10] at p9v2
    try simp only [k0_r0_2_0, k0_r0_2_1, k0_r0_2_2, k0_r0_2_3, k0_r0_2_4, k0_r0_2_5, k0_r0_3, e8, e10, e12, e14, e16, e18] at p0v2
    try have q0v2 := congrArg Int32.toInt p0v2
    try simp only [k0_r0_2_0, k0_r0_2_1, k0_r0_2_2, k0_r0_2_3, k0_r0_2_4, k0_r0_2_5, k0_r0_3, e8, e10, e12, e14, e16, e18] at p1v2
    try have q1v2 := congrArg Int32.toInt p1v2
    try simp only [k0_r0_2_0, k0_r0_2_1, k0_r0_2_2, k0_r0_2_3, k0_r0_2_4, k0_r0_2_5, k0_r0_3, e8, e10, e12, e14, e16, e18] at p2v2
    try have q2v2 := congrArg Int32.toInt p2v2
    try simp only [k0_r0_2_0, k0_r0_2_1, k0_r0_2_2, k0_r0_2_3, k0_r0_2_4, k0_r0_2_5, k0_r0_3, e8, e10, e12, e14, e16, e18] at p3v2
    try have q3v2 := congrArg Int32.toInt p3v2
    try simp only [k0_r0_2_0, k0_r0_2_1, k0_r0_2_2, k0_r0_2_3, k0_r0_2_4, k0_r0_2_5, k0_r0_3, e8, e10, e12, e14, e16, e18] at p4v2
    try have q4v2 := congrArg Int32.toInt p4v2
    try simp only [k0_r0_2_0, k0_r0_2_1, k0_r0_2_2, k0_r0_2_3, k0_r0_2_4, k0_r0_2_5, k0_r0_3, e8, e10, e12, e14, e16, e18] at p5v2
    try have q5v2 := congrArg Int32.toInt p5v2
    try simp only [k0_r0_2_0, k0_r0_2_1, k0_r0_2_2, k0_r0_2_3, k0_r0_2_4, k0_r0_2_5, k0_r0_3, e8, e10, e12, e14, e16, e18] at p6v2
    try have q6v2 := congrArg Int32.toInt p6v2
    try simp only [k0_r0_2_0, k0_r0_2_1, k0_r0_2_2, k0_r0_2_3, k0_r0_2_4, k0_r0_2_5, k0_r0_3, e8, e10, e12, e14, e16, e18] at p7v2
    try have q7v2 := congrArg Int32.toInt p7v2
    try simp only [k0_r0_2_0, k0_r0_2_1, k0_r0_2_2, k0_r0_2_3, k0_r0_2_4, k0_r0_2_5, k0_r0_3, e8, e10, e12, e14, e16, e18] at p8v2
    try have q8v2 := congrArg Int32.toInt p8v2
    try simp only [k0_r0_2_0, k0_r0_2_1, k0_r0_2_2, k0_r0_2_3, k0_r0_2_4, k0_r0_2_5, k0_r0_3, e8, e10, e12, e14, e16, e18] at p9v2
    try have q9v2 := congrArg Int32.toInt p9v2
    have hca := p6v2; have hfl := p7v2; have htl := p8v2; have hsl := p9v2
    refine z_iconst C (z := 1) rfl rfl rfl (fun x19 ex19 => ?_)
    exact k_iret C rfl (Or.inr ⟨rfl, z01 (by omega) (by omega)⟩) (Nat.le_of_ble_eq_true rfl) (Nat.le_of_ble_eq_true rfl) ⟨_, _, _, rfl, rfl, by omega, by omega, by (try simp only [z_r0_0, z_r0_1, z_r0_2, z_r0_5, z_r0_6, z_r0_7, z_r0_8, z_r0_9, z_r0_10, z_r0_11, z_r0_12, z_r0_13, z_r0_1_6, z_r0_1_7, z_r0_1_8, z_r0_1_9, z_r0_1_10, z_r0_2_6, z_r0_2_7, z_r0_2_8, z_r0_2_9, z_r0_2_10]); simp only [k0_r0_3]; exact ⟨fun q => by omega, fun _ => ⟨by omega, k6 (by rw [e8, k0_r0_2_0]; omega) (by rw [e10, k0_r0_2_1]; omega) (by rw [e12, k0_r0_2_2]; omega) (by rw [e14, k0_r0_2_3]; omega) (by rw [e16, k0_r0_2_4]; omega) (by rw [e18, k0_r0_2_5]; omega), hca, (by rw [k0_r0_2_1]; exact hfl), (by rw [k0_r0_2_2]; exact htl)⟩⟩, by (try simp only [z_r0_0, z_r0_1, z_r0_2, z_r0_5, z_r0_6, z_r0_7, z_r0_8, z_r0_9, z_r0_10, z_r0_11, z_r0_12, z_r0_13, z_r0_1_6, z_r0_1_7, z_r0_1_8, z_r0_1_9, z_r0_1_10, z_r0_2_6, z_r0_2_7, z_r0_2_8, z_r0_2_9, z_r0_2_10]); intro _; simp only [k0_r0_2_3]; exact hsl, hI3, (by (try simp only [z_r0_0, z_r0_1, z_r0_2, z_r0_5, z_r0_6, z_r0_7, z_r0_8, z_r0_9, z_r0_10, z_r0_11, z_r0_12, z_r0_13, z_r0_1_6, z_r0_1_7, z_r0_1_8, z_r0_1_9, z_r0_1_10, z_r0_2_6, z_r0_2_7, z_r0_2_8, z_r0_2_9, z_r0_2_10]); exact (Chg.mono (Chg.up S5 (fun _ h => h)) (by decide)))⟩
  refine z_iconst C (z := 0) rfl rfl rfl (fun x20 ex20 => ?_)
  exact k_iret C rfl (Or.inr ⟨rfl, z01 (by omega) (by omega)⟩) (Nat.le_of_ble_eq_true rfl) (Nat.le_of_ble_eq_true rfl) ⟨_, _, _, rfl, rfl, by omega, by omega, by (try simp only [z_r0_0, z_r0_1, z_r0_2, z_r0_5, z_r0_6, z_r0_7, z_r0_8, z_r0_9, z_r0_10, z_r0_11, z_r0_12, z_r0_13, z_r0_1_6, z_r0_1_7, z_r0_1_8, z_r0_1_9, z_r0_1_10, z_r0_2_6, z_r0_2_7, z_r0_2_8, z_r0_2_9, z_r0_2_10]); simp only [k0_r0_3]; exact ⟨fun _ => ⟨by omega, rfl⟩, fun q => by omega⟩, by (try simp only [z_r0_0, z_r0_1, z_r0_2, z_r0_5, z_r0_6, z_r0_7, z_r0_8, z_r0_9, z_r0_10, z_r0_11, z_r0_12, z_r0_13, z_r0_1_6, z_r0_1_7, z_r0_1_8, z_r0_1_9, z_r0_1_10, z_r0_2_6, z_r0_2_7, z_r0_2_8, z_r0_2_9, z_r0_2_10]); intro q; exfalso; omega, hI, (by (try simp only [z_r0_0, z_r0_1, z_r0_2, z_r0_5, z_r0_6, z_r0_7, z_r0_8, z_r0_9, z_r0_10, z_r0_11, z_r0_12, z_r0_13, z_r0_1_6, z_r0_1_7, z_r0_1_8, z_r0_1_9, z_r0_1_10, z_r0_2_6, z_r0_2_7, z_r0_2_8, z_r0_2_9, z_r0_2_10]); exact Chg.rf)⟩

theorem s_X11_signs_p {d : Nat} {T N : Nat → Nat} {I : IT} {L : LT} {R : RT} {A B : Nat → Prop} {r0 : Nat} (hS : SUB B A) (hI : IX A T I) (H_r0 : (hs_LF T N R A B) r0) (hU : UPR T R) (hp0 : 0 ≤ (I (rA R r0 1) 3).toInt) (hp1 : (I (rA R r0 1) 3).toInt ≤ 8) (hp2 : 0 ≤ (I (rA R r0 0) 1).toInt) (hp3 : (I (rA R r0 0) 1).toInt ≤ 400) : Ex (d + 31) 131 [.ref r0] (T, N, I, L, R) 1 6 (pW2 [0, 2] T N R (pI T N R (fun x9 I9 L9 => ((I9 (rA R r0 0) 1).toInt = 0) ∧ ((I (rA R r0 1) 3).toInt < 8 ∧ x9.toInt = (I (rA R r0 1) 3).toInt) ∧ ((I9 (rA R r0 1) 3).toInt = (I (rA R r0 1) 3).toInt + 1) ∧ (RDA 160 (BCH (I (rA R (rA R r0 0) 2)) (I (rA R r0 0) 1).toInt) = some (STL R I9 (SA R (rA R r0 1) (I (rA R r0 1) 3).toNatClampNeg))) ∧ (0 ≤ (I9 (SA R (rA R r0 1) (I (rA R r0 1) 3).toNatClampNeg) 2).toInt ∧ (I9 (SA R (rA R r0 1) (I (rA R r0 1) 3).toNatClampNeg) 2).toInt ≤ 160) ∧ (IX A T I9 ∧ Chg (fun a => a = r0 ∨ a = (rA R r0 0) ∨ a = (rA R (rA R r0 0) 0) ∨ a = rA R (rA R (rA R r0 0) 0) 0 ∨ a = rA R (rA R (rA R r0 0) 0) 1 ∨ a = (rA R r0 1) ∨ a = SA R (rA R r0 1) (I (rA R r0 1) 3).toNatClampNeg ∨ a = rA R (SA R (rA R r0 1) (I (rA R r0 1) 3).toNatClampNeg) 0 ∨ a = rA R (SA R (rA R r0 1) (I (rA R r0 1) 3).toNatClampNeg) 1) T [(5, 1), (5, 3), (5, 4), (5, 5), (8, 2), (9, 3), (12, 4)] I L I9 L9))) (fun e9 I9 L9 => (IX A T I9 ∧ Chg (fun a => a = r0 ∨ a = (rA R r0 0) ∨ a = (rA R (rA R r0 0) 0) ∨ a = rA R (rA R (rA R r0 0) 0) 0 ∨ a = rA R (rA R (rA R r0 0) 0) 1 ∨ a = (rA R r0 1) ∨ a = SA R (rA R r0 1) (I (rA R r0 1) 3).toNatClampNeg ∨ a = rA R (SA R (rA R r0 1) (I (rA R r0 1) 3).toNatClampNeg) 0 ∨ a = rA R (SA R (rA R r0 1) (I (rA R r0 1) 3).toNatClampNeg) 1) T [(5, 1), (5, 3), (5, 4), (5, 5), (8, 2), (9, 3), (12, 4)] I L I9 L9) ∧ (e9 = 0 → (I9 (rA R r0 0) 1).toInt = 0) ∧ (e9 = 0 → RDA 160 (BCH (I (rA R (rA R r0 0) 2)) (I (rA R r0 0) 1).toInt) = none) ∧ (e9 = 0 → ∀ a, ¬ (a = r0 ∨ a = (rA R r0 0) ∨ a = (rA R (rA R r0 0) 0) ∨ a = rA R (rA R (rA R r0 0) 0) 0 ∨ a = rA R (rA R (rA R r0 0) 0) 1) → I9 a = I a) ∧ (e9 = 2 → (I9 (rA R r0 0) 1).toInt = 0) ∧ (e9 = 2 → 8 ≤ (I (rA R r0 1) 3).toInt) ∧ (e9 = 2 → RDA 160 (BCH (I (rA R (rA R r0 0) 2)) (I (rA R r0 0) 1).toInt) ≠ none) ∧ (e9 = 2 → ∀ a, ¬ (a = r0 ∨ a = (rA R r0 0) ∨ a = (rA R (rA R r0 0) 0) ∨ a = rA R (rA R (rA R r0 0) 0) 0 ∨ a = rA R (rA R (rA R r0 0) 0) 1) → I9 a = I a))) := by
  refine ⟨_, rfl, Nat.le_of_ble_eq_true rfl, fun V C S => ?_⟩
  show V 0 [(0, .ref r0)] [] (T, N, I, L, R) 0 0
  obtain ⟨T_r0, A_r0, B_r0, ⟨r0_0, R_r0_0, H_r0_0⟩, ⟨r0_1, R_r0_1, H_r0_1⟩, ⟨r0_2, R_r0_2, H_r0_2⟩, ⟨r0_5, R_r0_5, H_r0_5⟩, ⟨r0_6, R_r0_6, H_r0_6⟩, ⟨r0_7, R_r0_7, H_r0_7⟩, ⟨r0_8, R_r0_8, H_r0_8⟩, ⟨r0_9, R_r0_9, H_r0_9⟩, ⟨r0_10, R_r0_10, H_r0_10⟩, ⟨r0_11, R_r0_11, H_r0_11⟩, ⟨r0_12, R_r0_12, H_r0_12⟩, ⟨r0_13, R_r0_13, H_r0_13⟩⟩ := id H_r0
  have z_r0_0 : rA R r0 0 = r0_0 := rA_e R_r0_0
  have z_r0_1 : rA R r0 1 = r0_1 := rA_e R_r0_1
  have z_r0_2 : rA R r0 2 = r0_2 := rA_e R_r0_2
  have z_r0_5 : rA R r0 5 = r0_5 := rA_e R_r0_5
  have z_r0_6 : rA R r0 6 = r0_6 := rA_e R_r0_6
  have z_r0_7 : rA R r0 7 = r0_7 := rA_e R_r0_7
  have z_r0_8 : rA R r0 8 = r0_8 := rA_e R_r0_8
  have z_r0_9 : rA R r0 9 = r0_9 := rA_e R_r0_9
  have z_r0_10 : rA R r0 10 = r0_10 := rA_e R_r0_10
  have z_r0_11 : rA R r0 11 = r0_11 := rA_e R_r0_11
  have z_r0_12 : rA R r0 12 = r0_12 := rA_e R_r0_12
  have z_r0_13 : rA R r0 13 = r0_13 := rA_e R_r0_13
  obtain ⟨T_r0_0, A_r0_0, B_r0_0, ⟨r0_0_0, R_r0_0_0, H_r0_0_0⟩, ⟨r0_0_2, R_r0_0_2, H_r0_0_2⟩⟩ := id H_r0_0
  have z_r0_0_0 : rA R r0_0 0 = r0_0_0 := rA_e R_r0_0_0
  have z_r0_0_2 : rA R r0_0 2 = r0_0_2 := rA_e R_r0_0_2
  obtain ⟨T_r0_0_2, N_r0_0_2, A_r0_0_2⟩ := id H_r0_0_2
  obtain ⟨T_r0_0_0, A_r0_0_0, B_r0_0_0, ⟨r0_0_0_0, R_r0_0_0_0, H_r0_0_0_0⟩, ⟨r0_0_0_1, R_r0_0_0_1, H_r0_0_0_1⟩⟩ := id H_r0_0_0
  have z_r0_0_0_0 : rA R r0_0_0 0 = r0_0_0_0 := rA_e R_r0_0_0_0
  have z_r0_0_0_1 : rA R r0_0_0 1 = r0_0_0_1 := rA_e R_r0_0_0_1
  obtain ⟨T_r0_0_0_0, N_r0_0_0_0, A_r0_0_0_0⟩ := id H_r0_0_0_0
  obtain ⟨T_r0_0_0_1, N_r0_0_0_1, A_r0_0_0_1⟩ := id H_r0_0_0_1
  obtain ⟨T_r0_1, A_r0_1, B_r0_1, ⟨r0_1_6, R_r0_1_6, H_r0_1_6⟩, ⟨r0_1_7, R_r0_1_7, H_r0_1_7⟩, ⟨r0_1_8, R_r0_1_8, H_r0_1_8⟩, ⟨r0_1_9, R_r0_1_9, H_r0_1_9⟩, ⟨r0_1_10, R_r0_1_10, H_r0_1_10⟩⟩ := id H_r0_1
  have z_r0_1_6 : rA R r0_1 6 = r0_1_6 := rA_e R_r0_1_6
  have z_r0_1_7 : rA R r0_1 7 = r0_1_7 := rA_e R_r0_1_7
  have z_r0_1_8 : rA R r0_1 8 = r0_1_8 := rA_e R_r0_1_8
  have z_r0_1_9 : rA R r0_1 9 = r0_1_9 := rA_e R_r0_1_9
  have z_r0_1_10 : rA R r0_1 10 = r0_1_10 := rA_e R_r0_1_10
  obtain ⟨T_r0_1_10, N_r0_1_10, A_r0_1_10, E_r0_1_10⟩ := id H_r0_1_10
  have hG := GS.of H_r0_1
  have hg := GG.of H_r0_1
  try simp only [z_r0_0, z_r0_1, z_r0_2, z_r0_5, z_r0_6, z_r0_7, z_r0_8, z_r0_9, z_r0_10, z_r0_11, z_r0_12, z_r0_13, z_r0_0_0, z_r0_0_2, z_r0_0_0_0, z_r0_0_0_1, z_r0_1_6, z_r0_1_7, z_r0_1_8, z_r0_1_9, z_r0_1_10] at hp0
  try simp only [z_r0_0, z_r0_1, z_r0_2, z_r0_5, z_r0_6, z_r0_7, z_r0_8, z_r0_9, z_r0_10, z_r0_11, z_r0_12, z_r0_13, z_r0_0_0, z_r0_0_2, z_r0_0_0_0, z_r0_0_0_1, z_r0_1_6, z_r0_1_7, z_r0_1_8, z_r0_1_9, z_r0_1_10] at hp1
  try simp only [z_r0_0, z_r0_1, z_r0_2, z_r0_5, z_r0_6, z_r0_7, z_r0_8, z_r0_9, z_r0_10, z_r0_11, z_r0_12, z_r0_13, z_r0_0_0, z_r0_0_2, z_r0_0_0_0, z_r0_0_0_1, z_r0_1_6, z_r0_1_7, z_r0_1_8, z_r0_1_9, z_r0_1_10] at hp2
  try simp only [z_r0_0, z_r0_1, z_r0_2, z_r0_5, z_r0_6, z_r0_7, z_r0_8, z_r0_9, z_r0_10, z_r0_11, z_r0_12, z_r0_13, z_r0_0_0, z_r0_0_2, z_r0_0_0_0, z_r0_0_0_1, z_r0_1_6, z_r0_1_7, z_r0_1_8, z_r0_1_9, z_r0_1_10] at hp3
  obtain ⟨w_r0_1_3, k0_r0_1_3⟩ : ∃ x, I r0_1 3 = x := ⟨_, rfl⟩
  have gw_r0_1_3 := rg w_r0_1_3
  obtain ⟨w_r0_0_1, k0_r0_0_1⟩ : ∃ x, I r0_0 1 = x := ⟨_, rfl⟩
  have gw_r0_0_1 := rg w_r0_0_1
  try simp only [k0_r0_1_3, k0_r0_0_1] at hp0
  try simp only [k0_r0_1_3, k0_r0_0_1] at hp1
  try simp only [k0_r0_1_3, k0_r0_0_1] at hp2
  try simp only [k0_r0_1_3, k0_r0_0_1] at hp3
  refine k_aload_n C rfl rfl rfl ?_
  refine k_aload_n C rfl rfl rfl ?_
  refine g_R C rfl rfl rfl T_r0 rfl R_r0_0 ?_
  refine k_aload_n C rfl rfl rfl ?_
  refine g_R C rfl rfl rfl T_r0 rfl R_r0_0 ?_
  refine c_VI C (s_X4_useUp_x hS hI H_r0_0) rfl rfl rfl rfl rfl ⟨_, rfl, rfl, T_r0_0, Nat.le_of_ble_eq_true rfl⟩ rfl rfl (Nat.le_of_ble_eq_true rfl) (Nat.le_of_ble_eq_true rfl) (Nat.le_of_ble_eq_true rfl) ?_
  rintro x1 I2 L3 ⟨p0x1, p1x1, hI2, S4⟩
  try simp only [z_r0_0, z_r0_1, z_r0_2, z_r0_5, z_r0_6, z_r0_7, z_r0_8, z_r0_9, z_r0_10, z_r0_11, z_r0_12, z_r0_13, z_r0_0_0, z_r0_0_2, z_r0_0_0_0, z_r0_0_0_1, z_r0_1_6, z_r0_1_7, z_r0_1_8, z_r0_1_9, z_r0_1_10] at S4
  have e5 := Chg.k S4 T_r0_1 (by decide) (by decide) k0_r0_1_3
  have gx1 := rg x1
  obtain ⟨x6, e7⟩ : ∃ x, I2 r0_0 1 = x := ⟨_, rfl⟩
  have gx6 := rg x6
  try simp only [z_r0_0, z_r0_1, z_r0_2, z_r0_5, z_r0_6, z_r0_7, z_r0_8, z_r0_9, z_r0_10, z_r0_11, z_r0_12, z_r0_13, z_r0_0_0, z_r0_0_2, z_r0_0_0_0, z_r0_0_0_1, z_r0_1_6, z_r0_1_7, z_r0_1_8, z_r0_1_9, z_r0_1_10] at p0x1
  try simp only [z_r0_0, z_r0_1, z_r0_2, z_r0_5, z_r0_6, z_r0_7, z_r0_8, z_r0_9, z_r0_10, z_r0_11, z_r0_12, z_r0_13, z_r0_0_0, z_r0_0_2, z_r0_0_0_0, z_r0_0_0_1, z_r0_1_6, z_r0_1_7, z_r0_1_8, z_r0_1_9, z_r0_1_10] at p1x1
  try simp only [k0_r0_1_3, k0_r0_0_1, e7] at p0x1
  try have q0x1 := congrArg Int32.toInt p0x1
  try simp only [k0_r0_1_3, k0_r0_0_1, e7] at p1x1
  try have q1x1 := congrArg Int32.toInt p1x1
  have hu := p0x1; have hS9 := S4
  refine c_VI C (s_X4_read_x hS hI2 H_r0_0 (by omega) (by omega) hU) rfl rfl rfl rfl rfl ⟨_, rfl, rfl, T_r0_0, Nat.le_of_ble_eq_true rfl⟩ rfl rfl (Nat.le_of_ble_eq_true rfl) (Nat.le_of_ble_eq_true rfl) (Nat.le_of_ble_eq_true rfl) ?_
  rintro x8 I9 L10 ⟨p0x8, p1x8, p2x8, hI9, S11⟩
  try simp only [z_r0_0, z_r0_1, z_r0_2, z_r0_5, z_r0_6, z_r0_7, z_r0_8, z_r0_9, z_r0_10, z_r0_11, z_r0_12, z_r0_13, z_r0_0_0, z_r0_0_2, z_r0_0_0_0, z_r0_0_0_1, z_r0_1_6, z_r0_1_7, z_r0_1_8, z_r0_1_9, z_r0_1_10] at S11
  have e12 := Chg.k S11 T_r0_1 (by decide) (by decide) e5
  have e13 := Chg.k S11 T_r0_0 (by decide) (by decide) e7
  have gx8 := rg x8
  try simp only [z_r0_0, z_r0_1, z_r0_2, z_r0_5, z_r0_6, z_r0_7, z_r0_8, z_r0_9, z_r0_10, z_r0_11, z_r0_12, z_r0_13, z_r0_0_0, z_r0_0_2, z_r0_0_0_0, z_r0_0_0_1, z_r0_1_6, z_r0_1_7, z_r0_1_8, z_r0_1_9, z_r0_1_10] at p0x8
  try simp only [z_r0_0, z_r0_1, z_r0_2, z_r0_5, z_r0_6, z_r0_7, z_r0_8, z_r0_9, z_r0_10, z_r0_11, z_r0_12, z_r0_13, z_r0_0_0, z_r0_0_2, z_r0_0_0_0, z_r0_0_0_1, z_r0_1_6, z_r0_1_7, z_r0_1_8, z_r0_1_9, z_r0_1_10] at p1x8
  try simp only [z_r0_0, z_r0_1, z_r0_2, z_r0_5, z_r0_6, z_r0_7, z_r0_8, z_r0_9, z_r0_10, z_r0_11, z_r0_12, z_r0_13, z_r0_0_0, z_r0_0_2, z_r0_0_0_0, z_r0_0_0_1, z_r0_1_6, z_r0_1_7, z_r0_1_8, z_r0_1_9, z_r0_1_10] at p2x8
  try simp only [e5, e7] at p0x8
  try have q0x8 := congrArg Int32.toInt p0x8
  try simp only [e5, e7] at p1x8
  try have q1x8 := congrArg Int32.toInt p1x8
  try simp only [e5, e7] at p2x8
  try have q2x8 := congrArg Int32.toInt p2x8
  have hr0 := p0x8; have hr1 := p1x8; have hr2 := p2x8; have hS12 := S11; (try simp only [z_r0_0, z_r0_1, z_r0_2, z_r0_5, z_r0_6, z_r0_7, z_r0_8, z_r0_9, z_r0_10, z_r0_11, z_r0_12, z_r0_13, z_r0_0_0, z_r0_0_2, z_r0_0_0_0, z_r0_0_0_1, z_r0_1_6, z_r0_1_7, z_r0_1_8, z_r0_1_9, z_r0_1_10] at hr0 hr1 hr2); have hb9 := Chg.at hS9 (nm_1 (t_nq T_r0_0_2 T_r0_0 (by decide))); rw [hb9, hu] at hr0 hr1
  refine z_pI C rfl rfl rfl T_r0 (Or.inr rfl) rfl (fun I14 uI14 => ?_)
  have hI14 : IX A T I14 := IX.f hI9 T_r0 (boX.tr (by decide) (by decide)) uI14
  have S15 : Chg (SL [r0]) T [(12, 4)] I9 L10 I14 L10 := Chg.f List.mem_cons_self T_r0 uI14
  have e16 := u2_j uI14 (by decide) e12
  have e17 := u2_j uI14 (by decide) e13
  have e18 := u2_e uI14
  have hq15 := uI14
  refine k_aload_n C rfl rfl rfl ?_
  refine g_I C rfl rfl rfl T_r0 rfl e18 ?_
  refine z_iconst C (z := -1) rfl rfl rfl (fun x19 ex19 => ?_)
  refine b_icmp_eq C (t := 34) rfl rfl rfl (fun c20 => ?_) (fun c20 => ?_)
  · skip
    refine k_aload_n C rfl rfl rfl ?_
    refine g_R C rfl rfl rfl T_r0 rfl R_r0_1 ?_
    refine c_VR C (s_X8_nextSigns_x hS hI14 H_r0_1 (by first | omega | (simp only [e16, e17, e18, and_true, true_and, or_true, true_or, and_false, false_and, or_false, false_or] <;> omega))) rfl rfl rfl rfl rfl ⟨_, rfl, rfl, T_r0_1, Nat.le_of_ble_eq_true rfl⟩ rfl rfl (Nat.le_of_ble_eq_true rfl) (Nat.le_of_ble_eq_true rfl) (Nat.le_of_ble_eq_true rfl) ?_
    rintro yy21 I22 L23 ⟨hyy21, p0yy21, hI22, S24⟩
    try simp only [z_r0_0, z_r0_1, z_r0_2, z_r0_5, z_r0_6, z_r0_7, z_r0_8, z_r0_9, z_r0_10, z_r0_11, z_r0_12, z_r0_13, z_r0_0_0, z_r0_0_2, z_r0_0_0_0, z_r0_0_0_1, z_r0_1_6, z_r0_1_7, z_r0_1_8, z_r0_1_9, z_r0_1_10] at S24
    have e25 := Chg.k S24 T_r0_0 (by decide) (by decide) e17
    have e26 := Chg.k S24 T_r0 (by decide) (by decide) e18
    obtain ⟨x27, e28⟩ : ∃ x, I22 r0_1 3 = x := ⟨_, rfl⟩
    have gx27 := rg x27
    try simp only [z_r0_0, z_r0_1, z_r0_2, z_r0_5, z_r0_6, z_r0_7, z_r0_8, z_r0_9, z_r0_10, z_r0_11, z_r0_12, z_r0_13, z_r0_0_0, z_r0_0_2, z_r0_0_0_0, z_r0_0_0_1, z_r0_1_6, z_r0_1_7, z_r0_1_8, z_r0_1_9, z_r0_1_10] at p0yy21
    try simp only [e16, e17, e18, e28] at p0yy21
    try have q0yy21 := congrArg Int32.toInt p0yy21
    have hnt := p0yy21; have hS38 := S24
    refine k_astore_nV C (x := yy21) (lw := [(1, va_rf yy21), (0, .ref r0)]) rfl rfl (Nat.le_of_ble_eq_true rfl) rfl ?_
    refine k_aload_nV C (x := yy21) rfl rfl rfl ?_
    refine k_ifnonnull C (x := yy21) (t := 54) rfl rfl rfl (fun c29 => ?_) (fun rr30 c29 => ?_)
    · skip
      subst c29
      have hnx := NXD.no hnt E_r0_1_10 (by omega)
      exact k_throw C rfl rfl rfl rfl rfl rfl (Nat.le_of_ble_eq_true rfl) (Nat.le_of_ble_eq_true rfl) (Nat.le_of_ble_eq_true rfl) (Or.inr ⟨_, _, _, (by decide : 2 ∈ [0, 2]), rfl, rfl, ⟨⟨hI22, (by (try simp only [z_r0_0, z_r0_1, z_r0_2, z_r0_5, z_r0_6, z_r0_7, z_r0_8, z_r0_9, z_r0_10, z_r0_11, z_r0_12, z_r0_13, z_r0_0_0, z_r0_0_2, z_r0_0_0_0, z_r0_0_0_1, z_r0_1_6, z_r0_1_7, z_r0_1_8, z_r0_1_9, z_r0_1_10]); exact (Chg.cons (Chg.up S4 (sl_1 (Or.inr (Or.inl rfl)))) (Chg.cons (Chg.up S11 (sl_4 (Or.inr (Or.inl rfl)) (Or.inr (Or.inr (Or.inl rfl))) (Or.inr (Or.inr (Or.inr (Or.inl rfl)))) (Or.inr (Or.inr (Or.inr (Or.inr (Or.inl rfl))))))) (Chg.cons (Chg.up S15 (sl_1 (Or.inl rfl))) (Chg.mono (Chg.up S24 (sl_1 (Or.inr (Or.inr (Or.inr (Or.inr (Or.inr (Or.inl rfl)))))))) (by decide)) (by decide)) (by decide)) (by decide)))⟩, (fun h9 => absurd h9 (by decide)), (fun h9 => absurd h9 (by decide)), (fun h9 => absurd h9 (by decide)), (fun _ => by simp only [z_r0_0, z_r0_1, z_r0_2, z_r0_5, z_r0_6, z_r0_7, z_r0_8, z_r0_9, z_r0_10, z_r0_11, z_r0_12, z_r0_13, z_r0_0_0, z_r0_0_2, z_r0_0_0_0, z_r0_0_0_1, z_r0_1_6, z_r0_1_7, z_r0_1_8, z_r0_1_9, z_r0_1_10]; rw [e25]; omega), (fun _ => by simp only [z_r0_0, z_r0_1, z_r0_2, z_r0_5, z_r0_6, z_r0_7, z_r0_8, z_r0_9, z_r0_10, z_r0_11, z_r0_12, z_r0_13, z_r0_0_0, z_r0_0_2, z_r0_0_0_0, z_r0_0_0_1, z_r0_1_6, z_r0_1_7, z_r0_1_8, z_r0_1_9, z_r0_1_10, k0_r0_1_3]; omega), (fun _ => by simp only [z_r0_0, z_r0_1, z_r0_2, z_r0_5, z_r0_6, z_r0_7, z_r0_8, z_r0_9, z_r0_10, z_r0_11, z_r0_12, z_r0_13, z_r0_0_0, z_r0_0_2, z_r0_0_0_0, z_r0_0_0_1, z_r0_1_6, z_r0_1_7, z_r0_1_8, z_r0_1_9, z_r0_1_10, k0_r0_0_1]; intro h; rw [hr0 (by omega)] at h; cases h), (fun _ => by simp only [z_r0_0, z_r0_1, z_r0_2, z_r0_5, z_r0_6, z_r0_7, z_r0_8, z_r0_9, z_r0_10, z_r0_11, z_r0_12, z_r0_13, z_r0_0_0, z_r0_0_2, z_r0_0_0_0, z_r0_0_0_1, z_r0_1_6, z_r0_1_7, z_r0_1_8, z_r0_1_9, z_r0_1_10]; intro a ha; simp only [not_or] at ha; funext k; rw [EXC0 hS38 T_r0_1 (by rw [e28, hq15, u2_r (t_nq T_r0_1 T_r0 (by decide)), Chg.at hS12 (nm_4 (t_nq T_r0_1 T_r0_0 (by decide)) (t_nq T_r0_1 T_r0_0_0 (by decide)) (t_nq T_r0_1 T_r0_0_0_0 (by decide)) (t_nq T_r0_1 T_r0_0_0_1 (by decide))), Chg.at hS9 (nm_1 (t_nq T_r0_1 T_r0_0 (by decide))), k0_r0_1_3]; exact (hnt.2 hnx).2) a k]; exact congrFun (by rw [hq15, u2_r ha.1, Chg.at hS12 (nm_4 ha.2.1 ha.2.2.1 ha.2.2.2.1 ha.2.2.2.2), Chg.at hS9 (nm_1 ha.2.1)]) k)⟩⟩)
    subst c29
    have H_rr30 := hyy21 rr30 rfl
    have hnx := NXD.yes hnt (by omega); have oN := SA_e z_r0_1_10 hnx.2.1; have nN := ncn (n := 8) (j := w_r0_1_3) (by omega) hnx.1
    refine k_aload_n C rfl rfl rfl ?_
    refine k_aload_n C rfl rfl rfl ?_
    refine g_R C rfl rfl rfl T_r0 rfl R_r0_0 ?_
    refine g_R C rfl rfl rfl T_r0_0 rfl R_r0_0_0 ?_
    obtain ⟨T_rr30, A_rr30, ⟨rr30_0, R_rr30_0, H_rr30_0⟩, ⟨rr30_1, R_rr30_1, H_rr30_1⟩⟩ := id H_rr30
    have z_rr30_0 : rA R rr30 0 = rr30_0 := rA_e R_rr30_0
    have z_rr30_1 : rA R rr30 1 = rr30_1 := rA_e R_rr30_1
    refine c_VV C (s_X7_copyFrom_p hS hI22 H_rr30 (hs_SuSg hS H_r0_0_0) hU (fun e9 => hU.ne (Or.inr (Or.inl (by rw [← oN]; exact (hg.2.2 _ nN).2.1))) hnx.2.1 R_r0_0_0 (Or.inl (t_nq T_r0_1_10 T_r0_0 (by decide))) e9) (by rw [Chg.at hS38 (nm_1 (t_nq T_r0_0_0 T_r0_1 (by decide))), hq15, u2_r (t_nq T_r0_0_0 T_r0 (by decide))]; exact hr2)) rfl rfl rfl rfl rfl ⟨_, rfl, rfl, T_rr30, Nat.le_of_ble_eq_true rfl⟩ rfl rfl (Nat.le_of_ble_eq_true rfl) (Nat.le_of_ble_eq_true rfl) (Nat.le_of_ble_eq_true rfl) ?_
    rintro I32 L33 ⟨p0v31, p1v31, hI32, S34⟩
    try simp only [z_r0_0, z_r0_1, z_r0_2, z_r0_5, z_r0_6, z_r0_7, z_r0_8, z_r0_9, z_r0_10, z_r0_11, z_r0_12, z_r0_13, z_r0_0_0, z_r0_0_2, z_r0_0_0_0, z_r0_0_0_1, z_r0_1_6, z_r0_1_7, z_r0_1_8, z_r0_1_9, z_r0_1_10, z_rr30_0, z_rr30_1] at S34
    have e35 := Chg.k S34 T_r0_0 (by decide) (by decide) e25
    have e36 := Chg.k S34 T_r0 (by decide) (by decide) e26
    have e37 := Chg.k S34 T_r0_1 (by decide) (by decide) e28
    try simp only [z_r0_0, z_r0_1, z_r0_2, z_r0_5, z_r0_6, z_r0_7, z_r0_8, z_r0_9, z_r0_10, z_r0_11, z_r0_12, z_r0_13, z_r0_0_0, z_r0_0_2, z_r0_0_0_0, z_r0_0_0_1, z_r0_1_6, z_r0_1_7, z_r0_1_8, z_r0_1_9, z_r0_1_10, z_rr30_0, z_rr30_1] at p0v31
    try simp only [z_r0_0, z_r0_1, z_r0_2, z_r0_5, z_r0_6, z_r0_7, z_r0_8, z_r0_9, z_r0_10, z_r0_11, z_r0_12, z_r0_13, z_r0_0_0, z_r0_0_2, z_r0_0_0_0, z_r0_0_0_1, z_r0_1_6, z_r0_1_7, z_r0_1_8, z_r0_1_9, z_r0_1_10, z_rr30_0, z_rr30_1] at p1v31
    try simp only [e25, e26, e28] at p0v31
    try have q0v31 := congrArg Int32.toInt p0v31
    try simp only [e25, e26, e28] at p1v31
    try have q1v31 := congrArg Int32.toInt p1v31
    have hcp := p0v31; have hcb := p1v31
    refine k_aload_n C rfl rfl rfl ?_
    refine g_R C rfl rfl rfl T_r0 rfl R_r0_1 ?_
    refine g_I C rfl rfl rfl T_r0_1 rfl e37 ?_
    refine z_iconst C (z := 1) rfl rfl rfl (fun x38 ex38 => ?_)
    refine z_isub C rfl rfl ⟨by omega, by omega⟩ (fun x39 ex39 => ?_)
    exact k_iret C rfl (Or.inl rfl) (Nat.le_of_ble_eq_true rfl) (Nat.le_of_ble_eq_true rfl) (Or.inl ⟨_, _, _, rfl, rfl, by (try simp only [z_r0_0, z_r0_1, z_r0_2, z_r0_5, z_r0_6, z_r0_7, z_r0_8, z_r0_9, z_r0_10, z_r0_11, z_r0_12, z_r0_13, z_r0_0_0, z_r0_0_2, z_r0_0_0_0, z_r0_0_0_1, z_r0_1_6, z_r0_1_7, z_r0_1_8, z_r0_1_9, z_r0_1_10, z_rr30_0, z_rr30_1]); rw [e35]; omega, by (try simp only [z_r0_0, z_r0_1, z_r0_2, z_r0_5, z_r0_6, z_r0_7, z_r0_8, z_r0_9, z_r0_10, z_r0_11, z_r0_12, z_r0_13, z_r0_0_0, z_r0_0_2, z_r0_0_0_0, z_r0_0_0_1, z_r0_1_6, z_r0_1_7, z_r0_1_8, z_r0_1_9, z_r0_1_10, z_rr30_0, z_rr30_1]); simp only [k0_r0_1_3]; omega, by (try simp only [z_r0_0, z_r0_1, z_r0_2, z_r0_5, z_r0_6, z_r0_7, z_r0_8, z_r0_9, z_r0_10, z_r0_11, z_r0_12, z_r0_13, z_r0_0_0, z_r0_0_2, z_r0_0_0_0, z_r0_0_0_1, z_r0_1_6, z_r0_1_7, z_r0_1_8, z_r0_1_9, z_r0_1_10, z_rr30_0, z_rr30_1]); rw [e37]; simp only [k0_r0_1_3]; omega, by (try simp only [z_r0_0, z_r0_1, z_r0_2, z_r0_5, z_r0_6, z_r0_7, z_r0_8, z_r0_9, z_r0_10, z_r0_11, z_r0_12, z_r0_13, z_r0_0_0, z_r0_0_2, z_r0_0_0_0, z_r0_0_0_1, z_r0_1_6, z_r0_1_7, z_r0_1_8, z_r0_1_9, z_r0_1_10, z_rr30_0, z_rr30_1]); simp only [k0_r0_0_1, k0_r0_1_3]; rw [oN, hr0 (by omega), hcp, STL.fr z_r0_0_0_0 z_r0_0_0_1 (congrFun ((Chg.at hS38 (nm_1 (t_nq T_r0_0_0 T_r0_1 (by decide)))).trans (by rw [hq15, u2_r (t_nq T_r0_0_0 T_r0 (by decide))])) 2) ((Chg.at hS38 (nm_1 (t_nq T_r0_0_0_0 T_r0_1 (by decide)))).trans (by rw [hq15, u2_r (t_nq T_r0_0_0_0 T_r0 (by decide))])) ((Chg.at hS38 (nm_1 (t_nq T_r0_0_0_1 T_r0_1 (by decide)))).trans (by rw [hq15, u2_r (t_nq T_r0_0_0_1 T_r0 (by decide))]))], by (try simp only [z_r0_0, z_r0_1, z_r0_2, z_r0_5, z_r0_6, z_r0_7, z_r0_8, z_r0_9, z_r0_10, z_r0_11, z_r0_12, z_r0_13, z_r0_0_0, z_r0_0_2, z_r0_0_0_0, z_r0_0_0_1, z_r0_1_6, z_r0_1_7, z_r0_1_8, z_r0_1_9, z_r0_1_10, z_rr30_0, z_rr30_1]); simp only [k0_r0_1_3]; rw [oN]; exact hcb, hI32, (by (try simp only [z_r0_0, z_r0_1, z_r0_2, z_r0_5, z_r0_6, z_r0_7, z_r0_8, z_r0_9, z_r0_10, z_r0_11, z_r0_12, z_r0_13, z_r0_0_0, z_r0_0_2, z_r0_0_0_0, z_r0_0_0_1, z_r0_1_6, z_r0_1_7, z_r0_1_8, z_r0_1_9, z_r0_1_10, z_rr30_0, z_rr30_1]); exact (Chg.cons (Chg.up S4 (sl_1 (Or.inr (Or.inl rfl)))) (Chg.cons (Chg.up S11 (sl_4 (Or.inr (Or.inl rfl)) (Or.inr (Or.inr (Or.inl rfl))) (Or.inr (Or.inr (Or.inr (Or.inl rfl)))) (Or.inr (Or.inr (Or.inr (Or.inr (Or.inl rfl))))))) (Chg.cons (Chg.up S15 (sl_1 (Or.inl rfl))) (Chg.cons (Chg.up S24 (sl_1 (Or.inr (Or.inr (Or.inr (Or.inr (Or.inr (Or.inl rfl)))))))) (Chg.mono (Chg.up S34 (sl_3 (Or.inr (Or.inr (Or.inr (Or.inr (Or.inr (Or.inr (Or.inl (by rw [k0_r0_1_3, oN])))))))) (Or.inr (Or.inr (Or.inr (Or.inr (Or.inr (Or.inr (Or.inr (Or.inl (z_rr30_0.symm.trans (by rw [k0_r0_1_3, oN])))))))))) (Or.inr (Or.inr (Or.inr (Or.inr (Or.inr (Or.inr (Or.inr (Or.inr (z_rr30_1.symm.trans (by rw [k0_r0_1_3, oN])))))))))))) (by decide)) (by decide)) (by decide)) (by decide)) (by decide)))⟩)
  exact k_throw C rfl rfl rfl rfl rfl rfl (Nat.le_of_ble_eq_true rfl) (Nat.le_of_ble_eq_true rfl) (Nat.le_of_ble_eq_true rfl) (Or.inr ⟨_, _, _, (by decide : 0 ∈ [0, 2]), rfl, rfl, ⟨⟨hI14, (by (try simp only [z_r0_0, z_r0_1, z_r0_2, z_r0_5, z_r0_6, z_r0_7, z_r0_8, z_r0_9, z_r0_10, z_r0_11, z_r0_12, z_r0_13, z_r0_0_0, z_r0_0_2, z_r0_0_0_0, z_r0_0_0_1, z_r0_1_6, z_r0_1_7, z_r0_1_8, z_r0_1_9, z_r0_1_10]); exact (Chg.cons (Chg.up S4 (sl_1 (Or.inr (Or.inl rfl)))) (Chg.cons (Chg.up S11 (sl_4 (Or.inr (Or.inl rfl)) (Or.inr (Or.inr (Or.inl rfl))) (Or.inr (Or.inr (Or.inr (Or.inl rfl)))) (Or.inr (Or.inr (Or.inr (Or.inr (Or.inl rfl))))))) (Chg.mono (Chg.up S15 (sl_1 (Or.inl rfl))) (by decide)) (by decide)) (by decide)))⟩, (fun _ => by simp only [z_r0_0, z_r0_1, z_r0_2, z_r0_5, z_r0_6, z_r0_7, z_r0_8, z_r0_9, z_r0_10, z_r0_11, z_r0_12, z_r0_13, z_r0_0_0, z_r0_0_2, z_r0_0_0_0, z_r0_0_0_1, z_r0_1_6, z_r0_1_7, z_r0_1_8, z_r0_1_9, z_r0_1_10]; rw [e17]; omega), (fun _ => by simp only [z_r0_0, z_r0_1, z_r0_2, z_r0_5, z_r0_6, z_r0_7, z_r0_8, z_r0_9, z_r0_10, z_r0_11, z_r0_12, z_r0_13, z_r0_0_0, z_r0_0_2, z_r0_0_0_0, z_r0_0_0_1, z_r0_1_6, z_r0_1_7, z_r0_1_8, z_r0_1_9, z_r0_1_10, k0_r0_0_1]; exact hr1 (by omega)), (fun _ => by simp only [z_r0_0, z_r0_1, z_r0_2, z_r0_5, z_r0_6, z_r0_7, z_r0_8, z_r0_9, z_r0_10, z_r0_11, z_r0_12, z_r0_13, z_r0_0_0, z_r0_0_2, z_r0_0_0_0, z_r0_0_0_1, z_r0_1_6, z_r0_1_7, z_r0_1_8, z_r0_1_9, z_r0_1_10]; intro a ha; simp only [not_or] at ha; rw [hq15, u2_r ha.1, Chg.at hS12 (nm_4 ha.2.1 ha.2.2.1 ha.2.2.2.1 ha.2.2.2.2), Chg.at hS9 (nm_1 ha.2.1)]), (fun h9 => absurd h9 (by decide)), (fun h9 => absurd h9 (by decide)), (fun h9 => absurd h9 (by decide)), (fun h9 => absurd h9 (by decide))⟩⟩)

