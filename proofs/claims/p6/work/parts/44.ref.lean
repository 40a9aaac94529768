/-! the reference in any state: rows of values -/
theorem a_X12_firstOf {d : Nat} {T N : Nat → Nat} {I : IT} {L : LT} {R : RT} {A : Nat → Prop} {r0 : Nat} {n1 : Int32} (hI : IM R r0 I) (H_r0 : (h_MD T N R A) r0) (b0_n1 : 0 ≤ n1.toInt) (b1_n1 : n1.toInt ≤ 3444) : Ex (d + 1) 262 [.ref r0, .int n1] (T, N, I, L, R) 0 0 (pI T N R (fun x9 I9 L9 => (0 ≤ x9.toInt) ∧ (x9.toInt ≤ 492) ∧ (x9.toInt ≤ (I r0 24).toInt) ∧ (∀ a22, R r0 22 = some a22 → AZ I a22 n1.toNatClampNeg x9.toInt) ∧ (∀ a22, R r0 22 = some a22 → x9.toInt < (I r0 24).toInt → NE1 I a22 (n1.toNatClampNeg + x9.toNatClampNeg)) ∧ (I = I9 ∧ L = L9))) := by
  refine ⟨_, rfl, Nat.le_of_ble_eq_true rfl, fun V C S => ?_⟩
  show V 0 [(0, .ref r0), (1, .int n1)] [] (T, N, I, L, R) 0 0
  have gn1 := rg n1
  obtain ⟨T_r0, A_r0, ⟨r0_1, R_r0_1, H_r0_1⟩, ⟨r0_2, R_r0_2, H_r0_2⟩, ⟨r0_4, R_r0_4, H_r0_4⟩, ⟨r0_5, R_r0_5, H_r0_5⟩, ⟨r0_10, R_r0_10, H_r0_10⟩, ⟨r0_18, R_r0_18, H_r0_18⟩, ⟨r0_20, R_r0_20, H_r0_20⟩, ⟨r0_21, R_r0_21, H_r0_21⟩, ⟨r0_22, R_r0_22, H_r0_22⟩, ⟨r0_23, R_r0_23, H_r0_23⟩, ⟨r0_25, R_r0_25, H_r0_25⟩, ⟨r0_26, R_r0_26, H_r0_26⟩, ⟨r0_27, R_r0_27, H_r0_27⟩, ⟨r0_28, R_r0_28, H_r0_28⟩, ⟨r0_34, R_r0_34, H_r0_34⟩, J_r0, Y_r0⟩ := id H_r0
  have G_r0 : mF T R r0 := ⟨J_r0, Y_r0, T_r0⟩
  obtain ⟨w_r0_24, k0_r0_24⟩ : ∃ x, I r0 24 = x := ⟨_, rfl⟩
  have gw_r0_24 := rg w_r0_24
  have ow_r0_24 := IM.f24 hI k0_r0_24
  refine z_iconst C (z := 0) rfl rfl rfl (fun x1 ex1 => ?_)
  have J2 : ∀ (nn3 : Nat) (x4 : Int32), ((492 - x4.toInt).toNat = nn3) → (0 ≤ x4.toInt) → (x4.toInt ≤ 492) → (AZ I r0_22 n1.toNatClampNeg x4.toInt) → (x4.toInt ≤ w_r0_24.toInt) → V 2 [(0, .ref r0), (1, .int n1), (2, .int x4)] [] (T, N, I, L, R) 0 0 := by
    intro nn3
    induction nn3 using Nat.strongRecOn with
    | _ nn3 ihJ2 =>
      intro x4 hmnn3 b5 b6 ff2_0 ff2_1
      have gx4 := rg x4
      refine k_iload_n C rfl rfl rfl ?_
      refine k_aload_n C rfl rfl rfl ?_
      refine g_I C rfl rfl rfl T_r0 rfl k0_r0_24 ?_
      refine b_icmp_ge C (t := 27) rfl rfl rfl (fun c7 => ?_) (fun c7 => ?_)
      · skip
        refine k_iload_n C rfl rfl rfl ?_
        exact k_iret C rfl (Or.inl rfl) (Nat.le_of_ble_eq_true rfl) (Nat.le_of_ble_eq_true rfl) ⟨_, _, _, rfl, rfl, by omega, by omega, by first | omega | (simp only [k0_r0_24] <;> omega), fun a22 h22 => by cases (R_r0_22.symm.trans h22); exact ff2_0, fun a22 h22 => by cases (R_r0_22.symm.trans h22); first | (intro h; exfalso; simp only [k0_r0_24] at h; omega) | (intro _; show (I r0_22 _).toInt ≠ 0; rw [ee]; omega), rfl, rfl⟩
      refine k_aload_n C rfl rfl rfl ?_
      refine g_R C rfl rfl rfl T_r0 rfl R_r0_22 ?_
      refine k_iload_n C rfl rfl rfl ?_
      refine k_iload_n C rfl rfl rfl ?_
      refine z_iadd C rfl rfl ⟨by omega, by omega⟩ (fun x8 ex8 => ?_)
      obtain ⟨T_r0_22, N_r0_22, A_r0_22⟩ := id H_r0_22
      refine z_aI C rfl rfl T_r0_22 N_r0_22 (by omega) (by omega) (fun x9 ex9 => ?_)
      have gx9 := rg x9
      have ox9 := IM.rsR hI R_r0_22 ex9
      have jj : x8.toNatClampNeg = n1.toNatClampNeg + x4.toNatClampNeg := by (have h1 := ncz (x := n1) (by omega)); (have h2 := ncz (x := x4) (by omega)); (have hj := ncz (x := x8) (by omega)); omega
      have ee := ex9; rw [jj] at ee
      refine b_if_ne C (t := 27) rfl rfl rfl (fun c10 => ?_) (fun c10 => ?_)
      · skip
        refine k_iload_n C rfl rfl rfl ?_
        exact k_iret C rfl (Or.inl rfl) (Nat.le_of_ble_eq_true rfl) (Nat.le_of_ble_eq_true rfl) ⟨_, _, _, rfl, rfl, by omega, by omega, by first | omega | (simp only [k0_r0_24, ex9] <;> omega), fun a22 h22 => by cases (R_r0_22.symm.trans h22); exact ff2_0, fun a22 h22 => by cases (R_r0_22.symm.trans h22); first | (intro h; exfalso; simp only [k0_r0_24] at h; omega) | (intro _; show (I r0_22 _).toInt ≠ 0; rw [ee]; omega), rfl, rfl⟩
      refine z_iinc C (z := 1) (lw := fun x11 => [(2, .int x11), (0, .ref r0), (1, .int n1)]) rfl rfl rfl (Nat.le_of_ble_eq_true rfl) rfl ⟨by omega, by omega⟩ (fun _ => rfl) (fun x11 ex11 => ?_)
      show V 24 [(2, .int x11), (0, .ref r0), (1, .int n1)] _ _ _ _
      refine k_goto C (pc2 := 2) rfl rfl ?_
      refine k_sub S [(0, .ref r0), (1, .int n1), (2, .int x11)] (List.forall_mem_cons.mpr ⟨List.mem_of_getElem? (i := 1) rfl, List.forall_mem_cons.mpr ⟨List.mem_of_getElem? (i := 2) rfl, List.forall_mem_cons.mpr ⟨List.mem_of_getElem? (i := 0) rfl, fun _ h => nomatch h⟩⟩⟩) ?_
      exact ihJ2 _ (by omega) x11 rfl (by omega) (by omega) (by exact AZ.s ff2_0 (by omega) (by rw [ee]; omega) (by omega)) (by omega)
  refine k_istore_n C (lw := [(2, .int x1), (0, .ref r0), (1, .int n1)]) rfl rfl (Nat.le_of_ble_eq_true rfl) rfl ?_
  refine k_sub S [(0, .ref r0), (1, .int n1), (2, .int x1)] (List.forall_mem_cons.mpr ⟨List.mem_of_getElem? (i := 1) rfl, List.forall_mem_cons.mpr ⟨List.mem_of_getElem? (i := 2) rfl, List.forall_mem_cons.mpr ⟨List.mem_of_getElem? (i := 0) rfl, fun _ h => nomatch h⟩⟩⟩) ?_
  exact J2 _ x1 rfl (by omega) (by omega) (by exact AZ.z (by omega)) (by omega)

theorem a_X12_isNew {d : Nat} {T N : Nat → Nat} {I : IT} {L : LT} {R : RT} {A : Nat → Prop} {r0 : Nat} {n1 n2 : Int32} (hI : IM R r0 I) (H_r0 : (h_MD T N R A) r0) (b0_n1 : 0 ≤ n1.toInt) (b1_n1 : n1.toInt ≤ 3444) (b0_n2 : 0 ≤ n2.toInt) (b1_n2 : n2.toInt ≤ 7) (hp0 : n1.toInt = 492 * n2.toInt) (hp1 : ∀ a22, R r0 22 = some a22 → RWS I a22 n2.toNatClampNeg (I r0 24).toInt) : Ex (d + 5) 263 [.ref r0, .int n1, .int n2] (T, N, I, L, R) 0 0 (pI T N R (fun x9 I9 L9 => (0 ≤ x9.toInt) ∧ (x9.toInt ≤ 1) ∧ (∀ a22, R r0 22 = some a22 → x9.toInt = 1 → RW1 I9 a22 n1.toNatClampNeg (I9 r0 24).toInt) ∧ (∀ a22, R r0 22 = some a22 → ∀ r : Nat, (r < n1.toNatClampNeg ∨ n1.toNatClampNeg + 492 ≤ r) → I9 a22 r = I a22 r) ∧ (IM R r0 I9 ∧ CM A R r0 [] [22] I L I9 L9))) := by
  refine ⟨_, rfl, Nat.le_of_ble_eq_true rfl, fun V C S => ?_⟩
  show V 0 [(0, .ref r0), (1, .int n1), (2, .int n2)] [] (T, N, I, L, R) 0 0
  have gn1 := rg n1
  have gn2 := rg n2
  obtain ⟨T_r0, A_r0, ⟨r0_1, R_r0_1, H_r0_1⟩, ⟨r0_2, R_r0_2, H_r0_2⟩, ⟨r0_4, R_r0_4, H_r0_4⟩, ⟨r0_5, R_r0_5, H_r0_5⟩, ⟨r0_10, R_r0_10, H_r0_10⟩, ⟨r0_18, R_r0_18, H_r0_18⟩, ⟨r0_20, R_r0_20, H_r0_20⟩, ⟨r0_21, R_r0_21, H_r0_21⟩, ⟨r0_22, R_r0_22, H_r0_22⟩, ⟨r0_23, R_r0_23, H_r0_23⟩, ⟨r0_25, R_r0_25, H_r0_25⟩, ⟨r0_26, R_r0_26, H_r0_26⟩, ⟨r0_27, R_r0_27, H_r0_27⟩, ⟨r0_28, R_r0_28, H_r0_28⟩, ⟨r0_34, R_r0_34, H_r0_34⟩, J_r0, Y_r0⟩ := id H_r0
  have G_r0 : mF T R r0 := ⟨J_r0, Y_r0, T_r0⟩
  obtain ⟨w_r0_24, k0_r0_24⟩ : ∃ x, I r0 24 = x := ⟨_, rfl⟩
  have gw_r0_24 := rg w_r0_24
  have ow_r0_24 := IM.f24 hI k0_r0_24
  have hp1 := hp1 r0_22 R_r0_22
  try simp only [k0_r0_24] at hp0
  try simp only [k0_r0_24] at hp1
  refine z_iconst C (z := 0) rfl rfl rfl (fun x1 ex1 => ?_)
  have J2 : ∀ (nn3 : Nat) (I4 : IT) (L5 : LT) (x6 : Int32), ((7 - x6.toInt).toNat = nn3) → (IM R r0 I4) → (CM A R r0 [] [22] I L I4 L5) → (∀ r : Nat, (r < n1.toNatClampNeg ∨ n1.toNatClampNeg + 492 ≤ r) → I4 r0_22 r = I r0_22 r) → (0 ≤ x6.toInt) → (x6.toInt ≤ 7) → (RWS I4 r0_22 n2.toNatClampNeg w_r0_24.toInt) → V 2 [(0, .ref r0), (1, .int n1), (2, .int n2), (3, .int x6)] [] (T, N, I4, L5, R) 0 0 := by
    intro nn3
    induction nn3 using Nat.strongRecOn with
    | _ nn3 ihJ2 =>
      intro I4 L5 x6 hmnn3 hI10 S9 F11 b7 b8 ff2_0
      have gx6 := rg x6
      have e12 := CM.k S9 (by decide) k0_r0_24
      refine k_iload_n C rfl rfl rfl ?_
      refine k_iload_n C rfl rfl rfl ?_
      refine b_icmp_ge C (t := 115) rfl rfl rfl (fun c13 => ?_) (fun c13 => ?_)
      · skip
        refine k_aload_n C rfl rfl rfl ?_
        refine k_iload_n C rfl rfl rfl ?_
        refine c_VI C (a_X12_firstOf hI10 H_r0 (by omega) (by omega)) rfl rfl rfl rfl rfl ⟨_, rfl, rfl, T_r0, Nat.le_of_ble_eq_true rfl⟩ rfl rfl (Nat.le_of_ble_eq_true rfl) (Nat.le_of_ble_eq_true rfl) (Nat.le_of_ble_eq_true rfl) ?_
        rintro x14 _ _ ⟨o0x14, o1x14, p0x14, p1x14, p2x14, rfl, rfl⟩
        have p1x14 := p1x14 r0_22 R_r0_22
        have p2x14 := p2x14 r0_22 R_r0_22
        have gx14 := rg x14
        try simp only [e12] at p0x14
        try have q0x14 := congrArg Int32.toInt p0x14
        try simp only [e12] at p1x14
        try have q1x14 := congrArg Int32.toInt p1x14
        try simp only [e12] at p2x14
        try have q2x14 := congrArg Int32.toInt p2x14
        have hF := fun (z : x14.toInt < w_r0_24.toInt) => RW1.of (p2x14 z) (by omega) z
        refine k_aload_n C rfl rfl rfl ?_
        refine g_I C rfl rfl rfl T_r0 rfl e12 ?_
        refine b_icmp_ge C (t := 131) rfl rfl rfl (fun c15 => ?_) (fun c15 => ?_)
        · skip
          refine z_iconst C (z := 0) rfl rfl rfl (fun x16 ex16 => ?_)
          exact k_iret C rfl (Or.inr ⟨rfl, z01 (by omega) (by omega)⟩) (Nat.le_of_ble_eq_true rfl) (Nat.le_of_ble_eq_true rfl) ⟨_, _, _, rfl, rfl, by omega, by omega, fun a22 h22 => by cases (R_r0_22.symm.trans h22); first | (intro h; exfalso; omega) | (intro _; rw [e12]; exact hF (by omega)), fun a22 h22 => by cases (R_r0_22.symm.trans h22); exact (fun r z0 => (F11 r z0)), hI10, (CM.mono S9 (by decide) (by decide))⟩
        refine z_iconst C (z := 1) rfl rfl rfl (fun x17 ex17 => ?_)
        refine k_goto C (pc2 := 132) rfl rfl ?_
        exact k_iret C rfl (Or.inr ⟨rfl, z01 (by omega) (by omega)⟩) (Nat.le_of_ble_eq_true rfl) (Nat.le_of_ble_eq_true rfl) ⟨_, _, _, rfl, rfl, by omega, by omega, fun a22 h22 => by cases (R_r0_22.symm.trans h22); first | (intro h; exfalso; omega) | (intro _; rw [e12]; exact hF (by omega)), fun a22 h22 => by cases (R_r0_22.symm.trans h22); exact (fun r z0 => (F11 r z0)), hI10, (CM.mono S9 (by decide) (by decide))⟩
      refine k_aload_n C rfl rfl rfl ?_
      refine z_sipush C (z := 492) rfl rfl rfl (fun x18 ex18 => ?_)
      refine k_iload_n C rfl rfl rfl ?_
      refine z_imulL C (c := 492) rfl rfl (by omega) ⟨by omega, by omega⟩ (fun x19 ex19 => ?_)
      refine c_VI C (a_X12_firstOf hI10 H_r0 (by omega) (by omega)) rfl rfl rfl rfl rfl ⟨_, rfl, rfl, T_r0, Nat.le_of_ble_eq_true rfl⟩ rfl rfl (Nat.le_of_ble_eq_true rfl) (Nat.le_of_ble_eq_true rfl) (Nat.le_of_ble_eq_true rfl) ?_
      rintro x20 _ _ ⟨o0x20, o1x20, p0x20, p1x20, p2x20, rfl, rfl⟩
      have p1x20 := p1x20 r0_22 R_r0_22
      have p2x20 := p2x20 r0_22 R_r0_22
      have gx20 := rg x20
      try simp only [e12] at p0x20
      try have q0x20 := congrArg Int32.toInt p0x20
      try simp only [e12] at p1x20
      try have q1x20 := congrArg Int32.toInt p1x20
      try simp only [e12] at p2x20
      try have q2x20 := congrArg Int32.toInt p2x20
      have hlt := RWS.lt (r := x6) ff2_0 p1x20 (by omega) (by omega) (by omega)
      refine k_istore C (lw := [(4, .int x20), (0, .ref r0), (1, .int n1), (2, .int n2), (3, .int x6)]) rfl rfl (Nat.le_of_ble_eq_true rfl) rfl ?_
      refine k_aload_n C rfl rfl rfl ?_
      refine k_aload_n C rfl rfl rfl ?_
      refine g_R C rfl rfl rfl T_r0 rfl R_r0_22 ?_
      refine k_iload_n C rfl rfl rfl ?_
      refine k_iload C rfl rfl rfl ?_
      refine z_iadd C rfl rfl ⟨by omega, by omega⟩ (fun x21 ex21 => ?_)
      obtain ⟨T_r0_22, N_r0_22, A_r0_22⟩ := id H_r0_22
      refine z_aI C rfl rfl T_r0_22 N_r0_22 (by omega) (by omega) (fun x22 ex22 => ?_)
      have gx22 := rg x22
      have ox22 := IM.rsR hI10 R_r0_22 ex22
      refine k_aload_n C rfl rfl rfl ?_
      refine k_aload_n C rfl rfl rfl ?_
      refine g_R C rfl rfl rfl T_r0 rfl R_r0_22 ?_
      refine z_sipush C (z := 492) rfl rfl rfl (fun x23 ex23 => ?_)
      refine k_iload_n C rfl rfl rfl ?_
      refine z_imulL C (c := 492) rfl rfl (by omega) ⟨by omega, by omega⟩ (fun x24 ex24 => ?_)
      refine k_iload C rfl rfl rfl ?_
      refine z_iadd C rfl rfl ⟨by omega, by omega⟩ (fun x25 ex25 => ?_)
      refine z_aI C rfl rfl T_r0_22 N_r0_22 (by omega) (by omega) (fun x26 ex26 => ?_)
      have gx26 := rg x26
      have ox26 := IM.rsR hI10 R_r0_22 ex26
      obtain ⟨x27, e28⟩ : ∃ x, I4 r0_1 0 = x := ⟨_, rfl⟩
      have gx27 := rg x27
      have ox27 := IM.pi hI10 R_r0_1 e28
      refine c_VI C (a_X12_inverse hI10 H_r0 (by omega) (by omega)) rfl rfl rfl rfl rfl ⟨_, rfl, rfl, T_r0, Nat.le_of_ble_eq_true rfl⟩ rfl rfl (Nat.le_of_ble_eq_true rfl) (Nat.le_of_ble_eq_true rfl) (Nat.le_of_ble_eq_true rfl) ?_
      rintro x29 _ _ ⟨o0x29, o1x29, p0x29, rfl, rfl⟩
      have p0x29 := p0x29 r0_1 R_r0_1
      have gx29 := rg x29
      try simp only [e12, ex22, ex26, e28] at p0x29
      try have q0x29 := congrArg Int32.toInt p0x29
      refine c_VI C (a_X12_times hI10 H_r0 (by omega) (by omega) (by omega) (by omega)) rfl rfl rfl rfl rfl ⟨_, rfl, rfl, T_r0, Nat.le_of_ble_eq_true rfl⟩ rfl rfl (Nat.le_of_ble_eq_true rfl) (Nat.le_of_ble_eq_true rfl) (Nat.le_of_ble_eq_true rfl) ?_
      rintro x30 _ _ ⟨o0x30, o1x30, p0x30, p1x30, p2x30, p3x30, rfl, rfl⟩
      have p0x30 := p0x30 r0_1 R_r0_1
      have p2x30 := p2x30 r0_1 R_r0_1
      have p3x30 := p3x30 r0_1 R_r0_1
      have gx30 := rg x30
      try simp only [e12, ex22, ex26, e28] at p0x30
      try have q0x30 := congrArg Int32.toInt p0x30
      try simp only [e12, ex22, ex26, e28] at p1x30
      try have q1x30 := congrArg Int32.toInt p1x30
      try simp only [e12, ex22, ex26, e28] at p2x30
      try have q2x30 := congrArg Int32.toInt p2x30
      try simp only [e12, ex22, ex26, e28] at p3x30
      try have q3x30 := congrArg Int32.toInt p3x30
      refine k_istore C (lw := [(5, .int x30), (4, .int x20), (0, .ref r0), (1, .int n1), (2, .int n2), (3, .int x6)]) rfl rfl (Nat.le_of_ble_eq_true rfl) rfl ?_
      refine z_iconst C (z := 0) rfl rfl rfl (fun x31 ex31 => ?_)
      have J32 : ∀ (nn33 : Nat) (I34 : IT) (L35 : LT) (x36 : Int32), ((492 - x36.toInt).toNat = nn33) → (IM R r0 I34) → (CM A R r0 [] [22] I4 L5 I34 L35) → (∀ r : Nat, (r < n1.toNatClampNeg ∨ n1.toNatClampNeg + 492 ≤ r) → I34 r0_22 r = I4 r0_22 r) → (0 ≤ x36.toInt) → (x36.toInt ≤ 492) → (RWS I34 r0_22 n2.toNatClampNeg w_r0_24.toInt) → V 53 [(0, .ref r0), (1, .int n1), (2, .int n2), (3, .int x6), (5, .int x30), (6, .int x36)] [] (T, N, I34, L35, R) 0 0 := by
        intro nn33
        induction nn33 using Nat.strongRecOn with
        | _ nn33 ihJ32 =>
          intro I34 L35 x36 hmnn33 hI40 S39 F41 b37 b38 ff53_0
          have gx36 := rg x36
          have e42 := CM.k S39 (by decide) e12
          have e43 := CM.j S39 R_r0_1 (by decide) e28
          refine k_iload C rfl rfl rfl ?_
          refine k_aload_n C rfl rfl rfl ?_
          refine g_I C rfl rfl rfl T_r0 rfl e42 ?_
          refine b_icmp_ge C (t := 109) rfl rfl rfl (fun c44 => ?_) (fun c44 => ?_)
          · skip
            refine z_iinc C (z := 1) (lw := fun x45 => [(3, .int x45), (0, .ref r0), (1, .int n1), (2, .int n2), (5, .int x30), (6, .int x36)]) rfl rfl rfl (Nat.le_of_ble_eq_true rfl) rfl ⟨by omega, by omega⟩ (fun _ => rfl) (fun x45 ex45 => ?_)
            show V 112 [(3, .int x45), (0, .ref r0), (1, .int n1), (2, .int n2), (5, .int x30), (6, .int x36)] _ _ _ _
            refine k_goto C (pc2 := 2) rfl rfl ?_
            refine k_sub S [(0, .ref r0), (1, .int n1), (2, .int n2), (3, .int x45)] (List.forall_mem_cons.mpr ⟨List.mem_of_getElem? (i := 1) rfl, List.forall_mem_cons.mpr ⟨List.mem_of_getElem? (i := 2) rfl, List.forall_mem_cons.mpr ⟨List.mem_of_getElem? (i := 3) rfl, List.forall_mem_cons.mpr ⟨List.mem_of_getElem? (i := 0) rfl, fun _ h => nomatch h⟩⟩⟩⟩) ?_
            exact ihJ2 _ (by omega) I34 L35 x45 rfl hI40 (CM.cons S9 (CM.mono S39 (by decide) (by decide)) (by decide) (by decide)) (fun r z0 => ((F41 r z0).trans (F11 r z0))) (by omega) (by omega) (by exact ff53_0)
          refine k_aload_n C rfl rfl rfl ?_
          refine g_R C rfl rfl rfl T_r0 rfl R_r0_22 ?_
          refine k_iload_n C rfl rfl rfl ?_
          refine k_iload C rfl rfl rfl ?_
          refine z_iadd C rfl rfl ⟨by omega, by omega⟩ (fun x46 ex46 => ?_)
          refine k_aload_n C rfl rfl rfl ?_
          refine k_aload_n C rfl rfl rfl ?_
          refine g_R C rfl rfl rfl T_r0 rfl R_r0_22 ?_
          refine k_iload_n C rfl rfl rfl ?_
          refine k_iload C rfl rfl rfl ?_
          refine z_iadd C rfl rfl ⟨by omega, by omega⟩ (fun x47 ex47 => ?_)
          refine z_aI C rfl rfl T_r0_22 N_r0_22 (by omega) (by omega) (fun x48 ex48 => ?_)
          have gx48 := rg x48
          have ox48 := IM.rsR hI40 R_r0_22 ex48
          refine k_aload_n C rfl rfl rfl ?_
          refine k_iload C rfl rfl rfl ?_
          refine k_aload_n C rfl rfl rfl ?_
          refine g_R C rfl rfl rfl T_r0 rfl R_r0_22 ?_
          refine z_sipush C (z := 492) rfl rfl rfl (fun x49 ex49 => ?_)
          refine k_iload_n C rfl rfl rfl ?_
          refine z_imulL C (c := 492) rfl rfl (by omega) ⟨by omega, by omega⟩ (fun x50 ex50 => ?_)
          refine k_iload C rfl rfl rfl ?_
          refine z_iadd C rfl rfl ⟨by omega, by omega⟩ (fun x51 ex51 => ?_)
          refine z_aI C rfl rfl T_r0_22 N_r0_22 (by omega) (by omega) (fun x52 ex52 => ?_)
          have gx52 := rg x52
          have ox52 := IM.rsR hI40 R_r0_22 ex52
          refine c_VI C (a_X12_times hI40 H_r0 (by omega) (by omega) (by omega) (by omega)) rfl rfl rfl rfl rfl ⟨_, rfl, rfl, T_r0, Nat.le_of_ble_eq_true rfl⟩ rfl rfl (Nat.le_of_ble_eq_true rfl) (Nat.le_of_ble_eq_true rfl) (Nat.le_of_ble_eq_true rfl) ?_
          rintro x53 _ _ ⟨o0x53, o1x53, p0x53, p1x53, p2x53, p3x53, rfl, rfl⟩
          have p0x53 := p0x53 r0_1 R_r0_1
          have p2x53 := p2x53 r0_1 R_r0_1
          have p3x53 := p3x53 r0_1 R_r0_1
          have gx53 := rg x53
          try simp only [e42, e43, ex48, ex52] at p0x53
          try have q0x53 := congrArg Int32.toInt p0x53
          try simp only [e42, e43, ex48, ex52] at p1x53
          try have q1x53 := congrArg Int32.toInt p1x53
          try simp only [e42, e43, ex48, ex52] at p2x53
          try have q2x53 := congrArg Int32.toInt p2x53
          try simp only [e42, e43, ex48, ex52] at p3x53
          try have q3x53 := congrArg Int32.toInt p3x53
          refine c_VI C (a_X12_less hI40 H_r0 (by omega) (by omega) (by omega) (by omega)) rfl rfl rfl rfl rfl ⟨_, rfl, rfl, T_r0, Nat.le_of_ble_eq_true rfl⟩ rfl rfl (Nat.le_of_ble_eq_true rfl) (Nat.le_of_ble_eq_true rfl) (Nat.le_of_ble_eq_true rfl) ?_
          rintro x54 _ _ ⟨o0x54, o1x54, p0x54, p1x54, p2x54, p3x54, rfl, rfl⟩
          have p0x54 := p0x54 r0_1 R_r0_1
          have p2x54 := p2x54 r0_1 R_r0_1
          have p3x54 := p3x54 r0_1 R_r0_1
          have gx54 := rg x54
          try simp only [e42, e43, ex48, ex52] at p0x54
          try have q0x54 := congrArg Int32.toInt p0x54
          try simp only [e42, e43, ex48, ex52] at p1x54
          try have q1x54 := congrArg Int32.toInt p1x54
          try simp only [e42, e43, ex48, ex52] at p2x54
          try have q2x54 := congrArg Int32.toInt p2x54
          try simp only [e42, e43, ex48, ex52] at p3x54
          try have q3x54 := congrArg Int32.toInt p3x54
          refine z_sI C rfl rfl T_r0_22 N_r0_22 (by omega) (by omega) (fun I55 uI55 => ?_)
          have hI55 : IM R r0 I55 := IM.arr hI40 G_r0 R_r0_22 ⟨(fun h => absurd h (by decide)), (fun h => absurd h (by decide)), (fun _ => ⟨by omega, by omega⟩)⟩ (fun h => absurd h (by decide)) uI55
          have S56 : CM A R r0 [] [22] I34 L35 I55 L35 := CM.a G_r0 R_r0_22 A_r0_22 uI55
          have F57 : ∀ r : Nat, (r < n1.toNatClampNeg ∨ n1.toNatClampNeg + 492 ≤ r) → I55 r0_22 r = I34 r0_22 r := fun r z0 => by rw [uI55]; exact u2_k (by have h1 := ncz (x := n1) (by omega); have h2 := ncz (x := x46) (by omega); omega)
          have e58 := u2_n uI55 (fun e => (mF.ne G_r0 R_r0_22) e.symm) e42
          have e59 := u2_n uI55 (mF.nq G_r0 R_r0_1 R_r0_22 (by decide)) e43
          have e62 := u2_e uI55
          refine z_iinc C (z := 1) (lw := fun x63 => [(6, .int x63), (0, .ref r0), (1, .int n1), (2, .int n2), (3, .int x6), (5, .int x30)]) rfl rfl rfl (Nat.le_of_ble_eq_true rfl) rfl ⟨by omega, by omega⟩ (fun _ => rfl) (fun x63 ex63 => ?_)
          show V 106 [(6, .int x63), (0, .ref r0), (1, .int n1), (2, .int n2), (3, .int x6), (5, .int x30)] _ _ _ _
          refine k_goto C (pc2 := 53) rfl rfl ?_
          refine k_sub S [(0, .ref r0), (1, .int n1), (2, .int n2), (3, .int x6), (5, .int x30), (6, .int x63)] (List.forall_mem_cons.mpr ⟨List.mem_of_getElem? (i := 1) rfl, List.forall_mem_cons.mpr ⟨List.mem_of_getElem? (i := 2) rfl, List.forall_mem_cons.mpr ⟨List.mem_of_getElem? (i := 3) rfl, List.forall_mem_cons.mpr ⟨List.mem_of_getElem? (i := 4) rfl, List.forall_mem_cons.mpr ⟨List.mem_of_getElem? (i := 5) rfl, List.forall_mem_cons.mpr ⟨List.mem_of_getElem? (i := 0) rfl, fun _ h => nomatch h⟩⟩⟩⟩⟩⟩) ?_
          exact ihJ32 _ (by omega) I55 L35 x63 rfl hI55 (CM.cons S39 (CM.mono S56 (by decide) (by decide)) (by decide) (by decide)) (fun r z0 => ((F57 r z0).trans (F41 r z0))) (by omega) (by omega) (by exact RWS.fr ff53_0 (fun r z0 => (F57 r z0)) (by omega) (by omega) (by omega))
      refine k_istore C (lw := [(6, .int x31), (5, .int x30), (4, .int x20), (0, .ref r0), (1, .int n1), (2, .int n2), (3, .int x6)]) rfl rfl (Nat.le_of_ble_eq_true rfl) rfl ?_
      refine k_sub S [(0, .ref r0), (1, .int n1), (2, .int n2), (3, .int x6), (5, .int x30), (6, .int x31)] (List.forall_mem_cons.mpr ⟨List.mem_of_getElem? (i := 3) rfl, List.forall_mem_cons.mpr ⟨List.mem_of_getElem? (i := 4) rfl, List.forall_mem_cons.mpr ⟨List.mem_of_getElem? (i := 5) rfl, List.forall_mem_cons.mpr ⟨List.mem_of_getElem? (i := 6) rfl, List.forall_mem_cons.mpr ⟨List.mem_of_getElem? (i := 1) rfl, List.forall_mem_cons.mpr ⟨List.mem_of_getElem? (i := 0) rfl, fun _ h => nomatch h⟩⟩⟩⟩⟩⟩) ?_
      exact J32 _ I4 L5 x31 rfl hI10 CM.rf (fun r z0 => rfl) (by omega) (by omega) (by exact ff2_0)
  refine k_istore_n C (lw := [(3, .int x1), (0, .ref r0), (1, .int n1), (2, .int n2)]) rfl rfl (Nat.le_of_ble_eq_true rfl) rfl ?_
  refine k_sub S [(0, .ref r0), (1, .int n1), (2, .int n2), (3, .int x1)] (List.forall_mem_cons.mpr ⟨List.mem_of_getElem? (i := 1) rfl, List.forall_mem_cons.mpr ⟨List.mem_of_getElem? (i := 2) rfl, List.forall_mem_cons.mpr ⟨List.mem_of_getElem? (i := 3) rfl, List.forall_mem_cons.mpr ⟨List.mem_of_getElem? (i := 0) rfl, fun _ h => nomatch h⟩⟩⟩⟩) ?_
  exact J2 _ I L x1 rfl hI CM.rf (fun r z0 => rfl) (by omega) (by omega) (by exact hp1)

theorem a_X12_rowOf {d : Nat} {T N : Nat → Nat} {I : IT} {L : LT} {R : RT} {A : Nat → Prop} {r0 : Nat} {n1 n2 n3 n4 : Int32} (hI : IM R r0 I) (H_r0 : (h_MD T N R A) r0) (b0_n1 : 0 ≤ n1.toInt) (b1_n1 : n1.toInt ≤ 7) (b0_n2 : 1 ≤ n2.toInt) (b1_n2 : n2.toInt ≤ 8) (b0_n3 : 0 ≤ n3.toInt) (b1_n3 : n3.toInt ≤ 3444) (b0_n4 : -1 ≤ n4.toInt) (b1_n4 : n4.toInt ≤ 40) (hp0 : ∀ a1, R r0 1 = some a1 → n1.toInt < (I a1 3).toInt) : Ex (d + 9) 261 [.ref r0, .int n1, .int n2, .int n3, .int n4] (T, N, I, L, R) 0 0 (pI T N R (fun x9 I9 L9 => (0 ≤ x9.toInt) ∧ (x9.toInt ≤ 1) ∧ (∀ a4, R r0 4 = some a4 → x9.toInt = 1 → (I9 r0 24).toInt = 12 * ((I9 a4 0).toInt + 1) ∧ (n4.toInt = -1 ∨ (I9 a4 0).toInt = n4.toInt)) ∧ (∀ a22, R r0 22 = some a22 → ∀ r : Nat, (r < n3.toNatClampNeg ∨ n3.toNatClampNeg + 492 ≤ r) → I9 a22 r = I a22 r) ∧ (IM R r0 I9 ∧ CM A R r0 [24] [4, 5, 22] I L I9 L9))) := by
  refine ⟨_, rfl, Nat.le_of_ble_eq_true rfl, fun V C S => ?_⟩
  show V 0 [(0, .ref r0), (1, .int n1), (2, .int n2), (3, .int n3), (4, .int n4)] [] (T, N, I, L, R) 0 0
  have gn1 := rg n1
  have gn2 := rg n2
  have gn3 := rg n3
  have gn4 := rg n4
  obtain ⟨T_r0, A_r0, ⟨r0_1, R_r0_1, H_r0_1⟩, ⟨r0_2, R_r0_2, H_r0_2⟩, ⟨r0_4, R_r0_4, H_r0_4⟩, ⟨r0_5, R_r0_5, H_r0_5⟩, ⟨r0_10, R_r0_10, H_r0_10⟩, ⟨r0_18, R_r0_18, H_r0_18⟩, ⟨r0_20, R_r0_20, H_r0_20⟩, ⟨r0_21, R_r0_21, H_r0_21⟩, ⟨r0_22, R_r0_22, H_r0_22⟩, ⟨r0_23, R_r0_23, H_r0_23⟩, ⟨r0_25, R_r0_25, H_r0_25⟩, ⟨r0_26, R_r0_26, H_r0_26⟩, ⟨r0_27, R_r0_27, H_r0_27⟩, ⟨r0_28, R_r0_28, H_r0_28⟩, ⟨r0_34, R_r0_34, H_r0_34⟩, J_r0, Y_r0⟩ := id H_r0
  have G_r0 : mF T R r0 := ⟨J_r0, Y_r0, T_r0⟩
  obtain ⟨w_r0_1_3, k0_r0_1_3⟩ : ∃ x, I r0_1 3 = x := ⟨_, rfl⟩
  have gw_r0_1_3 := rg w_r0_1_3
  have ow_r0_1_3 := IM.c3 hI R_r0_1 k0_r0_1_3
  obtain ⟨w_r0_24, k0_r0_24⟩ : ∃ x, I r0 24 = x := ⟨_, rfl⟩
  have gw_r0_24 := rg w_r0_24
  have ow_r0_24 := IM.f24 hI k0_r0_24
  obtain ⟨w_r0_4_0, k0_r0_4_0⟩ : ∃ x, I r0_4 0 = x := ⟨_, rfl⟩
  have gw_r0_4_0 := rg w_r0_4_0
  have ow_r0_4_0 := IM.dgR hI R_r0_4 k0_r0_4_0
  have hp0 := hp0 r0_1 R_r0_1
  try simp only [k0_r0_1_3, k0_r0_24, k0_r0_4_0] at hp0
  refine z_iconst C (z := 0) rfl rfl rfl (fun x1 ex1 => ?_)
  have J2 : ∀ (nn3 : Nat) (I4 : IT) (L5 : LT) (x6 : Int32) (x12 : Int32) (x16 : Int32), ((12 - x6.toInt).toNat = nn3) → (IM R r0 I4) → (CM A R r0 [24] [4, 5, 22] I L I4 L5) → (∀ r : Nat, (r < n3.toNatClampNeg ∨ n3.toNatClampNeg + 492 ≤ r) → I4 r0_22 r = I r0_22 r) → (0 ≤ x6.toInt) → (x6.toInt ≤ 12) → (I4 r0 24 = x12) → (0 ≤ x12.toInt) → (x12.toInt ≤ 492) → (I4 r0_4 0 = x16) → (0 ≤ x16.toInt) → (x16.toInt ≤ 40) → (x6.toInt = 0 ∨ x12.toInt = 12 * (x16.toInt + 1) ∧ (n4.toInt = -1 ∨ x16.toInt = n4.toInt)) → V 3 [(0, .ref r0), (1, .int n1), (2, .int n2), (3, .int n3), (4, .int n4), (5, .int x6)] [] (T, N, I4, L5, R) 0 0 := by
    intro nn3
    induction nn3 using Nat.strongRecOn with
    | _ nn3 ihJ2 =>
      intro I4 L5 x6 x12 x16 hmnn3 hI10 S9 F11 b7 b8 e13 b14 b15 e17 b18 b19 ff3_0
      have gx6 := rg x6
      have gx12 := rg x12
      have gx16 := rg x16
      have e20 := CM.j S9 R_r0_1 (by decide) k0_r0_1_3
      refine k_iload C rfl rfl rfl ?_
      refine z_bipush C (z := 12) rfl rfl rfl (fun x21 ex21 => ?_)
      refine b_icmp_ge C (t := 151) rfl rfl rfl (fun c22 => ?_) (fun c22 => ?_)
      · skip
        refine z_iconst C (z := 1) rfl rfl rfl (fun x23 ex23 => ?_)
        exact k_iret C rfl (Or.inr ⟨rfl, z01 (by omega) (by omega)⟩) (Nat.le_of_ble_eq_true rfl) (Nat.le_of_ble_eq_true rfl) ⟨_, _, _, rfl, rfl, by omega, by omega, fun a4 h4 => by cases (R_r0_4.symm.trans h4); first | omega | (simp only [e20, e13, e17, k0_r0_1_3, k0_r0_24, k0_r0_4_0] <;> omega), fun a22 h22 => by cases (R_r0_22.symm.trans h22); exact (fun r z0 => (F11 r z0)), hI10, (CM.mono S9 (by decide) (by decide))⟩
      refine k_aload_n C rfl rfl rfl ?_
      refine g_R C rfl rfl rfl T_r0 rfl R_r0_4 ?_
      refine z_bipush C (z := 44) rfl rfl rfl (fun x24 ex24 => ?_)
      refine k_iload_n C rfl rfl rfl ?_
      obtain ⟨T_r0_4, N_r0_4, A_r0_4⟩ := id H_r0_4
      refine z_sI C rfl rfl T_r0_4 N_r0_4 (by omega) (by omega) (fun I25 uI25 => ?_)
      have uI25 : I25 = u2 I4 r0_4 44 (n2) := by rw [uI25, nck (n := 44) (by omega)]
      have hI25 : IM R r0 I25 := IM.arr hI10 G_r0 R_r0_4 ⟨(fun _ => ⟨by omega, by omega⟩), (fun h => absurd h (by decide)), (fun h => absurd h (by decide))⟩ (fun h => absurd h (by decide)) uI25
      have S26 : CM A R r0 [] [4] I4 L5 I25 L5 := CM.a G_r0 R_r0_4 A_r0_4 uI25
      have e27 := u2_n uI25 (mF.nq G_r0 R_r0_1 R_r0_4 (by decide)) e20
      have e28 := u2_n uI25 (fun e => (mF.ne G_r0 R_r0_4) e.symm) e13
      have e29 := u2_j uI25 (by first | decide | exact ncne (by omega) (by omega) (by omega) | exact nckn (by omega) (by omega) | exact (nckn (by omega) (by omega)).symm) e17
      have e30 := u2_e uI25
      refine z_iconst C (z := 0) rfl rfl rfl (fun x31 ex31 => ?_)
      have J32 : ∀ (nn33 : Nat) (I34 : IT) (L35 : LT) (x36 : Int32), ((9 - x36.toInt).toNat = nn33) → (IM R r0 I34) → (CM A R r0 [] [5] I25 L5 I34 L35) → (0 ≤ x36.toInt) → (x36.toInt ≤ 9) → V 21 [(0, .ref r0), (1, .int n1), (2, .int n2), (3, .int n3), (4, .int n4), (5, .int x6), (6, .int x36)] [] (T, N, I34, L35, R) 0 0 := by
        intro nn33
        induction nn33 using Nat.strongRecOn with
        | _ nn33 ihJ32 =>
          intro I34 L35 x36 hmnn33 hI40 S39 b37 b38
          have gx36 := rg x36
          have e41 := CM.j S39 R_r0_1 (by decide) e27
          have e42 := CM.k S39 (by decide) e28
          have e43 := CM.j S39 R_r0_4 (by decide) e29
          have e44 := CM.j S39 R_r0_4 (by decide) e30
          refine k_iload C rfl rfl rfl ?_
          refine k_iload_n C rfl rfl rfl ?_
          refine b_icmp_gt C (t := 55) rfl rfl rfl (fun c45 => ?_) (fun c45 => ?_)
          · skip
            refine k_aload_n C rfl rfl rfl ?_
            refine k_iload_n C rfl rfl rfl ?_
            refine c_VI C (a_X12_makes hI40 H_r0 (by omega) (by omega) (fun a1 h1 => by cases (R_r0_1.symm.trans h1); first | omega | (simp only [e41, e42, e43, e44] <;> omega))) rfl rfl rfl rfl rfl ⟨_, rfl, rfl, T_r0, Nat.le_of_ble_eq_true rfl⟩ rfl rfl (Nat.le_of_ble_eq_true rfl) (Nat.le_of_ble_eq_true rfl) (Nat.le_of_ble_eq_true rfl) ?_
            rintro x46 I47 L48 ⟨o0x46, o1x46, hI47, S49⟩
            have e50 := CM.j S49 R_r0_1 (by decide) e41
            have e51 := CM.k S49 (by decide) e42
            have gx46 := rg x46
            refine b_if_eq C (t := 80) rfl rfl rfl (fun c54 => ?_) (fun c54 => ?_)
            · skip
              refine z_iconst C (z := 0) rfl rfl rfl (fun x55 ex55 => ?_)
              exact k_iret C rfl (Or.inr ⟨rfl, z01 (by omega) (by omega)⟩) (Nat.le_of_ble_eq_true rfl) (Nat.le_of_ble_eq_true rfl) ⟨_, _, _, rfl, rfl, by omega, by omega, fun a4 h4 => by cases (R_r0_4.symm.trans h4); first | omega | (simp only [e50, e51, k0_r0_1_3, k0_r0_24, k0_r0_4_0] <;> omega), fun a22 h22 => by cases (R_r0_22.symm.trans h22); exact (fun r z0 => ((congrFun (CM.j0 S49 R_r0_22 (by decide)) r).trans ((congrFun (CM.j0 S39 R_r0_22 (by decide)) r).trans ((congrFun (CM.j0 S26 R_r0_22 (by decide)) r).trans (F11 r z0))))), hI47, (CM.cons S9 (CM.cons S26 (CM.cons S39 (CM.mono S49 (by decide) (by decide)) (by decide) (by decide)) (by decide) (by decide)) (by decide) (by decide))⟩
            refine k_iload C rfl rfl rfl ?_
            refine z_iconst C (z := -1) rfl rfl rfl (fun x56 ex56 => ?_)
            refine b_icmp_eq C (t := 82) rfl rfl rfl (fun c57 => ?_) (fun c57 => ?_)
            · skip
              refine k_aload_n C rfl rfl rfl ?_
              refine z_bipush C (z := 12) rfl rfl rfl (fun x58 ex58 => ?_)
              refine k_aload_n C rfl rfl rfl ?_
              refine g_R C rfl rfl rfl T_r0 rfl R_r0_4 ?_
              refine z_iconst C (z := 0) rfl rfl rfl (fun x59 ex59 => ?_)
              refine z_aI C rfl rfl T_r0_4 N_r0_4 (by omega) (by omega) (fun x60 ex60 => ?_)
              have gx60 := rg x60
              have nx60 : I47 r0_4 0 = x60 := (congrArg (I47 r0_4) (nck (n := 0) (by omega))).symm.trans ex60
              have ox60 := IM.dgR hI47 R_r0_4 nx60
              refine z_iconst C (z := 1) rfl rfl rfl (fun x61 ex61 => ?_)
              refine z_iadd C rfl rfl ⟨by omega, by omega⟩ (fun x62 ex62 => ?_)
              refine z_imulL C (c := 12) rfl rfl (by omega) ⟨by omega, by omega⟩ (fun x63 ex63 => ?_)
              refine z_pI C rfl rfl rfl T_r0 (Or.inr rfl) rfl (fun I64 uI64 => ?_)
              have hI64 : IM R r0 I64 := IM.fld hI47 G_r0 ⟨(fun h => absurd h (by decide)), (fun h => absurd h (by decide)), (fun h => absurd h (by decide)), (fun _ => ⟨by omega, by omega⟩), (fun h => absurd h (by decide))⟩ uI64
              have S65 : CM A R r0 [24] [] I47 L48 I64 L48 := CM.f G_r0 A_r0 uI64
              have e66 := u2_n uI64 (mF.ne G_r0 R_r0_1) e50
              have e68 := u2_n uI64 (mF.ne G_r0 R_r0_4) nx60
              have e69 := u2_e uI64
              refine z_iconst C (z := 0) rfl rfl rfl (fun x70 ex70 => ?_)
              have J71 : ∀ (nn72 : Nat) (I73 : IT) (L74 : LT) (x75 : Int32), ((41 - x75.toInt).toNat = nn72) → (IM R r0 I73) → (CM A R r0 [] [22] I64 L48 I73 L74) → (∀ r : Nat, (r < n3.toNatClampNeg ∨ n3.toNatClampNeg + 492 ≤ r) → I73 r0_22 r = I64 r0_22 r) → (0 ≤ x75.toInt) → (x75.toInt ≤ 41) → V 100 [(0, .ref r0), (1, .int n1), (2, .int n2), (3, .int n3), (4, .int n4), (5, .int x6), (6, .int x75)] [] (T, N, I73, L74, R) 0 0 := by
                intro nn72
                induction nn72 using Nat.strongRecOn with
                | _ nn72 ihJ71 =>
                  intro I73 L74 x75 hmnn72 hI79 S78 F80 b76 b77
                  have gx75 := rg x75
                  have e81 := CM.j S78 R_r0_1 (by decide) e66
                  have e82 := CM.j S78 R_r0_4 (by decide) e68
                  have e83 := CM.k S78 (by decide) e69
                  refine k_iload C rfl rfl rfl ?_
                  refine k_aload_n C rfl rfl rfl ?_
                  refine g_R C rfl rfl rfl T_r0 rfl R_r0_4 ?_
                  refine z_iconst C (z := 0) rfl rfl rfl (fun x84 ex84 => ?_)
                  refine a_I C rfl rfl T_r0_4 (by rw [N_r0_4]; exact vpi (by omega) (by omega)) ((congrArg (I73 r0_4) (nck (n := 0) (by omega))).trans e82) ?_
                  refine b_icmp_gt C (t := 145) rfl rfl rfl (fun c85 => ?_) (fun c85 => ?_)
                  · skip
                    refine z_iinc C (z := 1) (lw := fun x86 => [(5, .int x86), (0, .ref r0), (1, .int n1), (2, .int n2), (3, .int n3), (4, .int n4), (6, .int x75)]) rfl rfl rfl (Nat.le_of_ble_eq_true rfl) rfl ⟨by omega, by omega⟩ (fun _ => rfl) (fun x86 ex86 => ?_)
                    show V 148 [(5, .int x86), (0, .ref r0), (1, .int n1), (2, .int n2), (3, .int n3), (4, .int n4), (6, .int x75)] _ _ _ _
                    refine k_goto C (pc2 := 3) rfl rfl ?_
                    refine k_sub S [(0, .ref r0), (1, .int n1), (2, .int n2), (3, .int n3), (4, .int n4), (5, .int x86)] (List.forall_mem_cons.mpr ⟨List.mem_of_getElem? (i := 1) rfl, List.forall_mem_cons.mpr ⟨List.mem_of_getElem? (i := 2) rfl, List.forall_mem_cons.mpr ⟨List.mem_of_getElem? (i := 3) rfl, List.forall_mem_cons.mpr ⟨List.mem_of_getElem? (i := 4) rfl, List.forall_mem_cons.mpr ⟨List.mem_of_getElem? (i := 5) rfl, List.forall_mem_cons.mpr ⟨List.mem_of_getElem? (i := 0) rfl, fun _ h => nomatch h⟩⟩⟩⟩⟩⟩) ?_
                    exact ihJ2 _ (by omega) I73 L74 x86 x63 x60 rfl hI79 (CM.cons S9 (CM.cons S26 (CM.cons S39 (CM.cons S49 (CM.cons S65 (CM.mono S78 (by decide) (by decide)) (by decide) (by decide)) (by decide) (by decide)) (by decide) (by decide)) (by decide) (by decide)) (by decide) (by decide)) (fun r z0 => ((F80 r z0).trans ((congrFun (CM.j0 S65 R_r0_22 (by decide)) r).trans ((congrFun (CM.j0 S49 R_r0_22 (by decide)) r).trans ((congrFun (CM.j0 S39 R_r0_22 (by decide)) r).trans ((congrFun (CM.j0 S26 R_r0_22 (by decide)) r).trans (F11 r z0))))))) (by omega) (by omega) e83 (by omega) (by omega) e82 (by omega) (by omega) (by omega)
                  refine k_aload_n C rfl rfl rfl ?_
                  refine g_R C rfl rfl rfl T_r0 rfl R_r0_22 ?_
                  refine k_iload_n C rfl rfl rfl ?_
                  refine k_iload C rfl rfl rfl ?_
                  refine k_aload_n C rfl rfl rfl ?_
                  refine g_R C rfl rfl rfl T_r0 rfl R_r0_4 ?_
                  refine z_iconst C (z := 0) rfl rfl rfl (fun x87 ex87 => ?_)
                  refine a_I C rfl rfl T_r0_4 (by rw [N_r0_4]; exact vpi (by omega) (by omega)) ((congrArg (I73 r0_4) (nck (n := 0) (by omega))).trans e82) ?_
                  refine z_iconst C (z := 1) rfl rfl rfl (fun x88 ex88 => ?_)
                  refine z_iadd C rfl rfl ⟨by omega, by omega⟩ (fun x89 ex89 => ?_)
                  refine z_imulI C (a := 11) (b := 41) (c := 451) rfl rfl ⟨by omega, by omega⟩ ⟨by omega, by omega⟩ (by decide) (by decide) (fun x90 ex90 => ?_)
                  refine z_iadd C rfl rfl ⟨by omega, by omega⟩ (fun x91 ex91 => ?_)
                  refine k_iload C rfl rfl rfl ?_
                  refine z_iadd C rfl rfl ⟨by omega, by omega⟩ (fun x92 ex92 => ?_)
                  refine k_aload_n C rfl rfl rfl ?_
                  refine z_iconst C (z := 0) rfl rfl rfl (fun x93 ex93 => ?_)
                  refine k_iload C rfl rfl rfl ?_
                  have q94 : x93.toNatClampNeg = 0 := nck (by omega)
                  refine c_VI C (a_X12_of hI79 H_r0 (by omega) (by omega) (by omega) (by omega)) rfl rfl rfl rfl rfl ⟨_, rfl, rfl, T_r0, Nat.le_of_ble_eq_true rfl⟩ rfl rfl (Nat.le_of_ble_eq_true rfl) (Nat.le_of_ble_eq_true rfl) (Nat.le_of_ble_eq_true rfl) ?_
                  rintro x95 _ _ ⟨o0x95, o1x95, p0x95, rfl, rfl⟩
                  have p0x95 := p0x95 r0_5 R_r0_5
                  have gx95 := rg x95
                  try simp only [q94, e81, e82, e83] at p0x95
                  try have q0x95 := congrArg Int32.toInt p0x95
                  obtain ⟨T_r0_22, N_r0_22, A_r0_22⟩ := id H_r0_22
                  refine z_sI C rfl rfl T_r0_22 N_r0_22 (by omega) (by omega) (fun I96 uI96 => ?_)
                  have hI96 : IM R r0 I96 := IM.arr hI79 G_r0 R_r0_22 ⟨(fun h => absurd h (by decide)), (fun h => absurd h (by decide)), (fun _ => ⟨by omega, by omega⟩)⟩ (fun h => absurd h (by decide)) uI96
                  have S97 : CM A R r0 [] [22] I73 L74 I96 L74 := CM.a G_r0 R_r0_22 A_r0_22 uI96
                  have F98 : ∀ r : Nat, (r < n3.toNatClampNeg ∨ n3.toNatClampNeg + 492 ≤ r) → I96 r0_22 r = I73 r0_22 r := fun r z0 => by rw [uI96]; exact u2_k (by have h1 := ncz (x := n3) (by omega); have h2 := ncz (x := x92) (by omega); omega)
                  have e99 := u2_n uI96 (mF.nq G_r0 R_r0_1 R_r0_22 (by decide)) e81
                  have e100 := u2_n uI96 (mF.nq G_r0 R_r0_4 R_r0_22 (by decide)) e82
                  have e101 := u2_n uI96 (fun e => (mF.ne G_r0 R_r0_22) e.symm) e83
                  have e102 := u2_e uI96
                  refine z_iinc C (z := 1) (lw := fun x103 => [(6, .int x103), (0, .ref r0), (1, .int n1), (2, .int n2), (3, .int n3), (4, .int n4), (5, .int x6)]) rfl rfl rfl (Nat.le_of_ble_eq_true rfl) rfl ⟨by omega, by omega⟩ (fun _ => rfl) (fun x103 ex103 => ?_)
                  show V 142 [(6, .int x103), (0, .ref r0), (1, .int n1), (2, .int n2), (3, .int n3), (4, .int n4), (5, .int x6)] _ _ _ _
                  refine k_goto C (pc2 := 100) rfl rfl ?_
                  refine k_sub S [(0, .ref r0), (1, .int n1), (2, .int n2), (3, .int n3), (4, .int n4), (5, .int x6), (6, .int x103)] (List.forall_mem_cons.mpr ⟨List.mem_of_getElem? (i := 1) rfl, List.forall_mem_cons.mpr ⟨List.mem_of_getElem? (i := 2) rfl, List.forall_mem_cons.mpr ⟨List.mem_of_getElem? (i := 3) rfl, List.forall_mem_cons.mpr ⟨List.mem_of_getElem? (i := 4) rfl, List.forall_mem_cons.mpr ⟨List.mem_of_getElem? (i := 5) rfl, List.forall_mem_cons.mpr ⟨List.mem_of_getElem? (i := 6) rfl, List.forall_mem_cons.mpr ⟨List.mem_of_getElem? (i := 0) rfl, fun _ h => nomatch h⟩⟩⟩⟩⟩⟩⟩) ?_
                  exact ihJ71 _ (by omega) I96 L74 x103 rfl hI96 (CM.cons S78 (CM.mono S97 (by decide) (by decide)) (by decide) (by decide)) (fun r z0 => ((F98 r z0).trans (F80 r z0))) (by omega) (by omega)
              refine k_istore C (lw := [(6, .int x70), (0, .ref r0), (1, .int n1), (2, .int n2), (3, .int n3), (4, .int n4), (5, .int x6)]) rfl rfl (Nat.le_of_ble_eq_true rfl) rfl ?_
              refine k_sub S [(0, .ref r0), (1, .int n1), (2, .int n2), (3, .int n3), (4, .int n4), (5, .int x6), (6, .int x70)] (List.forall_mem_cons.mpr ⟨List.mem_of_getElem? (i := 1) rfl, List.forall_mem_cons.mpr ⟨List.mem_of_getElem? (i := 2) rfl, List.forall_mem_cons.mpr ⟨List.mem_of_getElem? (i := 3) rfl, List.forall_mem_cons.mpr ⟨List.mem_of_getElem? (i := 4) rfl, List.forall_mem_cons.mpr ⟨List.mem_of_getElem? (i := 5) rfl, List.forall_mem_cons.mpr ⟨List.mem_of_getElem? (i := 6) rfl, List.forall_mem_cons.mpr ⟨List.mem_of_getElem? (i := 0) rfl, fun _ h => nomatch h⟩⟩⟩⟩⟩⟩⟩) ?_
              exact J71 _ I64 L48 x70 rfl hI64 CM.rf (fun r z0 => rfl) (by omega) (by omega)
            refine k_aload_n C rfl rfl rfl ?_
            refine g_R C rfl rfl rfl T_r0 rfl R_r0_4 ?_
            refine z_iconst C (z := 0) rfl rfl rfl (fun x104 ex104 => ?_)
            refine z_aI C rfl rfl T_r0_4 N_r0_4 (by omega) (by omega) (fun x105 ex105 => ?_)
            have gx105 := rg x105
            have nx105 : I47 r0_4 0 = x105 := (congrArg (I47 r0_4) (nck (n := 0) (by omega))).symm.trans ex105
            have ox105 := IM.dgR hI47 R_r0_4 nx105
            refine k_iload C rfl rfl rfl ?_
            refine b_icmp_eq C (t := 82) rfl rfl rfl (fun c106 => ?_) (fun c106 => ?_)
            · skip
              refine k_aload_n C rfl rfl rfl ?_
              refine z_bipush C (z := 12) rfl rfl rfl (fun x107 ex107 => ?_)
              refine k_aload_n C rfl rfl rfl ?_
              refine g_R C rfl rfl rfl T_r0 rfl R_r0_4 ?_
              refine z_iconst C (z := 0) rfl rfl rfl (fun x108 ex108 => ?_)
              refine a_I C rfl rfl T_r0_4 (by rw [N_r0_4]; exact vpi (by omega) (by omega)) ((congrArg (I47 r0_4) (nck (n := 0) (by omega))).trans nx105) ?_
              refine z_iconst C (z := 1) rfl rfl rfl (fun x109 ex109 => ?_)
              refine z_iadd C rfl rfl ⟨by omega, by omega⟩ (fun x110 ex110 => ?_)
              refine z_imulL C (c := 12) rfl rfl (by omega) ⟨by omega, by omega⟩ (fun x111 ex111 => ?_)
              refine z_pI C rfl rfl rfl T_r0 (Or.inr rfl) rfl (fun I112 uI112 => ?_)
              have hI112 : IM R r0 I112 := IM.fld hI47 G_r0 ⟨(fun h => absurd h (by decide)), (fun h => absurd h (by decide)), (fun h => absurd h (by decide)), (fun _ => ⟨by omega, by omega⟩), (fun h => absurd h (by decide))⟩ uI112
              have S113 : CM A R r0 [24] [] I47 L48 I112 L48 := CM.f G_r0 A_r0 uI112
              have e114 := u2_n uI112 (mF.ne G_r0 R_r0_1) e50
              have e116 := u2_n uI112 (mF.ne G_r0 R_r0_4) nx105
              have e117 := u2_e uI112
              refine z_iconst C (z := 0) rfl rfl rfl (fun x118 ex118 => ?_)
              have J119 : ∀ (nn120 : Nat) (I121 : IT) (L122 : LT) (x123 : Int32), ((41 - x123.toInt).toNat = nn120) → (IM R r0 I121) → (CM A R r0 [] [22] I112 L48 I121 L122) → (∀ r : Nat, (r < n3.toNatClampNeg ∨ n3.toNatClampNeg + 492 ≤ r) → I121 r0_22 r = I112 r0_22 r) → (0 ≤ x123.toInt) → (x123.toInt ≤ 41) → V 100 [(0, .ref r0), (1, .int n1), (2, .int n2), (3, .int n3), (4, .int n4), (5, .int x6), (6, .int x123)] [] (T, N, I121, L122, R) 0 0 := by
                intro nn120
                induction nn120 using Nat.strongRecOn with
                | _ nn120 ihJ119 =>
                  intro I121 L122 x123 hmnn120 hI127 S126 F128 b124 b125
                  have gx123 := rg x123
                  have e129 := CM.j S126 R_r0_1 (by decide) e114
                  have e130 := CM.j S126 R_r0_4 (by decide) e116
                  have e131 := CM.k S126 (by decide) e117
                  refine k_iload C rfl rfl rfl ?_
                  refine k_aload_n C rfl rfl rfl ?_
                  refine g_R C rfl rfl rfl T_r0 rfl R_r0_4 ?_
                  refine z_iconst C (z := 0) rfl rfl rfl (fun x132 ex132 => ?_)
                  refine a_I C rfl rfl T_r0_4 (by rw [N_r0_4]; exact vpi (by omega) (by omega)) ((congrArg (I121 r0_4) (nck (n := 0) (by omega))).trans e130) ?_
                  refine b_icmp_gt C (t := 145) rfl rfl rfl (fun c133 => ?_) (fun c133 => ?_)
                  · skip
                    refine z_iinc C (z := 1) (lw := fun x134 => [(5, .int x134), (0, .ref r0), (1, .int n1), (2, .int n2), (3, .int n3), (4, .int n4), (6, .int x123)]) rfl rfl rfl (Nat.le_of_ble_eq_true rfl) rfl ⟨by omega, by omega⟩ (fun _ => rfl) (fun x134 ex134 => ?_)
                    show V 148 [(5, .int x134), (0, .ref r0), (1, .int n1), (2, .int n2), (3, .int n3), (4, .int n4), (6, .int x123)] _ _ _ _
                    refine k_goto C (pc2 := 3) rfl rfl ?_
                    refine k_sub S [(0, .ref r0), (1, .int n1), (2, .int n2), (3, .int n3), (4, .int n4), (5, .int x134)] (List.forall_mem_cons.mpr ⟨List.mem_of_getElem? (i := 1) rfl, List.forall_mem_cons.mpr ⟨List.mem_of_getElem? (i := 2) rfl, List.forall_mem_cons.mpr ⟨List.mem_of_getElem? (i := 3) rfl, List.forall_mem_cons.mpr ⟨List.mem_of_getElem? (i := 4) rfl, List.forall_mem_cons.mpr ⟨List.mem_of_getElem? (i := 5) rfl, List.forall_mem_cons.mpr ⟨List.mem_of_getElem? (i := 0) rfl, fun _ h => nomatch h⟩⟩⟩⟩⟩⟩) ?_
                    exact ihJ2 _ (by omega) I121 L122 x134 x111 x105 rfl hI127 (CM.cons S9 (CM.cons S26 (CM.cons S39 (CM.cons S49 (CM.cons S113 (CM.mono S126 (by decide) (by decide)) (by decide) (by decide)) (by decide) (by decide)) (by decide) (by decide)) (by decide) (by decide)) (by decide) (by decide)) (fun r z0 => ((F128 r z0).trans ((congrFun (CM.j0 S113 R_r0_22 (by decide)) r).trans ((congrFun (CM.j0 S49 R_r0_22 (by decide)) r).trans ((congrFun (CM.j0 S39 R_r0_22 (by decide)) r).trans ((congrFun (CM.j0 S26 R_r0_22 (by decide)) r).trans (F11 r z0))))))) (by omega) (by omega) e131 (by omega) (by omega) e130 (by omega) (by omega) (by omega)
                  refine k_aload_n C rfl rfl rfl ?_
                  refine g_R C rfl rfl rfl T_r0 rfl R_r0_22 ?_
                  refine k_iload_n C rfl rfl rfl ?_
                  refine k_iload C rfl rfl rfl ?_
                  refine k_aload_n C rfl rfl rfl ?_
                  refine g_R C rfl rfl rfl T_r0 rfl R_r0_4 ?_
                  refine z_iconst C (z := 0) rfl rfl rfl (fun x135 ex135 => ?_)
                  refine a_I C rfl rfl T_r0_4 (by rw [N_r0_4]; exact vpi (by omega) (by omega)) ((congrArg (I121 r0_4) (nck (n := 0) (by omega))).trans e130) ?_
                  refine z_iconst C (z := 1) rfl rfl rfl (fun x136 ex136 => ?_)
                  refine z_iadd C rfl rfl ⟨by omega, by omega⟩ (fun x137 ex137 => ?_)
                  refine z_imulI C (a := 11) (b := 41) (c := 451) rfl rfl ⟨by omega, by omega⟩ ⟨by omega, by omega⟩ (by decide) (by decide) (fun x138 ex138 => ?_)
                  refine z_iadd C rfl rfl ⟨by omega, by omega⟩ (fun x139 ex139 => ?_)
                  refine k_iload C rfl rfl rfl ?_
                  refine z_iadd C rfl rfl ⟨by omega, by omega⟩ (fun x140 ex140 => ?_)
                  refine k_aload_n C rfl rfl rfl ?_
                  refine z_iconst C (z := 0) rfl rfl rfl (fun x141 ex141 => ?_)
                  refine k_iload C rfl rfl rfl ?_
                  have q142 : x141.toNatClampNeg = 0 := nck (by omega)
                  refine c_VI C (a_X12_of hI127 H_r0 (by omega) (by omega) (by omega) (by omega)) rfl rfl rfl rfl rfl ⟨_, rfl, rfl, T_r0, Nat.le_of_ble_eq_true rfl⟩ rfl rfl (Nat.le_of_ble_eq_true rfl) (Nat.le_of_ble_eq_true rfl) (Nat.le_of_ble_eq_true rfl) ?_
                  rintro x143 _ _ ⟨o0x143, o1x143, p0x143, rfl, rfl⟩
                  have p0x143 := p0x143 r0_5 R_r0_5
                  have gx143 := rg x143
                  try simp only [q142, e129, e130, e131] at p0x143
                  try have q0x143 := congrArg Int32.toInt p0x143
                  obtain ⟨T_r0_22, N_r0_22, A_r0_22⟩ := id H_r0_22
                  refine z_sI C rfl rfl T_r0_22 N_r0_22 (by omega) (by omega) (fun I144 uI144 => ?_)
                  have hI144 : IM R r0 I144 := IM.arr hI127 G_r0 R_r0_22 ⟨(fun h => absurd h (by decide)), (fun h => absurd h (by decide)), (fun _ => ⟨by omega, by omega⟩)⟩ (fun h => absurd h (by decide)) uI144
                  have S145 : CM A R r0 [] [22] I121 L122 I144 L122 := CM.a G_r0 R_r0_22 A_r0_22 uI144
                  have F146 : ∀ r : Nat, (r < n3.toNatClampNeg ∨ n3.toNatClampNeg + 492 ≤ r) → I144 r0_22 r = I121 r0_22 r := fun r z0 => by rw [uI144]; exact u2_k (by have h1 := ncz (x := n3) (by omega); have h2 := ncz (x := x140) (by omega); omega)
                  have e147 := u2_n uI144 (mF.nq G_r0 R_r0_1 R_r0_22 (by decide)) e129
                  have e148 := u2_n uI144 (mF.nq G_r0 R_r0_4 R_r0_22 (by decide)) e130
                  have e149 := u2_n uI144 (fun e => (mF.ne G_r0 R_r0_22) e.symm) e131
                  have e150 := u2_e uI144
                  refine z_iinc C (z := 1) (lw := fun x151 => [(6, .int x151), (0, .ref r0), (1, .int n1), (2, .int n2), (3, .int n3), (4, .int n4), (5, .int x6)]) rfl rfl rfl (Nat.le_of_ble_eq_true rfl) rfl ⟨by omega, by omega⟩ (fun _ => rfl) (fun x151 ex151 => ?_)
                  show V 142 [(6, .int x151), (0, .ref r0), (1, .int n1), (2, .int n2), (3, .int n3), (4, .int n4), (5, .int x6)] _ _ _ _
                  refine k_goto C (pc2 := 100) rfl rfl ?_
                  refine k_sub S [(0, .ref r0), (1, .int n1), (2, .int n2), (3, .int n3), (4, .int n4), (5, .int x6), (6, .int x151)] (List.forall_mem_cons.mpr ⟨List.mem_of_getElem? (i := 1) rfl, List.forall_mem_cons.mpr ⟨List.mem_of_getElem? (i := 2) rfl, List.forall_mem_cons.mpr ⟨List.mem_of_getElem? (i := 3) rfl, List.forall_mem_cons.mpr ⟨List.mem_of_getElem? (i := 4) rfl, List.forall_mem_cons.mpr ⟨List.mem_of_getElem? (i := 5) rfl, List.forall_mem_cons.mpr ⟨List.mem_of_getElem? (i := 6) rfl, List.forall_mem_cons.mpr ⟨List.mem_of_getElem? (i := 0) rfl, fun _ h => nomatch h⟩⟩⟩⟩⟩⟩⟩) ?_
                  exact ihJ119 _ (by omega) I144 L122 x151 rfl hI144 (CM.cons S126 (CM.mono S145 (by decide) (by decide)) (by decide) (by decide)) (fun r z0 => ((F146 r z0).trans (F128 r z0))) (by omega) (by omega)
              refine k_istore C (lw := [(6, .int x118), (0, .ref r0), (1, .int n1), (2, .int n2), (3, .int n3), (4, .int n4), (5, .int x6)]) rfl rfl (Nat.le_of_ble_eq_true rfl) rfl ?_
              refine k_sub S [(0, .ref r0), (1, .int n1), (2, .int n2), (3, .int n3), (4, .int n4), (5, .int x6), (6, .int x118)] (List.forall_mem_cons.mpr ⟨List.mem_of_getElem? (i := 1) rfl, List.forall_mem_cons.mpr ⟨List.mem_of_getElem? (i := 2) rfl, List.forall_mem_cons.mpr ⟨List.mem_of_getElem? (i := 3) rfl, List.forall_mem_cons.mpr ⟨List.mem_of_getElem? (i := 4) rfl, List.forall_mem_cons.mpr ⟨List.mem_of_getElem? (i := 5) rfl, List.forall_mem_cons.mpr ⟨List.mem_of_getElem? (i := 6) rfl, List.forall_mem_cons.mpr ⟨List.mem_of_getElem? (i := 0) rfl, fun _ h => nomatch h⟩⟩⟩⟩⟩⟩⟩) ?_
              exact J119 _ I112 L48 x118 rfl hI112 CM.rf (fun r z0 => rfl) (by omega) (by omega)
            refine z_iconst C (z := 0) rfl rfl rfl (fun x152 ex152 => ?_)
            exact k_iret C rfl (Or.inr ⟨rfl, z01 (by omega) (by omega)⟩) (Nat.le_of_ble_eq_true rfl) (Nat.le_of_ble_eq_true rfl) ⟨_, _, _, rfl, rfl, by omega, by omega, fun a4 h4 => by cases (R_r0_4.symm.trans h4); first | omega | (simp only [e50, e51, nx105, k0_r0_1_3, k0_r0_24, k0_r0_4_0] <;> omega), fun a22 h22 => by cases (R_r0_22.symm.trans h22); exact (fun r z0 => ((congrFun (CM.j0 S49 R_r0_22 (by decide)) r).trans ((congrFun (CM.j0 S39 R_r0_22 (by decide)) r).trans ((congrFun (CM.j0 S26 R_r0_22 (by decide)) r).trans (F11 r z0))))), hI47, (CM.cons S9 (CM.cons S26 (CM.cons S39 (CM.mono S49 (by decide) (by decide)) (by decide) (by decide)) (by decide) (by decide)) (by decide) (by decide))⟩
          refine k_aload_n C rfl rfl rfl ?_
          refine z_bipush C (z := 44) rfl rfl rfl (fun x153 ex153 => ?_)
          refine k_iload C rfl rfl rfl ?_
          refine k_aload_n C rfl rfl rfl ?_
          refine g_R C rfl rfl rfl T_r0 rfl R_r0_23 ?_
          refine k_iload C rfl rfl rfl ?_
          refine k_iload_n C rfl rfl rfl ?_
          refine z_iconst C (z := 1) rfl rfl rfl (fun x154 ex154 => ?_)
          refine z_iadd C rfl rfl ⟨by omega, by omega⟩ (fun x155 ex155 => ?_)
          refine z_imulI C (a := 11) (b := 9) (c := 99) rfl rfl ⟨by omega, by omega⟩ ⟨by omega, by omega⟩ (by decide) (by decide) (fun x156 ex156 => ?_)
          refine k_iload C rfl rfl rfl ?_
          refine z_iadd C rfl rfl ⟨by omega, by omega⟩ (fun x157 ex157 => ?_)
          obtain ⟨T_r0_23, N_r0_23, A_r0_23⟩ := id H_r0_23
          refine z_aI C rfl rfl T_r0_23 N_r0_23 (by omega) (by omega) (fun x158 ex158 => ?_)
          have gx158 := rg x158
          have ox158 := IM.dnR hI40 R_r0_23 ex158
          have q159 : x153.toNatClampNeg = 44 := nck (by omega)
          refine c_VV C (a_X12_put hI40 H_r0 (by omega) (by omega) (by omega) (by omega) (by omega) (by omega)) rfl rfl rfl rfl rfl ⟨_, rfl, rfl, T_r0, Nat.le_of_ble_eq_true rfl⟩ rfl rfl (Nat.le_of_ble_eq_true rfl) (Nat.le_of_ble_eq_true rfl) (Nat.le_of_ble_eq_true rfl) ?_
          rintro I161 L162 ⟨p0v160, p1v160, hI161, S163⟩
          have p0v160 := p0v160 r0_5 R_r0_5
          have p1v160 := p1v160 r0_5 R_r0_5
          try simp only [q159] at p1v160
          have e164 := CM.j S163 R_r0_1 (by decide) e41
          have e165 := CM.k S163 (by decide) e42
          have e166 := CM.j S163 R_r0_4 (by decide) e43
          have e167 := CM.j S163 R_r0_4 (by decide) e44
          have e168 := CM.j S163 R_r0_23 (by decide) ex158
          try simp only [q159, e41, e42, e43, e44, ex158] at p0v160
          try have q0v160 := congrArg Int32.toInt p0v160
          refine z_iinc C (z := 1) (lw := fun x169 => [(6, .int x169), (0, .ref r0), (1, .int n1), (2, .int n2), (3, .int n3), (4, .int n4), (5, .int x6)]) rfl rfl rfl (Nat.le_of_ble_eq_true rfl) rfl ⟨by omega, by omega⟩ (fun _ => rfl) (fun x169 ex169 => ?_)
          show V 52 [(6, .int x169), (0, .ref r0), (1, .int n1), (2, .int n2), (3, .int n3), (4, .int n4), (5, .int x6)] _ _ _ _
          refine k_goto C (pc2 := 21) rfl rfl ?_
          refine k_sub S [(0, .ref r0), (1, .int n1), (2, .int n2), (3, .int n3), (4, .int n4), (5, .int x6), (6, .int x169)] (List.forall_mem_cons.mpr ⟨List.mem_of_getElem? (i := 1) rfl, List.forall_mem_cons.mpr ⟨List.mem_of_getElem? (i := 2) rfl, List.forall_mem_cons.mpr ⟨List.mem_of_getElem? (i := 3) rfl, List.forall_mem_cons.mpr ⟨List.mem_of_getElem? (i := 4) rfl, List.forall_mem_cons.mpr ⟨List.mem_of_getElem? (i := 5) rfl, List.forall_mem_cons.mpr ⟨List.mem_of_getElem? (i := 6) rfl, List.forall_mem_cons.mpr ⟨List.mem_of_getElem? (i := 0) rfl, fun _ h => nomatch h⟩⟩⟩⟩⟩⟩⟩) ?_
          exact ihJ32 _ (by omega) I161 L162 x169 rfl hI161 (CM.cons S39 (CM.mono S163 (by decide) (by decide)) (by decide) (by decide)) (by omega) (by omega)
      refine k_istore C (lw := [(6, .int x31), (0, .ref r0), (1, .int n1), (2, .int n2), (3, .int n3), (4, .int n4), (5, .int x6)]) rfl rfl (Nat.le_of_ble_eq_true rfl) rfl ?_
      refine k_sub S [(0, .ref r0), (1, .int n1), (2, .int n2), (3, .int n3), (4, .int n4), (5, .int x6), (6, .int x31)] (List.forall_mem_cons.mpr ⟨List.mem_of_getElem? (i := 1) rfl, List.forall_mem_cons.mpr ⟨List.mem_of_getElem? (i := 2) rfl, List.forall_mem_cons.mpr ⟨List.mem_of_getElem? (i := 3) rfl, List.forall_mem_cons.mpr ⟨List.mem_of_getElem? (i := 4) rfl, List.forall_mem_cons.mpr ⟨List.mem_of_getElem? (i := 5) rfl, List.forall_mem_cons.mpr ⟨List.mem_of_getElem? (i := 6) rfl, List.forall_mem_cons.mpr ⟨List.mem_of_getElem? (i := 0) rfl, fun _ h => nomatch h⟩⟩⟩⟩⟩⟩⟩) ?_
      exact J32 _ I25 L5 x31 rfl hI25 CM.rf (by omega) (by omega)
  refine k_istore C (lw := [(5, .int x1), (0, .ref r0), (1, .int n1), (2, .int n2), (3, .int n3), (4, .int n4)]) rfl rfl (Nat.le_of_ble_eq_true rfl) rfl ?_
  refine k_sub S [(0, .ref r0), (1, .int n1), (2, .int n2), (3, .int n3), (4, .int n4), (5, .int x1)] (List.forall_mem_cons.mpr ⟨List.mem_of_getElem? (i := 1) rfl, List.forall_mem_cons.mpr ⟨List.mem_of_getElem? (i := 2) rfl, List.forall_mem_cons.mpr ⟨List.mem_of_getElem? (i := 3) rfl, List.forall_mem_cons.mpr ⟨List.mem_of_getElem? (i := 4) rfl, List.forall_mem_cons.mpr ⟨List.mem_of_getElem? (i := 5) rfl, List.forall_mem_cons.mpr ⟨List.mem_of_getElem? (i := 0) rfl, fun _ h => nomatch h⟩⟩⟩⟩⟩⟩) ?_
  exact J2 _ I L x1 w_r0_24 w_r0_4_0 rfl hI CM.rf (fun r z0 => rfl) (by omega) (by omega) k0_r0_24 (by omega) (by omega) k0_r0_4_0 (by omega) (by omega) (by omega)

theorem a_X12_basisOf {d : Nat} {T N : Nat → Nat} {I : IT} {L : LT} {R : RT} {A : Nat → Prop} {r0 : Nat} {n1 n2 n3 : Int32} (hI : IM R r0 I) (H_r0 : (h_MD T N R A) r0) (b0_n2 : 1 ≤ n2.toInt) (b1_n2 : n2.toInt ≤ 8) : Ex (d + 10) 264 [.ref r0, .int n1, .int n2, .int n3] (T, N, I, L, R) 0 0 (pI T N R (fun x9 I9 L9 => (IM R r0 I9 ∧ CM A R r0 [24] [4, 5, 22, 23] I L I9 L9))) := by
  refine ⟨_, rfl, Nat.le_of_ble_eq_true rfl, fun V C S => ?_⟩
  show V 0 [(0, .ref r0), (1, .int n1), (2, .int n2), (3, .int n3)] [] (T, N, I, L, R) 0 0
  have gn1 := rg n1
  have gn2 := rg n2
  have gn3 := rg n3
  obtain ⟨T_r0, A_r0, ⟨r0_1, R_r0_1, H_r0_1⟩, ⟨r0_2, R_r0_2, H_r0_2⟩, ⟨r0_4, R_r0_4, H_r0_4⟩, ⟨r0_5, R_r0_5, H_r0_5⟩, ⟨r0_10, R_r0_10, H_r0_10⟩, ⟨r0_18, R_r0_18, H_r0_18⟩, ⟨r0_20, R_r0_20, H_r0_20⟩, ⟨r0_21, R_r0_21, H_r0_21⟩, ⟨r0_22, R_r0_22, H_r0_22⟩, ⟨r0_23, R_r0_23, H_r0_23⟩, ⟨r0_25, R_r0_25, H_r0_25⟩, ⟨r0_26, R_r0_26, H_r0_26⟩, ⟨r0_27, R_r0_27, H_r0_27⟩, ⟨r0_28, R_r0_28, H_r0_28⟩, ⟨r0_34, R_r0_34, H_r0_34⟩, J_r0, Y_r0⟩ := id H_r0
  have G_r0 : mF T R r0 := ⟨J_r0, Y_r0, T_r0⟩
  obtain ⟨w_r0_24, k0_r0_24⟩ : ∃ x, I r0 24 = x := ⟨_, rfl⟩
  have gw_r0_24 := rg w_r0_24
  have ow_r0_24 := IM.f24 hI k0_r0_24
  refine k_aload_n C rfl rfl rfl ?_
  refine k_iload_n C rfl rfl rfl ?_
  refine k_iload_n C rfl rfl rfl ?_
  refine c_VV C (a_X12_draws hI H_r0 (by omega) (by omega)) rfl rfl rfl rfl rfl ⟨_, rfl, rfl, T_r0, Nat.le_of_ble_eq_true rfl⟩ rfl rfl (Nat.le_of_ble_eq_true rfl) (Nat.le_of_ble_eq_true rfl) (Nat.le_of_ble_eq_true rfl) ?_
  rintro I2 L3 ⟨hI2, S4⟩
  have e5 := CM.k S4 (by decide) k0_r0_24
  refine z_iconst C (z := 0) rfl rfl rfl (fun x6 ex6 => ?_)
  refine k_istore C (lw := [(4, .int x6), (0, .ref r0), (1, .int n1), (2, .int n2), (3, .int n3)]) rfl rfl (Nat.le_of_ble_eq_true rfl) rfl ?_
  refine z_iconst C (z := 0) rfl rfl rfl (fun x7 ex7 => ?_)
  refine k_istore C (lw := [(5, .int x7), (4, .int x6), (0, .ref r0), (1, .int n1), (2, .int n2), (3, .int n3)]) rfl rfl (Nat.le_of_ble_eq_true rfl) rfl ?_
  refine z_iconst C (z := -1) rfl rfl rfl (fun x8 ex8 => ?_)
  refine k_istore C (lw := [(6, .int x8), (5, .int x7), (4, .int x6), (0, .ref r0), (1, .int n1), (2, .int n2), (3, .int n3)]) rfl rfl (Nat.le_of_ble_eq_true rfl) rfl ?_
  refine z_iconst C (z := 0) rfl rfl rfl (fun x9 ex9 => ?_)
  have J10 : ∀ (nn11 : Nat) (I12 : IT) (L13 : LT) (x14 : Int32) (x17 : Int32) (x18 : Int32) (x21 : Int32) (x26 : Int32), ((8 - x21.toInt).toNat = nn11) → (IM R r0 I12) → (CM A R r0 [24] [4, 5, 22] I2 L3 I12 L13) → (0 ≤ x14.toInt) → (x14.toInt ≤ 8) → (-1 ≤ x18.toInt) → (x18.toInt ≤ 40) → (0 ≤ x21.toInt) → (x21.toInt ≤ 8) → (I12 r0 24 = x26) → (0 ≤ x26.toInt) → (x26.toInt ≤ 492) → (x14.toInt ≤ x21.toInt) → (RWS I12 r0_22 x14.toNatClampNeg x26.toInt) → (x14.toInt = 0 ∨ x26.toInt = 12 * (x18.toInt + 1) ∧ 0 ≤ x18.toInt) → V 18 [(0, .ref r0), (1, .int n1), (2, .int n2), (4, .int x14), (5, .int x17), (6, .int x18), (7, .int x21)] [] (T, N, I12, L13, R) 0 0 := by
    intro nn11
    induction nn11 using Nat.strongRecOn with
    | _ nn11 ihJ10 =>
      intro I12 L13 x14 x17 x18 x21 x26 hmnn11 hI25 S24 b15 b16 b19 b20 b22 b23 e27 b28 b29 ff18_0 ff18_1 ff18_2
      have gx14 := rg x14
      have gx17 := rg x17
      have gx18 := rg x18
      have gx21 := rg x21
      have gx26 := rg x26
      refine k_iload C rfl rfl rfl ?_
      refine k_aload_n C rfl rfl rfl ?_
      refine g_R C rfl rfl rfl T_r0 rfl R_r0_1 ?_
      refine z_iconst C (z := 3) rfl rfl rfl (fun x30 ex30 => ?_)
      obtain ⟨T_r0_1, N_r0_1, A_r0_1⟩ := id H_r0_1
      refine z_aI C rfl rfl T_r0_1 N_r0_1 (by omega) (by omega) (fun x31 ex31 => ?_)
      have gx31 := rg x31
      have nx31 : I12 r0_1 3 = x31 := (congrArg (I12 r0_1) (nck (n := 3) (by omega))).symm.trans ex31
      have ox31 := IM.c3 hI25 R_r0_1 nx31
      refine b_icmp_ge C (t := 105) rfl rfl rfl (fun c32 => ?_) (fun c32 => ?_)
      · skip
        refine k_iload C rfl rfl rfl ?_
        exact k_iret C rfl (Or.inl rfl) (Nat.le_of_ble_eq_true rfl) (Nat.le_of_ble_eq_true rfl) ⟨_, _, _, rfl, rfl, hI25, (CM.cons S4 (CM.mono S24 (by decide) (by decide)) (by decide) (by decide))⟩
      refine k_iload_n C rfl rfl rfl ?_
      refine k_iload C rfl rfl rfl ?_
      refine zt_ishr C rfl rfl (fun x33 => ?_)
      have gx33 := rg x33
      refine z_iconst C (z := 1) rfl rfl rfl (fun x34 ex34 => ?_)
      refine zt_iand C rfl rfl (fun x35 => ?_)
      have gx35 := rg x35
      refine b_if_ne C (t := 41) rfl rfl rfl (fun c36 => ?_) (fun c36 => ?_)
      · skip
        refine k_aload_n C rfl rfl rfl ?_
        refine k_iload C rfl rfl rfl ?_
        refine k_iload_n C rfl rfl rfl ?_
        refine z_sipush C (z := 492) rfl rfl rfl (fun x37 ex37 => ?_)
        refine k_iload C rfl rfl rfl ?_
        refine z_imulL C (c := 492) rfl rfl (by omega) ⟨by omega, by omega⟩ (fun x38 ex38 => ?_)
        refine k_iload C rfl rfl rfl ?_
        refine c_VI C (a_X12_rowOf hI25 H_r0 (by omega) (by omega) (by omega) (by omega) (by omega) (by omega) (by omega) (by omega) (fun a1 h1 => by cases (R_r0_1.symm.trans h1); first | omega | (simp only [e27, nx31] <;> omega))) rfl rfl rfl rfl rfl ⟨_, rfl, rfl, T_r0, Nat.le_of_ble_eq_true rfl⟩ rfl rfl (Nat.le_of_ble_eq_true rfl) (Nat.le_of_ble_eq_true rfl) (Nat.le_of_ble_eq_true rfl) ?_
        rintro x39 I40 L41 ⟨o0x39, o1x39, p0x39, p1x39, hI40, S42⟩
        have p0x39 := p0x39 r0_4 R_r0_4
        have p1x39 := p1x39 r0_22 R_r0_22
        have e44 := CM.j S42 R_r0_1 (by decide) nx31
        have gx39 := rg x39
        obtain ⟨x45, e46⟩ : ∃ x, I40 r0 24 = x := ⟨_, rfl⟩
        have gx45 := rg x45
        have ox45 := IM.f24 hI40 e46
        obtain ⟨x47, e48⟩ : ∃ x, I40 r0_4 0 = x := ⟨_, rfl⟩
        have gx47 := rg x47
        have ox47 := IM.dgR hI40 R_r0_4 e48
        try simp only [e27, nx31, e46, e48] at p0x39
        try have q0x39 := congrArg Int32.toInt p0x39
        have hR := RWS.fr (n2 := x14) ff18_1 p1x39 (by omega) (by omega) (by omega)
        have hQ := p0x39
        refine b_if_ne C (t := 61) rfl rfl rfl (fun c49 => ?_) (fun c49 => ?_)
        · skip
          have hR2 := RWS.lg (lg' := x45.toInt) hR (by omega) (by omega)
          refine k_aload_n C rfl rfl rfl ?_
          refine g_R C rfl rfl rfl T_r0 rfl R_r0_4 ?_
          refine z_iconst C (z := 0) rfl rfl rfl (fun x50 ex50 => ?_)
          obtain ⟨T_r0_4, N_r0_4, A_r0_4⟩ := id H_r0_4
          refine a_I C rfl rfl T_r0_4 (by rw [N_r0_4]; exact vpi (by omega) (by omega)) ((congrArg (I40 r0_4) (nck (n := 0) (by omega))).trans e48) ?_
          refine k_istore C (lw := [(6, .int x47), (0, .ref r0), (1, .int n1), (2, .int n2), (4, .int x14), (5, .int x17), (7, .int x21)]) rfl rfl (Nat.le_of_ble_eq_true rfl) rfl ?_
          refine k_aload_n C rfl rfl rfl ?_
          refine z_sipush C (z := 492) rfl rfl rfl (fun x51 ex51 => ?_)
          refine k_iload C rfl rfl rfl ?_
          refine z_imulL C (c := 492) rfl rfl (by omega) ⟨by omega, by omega⟩ (fun x52 ex52 => ?_)
          refine k_iload C rfl rfl rfl ?_
          refine c_VI C (a_X12_isNew hI40 H_r0 (by omega) (by omega) (by omega) (by omega) (by first | omega | (simp only [e44, e46, e48] <;> omega)) (fun a22 h22 => by cases (R_r0_22.symm.trans h22); simp only [e44, e46, e48]; exact hR2)) rfl rfl rfl rfl rfl ⟨_, rfl, rfl, T_r0, Nat.le_of_ble_eq_true rfl⟩ rfl rfl (Nat.le_of_ble_eq_true rfl) (Nat.le_of_ble_eq_true rfl) (Nat.le_of_ble_eq_true rfl) ?_
          rintro x53 I54 L55 ⟨o0x53, o1x53, p0x53, p1x53, hI54, S56⟩
          have p0x53 := p0x53 r0_22 R_r0_22
          have p1x53 := p1x53 r0_22 R_r0_22
          have e57 := CM.j S56 R_r0_1 (by decide) e44
          have e58 := CM.k S56 (by decide) e46
          have e59 := CM.j S56 R_r0_4 (by decide) e48
          have gx53 := rg x53
          try simp only [e44, e46, e48, e58] at p0x53
          try have q0x53 := congrArg Int32.toInt p0x53
          have hP := p0x53
          have hR3 := RWS.fr (n2 := x14) hR2 p1x53 (by omega) (by omega) (by omega)
          refine b_if_ne C (t := 87) rfl rfl rfl (fun c60 => ?_) (fun c60 => ?_)
          · skip
            have hW := hP (by omega)
            refine z_iinc C (z := 1) (lw := fun x61 => [(4, .int x61), (6, .int x47), (0, .ref r0), (1, .int n1), (2, .int n2), (5, .int x17), (7, .int x21)]) rfl rfl rfl (Nat.le_of_ble_eq_true rfl) rfl ⟨by omega, by omega⟩ (fun _ => rfl) (fun x61 ex61 => ?_)
            show V 90 [(4, .int x61), (6, .int x47), (0, .ref r0), (1, .int n1), (2, .int n2), (5, .int x17), (7, .int x21)] _ _ _ _
            refine k_iload C rfl rfl rfl ?_
            refine z_iconst C (z := 1) rfl rfl rfl (fun x62 ex62 => ?_)
            refine k_iload C rfl rfl rfl ?_
            refine zt_ishl C rfl rfl (fun x63 => ?_)
            have gx63 := rg x63
            refine zt_ior C rfl rfl (fun x64 => ?_)
            have gx64 := rg x64
            refine k_istore C (lw := [(5, .int x64), (4, .int x61), (6, .int x47), (0, .ref r0), (1, .int n1), (2, .int n2), (7, .int x21)]) rfl rfl (Nat.le_of_ble_eq_true rfl) rfl ?_
            refine z_iinc C (z := 1) (lw := fun x65 => [(7, .int x65), (5, .int x64), (4, .int x61), (6, .int x47), (0, .ref r0), (1, .int n1), (2, .int n2)]) rfl rfl rfl (Nat.le_of_ble_eq_true rfl) rfl ⟨by omega, by omega⟩ (fun _ => rfl) (fun x65 ex65 => ?_)
            show V 102 [(7, .int x65), (5, .int x64), (4, .int x61), (6, .int x47), (0, .ref r0), (1, .int n1), (2, .int n2)] _ _ _ _
            refine k_goto C (pc2 := 18) rfl rfl ?_
            refine k_sub S [(0, .ref r0), (1, .int n1), (2, .int n2), (4, .int x61), (5, .int x64), (6, .int x47), (7, .int x65)] (List.forall_mem_cons.mpr ⟨List.mem_of_getElem? (i := 4) rfl, List.forall_mem_cons.mpr ⟨List.mem_of_getElem? (i := 5) rfl, List.forall_mem_cons.mpr ⟨List.mem_of_getElem? (i := 6) rfl, List.forall_mem_cons.mpr ⟨List.mem_of_getElem? (i := 2) rfl, List.forall_mem_cons.mpr ⟨List.mem_of_getElem? (i := 1) rfl, List.forall_mem_cons.mpr ⟨List.mem_of_getElem? (i := 3) rfl, List.forall_mem_cons.mpr ⟨List.mem_of_getElem? (i := 0) rfl, fun _ h => nomatch h⟩⟩⟩⟩⟩⟩⟩) ?_
            exact ihJ10 _ (by omega) I54 L55 x61 x64 x47 x65 x45 rfl hI54 (CM.cons S24 (CM.cons S42 (CM.mono S56 (by decide) (by decide)) (by decide) (by decide)) (by decide) (by decide)) (by omega) (by omega) (by omega) (by omega) (by omega) (by omega) e58 (by omega) (by omega) (by omega) (by first | exact RWS.s hR3 hW (by omega) (by omega) (by omega) | exact hR3 | exact ff18_1) (by omega)
          refine k_goto C (pc2 := 99) rfl rfl ?_
          refine z_iinc C (z := 1) (lw := fun x66 => [(7, .int x66), (6, .int x47), (0, .ref r0), (1, .int n1), (2, .int n2), (4, .int x14), (5, .int x17)]) rfl rfl rfl (Nat.le_of_ble_eq_true rfl) rfl ⟨by omega, by omega⟩ (fun _ => rfl) (fun x66 ex66 => ?_)
          show V 102 [(7, .int x66), (6, .int x47), (0, .ref r0), (1, .int n1), (2, .int n2), (4, .int x14), (5, .int x17)] _ _ _ _
          refine k_goto C (pc2 := 18) rfl rfl ?_
          refine k_sub S [(0, .ref r0), (1, .int n1), (2, .int n2), (4, .int x14), (5, .int x17), (6, .int x47), (7, .int x66)] (List.forall_mem_cons.mpr ⟨List.mem_of_getElem? (i := 2) rfl, List.forall_mem_cons.mpr ⟨List.mem_of_getElem? (i := 3) rfl, List.forall_mem_cons.mpr ⟨List.mem_of_getElem? (i := 4) rfl, List.forall_mem_cons.mpr ⟨List.mem_of_getElem? (i := 5) rfl, List.forall_mem_cons.mpr ⟨List.mem_of_getElem? (i := 6) rfl, List.forall_mem_cons.mpr ⟨List.mem_of_getElem? (i := 1) rfl, List.forall_mem_cons.mpr ⟨List.mem_of_getElem? (i := 0) rfl, fun _ h => nomatch h⟩⟩⟩⟩⟩⟩⟩) ?_
          exact ihJ10 _ (by omega) I54 L55 x14 x17 x47 x66 x45 rfl hI54 (CM.cons S24 (CM.cons S42 (CM.mono S56 (by decide) (by decide)) (by decide) (by decide)) (by decide) (by decide)) (by omega) (by omega) (by omega) (by omega) (by omega) (by omega) e58 (by omega) (by omega) (by omega) (by first | exact RWS.s hR3 hW (by omega) (by omega) (by omega) | exact hR3 | exact ff18_1) (by omega)
        refine z_iconst C (z := -1) rfl rfl rfl (fun x67 ex67 => ?_)
        exact k_iret C rfl (Or.inl rfl) (Nat.le_of_ble_eq_true rfl) (Nat.le_of_ble_eq_true rfl) ⟨_, _, _, rfl, rfl, hI40, (CM.cons S4 (CM.cons S24 (CM.mono S42 (by decide) (by decide)) (by decide) (by decide)) (by decide) (by decide))⟩
      refine k_goto C (pc2 := 99) rfl rfl ?_
      refine z_iinc C (z := 1) (lw := fun x68 => [(7, .int x68), (0, .ref r0), (1, .int n1), (2, .int n2), (4, .int x14), (5, .int x17), (6, .int x18)]) rfl rfl rfl (Nat.le_of_ble_eq_true rfl) rfl ⟨by omega, by omega⟩ (fun _ => rfl) (fun x68 ex68 => ?_)
      show V 102 [(7, .int x68), (0, .ref r0), (1, .int n1), (2, .int n2), (4, .int x14), (5, .int x17), (6, .int x18)] _ _ _ _
      refine k_goto C (pc2 := 18) rfl rfl ?_
      refine k_sub S [(0, .ref r0), (1, .int n1), (2, .int n2), (4, .int x14), (5, .int x17), (6, .int x18), (7, .int x68)] (List.forall_mem_cons.mpr ⟨List.mem_of_getElem? (i := 1) rfl, List.forall_mem_cons.mpr ⟨List.mem_of_getElem? (i := 2) rfl, List.forall_mem_cons.mpr ⟨List.mem_of_getElem? (i := 3) rfl, List.forall_mem_cons.mpr ⟨List.mem_of_getElem? (i := 4) rfl, List.forall_mem_cons.mpr ⟨List.mem_of_getElem? (i := 5) rfl, List.forall_mem_cons.mpr ⟨List.mem_of_getElem? (i := 6) rfl, List.forall_mem_cons.mpr ⟨List.mem_of_getElem? (i := 0) rfl, fun _ h => nomatch h⟩⟩⟩⟩⟩⟩⟩) ?_
      exact ihJ10 _ (by omega) I12 L13 x14 x17 x18 x68 x26 rfl hI25 (CM.mono S24 (by decide) (by decide)) (by omega) (by omega) (by omega) (by omega) (by omega) (by omega) e27 (by omega) (by omega) (by omega) (by first | exact RWS.s hR3 hW (by omega) (by omega) (by omega) | exact hR3 | exact ff18_1) (by omega)
  refine k_istore C (lw := [(7, .int x9), (6, .int x8), (5, .int x7), (4, .int x6), (0, .ref r0), (1, .int n1), (2, .int n2), (3, .int n3)]) rfl rfl (Nat.le_of_ble_eq_true rfl) rfl ?_
  refine k_sub S [(0, .ref r0), (1, .int n1), (2, .int n2), (4, .int x6), (5, .int x7), (6, .int x8), (7, .int x9)] (List.forall_mem_cons.mpr ⟨List.mem_of_getElem? (i := 4) rfl, List.forall_mem_cons.mpr ⟨List.mem_of_getElem? (i := 5) rfl, List.forall_mem_cons.mpr ⟨List.mem_of_getElem? (i := 6) rfl, List.forall_mem_cons.mpr ⟨List.mem_of_getElem? (i := 3) rfl, List.forall_mem_cons.mpr ⟨List.mem_of_getElem? (i := 2) rfl, List.forall_mem_cons.mpr ⟨List.mem_of_getElem? (i := 1) rfl, List.forall_mem_cons.mpr ⟨List.mem_of_getElem? (i := 0) rfl, fun _ h => nomatch h⟩⟩⟩⟩⟩⟩⟩) ?_
  exact J10 _ I2 L3 x6 x7 x8 x9 w_r0_24 rfl hI2 CM.rf (by omega) (by omega) (by omega) (by omega) (by omega) (by omega) e5 (by omega) (by omega) (by omega) (by exact RWS.z (by omega)) (by omega)

theorem a_J6_bitCount_0f7a4_m {d : Nat} {T N : Nat → Nat} {I : IT} {L : LT} {R : RT} {n0 : Int32}   : Ex (d + 1) 152 [.int n0] (T, N, I, L, R) 0 0 (pI T N R (fun x9 I9 L9 => (I = I9 ∧ L = L9))) := by
  refine ⟨_, rfl, Nat.le_of_ble_eq_true rfl, fun V C S => ?_⟩
  show V 0 [(0, .int n0)] [] (T, N, I, L, R) 0 0
  have gn0 := rg n0
  refine k_iload_n C rfl rfl rfl ?_
  refine k_iload_n C rfl rfl rfl ?_
  refine z_iconst C (z := 1) rfl rfl rfl (fun x1 ex1 => ?_)
  refine zt_iushr C rfl rfl (fun x2 => ?_)
  have gx2 := rg x2
  refine z_ldc_w C rfl rfl rfl (fun x3 ex3 => ?_)
  have gx3 := rg x3
  clear ex3
  refine zt_iand C rfl rfl (fun x4 => ?_)
  have gx4 := rg x4
  refine zt_isub C rfl rfl (fun x5 => ?_)
  have gx5 := rg x5
  refine k_istore_n C (lw := [(0, .int x5)]) rfl rfl (Nat.le_of_ble_eq_true rfl) rfl ?_
  refine k_iload_n C rfl rfl rfl ?_
  refine z_ldc_w C rfl rfl rfl (fun x6 ex6 => ?_)
  have gx6 := rg x6
  clear ex6
  refine zt_iand C rfl rfl (fun x7 => ?_)
  have gx7 := rg x7
  refine k_iload_n C rfl rfl rfl ?_
  refine z_iconst C (z := 2) rfl rfl rfl (fun x8 ex8 => ?_)
  refine zt_iushr C rfl rfl (fun x9 => ?_)
  have gx9 := rg x9
  refine z_ldc_w C rfl rfl rfl (fun x10 ex10 => ?_)
  have gx10 := rg x10
  clear ex10
  refine zt_iand C rfl rfl (fun x11 => ?_)
  have gx11 := rg x11
  refine zt_iadd C rfl rfl (fun x12 => ?_)
  have gx12 := rg x12
  refine k_istore_n C (lw := [(0, .int x12)]) rfl rfl (Nat.le_of_ble_eq_true rfl) rfl ?_
  refine k_iload_n C rfl rfl rfl ?_
  refine k_iload_n C rfl rfl rfl ?_
  refine z_iconst C (z := 4) rfl rfl rfl (fun x13 ex13 => ?_)
  refine zt_iushr C rfl rfl (fun x14 => ?_)
  have gx14 := rg x14
  refine zt_iadd C rfl rfl (fun x15 => ?_)
  have gx15 := rg x15
  refine z_ldc_w C rfl rfl rfl (fun x16 ex16 => ?_)
  have gx16 := rg x16
  clear ex16
  refine zt_iand C rfl rfl (fun x17 => ?_)
  have gx17 := rg x17
  refine k_istore_n C (lw := [(0, .int x17)]) rfl rfl (Nat.le_of_ble_eq_true rfl) rfl ?_
  refine k_iload_n C rfl rfl rfl ?_
  refine k_iload_n C rfl rfl rfl ?_
  refine z_bipush C (z := 8) rfl rfl rfl (fun x18 ex18 => ?_)
  refine zt_iushr C rfl rfl (fun x19 => ?_)
  have gx19 := rg x19
  refine zt_iadd C rfl rfl (fun x20 => ?_)
  have gx20 := rg x20
  refine k_istore_n C (lw := [(0, .int x20)]) rfl rfl (Nat.le_of_ble_eq_true rfl) rfl ?_
  refine k_iload_n C rfl rfl rfl ?_
  refine k_iload_n C rfl rfl rfl ?_
  refine z_bipush C (z := 16) rfl rfl rfl (fun x21 ex21 => ?_)
  refine zt_iushr C rfl rfl (fun x22 => ?_)
  have gx22 := rg x22
  refine zt_iadd C rfl rfl (fun x23 => ?_)
  have gx23 := rg x23
  refine k_istore_n C (lw := [(0, .int x23)]) rfl rfl (Nat.le_of_ble_eq_true rfl) rfl ?_
  refine k_iload_n C rfl rfl rfl ?_
  refine z_bipush C (z := 63) rfl rfl rfl (fun x24 ex24 => ?_)
  refine zt_iand C rfl rfl (fun x25 => ?_)
  have gx25 := rg x25
  exact k_iret C rfl (Or.inl rfl) (Nat.le_of_ble_eq_true rfl) (Nat.le_of_ble_eq_true rfl) ⟨_, _, _, rfl, rfl, rfl, rfl⟩

theorem a_X12_span {d : Nat} {T N : Nat → Nat} {I : IT} {L : LT} {R : RT} {A : Nat → Prop} {r0 : Nat} {n1 n2 n3 : Int32} (hI : IM R r0 I) (H_r0 : (h_MD T N R A) r0) : Ex (d + 11) 265 [.ref r0, .int n1, .int n2, .int n3] (T, N, I, L, R) 0 0 (pI T N R (fun x9 I9 L9 => (IM R r0 I9 ∧ CM A R r0 [0, 24] [4, 5, 22, 23] I L I9 L9))) := by
  refine ⟨_, rfl, Nat.le_of_ble_eq_true rfl, fun V C S => ?_⟩
  show V 0 [(0, .ref r0), (1, .int n1), (2, .int n2), (3, .int n3)] [] (T, N, I, L, R) 0 0
  have gn1 := rg n1
  have gn2 := rg n2
  have gn3 := rg n3
  obtain ⟨T_r0, A_r0, ⟨r0_1, R_r0_1, H_r0_1⟩, ⟨r0_2, R_r0_2, H_r0_2⟩, ⟨r0_4, R_r0_4, H_r0_4⟩, ⟨r0_5, R_r0_5, H_r0_5⟩, ⟨r0_10, R_r0_10, H_r0_10⟩, ⟨r0_18, R_r0_18, H_r0_18⟩, ⟨r0_20, R_r0_20, H_r0_20⟩, ⟨r0_21, R_r0_21, H_r0_21⟩, ⟨r0_22, R_r0_22, H_r0_22⟩, ⟨r0_23, R_r0_23, H_r0_23⟩, ⟨r0_25, R_r0_25, H_r0_25⟩, ⟨r0_26, R_r0_26, H_r0_26⟩, ⟨r0_27, R_r0_27, H_r0_27⟩, ⟨r0_28, R_r0_28, H_r0_28⟩, ⟨r0_34, R_r0_34, H_r0_34⟩, J_r0, Y_r0⟩ := id H_r0
  have G_r0 : mF T R r0 := ⟨J_r0, Y_r0, T_r0⟩
  refine k_aload_n C rfl rfl rfl ?_
  refine z_iconst C (z := 0) rfl rfl rfl (fun x1 ex1 => ?_)
  refine z_pI C rfl rfl rfl T_r0 (Or.inr rfl) rfl (fun I2 uI2 => ?_)
  have hI2 : IM R r0 I2 := IM.fld hI G_r0 ⟨(fun h => absurd h (by decide)), (fun h => absurd h (by decide)), (fun h => absurd h (by decide)), (fun h => absurd h (by decide)), (fun h => absurd h (by decide))⟩ uI2
  have S3 : CM A R r0 [0] [] I L I2 L := CM.f G_r0 A_r0 uI2
  have e4 := u2_e uI2
  refine k_aload_n C rfl rfl rfl ?_
  refine k_iload_n C rfl rfl rfl ?_
  refine z_iconst C (z := 1) rfl rfl rfl (fun x5 ex5 => ?_)
  refine z_bipush C (z := 8) rfl rfl rfl (fun x6 ex6 => ?_)
  have q7 : x5.toNatClampNeg = 1 := nck (by omega)
  have q8 : x6.toNatClampNeg = 8 := nck (by omega)
  refine c_SI C a_X12_in rfl rfl rfl rfl rfl rfl rfl (Nat.le_of_ble_eq_true rfl) (Nat.le_of_ble_eq_true rfl) (Nat.le_of_ble_eq_true rfl) ?_
  rintro x9 _ _ ⟨o0x9, o1x9, p0x9, rfl, rfl⟩
  have gx9 := rg x9
  try simp only [q7, q8, e4] at p0x9
  try have q0x9 := congrArg Int32.toInt p0x9
  refine b_if_ne C (t := 20) rfl rfl rfl (fun c10 => ?_) (fun c10 => ?_)
  · skip
    refine z_iconst C (z := 0) rfl rfl rfl (fun x11 ex11 => ?_)
    refine z_iconst C (z := 1) rfl rfl rfl (fun x12 ex12 => ?_)
    have q13 : x11.toNatClampNeg = 0 := nck (by omega)
    have q14 : x12.toNatClampNeg = 1 := nck (by omega)
    refine c_VI C (a_X12_throwsIf hI2 H_r0 (by omega) (by omega)) rfl rfl rfl rfl rfl ⟨_, rfl, rfl, T_r0, Nat.le_of_ble_eq_true rfl⟩ rfl rfl (Nat.le_of_ble_eq_true rfl) (Nat.le_of_ble_eq_true rfl) (Nat.le_of_ble_eq_true rfl) ?_
    rintro x15 I16 L17 ⟨o0x15, o1x15, p0x15, hI16, S18⟩
    have gx15 := rg x15
    try simp only [q13, q14, e4] at p0x15
    try have q0x15 := congrArg Int32.toInt p0x15
    refine b_if_eq C (t := 30) rfl rfl rfl (fun c20 => ?_) (fun c20 => by exfalso; omega)
    refine k_aload_n C rfl rfl rfl ?_
    refine k_iload_n C rfl rfl rfl ?_
    refine k_iload_n C rfl rfl rfl ?_
    refine k_iload_n C rfl rfl rfl ?_
    refine c_VI C (a_X12_basisOf hI16 H_r0 (by omega) (by omega)) rfl rfl rfl rfl rfl ⟨_, rfl, rfl, T_r0, Nat.le_of_ble_eq_true rfl⟩ rfl rfl (Nat.le_of_ble_eq_true rfl) (Nat.le_of_ble_eq_true rfl) (Nat.le_of_ble_eq_true rfl) ?_
    rintro x21 I22 L23 ⟨hI22, S24⟩
    have gx21 := rg x21
    refine k_istore C (lw := [(4, .int x21), (0, .ref r0), (1, .int n1), (2, .int n2), (3, .int n3)]) rfl rfl (Nat.le_of_ble_eq_true rfl) rfl ?_
    refine k_iload C rfl rfl rfl ?_
    refine b_if_ge C (t := 48) rfl rfl rfl (fun c25 => ?_) (fun c25 => ?_)
    · skip
      refine k_iload C rfl rfl rfl ?_
      refine c_SI C a_J6_bitCount_0f7a4_m rfl rfl rfl rfl rfl rfl rfl (Nat.le_of_ble_eq_true rfl) (Nat.le_of_ble_eq_true rfl) (Nat.le_of_ble_eq_true rfl) ?_
      rintro x26 _ _ ⟨rfl, rfl⟩
      have gx26 := rg x26
      exact k_iret C rfl (Or.inl rfl) (Nat.le_of_ble_eq_true rfl) (Nat.le_of_ble_eq_true rfl) ⟨_, _, _, rfl, rfl, hI22, (CM.cons S3 (CM.cons S18 (CM.mono S24 (by decide) (by decide)) (by decide) (by decide)) (by decide) (by decide))⟩
    refine z_iconst C (z := -1) rfl rfl rfl (fun x27 ex27 => ?_)
    refine k_goto C (pc2 := 53) rfl rfl ?_
    exact k_iret C rfl (Or.inl rfl) (Nat.le_of_ble_eq_true rfl) (Nat.le_of_ble_eq_true rfl) ⟨_, _, _, rfl, rfl, hI22, (CM.cons S3 (CM.cons S18 (CM.mono S24 (by decide) (by decide)) (by decide) (by decide)) (by decide) (by decide))⟩
  refine z_iconst C (z := 1) rfl rfl rfl (fun x28 ex28 => ?_)
  refine k_goto C (pc2 := 21) rfl rfl ?_
  refine z_iconst C (z := 1) rfl rfl rfl (fun x29 ex29 => ?_)
  have q30 : x28.toNatClampNeg = 1 := nck (by omega)
  have q31 : x29.toNatClampNeg = 1 := nck (by omega)
  refine c_VI C (a_X12_throwsIf hI2 H_r0 (by omega) (by omega)) rfl rfl rfl rfl rfl ⟨_, rfl, rfl, T_r0, Nat.le_of_ble_eq_true rfl⟩ rfl rfl (Nat.le_of_ble_eq_true rfl) (Nat.le_of_ble_eq_true rfl) (Nat.le_of_ble_eq_true rfl) ?_
  rintro x32 I33 L34 ⟨o0x32, o1x32, p0x32, hI33, S35⟩
  have gx32 := rg x32
  try simp only [q30, q31, e4] at p0x32
  try have q0x32 := congrArg Int32.toInt p0x32
  refine b_if_eq C (t := 30) rfl rfl rfl (fun c37 => by exfalso; omega) (fun c37 => ?_)
  refine z_iconst C (z := 0) rfl rfl rfl (fun x38 ex38 => ?_)
  exact k_iret C rfl (Or.inl rfl) (Nat.le_of_ble_eq_true rfl) (Nat.le_of_ble_eq_true rfl) ⟨_, _, _, rfl, rfl, hI33, (CM.cons S3 (CM.mono S35 (by decide) (by decide)) (by decide) (by decide))⟩

theorem a_X12_basis {d : Nat} {T N : Nat → Nat} {I : IT} {L : LT} {R : RT} {A : Nat → Prop} {r0 : Nat} {n1 n2 n3 : Int32} (hI : IM R r0 I) (H_r0 : (h_MD T N R A) r0) : Ex (d + 11) 266 [.ref r0, .int n1, .int n2, .int n3] (T, N, I, L, R) 0 0 (pI T N R (fun x9 I9 L9 => (IM R r0 I9 ∧ CM A R r0 [0, 24] [4, 5, 22, 23] I L I9 L9))) := by
  refine ⟨_, rfl, Nat.le_of_ble_eq_true rfl, fun V C S => ?_⟩
  show V 0 [(0, .ref r0), (1, .int n1), (2, .int n2), (3, .int n3)] [] (T, N, I, L, R) 0 0
  have gn1 := rg n1
  have gn2 := rg n2
  have gn3 := rg n3
  obtain ⟨T_r0, A_r0, ⟨r0_1, R_r0_1, H_r0_1⟩, ⟨r0_2, R_r0_2, H_r0_2⟩, ⟨r0_4, R_r0_4, H_r0_4⟩, ⟨r0_5, R_r0_5, H_r0_5⟩, ⟨r0_10, R_r0_10, H_r0_10⟩, ⟨r0_18, R_r0_18, H_r0_18⟩, ⟨r0_20, R_r0_20, H_r0_20⟩, ⟨r0_21, R_r0_21, H_r0_21⟩, ⟨r0_22, R_r0_22, H_r0_22⟩, ⟨r0_23, R_r0_23, H_r0_23⟩, ⟨r0_25, R_r0_25, H_r0_25⟩, ⟨r0_26, R_r0_26, H_r0_26⟩, ⟨r0_27, R_r0_27, H_r0_27⟩, ⟨r0_28, R_r0_28, H_r0_28⟩, ⟨r0_34, R_r0_34, H_r0_34⟩, J_r0, Y_r0⟩ := id H_r0
  have G_r0 : mF T R r0 := ⟨J_r0, Y_r0, T_r0⟩
  refine k_aload_n C rfl rfl rfl ?_
  refine z_iconst C (z := 0) rfl rfl rfl (fun x1 ex1 => ?_)
  refine z_pI C rfl rfl rfl T_r0 (Or.inr rfl) rfl (fun I2 uI2 => ?_)
  have hI2 : IM R r0 I2 := IM.fld hI G_r0 ⟨(fun h => absurd h (by decide)), (fun h => absurd h (by decide)), (fun h => absurd h (by decide)), (fun h => absurd h (by decide)), (fun h => absurd h (by decide))⟩ uI2
  have S3 : CM A R r0 [0] [] I L I2 L := CM.f G_r0 A_r0 uI2
  have e4 := u2_e uI2
  refine k_aload_n C rfl rfl rfl ?_
  refine k_iload_n C rfl rfl rfl ?_
  refine z_iconst C (z := 1) rfl rfl rfl (fun x5 ex5 => ?_)
  refine z_bipush C (z := 8) rfl rfl rfl (fun x6 ex6 => ?_)
  have q7 : x5.toNatClampNeg = 1 := nck (by omega)
  have q8 : x6.toNatClampNeg = 8 := nck (by omega)
  refine c_SI C a_X12_in rfl rfl rfl rfl rfl rfl rfl (Nat.le_of_ble_eq_true rfl) (Nat.le_of_ble_eq_true rfl) (Nat.le_of_ble_eq_true rfl) ?_
  rintro x9 _ _ ⟨o0x9, o1x9, p0x9, rfl, rfl⟩
  have gx9 := rg x9
  try simp only [q7, q8, e4] at p0x9
  try have q0x9 := congrArg Int32.toInt p0x9
  refine b_if_ne C (t := 20) rfl rfl rfl (fun c10 => ?_) (fun c10 => ?_)
  · skip
    refine z_iconst C (z := 0) rfl rfl rfl (fun x11 ex11 => ?_)
    refine z_iconst C (z := 1) rfl rfl rfl (fun x12 ex12 => ?_)
    have q13 : x11.toNatClampNeg = 0 := nck (by omega)
    have q14 : x12.toNatClampNeg = 1 := nck (by omega)
    refine c_VI C (a_X12_throwsIf hI2 H_r0 (by omega) (by omega)) rfl rfl rfl rfl rfl ⟨_, rfl, rfl, T_r0, Nat.le_of_ble_eq_true rfl⟩ rfl rfl (Nat.le_of_ble_eq_true rfl) (Nat.le_of_ble_eq_true rfl) (Nat.le_of_ble_eq_true rfl) ?_
    rintro x15 I16 L17 ⟨o0x15, o1x15, p0x15, hI16, S18⟩
    have gx15 := rg x15
    try simp only [q13, q14, e4] at p0x15
    try have q0x15 := congrArg Int32.toInt p0x15
    refine b_if_eq C (t := 32) rfl rfl rfl (fun c20 => ?_) (fun c20 => by exfalso; omega)
    refine k_aload_n C rfl rfl rfl ?_
    refine k_iload_n C rfl rfl rfl ?_
    refine k_iload_n C rfl rfl rfl ?_
    refine k_iload_n C rfl rfl rfl ?_
    refine c_VI C (a_X12_basisOf hI16 H_r0 (by omega) (by omega)) rfl rfl rfl rfl rfl ⟨_, rfl, rfl, T_r0, Nat.le_of_ble_eq_true rfl⟩ rfl rfl (Nat.le_of_ble_eq_true rfl) (Nat.le_of_ble_eq_true rfl) (Nat.le_of_ble_eq_true rfl) ?_
    rintro x21 I22 L23 ⟨hI22, S24⟩
    have gx21 := rg x21
    exact k_iret C rfl (Or.inl rfl) (Nat.le_of_ble_eq_true rfl) (Nat.le_of_ble_eq_true rfl) ⟨_, _, _, rfl, rfl, hI22, (CM.cons S3 (CM.cons S18 (CM.mono S24 (by decide) (by decide)) (by decide) (by decide)) (by decide) (by decide))⟩
  refine z_iconst C (z := 1) rfl rfl rfl (fun x25 ex25 => ?_)
  refine k_goto C (pc2 := 21) rfl rfl ?_
  refine z_iconst C (z := 1) rfl rfl rfl (fun x26 ex26 => ?_)
  have q27 : x25.toNatClampNeg = 1 := nck (by omega)
  have q28 : x26.toNatClampNeg = 1 := nck (by omega)
  refine c_VI C (a_X12_throwsIf hI2 H_r0 (by omega) (by omega)) rfl rfl rfl rfl rfl ⟨_, rfl, rfl, T_r0, Nat.le_of_ble_eq_true rfl⟩ rfl rfl (Nat.le_of_ble_eq_true rfl) (Nat.le_of_ble_eq_true rfl) (Nat.le_of_ble_eq_true rfl) ?_
  rintro x29 I30 L31 ⟨o0x29, o1x29, p0x29, hI30, S32⟩
  have gx29 := rg x29
  try simp only [q27, q28, e4] at p0x29
  try have q0x29 := congrArg Int32.toInt p0x29
  refine b_if_eq C (t := 32) rfl rfl rfl (fun c34 => by exfalso; omega) (fun c34 => ?_)
  refine z_iconst C (z := 0) rfl rfl rfl (fun x35 ex35 => ?_)
  refine k_goto C (pc2 := 39) rfl rfl ?_
  exact k_iret C rfl (Or.inl rfl) (Nat.le_of_ble_eq_true rfl) (Nat.le_of_ble_eq_true rfl) ⟨_, _, _, rfl, rfl, hI30, (CM.cons S3 (CM.mono S32 (by decide) (by decide)) (by decide) (by decide))⟩

