-- 44.ref.lean.txt
section
/-! the reference in any state: rows of values -/
theorem a_X12_firstOf {d : Nat} {T N : Nat → Nat} {I : IT} {L : LT} {R : RT} {A : Nat → Prop} {r0 : Nat} {n1 : Int32} (hI : IM R r0 I) (H_r0 : (h_MD T N R A) r0) (b0_n1 : 0 ≤ n1.toInt) (b1_n1 : n1.toInt ≤ 3444) : Ex (d + 1) 262 [.ref r0, .int n1] (T, N, I, L, R) 0 0 (pI T N R (fun x9 I9 L9 => (0 ≤ x9.toInt) ∧ (x9.toInt ≤ 492) ∧ (x9.toInt ≤ (I r0 24).toInt) ∧ (∀ a22, R r0 22 = some a22 → AZ I a22 n1.toNatClampNeg x9.toInt) ∧ (∀ a22, R r0 22 = some a22 → x9.toInt < (I r0 24).toInt → NE1 I a22 (n1.toNatClampNeg + x9.toNatClampNeg)) ∧ (I = I9 ∧ L = L9))) := by
  refine ⟨_, rfl, Nat.le_of_ble_eq_true rfl, fun V C S => ?_⟩
  show V 0 [(0, .ref r0), (1, .int n1)] [] (T, N, I, L, R) 0 0
  have gn1 := rg n1
  obtain ⟨T_r0, A_r0, ⟨r0_1, R_r0_1, H_r0_1⟩, ⟨r0_2, R_r0_2, H_r0_2⟩, ⟨r0_4, R_r0_4, H_r0_4⟩, ⟨r0_5, R_r0_5, H_r0_5⟩, ⟨r0_10, R_r0_10, H_r0_10⟩, ⟨r0_18, R_r0_18, H_r0_18⟩, ⟨r0_20, R_r0_20, H_r0_20⟩, ⟨r0_21, R_r0_21, H_r0_21⟩, ⟨r0_22, R_r0_22, H_r0_22⟩, ⟨r0_23, R_r0_23, H_r0_23⟩, ⟨r0_25, R_r0_25, H_r0_25⟩, ⟨r0_26, R_r0_26, H_r0_26⟩, ⟨r0_27, R_r0_27, H_r0_27⟩, ⟨r0_28, R_r0_28, H_r0_28⟩, ⟨r0_34, R_r0_34, H_r0_34⟩, J_r0, Y_r0⟩ := id H_r0
  have G_r0 : mF T R r0 := ⟨J_r0, Y_r0, T_r0⟩
  obtain ⟨w_r0_24, k0_r0_24⟩ : ∃ x, I r0 24 = x := ⟨_, rfl⟩
  have gw_r0_24 := rg w_r0_24
  have ow_r0_24 := IM.f24 hI k0_r0_24
  refine z_iconst C (z := 0) rfl rfl rfl (fun x1 ex1 => ?_)
  have J2 : ∀ (nn3 : Nat) (x4 : Int32), (MN (492 - x4.toInt) nn3) → (0 ≤ x4.toInt) → (x4.toInt ≤ 492) → (AZ I r0_22 n1.toNatClampNeg x4.toInt) → (x4.toInt ≤ w_r0_24.toInt) → V 2 [(0, .ref r0), (1, .int n1), (2, .int x4)] [] (T, N, I, L, R) 0 0 := by
    intro nn3
    induction nn3 using Nat.strongRecOn with
    | _ nn3 ihJ2 =>
      intro x4 hmnn3 b5 b6 ff2_0 ff2_1
      have gx4 := rg x4
      refine k_iload_n C rfl rfl rfl ?_
      refine k_aload_n C rfl rfl rfl ?_
      refine g_I C rfl rfl rfl T_r0 rfl k0_r0_24 ?_
      refine b_icmp_ge C (t := 27) rfl rfl rfl (fun c7 => ?_) (fun c7 => ?_)
      · skip
        refine k_iload_n C rfl rfl rfl ?_
        exact k_iret C rfl (Or.inl rfl) (Nat.le_of_ble_eq_true rfl) (Nat.le_of_ble_eq_true rfl) ⟨_, _, _, rfl, rfl, by omega, by omega, by first | omega | (simp only [k0_r0_24] <;> omega), fun a22 h22 => by cases (R_r0_22.symm.trans h22); exact ff2_0, fun a22 h22 => by cases (R_r0_22.symm.trans h22); first | (intro h; exfalso; simp only [k0_r0_24] at h; omega) | (intro _; show (I r0_22 _).toInt ≠ 0; rw [ee]; omega), rfl, rfl⟩
      refine k_aload_n C rfl rfl rfl ?_
      refine g_R C rfl rfl rfl T_r0 rfl R_r0_22 ?_
      refine k_iload_n C rfl rfl rfl ?_
      refine k_iload_n C rfl rfl rfl ?_
      refine z_iadd C rfl rfl ⟨by omega, by omega⟩ (fun x8 ex8 => ?_)
      obtain ⟨T_r0_22, N_r0_22, A_r0_22⟩ := id H_r0_22
      refine z_aI C rfl rfl T_r0_22 N_r0_22 (by omega) (by omega) (fun x9 ex9 => ?_)
      have gx9 := rg x9
      have ox9 := IM.rsR hI R_r0_22 ex9
      have jj : x8.toNatClampNeg = n1.toNatClampNeg + x4.toNatClampNeg := by (have h1 := ncz (x := n1) (by omega)); (have h2 := ncz (x := x4) (by omega)); (have hj := ncz (x := x8) (by omega)); omega
      have ee := ex9; rw [jj] at ee
      refine b_if_ne C (t := 27) rfl rfl rfl (fun c10 => ?_) (fun c10 => ?_)
      · skip
        refine k_iload_n C rfl rfl rfl ?_
        exact k_iret C rfl (Or.inl rfl) (Nat.le_of_ble_eq_true rfl) (Nat.le_of_ble_eq_true rfl) ⟨_, _, _, rfl, rfl, by omega, by omega, by first | omega | (simp only [k0_r0_24, ex9] <;> omega), fun a22 h22 => by cases (R_r0_22.symm.trans h22); exact ff2_0, fun a22 h22 => by cases (R_r0_22.symm.trans h22); first | (intro h; exfalso; simp only [k0_r0_24] at h; omega) | (intro _; show (I r0_22 _).toInt ≠ 0; rw [ee]; omega), rfl, rfl⟩
      refine z_iinc C (z := 1) (lw := fun x11 => [(2, .int x11), (0, .ref r0), (1, .int n1)]) rfl rfl rfl (Nat.le_of_ble_eq_true rfl) rfl ⟨by omega, by omega⟩ (fun _ => rfl) (fun x11 ex11 => ?_)
      show V 24 [(2, .int x11), (0, .ref r0), (1, .int n1)] _ _ _ _
      refine k_goto C (pc2 := 2) rfl rfl ?_
      refine k_sub S [(0, .ref r0), (1, .int n1), (2, .int x11)] (List.forall_mem_cons.mpr ⟨List.mem_of_getElem? (i := 1) rfl, List.forall_mem_cons.mpr ⟨List.mem_of_getElem? (i := 2) rfl, List.forall_mem_cons.mpr ⟨List.mem_of_getElem? (i := 0) rfl, fun _ h => nomatch h⟩⟩⟩) ?_
      exact ihJ2 _ (MN.lt hmnn3 (by omega) (by omega)) x11 rfl (by omega) (by omega) (by exact AZ.s ff2_0 (by omega) (by rw [ee]; omega) (by omega)) (by omega)
  refine k_istore_n C (lw := [(2, .int x1), (0, .ref r0), (1, .int n1)]) rfl rfl (Nat.le_of_ble_eq_true rfl) rfl ?_
  refine k_sub S [(0, .ref r0), (1, .int n1), (2, .int x1)] (List.forall_mem_cons.mpr ⟨List.mem_of_getElem? (i := 1) rfl, List.forall_mem_cons.mpr ⟨List.mem_of_getElem? (i := 2) rfl, List.forall_mem_cons.mpr ⟨List.mem_of_getElem? (i := 0) rfl, fun _ h => nomatch h⟩⟩⟩) ?_
  exact J2 _ x1 rfl (by omega) (by omega) (by exact AZ.z (by omega)) (by omega)

theorem a_X12_isNew {d : Nat} {T N : Nat → Nat} {I : IT} {L : LT} {R : RT} {A : Nat → Prop} {r0 : Nat} {n1 n2 : Int32} (hI : IM R r0 I) (H_r0 : (h_MD T N R A) r0) (b0_n1 : 0 ≤ n1.toInt) (b1_n1 : n1.toInt ≤ 3444) (b0_n2 : 0 ≤ n2.toInt) (b1_n2 : n2.toInt ≤ 7) (hp0 : n1.toInt = 492 * n2.toInt) (hp1 : ∀ a22, R r0 22 = some a22 → RWS I a22 n2.toNatClampNeg (I r0 24).toInt) : Ex (d + 5) 263 [.ref r0, .int n1, .int n2] (T, N, I, L, R) 0 0 (pI T N R (fun x9 I9 L9 => (0 ≤ x9.toInt) ∧ (x9.toInt ≤ 1) ∧ (∀ a22, R r0 22 = some a22 → x9.toInt = 1 → RW1 I9 a22 n1.toNatClampNeg (I9 r0 24).toInt) ∧ (∀ a22, R r0 22 = some a22 → ∀ r : Nat, (r < n1.toNatClampNeg ∨ n1.toNatClampNeg + 492 ≤ r) → I9 a22 r = I a22 r) ∧ (IM R r0 I9 ∧ CM A R r0 [] [22] I L I9 L9))) := by
  refine ⟨_, rfl, Nat.le_of_ble_eq_true rfl, fun V C S => ?_⟩
  show V 0 [(0, .ref r0), (1, .int n1), (2, .int n2)] [] (T, N, I, L, R) 0 0
  have gn1 := rg n1
  have gn2 := rg n2
  obtain ⟨T_r0, A_r0, ⟨r0_1, R_r0_1, H_r0_1⟩, ⟨r0_2, R_r0_2, H_r0_2⟩, ⟨r0_4, R_r0_4, H_r0_4⟩, ⟨r0_5, R_r0_5, H_r0_5⟩, ⟨r0_10, R_r0_10, H_r0_10⟩, ⟨r0_18, R_r0_18, H_r0_18⟩, ⟨r0_20, R_r0_20, H_r0_20⟩, ⟨r0_21, R_r0_21, H_r0_21⟩, ⟨r0_22, R_r0_22, H_r0_22⟩, ⟨r0_23, R_r0_23, H_r0_23⟩, ⟨r0_25, R_r0_25, H_r0_25⟩, ⟨r0_26, R_r0_26, H_r0_26⟩, ⟨r0_27, R_r0_27, H_r0_27⟩, ⟨r0_28, R_r0_28, H_r0_28⟩, ⟨r0_34, R_r0_34, H_r0_34⟩, J_r0, Y_r0⟩ := id H_r0
  have G_r0 : mF T R r0 := ⟨J_r0, Y_r0, T_r0⟩
  obtain ⟨w_r0_24, k0_r0_24⟩ : ∃ x, I r0 24 = x := ⟨_, rfl⟩
  have gw_r0_24 := rg w_r0_24
  have ow_r0_24 := IM.f24 hI k0_r0_24
  have hp1 := hp1 r0_22 R_r0_22
  try simp only [k0_r0_24] at hp0
  try simp only [k0_r0_24] at hp1
  refine z_iconst C (z := 0) rfl rfl rfl (fun x1 ex1 => ?_)
  have J2 : ∀ (nn3 : Nat) (I4 : IT) (L5 : LT) (x6 : Int32), (MN (7 - x6.toInt) nn3) → (IM R r0 I4) → (CM A R r0 [] [22] I L I4 L5) → (∀ r : Nat, (r < n1.toNatClampNeg ∨ n1.toNatClampNeg + 492 ≤ r) → I4 r0_22 r = I r0_22 r) → (0 ≤ x6.toInt) → (x6.toInt ≤ 7) → (RWS I4 r0_22 n2.toNatClampNeg w_r0_24.toInt) → V 2 [(0, .ref r0), (1, .int n1), (2, .int n2), (3, .int x6)] [] (T, N, I4, L5, R) 0 0 := by
    intro nn3
    induction nn3 using Nat.strongRecOn with
    | _ nn3 ihJ2 =>
      intro I4 L5 x6 hmnn3 hI10 S9 F11 b7 b8 ff2_0
      have gx6 := rg x6
      have e12 := CM.k S9 (by decide) k0_r0_24
      refine k_iload_n C rfl rfl rfl ?_
      refine k_iload_n C rfl rfl rfl ?_
      refine b_icmp_ge C (t := 115) rfl rfl rfl (fun c13 => ?_) (fun c13 => ?_)
      · skip
        refine k_aload_n C rfl rfl rfl ?_
        refine k_iload_n C rfl rfl rfl ?_
        refine c_VI C (a_X12_firstOf hI10 H_r0 (by omega) (by omega)) rfl rfl rfl rfl rfl ⟨_, rfl, rfl, T_r0, Nat.le_of_ble_eq_true rfl⟩ rfl rfl (Nat.le_of_ble_eq_true rfl) (Nat.le_of_ble_eq_true rfl) (Nat.le_of_ble_eq_true rfl) ?_
        rintro x14 _ _ ⟨o0x14, o1x14, p0x14, p1x14, p2x14, rfl, rfl⟩
        have p1x14 := p1x14 r0_22 R_r0_22
        have p2x14 := p2x14 r0_22 R_r0_22
        have gx14 := rg x14
        try simp only [e12] at p0x14
        try have q0x14 := congrArg Int32.toInt p0x14
        try simp only [e12] at p1x14
        try have q1x14 := congrArg Int32.toInt p1x14
        try simp only [e12] at p2x14
        try have q2x14 := congrArg Int32.toInt p2x14
        have hF := fun (z : x14.toInt < w_r0_24.toInt) => RW1.of (p2x14 z) (by omega) z
        refine k_aload_n C rfl rfl rfl ?_
        refine g_I C rfl rfl rfl T_r0 rfl e12 ?_
        refine b_icmp_ge C (t := 131) rfl rfl rfl (fun c15 => ?_) (fun c15 => ?_)
        · skip
          refine z_iconst C (z := 0) rfl rfl rfl (fun x16 ex16 => ?_)
          exact k_iret C rfl (Or.inr ⟨rfl, z01 (by omega) (by omega)⟩) (Nat.le_of_ble_eq_true rfl) (Nat.le_of_ble_eq_true rfl) ⟨_, _, _, rfl, rfl, by omega, by omega, fun a22 h22 => by cases (R_r0_22.symm.trans h22); first | (intro h; exfalso; omega) | (intro _; rw [e12]; exact hF (by omega)), fun a22 h22 => by cases (R_r0_22.symm.trans h22); exact (fun r z0 => (F11 r z0)), hI10, (CM.mono S9 (by decide) (by decide))⟩
        refine z_iconst C (z := 1) rfl rfl rfl (fun x17 ex17 => ?_)
        refine k_goto C (pc2 := 132) rfl rfl ?_
        exact k_iret C rfl (Or.inr ⟨rfl, z01 (by omega) (by omega)⟩) (Nat.le_of_ble_eq_true rfl) (Nat.le_of_ble_eq_true rfl) ⟨_, _, _, rfl, rfl, by omega, by omega, fun a22 h22 => by cases (R_r0_22.symm.trans h22); first | (intro h; exfalso; omega) | (intro _; rw [e12]; exact hF (by omega)), fun a22 h22 => by cases (R_r0_22.symm.trans h22); exact (fun r z0 => (F11 r z0)), hI10, (CM.mono S9 (by decide) (by decide))⟩
      refine k_aload_n C rfl rfl rfl ?_
      refine z_sipush C (z := 492) rfl rfl rfl (fun x18 ex18 => ?_)
      refine k_iload_n C rfl rfl rfl ?_
      refine z_imulL C (c := 492) rfl rfl (by omega) ⟨by omega, by omega⟩ (fun x19 ex19 => ?_)
      refine c_VI C (a_X12_firstOf hI10 H_r0 (by omega) (by omega)) rfl rfl rfl rfl rfl ⟨_, rfl, rfl, T_r0, Nat.le_of_ble_eq_true rfl⟩ rfl rfl (Nat.le_of_ble_eq_true rfl) (Nat.le_of_ble_eq_true rfl) (Nat.le_of_ble_eq_true rfl) ?_
      rintro x20 _ _ ⟨o0x20, o1x20, p0x20, p1x20, p2x20, rfl, rfl⟩
      have p1x20 := p1x20 r0_22 R_r0_22
      have p2x20 := p2x20 r0_22 R_r0_22
      have gx20 := rg x20
      try simp only [e12] at p0x20
      try have q0x20 := congrArg Int32.toInt p0x20
      try simp only [e12] at p1x20
      try have q1x20 := congrArg Int32.toInt p1x20
      try simp only [e12] at p2x20
      try have q2x20 := congrArg Int32.toInt p2x20
      have hlt := RWS.lt (r := x6) ff2_0 p1x20 (by omega) (by omega) (by omega)
      refine k_istore C (lw := [(4, .int x20), (0, .ref r0), (1, .int n1), (2, .int n2), (3, .int x6)]) rfl rfl (Nat.le_of_ble_eq_true rfl) rfl ?_
      refine k_aload_n C rfl rfl rfl ?_
      refine k_aload_n C rfl rfl rfl ?_
      refine g_R C rfl rfl rfl T_r0 rfl R_r0_22 ?_
      refine k_iload_n C rfl rfl rfl ?_
      refine k_iload C rfl rfl rfl ?_
      refine z_iadd C rfl rfl ⟨by omega, by omega⟩ (fun x21 ex21 => ?_)
      obtain ⟨T_r0_22, N_r0_22, A_r0_22⟩ := id H_r0_22
      refine z_aI C rfl rfl T_r0_22 N_r0_22 (by omega) (by omega) (fun x22 ex22 => ?_)
      have gx22 := rg x22
      have ox22 := IM.rsR hI10 R_r0_22 ex22
      refine k_aload_n C rfl rfl rfl ?_
      refine k_aload_n C rfl rfl rfl ?_
      refine g_R C rfl rfl rfl T_r0 rfl R_r0_22 ?_
      refine z_sipush C (z := 492) rfl rfl rfl (fun x23 ex23 => ?_)
      refine k_iload_n C rfl rfl rfl ?_
      refine z_imulL C (c := 492) rfl rfl (by omega) ⟨by omega, by omega⟩ (fun x24 ex24 => ?_)
      refine k_iload C rfl rfl rfl ?_
      refine z_iadd C rfl rfl ⟨by omega, by omega⟩ (fun x25 ex25 => ?_)
      refine z_aI C rfl rfl T_r0_22 N_r0_22 (by omega) (by omega) (fun x26 ex26 => ?_)
      have gx26 := rg x26
      have ox26 := IM.rsR hI10 R_r0_22 ex26
      obtain ⟨x27, e28⟩ : ∃ x, I4 r0_1 0 = x := ⟨_, rfl⟩
      have gx27 := rg x27
      have ox27 := IM.pi hI10 R_r0_1 e28
      refine c_VI C (a_X12_inverse hI10 H_r0 (by omega) (by omega)) rfl rfl rfl rfl rfl ⟨_, rfl, rfl, T_r0, Nat.le_of_ble_eq_true rfl⟩ rfl rfl (Nat.le_of_ble_eq_true rfl) (Nat.le_of_ble_eq_true rfl) (Nat.le_of_ble_eq_true rfl) ?_
      rintro x29 _ _ ⟨o0x29, o1x29, p0x29, rfl, rfl⟩
      have p0x29 := p0x29 r0_1 R_r0_1
      have gx29 := rg x29
      try simp only [e12, ex22, ex26, e28] at p0x29
      try have q0x29 := congrArg Int32.toInt p0x29
      refine c_VI C (a_X12_times hI10 H_r0 (by omega) (by omega) (by omega) (by omega)) rfl rfl rfl rfl rfl ⟨_, rfl, rfl, T_r0, Nat.le_of_ble_eq_true rfl⟩ rfl rfl (Nat.le_of_ble_eq_true rfl) (Nat.le_of_ble_eq_true rfl) (Nat.le_of_ble_eq_true rfl) ?_
      rintro x30 _ _ ⟨o0x30, o1x30, p0x30, p1x30, p2x30, p3x30, rfl, rfl⟩
      have p0x30 := p0x30 r0_1 R_r0_1
      have p2x30 := p2x30 r0_1 R_r0_1
      have p3x30 := p3x30 r0_1 R_r0_1
      have gx30 := rg x30
      try simp only [e12, ex22, ex26, e28] at p0x30
      try have q0x30 := congrArg Int32.toInt p0x30
      try simp only [e12, ex22, ex26, e28] at p1x30
      try have q1x30 := congrArg Int32.toInt p1x30
      try simp only [e12, ex22, ex26, e28] at p2x30
      try have q2x30 := congrArg Int32.toInt p2x30
      try simp only [e12, ex22, ex26, e28] at p3x30
      try have q3x30 := congrArg Int32.toInt p3x30
      refine k_istore C (lw := [(5, .int x30), (4, .int x20), (0, .ref r0), (1, .int n1), (2, .int n2), (3, .int x6)]) rfl rfl (Nat.le_of_ble_eq_true rfl) rfl ?_
      refine z_iconst C (z := 0) rfl rfl rfl (fun x31 ex31 => ?_)
      have J32 : ∀ (nn33 : Nat) (I34 : IT) (L35 : LT) (x36 : Int32), (MN (492 - x36.toInt) nn33) → (IM R r0 I34) → (CM A R r0 [] [22] I4 L5 I34 L35) → (∀ r : Nat, (r < n1.toNatClampNeg ∨ n1.toNatClampNeg + 492 ≤ r) → I34 r0_22 r = I4 r0_22 r) → (0 ≤ x36.toInt) → (x36.toInt ≤ 492) → (RWS I34 r0_22 n2.toNatClampNeg w_r0_24.toInt) → V 53 [(0, .ref r0), (1, .int n1), (2, .int n2), (3, .int x6), (5, .int x30), (6, .int x36)] [] (T, N, I34, L35, R) 0 0 := by
        intro nn33
        induction nn33 using Nat.strongRecOn with
        | _ nn33 ihJ32 =>
          intro I34 L35 x36 hmnn33 hI40 S39 F41 b37 b38 ff53_0
          have gx36 := rg x36
          have e42 := CM.k S39 (by decide) e12
          have e43 := CM.j S39 R_r0_1 (by decide) e28
          refine k_iload C rfl rfl rfl ?_
          refine k_aload_n C rfl rfl rfl ?_
          refine g_I C rfl rfl rfl T_r0 rfl e42 ?_
          refine b_icmp_ge C (t := 109) rfl rfl rfl (fun c44 => ?_) (fun c44 => ?_)
          · skip
            refine z_iinc C (z := 1) (lw := fun x45 => [(3, .int x45), (0, .ref r0), (1, .int n1), (2, .int n2), (5, .int x30), (6, .int x36)]) rfl rfl rfl (Nat.le_of_ble_eq_true rfl) rfl ⟨by omega, by omega⟩ (fun _ => rfl) (fun x45 ex45 => ?_)
            show V 112 [(3, .int x45), (0, .ref r0), (1, .int n1), (2, .int n2), (5, .int x30), (6, .int x36)] _ _ _ _
            refine k_goto C (pc2 := 2) rfl rfl ?_
            refine k_sub S [(0, .ref r0), (1, .int n1), (2, .int n2), (3, .int x45)] (List.forall_mem_cons.mpr ⟨List.mem_of_getElem? (i := 1) rfl, List.forall_mem_cons.mpr ⟨List.mem_of_getElem? (i := 2) rfl, List.forall_mem_cons.mpr ⟨List.mem_of_getElem? (i := 3) rfl, List.forall_mem_cons.mpr ⟨List.mem_of_getElem? (i := 0) rfl, fun _ h => nomatch h⟩⟩⟩⟩) ?_
            exact ihJ2 _ (MN.lt hmnn3 (by omega) (by omega)) I34 L35 x45 rfl hI40 (CM.cons S9 (CM.mono S39 (by decide) (by decide)) (by decide) (by decide)) (fun r z0 => ((F41 r z0).trans (F11 r z0))) (by omega) (by omega) (by exact ff53_0)
          refine k_aload_n C rfl rfl rfl ?_
          refine g_R C rfl rfl rfl T_r0 rfl R_r0_22 ?_
          refine k_iload_n C rfl rfl rfl ?_
          refine k_iload C rfl rfl rfl ?_
          refine z_iadd C rfl rfl ⟨by omega, by omega⟩ (fun x46 ex46 => ?_)
          refine k_aload_n C rfl rfl rfl ?_
          refine k_aload_n C rfl rfl rfl ?_
          refine g_R C rfl rfl rfl T_r0 rfl R_r0_22 ?_
          refine k_iload_n C rfl rfl rfl ?_
          refine k_iload C rfl rfl rfl ?_
          refine z_iadd C rfl rfl ⟨by omega, by omega⟩ (fun x47 ex47 => ?_)
          refine z_aI C rfl rfl T_r0_22 N_r0_22 (by omega) (by omega) (fun x48 ex48 => ?_)
          have gx48 := rg x48
          have ox48 := IM.rsR hI40 R_r0_22 ex48
          refine k_aload_n C rfl rfl rfl ?_
          refine k_iload C rfl rfl rfl ?_
          refine k_aload_n C rfl rfl rfl ?_
          refine g_R C rfl rfl rfl T_r0 rfl R_r0_22 ?_
          refine z_sipush C (z := 492) rfl rfl rfl (fun x49 ex49 => ?_)
          refine k_iload_n C rfl rfl rfl ?_
          refine z_imulL C (c := 492) rfl rfl (by omega) ⟨by omega, by omega⟩ (fun x50 ex50 => ?_)
          refine k_iload C rfl rfl rfl ?_
          refine z_iadd C rfl rfl ⟨by omega, by omega⟩ (fun x51 ex51 => ?_)
          refine z_aI C rfl rfl T_r0_22 N_r0_22 (by omega) (by omega) (fun x52 ex52 => ?_)
          have gx52 := rg x52
          have ox52 := IM.rsR hI40 R_r0_22 ex52
          refine c_VI C (a_X12_times hI40 H_r0 (by omega) (by omega) (by omega) (by omega)) rfl rfl rfl rfl rfl ⟨_, rfl, rfl, T_r0, Nat.le_of_ble_eq_true rfl⟩ rfl rfl (Nat.le_of_ble_eq_true rfl) (Nat.le_of_ble_eq_true rfl) (Nat.le_of_ble_eq_true rfl) ?_
          rintro x53 _ _ ⟨o0x53, o1x53, p0x53, p1x53, p2x53, p3x53, rfl, rfl⟩
          have p0x53 := p0x53 r0_1 R_r0_1
          have p2x53 := p2x53 r0_1 R_r0_1
          have p3x53 := p3x53 r0_1 R_r0_1
          have gx53 := rg x53
          try simp only [e42, e43, ex48, ex52] at p0x53
          try have q0x53 := congrArg Int32.toInt p0x53
          try simp only [e42, e43, ex48, ex52] at p1x53
          try have q1x53 := congrArg Int32.toInt p1x53
          try simp only [e42, e43, ex48, ex52] at p2x53
          try have q2x53 := congrArg Int32.toInt p2x53
          try simp only [e42, e43, ex48, ex52] at p3x53
          try have q3x53 := congrArg Int32.toInt p3x53
          refine c_VI C (a_X12_less hI40 H_r0 (by omega) (by omega) (by omega) (by omega)) rfl rfl rfl rfl rfl ⟨_, rfl, rfl, T_r0, Nat.le_of_ble_eq_true rfl⟩ rfl rfl (Nat.le_of_ble_eq_true rfl) (Nat.le_of_ble_eq_true rfl) (Nat.le_of_ble_eq_true rfl) ?_
          rintro x54 _ _ ⟨o0x54, o1x54, p0x54, p1x54, p2x54, p3x54, rfl, rfl⟩
          have p0x54 := p0x54 r0_1 R_r0_1
          have p2x54 := p2x54 r0_1 R_r0_1
          have p3x54 := p3x54 r0_1 R_r0_1
          have gx54 := rg x54
          try simp only [e42, e43, ex48, ex52] at p0x54
          try have q0x54 := congrArg Int32.toInt p0x54
          try simp only [e42, e43, ex48, ex52] at p1x54
          try have q1x54 := congrArg Int32.toInt p1x54
          try simp only [e42, e43, ex48, ex52] at p2x54
          try have q2x54 := congrArg Int32.toInt p2x54
          try simp only [e42, e43, ex48, ex52] at p3x54
          try have q3x54 := congrArg Int32.toInt p3x54
          refine z_sI C rfl rfl T_r0_22 N_r0_22 (by omega) (by omega) (fun I55 uI55 => ?_)
          have hI55 : IM R r0 I55 := IM.arr hI40 G_r0 R_r0_22 ⟨(fun h => absurd h (by decide)), (fun h => absurd h (by decide)), (fun _ => ⟨by omega, by omega⟩)⟩ (fun h => absurd h (by decide)) uI55
          have S56 : CM A R r0 [] [22] I34 L35 I55 L35 := CM.a G_r0 R_r0_22 A_r0_22 uI55
          have F57 : ∀ r : Nat, (r < n1.toNatClampNeg ∨ n1.toNatClampNeg + 492 ≤ r) → I55 r0_22 r = I34 r0_22 r := fun r z0 => by rw [uI55]; exact u2_k (by have h1 := ncz (x := n1) (by omega); have h2 := ncz (x := x46) (by omega); omega)
          have e58 := u2_n uI55 (fun e => (mF.ne G_r0 R_r0_22) e.symm) e42
          have e59 := u2_n uI55 (mF.nq G_r0 R_r0_1 R_r0_22 (by decide)) e43
          have e62 := u2_e uI55
          refine z_iinc C (z := 1) (lw := fun x63 => [(6, .int x63), (0, .ref r0), (1, .int n1), (2, .int n2), (3, .int x6), (5, .int x30)]) rfl rfl rfl (Nat.le_of_ble_eq_true rfl) rfl ⟨by omega, by omega⟩ (fun _ => rfl) (fun x63 ex63 => ?_)
          show V 106 [(6, .int x63), (0, .ref r0), (1, .int n1), (2, .int n2), (3, .int x6), (5, .int x30)] _ _ _ _
          refine k_goto C (pc2 := 53) rfl rfl ?_
          refine k_sub S [(0, .ref r0), (1, .int n1), (2, .int n2), (3, .int x6), (5, .int x30), (6, .int x63)] (List.forall_mem_cons.mpr ⟨List.mem_of_getElem? (i := 1) rfl, List.forall_mem_cons.mpr ⟨List.mem_of_getElem? (i := 2) rfl, List.forall_mem_cons.mpr ⟨List.mem_of_getElem? (i := 3) rfl, List.forall_mem_cons.mpr ⟨List.mem_of_getElem? (i := 4) rfl, List.forall_mem_cons.mpr ⟨List.mem_of_getElem? (i := 5) rfl, List.forall_mem_cons.mpr ⟨List.mem_of_getElem? (i := 0) rfl, fun _ h => nomatch h⟩⟩⟩⟩⟩⟩) ?_
          exact ihJ32 _ (MN.lt hmnn33 (by omega) (by omega)) I55 L35 x63 rfl hI55 (CM.cons S39 (CM.mono S56 (by decide) (by decide)) (by decide) (by decide)) (fun r z0 => ((F57 r z0).trans (F41 r z0))) (by omega) (by omega) (by exact RWS.fr ff53_0 (fun r z0 => (F57 r z0)) (by omega) (by omega) (by omega))
      refine k_istore C (lw := [(6, .int x31), (5, .int x30), (4, .int x20), (0, .ref r0), (1, .int n1), (2, .int n2), (3, .int x6)]) rfl rfl (Nat.le_of_ble_eq_true rfl) rfl ?_
      refine k_sub S [(0, .ref r0), (1, .int n1), (2, .int n2), (3, .int x6), (5, .int x30), (6, .int x31)] (List.forall_mem_cons.mpr ⟨List.mem_of_getElem? (i := 3) rfl, List.forall_mem_cons.mpr ⟨List.mem_of_getElem? (i := 4) rfl, List.forall_mem_cons.mpr ⟨List.mem_of_getElem? (i := 5) rfl, List.forall_mem_cons.mpr ⟨List.mem_of_getElem? (i := 6) rfl, List.forall_mem_cons.mpr ⟨List.mem_of_getElem? (i := 1) rfl, List.forall_mem_cons.mpr ⟨List.mem_of_getElem? (i := 0) rfl, fun _ h => nomatch h⟩⟩⟩⟩⟩⟩) ?_
      exact J32 _ I4 L5 x31 rfl hI10 CM.rf (fun r z0 => rfl) (by omega) (by omega) (by exact ff2_0)
  refine k_istore_n C (lw := [(3, .int x1), (0, .ref r0), (1, .int n1), (2, .int n2)]) rfl rfl (Nat.le_of_ble_eq_true rfl) rfl ?_
  refine k_sub S [(0, .ref r0), (1, .int n1), (2, .int n2), (3, .int x1)] (List.forall_mem_cons.mpr ⟨List.mem_of_getElem? (i := 1) rfl, List.forall_mem_cons.mpr ⟨List.mem_of_getElem? (i := 2) rfl, List.forall_mem_cons.mpr ⟨List.mem_of_getElem? (i := 3) rfl, List.forall_mem_cons.mpr ⟨List.mem_of_getElem? (i := 0) rfl, fun _ h => nomatch h⟩⟩⟩⟩) ?_
  exact J2 _ I L x1 rfl hI CM.rf (fun r z0 => rfl) (by omega) (by omega) (by exact hp1)

theorem a_X12_rowOf {d : Nat} {T N : Nat → Nat} {I : IT} {L : LT} {R : RT} {A : Nat → Prop} {r0 : Nat} {n1 n2 n3 n4 : Int32} (hI : IM R r0 I) (H_r0 : (h_MD T N R A) r0) (b0_n1 : 0 ≤ n1.toInt) (b1_n1 : n1.toInt ≤ 7) (b0_n2 : 1 ≤ n2.toInt) (b1_n2 : n2.toInt ≤ 8) (b0_n3 : 0 ≤ n3.toInt) (b1_n3 : n3.toInt ≤ 3444) (b0_n4 : -1 ≤ n4.toInt) (b1_n4 : n4.toInt ≤ 40) (hp0 : ∀ a1, R r0 1 = some a1 → n1.toInt < (I a1 3).toInt) : Ex (d + 9) 261 [.ref r0, .int n1, .int n2, .int n3, .int n4] (T, N, I, L, R) 0 0 (pI T N R (fun x9 I9 L9 => (0 ≤ x9.toInt) ∧ (x9.toInt ≤ 1) ∧ (∀ a4, R r0 4 = some a4 → x9.toInt = 1 → (I9 r0 24).toInt = 12 * ((I9 a4 0).toInt + 1) ∧ (n4.toInt = -1 ∨ (I9 a4 0).toInt = n4.toInt)) ∧ (∀ a22, R r0 22 = some a22 → ∀ r : Nat, (r < n3.toNatClampNeg ∨ n3.toNatClampNeg + 492 ≤ r) → I9 a22 r = I a22 r) ∧ (IM R r0 I9 ∧ CM A R r0 [24] [4, 5, 22] I L I9 L9))) := by
  refine ⟨_, rfl, Nat.le_of_ble_eq_true rfl, fun V C S => ?_⟩
  show V 0 [(0, .ref r0), (1, .int n1), (2, .int n2), (3, .int n3), (4, .int n4)] [] (T, N, I, L, R) 0 0
  have gn1 := rg n1
  have gn2 := rg n2
  have gn3 := rg n3
  have gn4 := rg n4
  obtain ⟨T_r0, A_r0, ⟨r0_1, R_r0_1, H_r0_1⟩, ⟨r0_2, R_r0_2, H_r0_2⟩, ⟨r0_4, R_r0_4, H_r0_4⟩, ⟨r0_5, R_r0_5, H_r0_5⟩, ⟨r0_10, R_r0_10, H_r0_10⟩, ⟨r0_18, R_r0_18, H_r0_18⟩, ⟨r0_20, R_r0_20, H_r0_20⟩, ⟨r0_21, R_r0_21, H_r0_21⟩, ⟨r0_22, R_r0_22, H_r0_22⟩, ⟨r0_23, R_r0_23, H_r0_23⟩, ⟨r0_25, R_r0_25, H_r0_25⟩, ⟨r0_26, R_r0_26, H_r0_26⟩, ⟨r0_27, R_r0_27, H_r0_27⟩, ⟨r0_28, R_r0_28, H_r0_28⟩, ⟨r0_34, R_r0_34, H_r0_34⟩, J_r0, Y_r0⟩ := id H_r0
  have G_r0 : mF T R r0 := ⟨J_r0, Y_r0, T_r0⟩
  obtain ⟨w_r0_1_3, k0_r0_1_3⟩ : ∃ x, I r0_1 3 = x := ⟨_, rfl⟩
  have gw_r0_1_3 := rg w_r0_1_3
  have ow_r0_1_3 := IM.c3 hI R_r0_1 k0_r0_1_3
  obtain ⟨w_r0_24, k0_r0_24⟩ : ∃ x, I r0 24 = x := ⟨_, rfl⟩
  have gw_r0_24 := rg w_r0_24
  have ow_r0_24 := IM.f24 hI k0_r0_24
  obtain ⟨w_r0_4_0, k0_r0_4_0⟩ : ∃ x, I r0_4 0 = x := ⟨_, rfl⟩
  have gw_r0_4_0 := rg w_r0_4_0
  have ow_r0_4_0 := IM.dgR hI R_r0_4 k0_r0_4_0
  have hp0 := hp0 r0_1 R_r0_1
  try simp only [k0_r0_1_3, k0_r0_24, k0_r0_4_0] at hp0
  refine z_iconst C (z := 0) rfl rfl rfl (fun x1 ex1 => ?_)
  have J2 : ∀ (nn3 : Nat) (I4 : IT) (L5 : LT) (x6 : Int32) (x12 : Int32) (x16 : Int32), (MN (12 - x6.toInt) nn3) → (IM R r0 I4) → (CM A R r0 [24] [4, 5, 22] I L I4 L5) → (∀ r : Nat, (r < n3.toNatClampNeg ∨ n3.toNatClampNeg + 492 ≤ r) → I4 r0_22 r = I r0_22 r) → (0 ≤ x6.toInt) → (x6.toInt ≤ 12) → (I4 r0 24 = x12) → (0 ≤ x12.toInt) → (x12.toInt ≤ 492) → (I4 r0_4 0 = x16) → (0 ≤ x16.toInt) → (x16.toInt ≤ 40) → (x6.toInt = 0 ∨ x12.toInt = 12 * (x16.toInt + 1) ∧ (n4.toInt = -1 ∨ x16.toInt = n4.toInt)) → V 3 [(0, .ref r0), (1, .int n1), (2, .int n2), (3, .int n3), (4, .int n4), (5, .int x6)] [] (T, N, I4, L5, R) 0 0 := by
    intro nn3
    induction nn3 using Nat.strongRecOn with
    | _ nn3 ihJ2 =>
      intro I4 L5 x6 x12 x16 hmnn3 hI10 S9 F11 b7 b8 e13 b14 b15 e17 b18 b19 ff3_0
      have gx6 := rg x6
      have gx12 := rg x12
      have gx16 := rg x16
      have e20 := CM.j S9 R_r0_1 (by decide) k0_r0_1_3
      refine k_iload C rfl rfl rfl ?_
      refine z_bipush C (z := 12) rfl rfl rfl (fun x21 ex21 => ?_)
      refine b_icmp_ge C (t := 151) rfl rfl rfl (fun c22 => ?_) (fun c22 => ?_)
      · skip
        refine z_iconst C (z := 1) rfl rfl rfl (fun x23 ex23 => ?_)
        exact k_iret C rfl (Or.inr ⟨rfl, z01 (by omega) (by omega)⟩) (Nat.le_of_ble_eq_true rfl) (Nat.le_of_ble_eq_true rfl) ⟨_, _, _, rfl, rfl, by omega, by omega, fun a4 h4 => by cases (R_r0_4.symm.trans h4); first | omega | (simp only [e20, e13, e17, k0_r0_1_3, k0_r0_24, k0_r0_4_0] <;> omega), fun a22 h22 => by cases (R_r0_22.symm.trans h22); exact (fun r z0 => (F11 r z0)), hI10, (CM.mono S9 (by decide) (by decide))⟩
      refine k_aload_n C rfl rfl rfl ?_
      refine g_R C rfl rfl rfl T_r0 rfl R_r0_4 ?_
      refine z_bipush C (z := 44) rfl rfl rfl (fun x24 ex24 => ?_)
      refine k_iload_n C rfl rfl rfl ?_
      obtain ⟨T_r0_4, N_r0_4, A_r0_4⟩ := id H_r0_4
      refine z_sI C rfl rfl T_r0_4 N_r0_4 (by omega) (by omega) (fun I25 uI25 => ?_)
      have uI25 : I25 = u2 I4 r0_4 44 (n2) := by rw [uI25, nck (n := 44) (by omega)]
      have hI25 : IM R r0 I25 := IM.arr hI10 G_r0 R_r0_4 ⟨(fun _ => ⟨by omega, by omega⟩), (fun h => absurd h (by decide)), (fun h => absurd h (by decide))⟩ (fun h => absurd h (by decide)) uI25
      have S26 : CM A R r0 [] [4] I4 L5 I25 L5 := CM.a G_r0 R_r0_4 A_r0_4 uI25
      have e27 := u2_n uI25 (mF.nq G_r0 R_r0_1 R_r0_4 (by decide)) e20
      have e28 := u2_n uI25 (fun e => (mF.ne G_r0 R_r0_4) e.symm) e13
      have e29 := u2_j uI25 (by first | decide | exact ncne (by omega) (by omega) (by omega) | exact nckn (by omega) (by omega) | exact (nckn (by omega) (by omega)).symm) e17
      have e30 := u2_e uI25
      refine z_iconst C (z := 0) rfl rfl rfl (fun x31 ex31 => ?_)
      have J32 : ∀ (nn33 : Nat) (I34 : IT) (L35 : LT) (x36 : Int32), (MN (9 - x36.toInt) nn33) → (IM R r0 I34) → (CM A R r0 [] [5] I25 L5 I34 L35) → (0 ≤ x36.toInt) → (x36.toInt ≤ 9) → V 21 [(0, .ref r0), (1, .int n1), (2, .int n2), (3, .int n3), (4, .int n4), (5, .int x6), (6, .int x36)] [] (T, N, I34, L35, R) 0 0 := by
        intro nn33
        induction nn33 using Nat.strongRecOn with
        | _ nn33 ihJ32 =>
          intro I34 L35 x36 hmnn33 hI40 S39 b37 b38
          have gx36 := rg x36
          have e41 := CM.j S39 R_r0_1 (by decide) e27
          have e42 := CM.k S39 (by decide) e28
          have e43 := CM.j S39 R_r0_4 (by decide) e29
          have e44 := CM.j S39 R_r0_4 (by decide) e30
          refine k_iload C rfl rfl rfl ?_
          refine k_iload_n C rfl rfl rfl ?_
          refine b_icmp_gt C (t := 55) rfl rfl rfl (fun c45 => ?_) (fun c45 => ?_)
          · skip
            refine k_aload_n C rfl rfl rfl ?_
            refine k_iload_n C rfl rfl rfl ?_
            refine c_VI C (a_X12_makes hI40 H_r0 (by omega) (by omega) (fun a1 h1 => by cases (R_r0_1.symm.trans h1); first | omega | (simp only [e41, e42, e43, e44] <;> omega))) rfl rfl rfl rfl rfl ⟨_, rfl, rfl, T_r0, Nat.le_of_ble_eq_true rfl⟩ rfl rfl (Nat.le_of_ble_eq_true rfl) (Nat.le_of_ble_eq_true rfl) (Nat.le_of_ble_eq_true rfl) ?_
            rintro x46 I47 L48 ⟨o0x46, o1x46, hI47, S49⟩
            have e50 := CM.j S49 R_r0_1 (by decide) e41
            have e51 := CM.k S49 (by decide) e42
            have gx46 := rg x46
            refine b_if_eq C (t := 80) rfl rfl rfl (fun c54 => ?_) (fun c54 => ?_)
            · skip
              refine z_iconst C (z := 0) rfl rfl rfl (fun x55 ex55 => ?_)
              exact k_iret C rfl (Or.inr ⟨rfl, z01 (by omega) (by omega)⟩) (Nat.le_of_ble_eq_true rfl) (Nat.le_of_ble_eq_true rfl) ⟨_, _, _, rfl, rfl, by omega, by omega, fun a4 h4 => by cases (R_r0_4.symm.trans h4); first | omega | (simp only [e50, e51, k0_r0_1_3, k0_r0_24, k0_r0_4_0] <;> omega), fun a22 h22 => by cases (R_r0_22.symm.trans h22); exact (fun r z0 => ((congrFun (CM.j0 S49 R_r0_22 (by decide)) r).trans ((congrFun (CM.j0 S39 R_r0_22 (by decide)) r).trans ((congrFun (CM.j0 S26 R_r0_22 (by decide)) r).trans (F11 r z0))))), hI47, (CM.cons S9 (CM.cons S26 (CM.cons S39 (CM.mono S49 (by decide) (by decide)) (by decide) (by decide)) (by decide) (by decide)) (by decide) (by decide))⟩
            refine k_iload C rfl rfl rfl ?_
            refine z_iconst C (z := -1) rfl rfl rfl (fun x56 ex56 => ?_)
            refine b_icmp_eq C (t := 82) rfl rfl rfl (fun c57 => ?_) (fun c57 => ?_)
            · skip
              refine k_aload_n C rfl rfl rfl ?_
              refine z_bipush C (z := 12) rfl rfl rfl (fun x58 ex58 => ?_)
              refine k_aload_n C rfl rfl rfl ?_
              refine g_R C rfl rfl rfl T_r0 rfl R_r0_4 ?_
              refine z_iconst C (z := 0) rfl rfl rfl (fun x59 ex59 => ?_)
              refine z_aI C rfl rfl T_r0_4 N_r0_4 (by omega) (by omega) (fun x60 ex60 => ?_)
              have gx60 := rg x60
              have nx60 : I47 r0_4 0 = x60 := (congrArg (I47 r0_4) (nck (n := 0) (by omega))).symm.trans ex60
              have ox60 := IM.dgR hI47 R_r0_4 nx60
              refine z_iconst C (z := 1) rfl rfl rfl (fun x61 ex61 => ?_)
              refine z_iadd C rfl rfl ⟨by omega, by omega⟩ (fun x62 ex62 => ?_)
              refine z_imulL C (c := 12) rfl rfl (by omega) ⟨by omega, by omega⟩ (fun x63 ex63 => ?_)
              refine z_pI C rfl rfl rfl T_r0 (Or.inr rfl) rfl (fun I64 uI64 => ?_)
              have hI64 : IM R r0 I64 := IM.fld hI47 G_r0 ⟨(fun h => absurd h (by decide)), (fun h => absurd h (by decide)), (fun h => absurd h (by decide)), (fun _ => ⟨by omega, by omega⟩), (fun h => absurd h (by decide))⟩ uI64
              have S65 : CM A R r0 [24] [] I47 L48 I64 L48 := CM.f G_r0 A_r0 uI64
              have e66 := u2_n uI64 (mF.ne G_r0 R_r0_1) e50
              have e68 := u2_n uI64 (mF.ne G_r0 R_r0_4) nx60
              have e69 := u2_e uI64
              refine z_iconst C (z := 0) rfl rfl rfl (fun x70 ex70 => ?_)
              have J71 : ∀ (nn72 : Nat) (I73 : IT) (L74 : LT) (x75 : Int32), (MN (41 - x75.toInt) nn72) → (IM R r0 I73) → (CM A R r0 [] [22] I64 L48 I73 L74) → (∀ r : Nat, (r < n3.toNatClampNeg ∨ n3.toNatClampNeg + 492 ≤ r) → I73 r0_22 r = I64 r0_22 r) → (0 ≤ x75.toInt) → (x75.toInt ≤ 41) → V 100 [(0, .ref r0), (1, .int n1), (2, .int n2), (3, .int n3), (4, .int n4), (5, .int x6), (6, .int x75)] [] (T, N, I73, L74, R) 0 0 := by
                intro nn72
                induction nn72 using Nat.strongRecOn with
                | _ nn72 ihJ71 =>
                  intro I73 L74 x75 hmnn72 hI79 S78 F80 b76 b77
                  have gx75 := rg x75
                  have e81 := CM.j S78 R_r0_1 (by decide) e66
                  have e82 := CM.j S78 R_r0_4 (by decide) e68
                  have e83 := CM.k S78 (by decide) e69
                  refine k_iload C rfl rfl rfl ?_
                  refine k_aload_n C rfl rfl rfl ?_
                  refine g_R C rfl rfl rfl T_r0 rfl R_r0_4 ?_
                  refine z_iconst C (z := 0) rfl rfl rfl (fun x84 ex84 => ?_)
                  refine a_I C rfl rfl T_r0_4 (by rw [N_r0_4]; exact vpi (by omega) (by omega)) ((congrArg (I73 r0_4) (nck (n := 0) (by omega))).trans e82) ?_
                  refine b_icmp_gt C (t := 145) rfl rfl rfl (fun c85 => ?_) (fun c85 => ?_)
                  · skip
                    refine z_iinc C (z := 1) (lw := fun x86 => [(5, .int x86), (0, .ref r0), (1, .int n1), (2, .int n2), (3, .int n3), (4, .int n4), (6, .int x75)]) rfl rfl rfl (Nat.le_of_ble_eq_true rfl) rfl ⟨by omega, by omega⟩ (fun _ => rfl) (fun x86 ex86 => ?_)
                    show V 148 [(5, .int x86), (0, .ref r0), (1, .int n1), (2, .int n2), (3, .int n3), (4, .int n4), (6, .int x75)] _ _ _ _
                    refine k_goto C (pc2 := 3) rfl rfl ?_
                    refine k_sub S [(0, .ref r0), (1, .int n1), (2, .int n2), (3, .int n3), (4, .int n4), (5, .int x86)] (List.forall_mem_cons.mpr ⟨List.mem_of_getElem? (i := 1) rfl, List.forall_mem_cons.mpr ⟨List.mem_of_getElem? (i := 2) rfl, List.forall_mem_cons.mpr ⟨List.mem_of_getElem? (i := 3) rfl, List.forall_mem_cons.mpr ⟨List.mem_of_getElem? (i := 4) rfl, List.forall_mem_cons.mpr ⟨List.mem_of_getElem? (i := 5) rfl, List.forall_mem_cons.mpr ⟨List.mem_of_getElem? (i := 0) rfl, fun _ h => nomatch h⟩⟩⟩⟩⟩⟩) ?_
                    exact ihJ2 _ (MN.lt hmnn3 (by omega) (by omega)) I73 L74 x86 x63 x60 rfl hI79 (CM.cons S9 (CM.cons S26 (CM.cons S39 (CM.cons S49 (CM.cons S65 (CM.mono S78 (by decide) (by decide)) (by decide) (by decide)) (by decide) (by decide)) (by decide) (by decide)) (by decide) (by decide)) (by decide) (by decide)) (fun r z0 => ((F80 r z0).trans ((congrFun (CM.j0 S65 R_r0_22 (by decide)) r).trans ((congrFun (CM.j0 S49 R_r0_22 (by decide)) r).trans ((congrFun (CM.j0 S39 R_r0_22 (by decide)) r).trans ((congrFun (CM.j0 S26 R_r0_22 (by decide)) r).trans (F11 r z0))))))) (by omega) (by omega) e83 (by omega) (by omega) e82 (by omega) (by omega) (by omega)
                  refine k_aload_n C rfl rfl rfl ?_
                  refine g_R C rfl rfl rfl T_r0 rfl R_r0_22 ?_
                  refine k_iload_n C rfl rfl rfl ?_
                  refine k_iload C rfl rfl rfl ?_
                  refine k_aload_n C rfl rfl rfl ?_
                  refine g_R C rfl rfl rfl T_r0 rfl R_r0_4 ?_
                  refine z_iconst C (z := 0) rfl rfl rfl (fun x87 ex87 => ?_)
                  refine a_I C rfl rfl T_r0_4 (by rw [N_r0_4]; exact vpi (by omega) (by omega)) ((congrArg (I73 r0_4) (nck (n := 0) (by omega))).trans e82) ?_
                  refine z_iconst C (z := 1) rfl rfl rfl (fun x88 ex88 => ?_)
                  refine z_iadd C rfl rfl ⟨by omega, by omega⟩ (fun x89 ex89 => ?_)
                  refine z_imulI C (a := 11) (b := 41) (c := 451) rfl rfl ⟨by omega, by omega⟩ ⟨by omega, by omega⟩ (by decide) (by decide) (fun x90 ex90 => ?_)
                  refine z_iadd C rfl rfl ⟨by omega, by omega⟩ (fun x91 ex91 => ?_)
                  refine k_iload C rfl rfl rfl ?_
                  refine z_iadd C rfl rfl ⟨by omega, by omega⟩ (fun x92 ex92 => ?_)
                  refine k_aload_n C rfl rfl rfl ?_
                  refine z_iconst C (z := 0) rfl rfl rfl (fun x93 ex93 => ?_)
                  refine k_iload C rfl rfl rfl ?_
                  have q94 : x93.toNatClampNeg = 0 := nck (by omega)
                  refine c_VI C (a_X12_of hI79 H_r0 (by omega) (by omega) (by omega) (by omega)) rfl rfl rfl rfl rfl ⟨_, rfl, rfl, T_r0, Nat.le_of_ble_eq_true rfl⟩ rfl rfl (Nat.le_of_ble_eq_true rfl) (Nat.le_of_ble_eq_true rfl) (Nat.le_of_ble_eq_true rfl) ?_
                  rintro x95 _ _ ⟨o0x95, o1x95, p0x95, rfl, rfl⟩
                  have p0x95 := p0x95 r0_5 R_r0_5
                  have gx95 := rg x95
                  try simp only [q94, e81, e82, e83] at p0x95
                  try have q0x95 := congrArg Int32.toInt p0x95
                  obtain ⟨T_r0_22, N_r0_22, A_r0_22⟩ := id H_r0_22
                  refine z_sI C rfl rfl T_r0_22 N_r0_22 (by omega) (by omega) (fun I96 uI96 => ?_)
                  have hI96 : IM R r0 I96 := IM.arr hI79 G_r0 R_r0_22 ⟨(fun h => absurd h (by decide)), (fun h => absurd h (by decide)), (fun _ => ⟨by omega, by omega⟩)⟩ (fun h => absurd h (by decide)) uI96
                  have S97 : CM A R r0 [] [22] I73 L74 I96 L74 := CM.a G_r0 R_r0_22 A_r0_22 uI96
                  have F98 : ∀ r : Nat, (r < n3.toNatClampNeg ∨ n3.toNatClampNeg + 492 ≤ r) → I96 r0_22 r = I73 r0_22 r := fun r z0 => by rw [uI96]; exact u2_k (by have h1 := ncz (x := n3) (by omega); have h2 := ncz (x := x92) (by omega); omega)
                  have e99 := u2_n uI96 (mF.nq G_r0 R_r0_1 R_r0_22 (by decide)) e81
                  have e100 := u2_n uI96 (mF.nq G_r0 R_r0_4 R_r0_22 (by decide)) e82
                  have e101 := u2_n uI96 (fun e => (mF.ne G_r0 R_r0_22) e.symm) e83
                  have e102 := u2_e uI96
                  refine z_iinc C (z := 1) (lw := fun x103 => [(6, .int x103), (0, .ref r0), (1, .int n1), (2, .int n2), (3, .int n3), (4, .int n4), (5, .int x6)]) rfl rfl rfl (Nat.le_of_ble_eq_true rfl) rfl ⟨by omega, by omega⟩ (fun _ => rfl) (fun x103 ex103 => ?_)
                  show V 142 [(6, .int x103), (0, .ref r0), (1, .int n1), (2, .int n2), (3, .int n3), (4, .int n4), (5, .int x6)] _ _ _ _
                  refine k_goto C (pc2 := 100) rfl rfl ?_
                  refine k_sub S [(0, .ref r0), (1, .int n1), (2, .int n2), (3, .int n3), (4, .int n4), (5, .int x6), (6, .int x103)] (List.forall_mem_cons.mpr ⟨List.mem_of_getElem? (i := 1) rfl, List.forall_mem_cons.mpr ⟨List.mem_of_getElem? (i := 2) rfl, List.forall_mem_cons.mpr ⟨List.mem_of_getElem? (i := 3) rfl, List.forall_mem_cons.mpr ⟨List.mem_of_getElem? (i := 4) rfl, List.forall_mem_cons.mpr ⟨List.mem_of_getElem? (i := 5) rfl, List.forall_mem_cons.mpr ⟨List.mem_of_getElem? (i := 6) rfl, List.forall_mem_cons.mpr ⟨List.mem_of_getElem? (i := 0) rfl, fun _ h => nomatch h⟩⟩⟩⟩⟩⟩⟩) ?_
                  exact ihJ71 _ (MN.lt hmnn72 (by omega) (by omega)) I96 L74 x103 rfl hI96 (CM.cons S78 (CM.mono S97 (by decide) (by decide)) (by decide) (by decide)) (fun r z0 => ((F98 r z0).trans (F80 r z0))) (by omega) (by omega)
              refine k_istore C (lw := [(6, .int x70), (0, .ref r0), (1, .int n1), (2, .int n2), (3, .int n3), (4, .int n4), (5, .int x6)]) rfl rfl (Nat.le_of_ble_eq_true rfl) rfl ?_
              refine k_sub S [(0, .ref r0), (1, .int n1), (2, .int n2), (3, .int n3), (4, .int n4), (5, .int x6), (6, .int x70)] (List.forall_mem_cons.mpr ⟨List.mem_of_getElem? (i := 1) rfl, List.forall_mem_cons.mpr ⟨List.mem_of_getElem? (i := 2) rfl, List.forall_mem_cons.mpr ⟨List.mem_of_getElem? (i := 3) rfl, List.forall_mem_cons.mpr ⟨List.mem_of_getElem? (i := 4) rfl, List.forall_mem_cons.mpr ⟨List.mem_of_getElem? (i := 5) rfl, List.forall_mem_cons.mpr ⟨List.mem_of_getElem? (i := 6) rfl, List.forall_mem_cons.mpr ⟨List.mem_of_getElem? (i := 0) rfl, fun _ h => nomatch h⟩⟩⟩⟩⟩⟩⟩) ?_
              exact J71 _ I64 L48 x70 rfl hI64 CM.rf (fun r z0 => rfl) (by omega) (by omega)
            refine k_aload_n C rfl rfl rfl ?_
            refine g_R C rfl rfl rfl T_r0 rfl R_r0_4 ?_
            refine z_iconst C (z := 0) rfl rfl rfl (fun x104 ex104 => ?_)
            refine z_aI C rfl rfl T_r0_4 N_r0_4 (by omega) (by omega) (fun x105 ex105 => ?_)
            have gx105 := rg x105
            have nx105 : I47 r0_4 0 = x105 := (congrArg (I47 r0_4) (nck (n := 0) (by omega))).symm.trans ex105
            have ox105 := IM.dgR hI47 R_r0_4 nx105
            refine k_iload C rfl rfl rfl ?_
            refine b_icmp_eq C (t := 82) rfl rfl rfl (fun c106 => ?_) (fun c106 => ?_)
            · skip
              refine k_aload_n C rfl rfl rfl ?_
              refine z_bipush C (z := 12) rfl rfl rfl (fun x107 ex107 => ?_)
              refine k_aload_n C rfl rfl rfl ?_
              refine g_R C rfl rfl rfl T_r0 rfl R_r0_4 ?_
              refine z_iconst C (z := 0) rfl rfl rfl (fun x108 ex108 => ?_)
              refine a_I C rfl rfl T_r0_4 (by rw [N_r0_4]; exact vpi (by omega) (by omega)) ((congrArg (I47 r0_4) (nck (n := 0) (by omega))).trans nx105) ?_
              refine z_iconst C (z := 1) rfl rfl rfl (fun x109 ex109 => ?_)
              refine z_iadd C rfl rfl ⟨by omega, by omega⟩ (fun x110 ex110 => ?_)
              refine z_imulL C (c := 12) rfl rfl (by omega) ⟨by omega, by omega⟩ (fun x111 ex111 => ?_)
              refine z_pI C rfl rfl rfl T_r0 (Or.inr rfl) rfl (fun I112 uI112 => ?_)
              have hI112 : IM R r0 I112 := IM.fld hI47 G_r0 ⟨(fun h => absurd h (by decide)), (fun h => absurd h (by decide)), (fun h => absurd h (by decide)), (fun _ => ⟨by omega, by omega⟩), (fun h => absurd h (by decide))⟩ uI112
              have S113 : CM A R r0 [24] [] I47 L48 I112 L48 := CM.f G_r0 A_r0 uI112
              have e114 := u2_n uI112 (mF.ne G_r0 R_r0_1) e50
              have e116 := u2_n uI112 (mF.ne G_r0 R_r0_4) nx105
              have e117 := u2_e uI112
              refine z_iconst C (z := 0) rfl rfl rfl (fun x118 ex118 => ?_)
              have J119 : ∀ (nn120 : Nat) (I121 : IT) (L122 : LT) (x123 : Int32), (MN (41 - x123.toInt) nn120) → (IM R r0 I121) → (CM A R r0 [] [22] I112 L48 I121 L122) → (∀ r : Nat, (r < n3.toNatClampNeg ∨ n3.toNatClampNeg + 492 ≤ r) → I121 r0_22 r = I112 r0_22 r) → (0 ≤ x123.toInt) → (x123.toInt ≤ 41) → V 100 [(0, .ref r0), (1, .int n1), (2, .int n2), (3, .int n3), (4, .int n4), (5, .int x6), (6, .int x123)] [] (T, N, I121, L122, R) 0 0 := by
                intro nn120
                induction nn120 using Nat.strongRecOn with
                | _ nn120 ihJ119 =>
                  intro I121 L122 x123 hmnn120 hI127 S126 F128 b124 b125
                  have gx123 := rg x123
                  have e129 := CM.j S126 R_r0_1 (by decide) e114
                  have e130 := CM.j S126 R_r0_4 (by decide) e116
                  have e131 := CM.k S126 (by decide) e117
                  refine k_iload C rfl rfl rfl ?_
                  refine k_aload_n C rfl rfl rfl ?_
                  refine g_R C rfl rfl rfl T_r0 rfl R_r0_4 ?_
                  refine z_iconst C (z := 0) rfl rfl rfl (fun x132 ex132 => ?_)
                  refine a_I C rfl rfl T_r0_4 (by rw [N_r0_4]; exact vpi (by omega) (by omega)) ((congrArg (I121 r0_4) (nck (n := 0) (by omega))).trans e130) ?_
                  refine b_icmp_gt C (t := 145) rfl rfl rfl (fun c133 => ?_) (fun c133 => ?_)
                  · skip
                    refine z_iinc C (z := 1) (lw := fun x134 => [(5, .int x134), (0, .ref r0), (1, .int n1), (2, .int n2), (3, .int n3), (4, .int n4), (6, .int x123)]) rfl rfl rfl (Nat.le_of_ble_eq_true rfl) rfl ⟨by omega, by omega⟩ (fun _ => rfl) (fun x134 ex134 => ?_)
                    show V 148 [(5, .int x134), (0, .ref r0), (1, .int n1), (2, .int n2), (3, .int n3), (4, .int n4), (6, .int x123)] _ _ _ _
                    refine k_goto C (pc2 := 3) rfl rfl ?_
                    refine k_sub S [(0, .ref r0), (1, .int n1), (2, .int n2), (3, .int n3), (4, .int n4), (5, .int x134)] (List.forall_mem_cons.mpr ⟨List.mem_of_getElem? (i := 1) rfl, List.forall_mem_cons.mpr ⟨List.mem_of_getElem? (i := 2) rfl, List.forall_mem_cons.mpr ⟨List.mem_of_getElem? (i := 3) rfl, List.forall_mem_cons.mpr ⟨List.mem_of_getElem? (i := 4) rfl, List.forall_mem_cons.mpr ⟨List.mem_of_getElem? (i := 5) rfl, List.forall_mem_cons.mpr ⟨List.mem_of_getElem? (i := 0) rfl, fun _ h => nomatch h⟩⟩⟩⟩⟩⟩) ?_
                    exact ihJ2 _ (MN.lt hmnn3 (by omega) (by omega)) I121 L122 x134 x111 x105 rfl hI127 (CM.cons S9 (CM.cons S26 (CM.cons S39 (CM.cons S49 (CM.cons S113 (CM.mono S126 (by decide) (by decide)) (by decide) (by decide)) (by decide) (by decide)) (by decide) (by decide)) (by decide) (by decide)) (by decide) (by decide)) (fun r z0 => ((F128 r z0).trans ((congrFun (CM.j0 S113 R_r0_22 (by decide)) r).trans ((congrFun (CM.j0 S49 R_r0_22 (by decide)) r).trans ((congrFun (CM.j0 S39 R_r0_22 (by decide)) r).trans ((congrFun (CM.j0 S26 R_r0_22 (by decide)) r).trans (F11 r z0))))))) (by omega) (by omega) e131 (by omega) (by omega) e130 (by omega) (by omega) (by omega)
                  refine k_aload_n C rfl rfl rfl ?_
                  refine g_R C rfl rfl rfl T_r0 rfl R_r0_22 ?_
                  refine k_iload_n C rfl rfl rfl ?_
                  refine k_iload C rfl rfl rfl ?_
                  refine k_aload_n C rfl rfl rfl ?_
                  refine g_R C rfl rfl rfl T_r0 rfl R_r0_4 ?_
                  refine z_iconst C (z := 0) rfl rfl rfl (fun x135 ex135 => ?_)
                  refine a_I C rfl rfl T_r0_4 (by rw [N_r0_4]; exact vpi (by omega) (by omega)) ((congrArg (I121 r0_4) (nck (n := 0) (by omega))).trans e130) ?_
                  refine z_iconst C (z := 1) rfl rfl rfl (fun x136 ex136 => ?_)
                  refine z_iadd C rfl rfl ⟨by omega, by omega⟩ (fun x137 ex137 => ?_)
                  refine z_imulI C (a := 11) (b := 41) (c := 451) rfl rfl ⟨by omega, by omega⟩ ⟨by omega, by omega⟩ (by decide) (by decide) (fun x138 ex138 => ?_)
                  refine z_iadd C rfl rfl ⟨by omega, by omega⟩ (fun x139 ex139 => ?_)
                  refine k_iload C rfl rfl rfl ?_
                  refine z_iadd C rfl rfl ⟨by omega, by omega⟩ (fun x140 ex140 => ?_)
                  refine k_aload_n C rfl rfl rfl ?_
                  refine z_iconst C (z := 0) rfl rfl rfl (fun x141 ex141 => ?_)
                  refine k_iload C rfl rfl rfl ?_
                  have q142 : x141.toNatClampNeg = 0 := nck (by omega)
                  refine c_VI C (a_X12_of hI127 H_r0 (by omega) (by omega) (by omega) (by omega)) rfl rfl rfl rfl rfl ⟨_, rfl, rfl, T_r0, Nat.le_of_ble_eq_true rfl⟩ rfl rfl (Nat.le_of_ble_eq_true rfl) (Nat.le_of_ble_eq_true rfl) (Nat.le_of_ble_eq_true rfl) ?_
                  rintro x143 _ _ ⟨o0x143, o1x143, p0x143, rfl, rfl⟩
                  have p0x143 := p0x143 r0_5 R_r0_5
                  have gx143 := rg x143
                  try simp only [q142, e129, e130, e131] at p0x143
                  try have q0x143 := congrArg Int32.toInt p0x143
                  obtain ⟨T_r0_22, N_r0_22, A_r0_22⟩ := id H_r0_22
                  refine z_sI C rfl rfl T_r0_22 N_r0_22 (by omega) (by omega) (fun I144 uI144 => ?_)
                  have hI144 : IM R r0 I144 := IM.arr hI127 G_r0 R_r0_22 ⟨(fun h => absurd h (by decide)), (fun h => absurd h (by decide)), (fun _ => ⟨by omega, by omega⟩)⟩ (fun h => absurd h (by decide)) uI144
                  have S145 : CM A R r0 [] [22] I121 L122 I144 L122 := CM.a G_r0 R_r0_22 A_r0_22 uI144
                  have F146 : ∀ r : Nat, (r < n3.toNatClampNeg ∨ n3.toNatClampNeg + 492 ≤ r) → I144 r0_22 r = I121 r0_22 r := fun r z0 => by rw [uI144]; exact u2_k (by have h1 := ncz (x := n3) (by omega); have h2 := ncz (x := x140) (by omega); omega)
                  have e147 := u2_n uI144 (mF.nq G_r0 R_r0_1 R_r0_22 (by decide)) e129
                  have e148 := u2_n uI144 (mF.nq G_r0 R_r0_4 R_r0_22 (by decide)) e130
                  have e149 := u2_n uI144 (fun e => (mF.ne G_r0 R_r0_22) e.symm) e131
                  have e150 := u2_e uI144
                  refine z_iinc C (z := 1) (lw := fun x151 => [(6, .int x151), (0, .ref r0), (1, .int n1), (2, .int n2), (3, .int n3), (4, .int n4), (5, .int x6)]) rfl rfl rfl (Nat.le_of_ble_eq_true rfl) rfl ⟨by omega, by omega⟩ (fun _ => rfl) (fun x151 ex151 => ?_)
                  show V 142 [(6, .int x151), (0, .ref r0), (1, .int n1), (2, .int n2), (3, .int n3), (4, .int n4), (5, .int x6)] _ _ _ _
                  refine k_goto C (pc2 := 100) rfl rfl ?_
                  refine k_sub S [(0, .ref r0), (1, .int n1), (2, .int n2), (3, .int n3), (4, .int n4), (5, .int x6), (6, .int x151)] (List.forall_mem_cons.mpr ⟨List.mem_of_getElem? (i := 1) rfl, List.forall_mem_cons.mpr ⟨List.mem_of_getElem? (i := 2) rfl, List.forall_mem_cons.mpr ⟨List.mem_of_getElem? (i := 3) rfl, List.forall_mem_cons.mpr ⟨List.mem_of_getElem? (i := 4) rfl, List.forall_mem_cons.mpr ⟨List.mem_of_getElem? (i := 5) rfl, List.forall_mem_cons.mpr ⟨List.mem_of_getElem? (i := 6) rfl, List.forall_mem_cons.mpr ⟨List.mem_of_getElem? (i := 0) rfl, fun _ h => nomatch h⟩⟩⟩⟩⟩⟩⟩) ?_
                  exact ihJ119 _ (MN.lt hmnn120 (by omega) (by omega)) I144 L122 x151 rfl hI144 (CM.cons S126 (CM.mono S145 (by decide) (by decide)) (by decide) (by decide)) (fun r z0 => ((F146 r z0).trans (F128 r z0))) (by omega) (by omega)
              refine k_istore C (lw := [(6, .int x118), (0, .ref r0), (1, .int n1), (2, .int n2), (3, .int n3), (4, .int n4), (5, .int x6)]) rfl rfl (Nat.le_of_ble_eq_true rfl) rfl ?_
              refine k_sub S [(0, .ref r0), (1, .int n1), (2, .int n2), (3, .int n3), (4, .int n4), (5, .int x6), (6, .int x118)] (List.forall_mem_cons.mpr ⟨List.mem_of_getElem? (i := 1) rfl, List.forall_mem_cons.mpr ⟨List.mem_of_getElem? (i := 2) rfl, List.forall_mem_cons.mpr ⟨List.mem_of_getElem? (i := 3) rfl, List.forall_mem_cons.mpr ⟨List.mem_of_getElem? (i := 4) rfl, List.forall_mem_cons.mpr ⟨List.mem_of_getElem? (i := 5) rfl, List.forall_mem_cons.mpr ⟨List.mem_of_getElem? (i := 6) rfl, List.forall_mem_cons.mpr ⟨List.mem_of_getElem? (i := 0) rfl, fun _ h => nomatch h⟩⟩⟩⟩⟩⟩⟩) ?_
              exact J119 _ I112 L48 x118 rfl hI112 CM.rf (fun r z0 => rfl) (by omega) (by omega)
            refine z_iconst C (z := 0) rfl rfl rfl (fun x152 ex152 => ?_)
            exact k_iret C rfl (Or.inr ⟨rfl, z01 (by omega) (by omega)⟩) (Nat.le_of_ble_eq_true rfl) (Nat.le_of_ble_eq_true rfl) ⟨_, _, _, rfl, rfl, by omega, by omega, fun a4 h4 => by cases (R_r0_4.symm.trans h4); first | omega | (simp only [e50, e51, nx105, k0_r0_1_3, k0_r0_24, k0_r0_4_0] <;> omega), fun a22 h22 => by cases (R_r0_22.symm.trans h22); exact (fun r z0 => ((congrFun (CM.j0 S49 R_r0_22 (by decide)) r).trans ((congrFun (CM.j0 S39 R_r0_22 (by decide)) r).trans ((congrFun (CM.j0 S26 R_r0_22 (by decide)) r).trans (F11 r z0))))), hI47, (CM.cons S9 (CM.cons S26 (CM.cons S39 (CM.mono S49 (by decide) (by decide)) (by decide) (by decide)) (by decide) (by decide)) (by decide) (by decide))⟩
          refine k_aload_n C rfl rfl rfl ?_
          refine z_bipush C (z := 44) rfl rfl rfl (fun x153 ex153 => ?_)
          refine k_iload C rfl rfl rfl ?_
          refine k_aload_n C rfl rfl rfl ?_
          refine g_R C rfl rfl rfl T_r0 rfl R_r0_23 ?_
          refine k_iload C rfl rfl rfl ?_
          refine k_iload_n C rfl rfl rfl ?_
          refine z_iconst C (z := 1) rfl rfl rfl (fun x154 ex154 => ?_)
          refine z_iadd C rfl rfl ⟨by omega, by omega⟩ (fun x155 ex155 => ?_)
          refine z_imulI C (a := 11) (b := 9) (c := 99) rfl rfl ⟨by omega, by omega⟩ ⟨by omega, by omega⟩ (by decide) (by decide) (fun x156 ex156 => ?_)
          refine k_iload C rfl rfl rfl ?_
          refine z_iadd C rfl rfl ⟨by omega, by omega⟩ (fun x157 ex157 => ?_)
          obtain ⟨T_r0_23, N_r0_23, A_r0_23⟩ := id H_r0_23
          refine z_aI C rfl rfl T_r0_23 N_r0_23 (by omega) (by omega) (fun x158 ex158 => ?_)
          have gx158 := rg x158
          have ox158 := IM.dnR hI40 R_r0_23 ex158
          have q159 : x153.toNatClampNeg = 44 := nck (by omega)
          refine c_VV C (a_X12_put hI40 H_r0 (by omega) (by omega) (by omega) (by omega) (by omega) (by omega)) rfl rfl rfl rfl rfl ⟨_, rfl, rfl, T_r0, Nat.le_of_ble_eq_true rfl⟩ rfl rfl (Nat.le_of_ble_eq_true rfl) (Nat.le_of_ble_eq_true rfl) (Nat.le_of_ble_eq_true rfl) ?_
          rintro I161 L162 ⟨p0v160, p1v160, hI161, S163⟩
          have p0v160 := p0v160 r0_5 R_r0_5
          have p1v160 := p1v160 r0_5 R_r0_5
          try simp only [q159] at p1v160
          have e164 := CM.j S163 R_r0_1 (by decide) e41
          have e165 := CM.k S163 (by decide) e42
          have e166 := CM.j S163 R_r0_4 (by decide) e43
          have e167 := CM.j S163 R_r0_4 (by decide) e44
          have e168 := CM.j S163 R_r0_23 (by decide) ex158
          try simp only [q159, e41, e42, e43, e44, ex158] at p0v160
          try have q0v160 := congrArg Int32.toInt p0v160
          refine z_iinc C (z := 1) (lw := fun x169 => [(6, .int x169), (0, .ref r0), (1, .int n1), (2, .int n2), (3, .int n3), (4, .int n4), (5, .int x6)]) rfl rfl rfl (Nat.le_of_ble_eq_true rfl) rfl ⟨by omega, by omega⟩ (fun _ => rfl) (fun x169 ex169 => ?_)
          show V 52 [(6, .int x169), (0, .ref r0), (1, .int n1), (2, .int n2), (3, .int n3), (4, .int n4), (5, .int x6)] _ _ _ _
          refine k_goto C (pc2 := 21) rfl rfl ?_
          refine k_sub S [(0, .ref r0), (1, .int n1), (2, .int n2), (3, .int n3), (4, .int n4), (5, .int x6), (6, .int x169)] (List.forall_mem_cons.mpr ⟨List.mem_of_getElem? (i := 1) rfl, List.forall_mem_cons.mpr ⟨List.mem_of_getElem? (i := 2) rfl, List.forall_mem_cons.mpr ⟨List.mem_of_getElem? (i := 3) rfl, List.forall_mem_cons.mpr ⟨List.mem_of_getElem? (i := 4) rfl, List.forall_mem_cons.mpr ⟨List.mem_of_getElem? (i := 5) rfl, List.forall_mem_cons.mpr ⟨List.mem_of_getElem? (i := 6) rfl, List.forall_mem_cons.mpr ⟨List.mem_of_getElem? (i := 0) rfl, fun _ h => nomatch h⟩⟩⟩⟩⟩⟩⟩) ?_
          exact ihJ32 _ (MN.lt hmnn33 (by omega) (by omega)) I161 L162 x169 rfl hI161 (CM.cons S39 (CM.mono S163 (by decide) (by decide)) (by decide) (by decide)) (by omega) (by omega)
      refine k_istore C (lw := [(6, .int x31), (0, .ref r0), (1, .int n1), (2, .int n2), (3, .int n3), (4, .int n4), (5, .int x6)]) rfl rfl (Nat.le_of_ble_eq_true rfl) rfl ?_
      refine k_sub S [(0, .ref r0), (1, .int n1), (2, .int n2), (3, .int n3), (4, .int n4), (5, .int x6), (6, .int x31)] (List.forall_mem_cons.mpr ⟨List.mem_of_getElem? (i := 1) rfl, List.forall_mem_cons.mpr ⟨List.mem_of_getElem? (i := 2) rfl, List.forall_mem_cons.mpr ⟨List.mem_of_getElem? (i := 3) rfl, List.forall_mem_cons.mpr ⟨List.mem_of_getElem? (i := 4) rfl, List.forall_mem_cons.mpr ⟨List.mem_of_getElem? (i := 5) rfl, List.forall_mem_cons.mpr ⟨List.mem_of_getElem? (i := 6) rfl, List.forall_mem_cons.mpr ⟨List.mem_of_getElem? (i := 0) rfl, fun _ h => nomatch h⟩⟩⟩⟩⟩⟩⟩) ?_
      exact J32 _ I25 L5 x31 rfl hI25 CM.rf (by omega) (by omega)
  refine k_istore C (lw := [(5, .int x1), (0, .ref r0), (1, .int n1), (2, .int n2), (3, .int n3), (4, .int n4)]) rfl rfl (Nat.le_of_ble_eq_true rfl) rfl ?_
  refine k_sub S [(0, .ref r0), (1, .int n1), (2, .int n2), (3, .int n3), (4, .int n4), (5, .int x1)] (List.forall_mem_cons.mpr ⟨List.mem_of_getElem? (i := 1) rfl, List.forall_mem_cons.mpr ⟨List.mem_of_getElem? (i := 2) rfl, List.forall_mem_cons.mpr ⟨List.mem_of_getElem? (i := 3) rfl, List.forall_mem_cons.mpr ⟨List.mem_of_getElem? (i := 4) rfl, List.forall_mem_cons.mpr ⟨List.mem_of_getElem? (i := 5) rfl, List.forall_mem_cons.mpr ⟨List.mem_of_getElem? (i := 0) rfl, fun _ h => nomatch h⟩⟩⟩⟩⟩⟩) ?_
  exact J2 _ I L x1 w_r0_24 w_r0_4_0 rfl hI CM.rf (fun r z0 => rfl) (by omega) (by omega) k0_r0_24 (by omega) (by omega) k0_r0_4_0 (by omega) (by omega) (by omega)

theorem a_X12_basisOf {d : Nat} {T N : Nat → Nat} {I : IT} {L : LT} {R : RT} {A : Nat → Prop} {r0 : Nat} {n1 n2 n3 : Int32} (hI : IM R r0 I) (H_r0 : (h_MD T N R A) r0) (b0_n2 : 1 ≤ n2.toInt) (b1_n2 : n2.toInt ≤ 8) : Ex (d + 10) 264 [.ref r0, .int n1, .int n2, .int n3] (T, N, I, L, R) 0 0 (pI T N R (fun x9 I9 L9 => (IM R r0 I9 ∧ CM A R r0 [24] [4, 5, 22, 23] I L I9 L9))) := by
  refine ⟨_, rfl, Nat.le_of_ble_eq_true rfl, fun V C S => ?_⟩
  show V 0 [(0, .ref r0), (1, .int n1), (2, .int n2), (3, .int n3)] [] (T, N, I, L, R) 0 0
  have gn1 := rg n1
  have gn2 := rg n2
  have gn3 := rg n3
  obtain ⟨T_r0, A_r0, ⟨r0_1, R_r0_1, H_r0_1⟩, ⟨r0_2, R_r0_2, H_r0_2⟩, ⟨r0_4, R_r0_4, H_r0_4⟩, ⟨r0_5, R_r0_5, H_r0_5⟩, ⟨r0_10, R_r0_10, H_r0_10⟩, ⟨r0_18, R_r0_18, H_r0_18⟩, ⟨r0_20, R_r0_20, H_r0_20⟩, ⟨r0_21, R_r0_21, H_r0_21⟩, ⟨r0_22, R_r0_22, H_r0_22⟩, ⟨r0_23, R_r0_23, H_r0_23⟩, ⟨r0_25, R_r0_25, H_r0_25⟩, ⟨r0_26, R_r0_26, H_r0_26⟩, ⟨r0_27, R_r0_27, H_r0_27⟩, ⟨r0_28, R_r0_28, H_r0_28⟩, ⟨r0_34, R_r0_34, H_r0_34⟩, J_r0, Y_r0⟩ := id H_r0
  have G_r0 : mF T R r0 := ⟨J_r0, Y_r0, T_r0⟩
  obtain ⟨w_r0_24, k0_r0_24⟩ : ∃ x, I r0 24 = x := ⟨_, rfl⟩
  have gw_r0_24 := rg w_r0_24
  have ow_r0_24 := IM.f24 hI k0_r0_24
  refine k_aload_n C rfl rfl rfl ?_
  refine k_iload_n C rfl rfl rfl ?_
  refine k_iload_n C rfl rfl rfl ?_
  refine c_VV C (a_X12_draws hI H_r0 (by omega) (by omega)) rfl rfl rfl rfl rfl ⟨_, rfl, rfl, T_r0, Nat.le_of_ble_eq_true rfl⟩ rfl rfl (Nat.le_of_ble_eq_true rfl) (Nat.le_of_ble_eq_true rfl) (Nat.le_of_ble_eq_true rfl) ?_
  rintro I2 L3 ⟨hI2, S4⟩
  have e5 := CM.k S4 (by decide) k0_r0_24
  refine z_iconst C (z := 0) rfl rfl rfl (fun x6 ex6 => ?_)
  refine k_istore C (lw := [(4, .int x6), (0, .ref r0), (1, .int n1), (2, .int n2), (3, .int n3)]) rfl rfl (Nat.le_of_ble_eq_true rfl) rfl ?_
  refine z_iconst C (z := 0) rfl rfl rfl (fun x7 ex7 => ?_)
  refine k_istore C (lw := [(5, .int x7), (4, .int x6), (0, .ref r0), (1, .int n1), (2, .int n2), (3, .int n3)]) rfl rfl (Nat.le_of_ble_eq_true rfl) rfl ?_
  refine z_iconst C (z := -1) rfl rfl rfl (fun x8 ex8 => ?_)
  refine k_istore C (lw := [(6, .int x8), (5, .int x7), (4, .int x6), (0, .ref r0), (1, .int n1), (2, .int n2), (3, .int n3)]) rfl rfl (Nat.le_of_ble_eq_true rfl) rfl ?_
  refine z_iconst C (z := 0) rfl rfl rfl (fun x9 ex9 => ?_)
  have J10 : ∀ (nn11 : Nat) (I12 : IT) (L13 : LT) (x14 : Int32) (x17 : Int32) (x18 : Int32) (x21 : Int32) (x26 : Int32), (MN (8 - x21.toInt) nn11) → (IM R r0 I12) → (CM A R r0 [24] [4, 5, 22] I2 L3 I12 L13) → (0 ≤ x14.toInt) → (x14.toInt ≤ 8) → (-1 ≤ x18.toInt) → (x18.toInt ≤ 40) → (0 ≤ x21.toInt) → (x21.toInt ≤ 8) → (I12 r0 24 = x26) → (0 ≤ x26.toInt) → (x26.toInt ≤ 492) → (x14.toInt ≤ x21.toInt) → (RWS I12 r0_22 x14.toNatClampNeg x26.toInt) → (x14.toInt = 0 ∨ x26.toInt = 12 * (x18.toInt + 1) ∧ 0 ≤ x18.toInt) → V 18 [(0, .ref r0), (1, .int n1), (2, .int n2), (4, .int x14), (5, .int x17), (6, .int x18), (7, .int x21)] [] (T, N, I12, L13, R) 0 0 := by
    intro nn11
    induction nn11 using Nat.strongRecOn with
    | _ nn11 ihJ10 =>
      intro I12 L13 x14 x17 x18 x21 x26 hmnn11 hI25 S24 b15 b16 b19 b20 b22 b23 e27 b28 b29 ff18_0 ff18_1 ff18_2
      have gx14 := rg x14
      have gx17 := rg x17
      have gx18 := rg x18
      have gx21 := rg x21
      have gx26 := rg x26
      refine k_iload C rfl rfl rfl ?_
      refine k_aload_n C rfl rfl rfl ?_
      refine g_R C rfl rfl rfl T_r0 rfl R_r0_1 ?_
      refine z_iconst C (z := 3) rfl rfl rfl (fun x30 ex30 => ?_)
      obtain ⟨T_r0_1, N_r0_1, A_r0_1⟩ := id H_r0_1
      refine z_aI C rfl rfl T_r0_1 N_r0_1 (by omega) (by omega) (fun x31 ex31 => ?_)
      have gx31 := rg x31
      have nx31 : I12 r0_1 3 = x31 := (congrArg (I12 r0_1) (nck (n := 3) (by omega))).symm.trans ex31
      have ox31 := IM.c3 hI25 R_r0_1 nx31
      refine b_icmp_ge C (t := 105) rfl rfl rfl (fun c32 => ?_) (fun c32 => ?_)
      · skip
        refine k_iload C rfl rfl rfl ?_
        exact k_iret C rfl (Or.inl rfl) (Nat.le_of_ble_eq_true rfl) (Nat.le_of_ble_eq_true rfl) ⟨_, _, _, rfl, rfl, hI25, (CM.cons S4 (CM.mono S24 (by decide) (by decide)) (by decide) (by decide))⟩
      refine k_iload_n C rfl rfl rfl ?_
      refine k_iload C rfl rfl rfl ?_
      refine zt_ishr C rfl rfl (fun x33 => ?_)
      have gx33 := rg x33
      refine z_iconst C (z := 1) rfl rfl rfl (fun x34 ex34 => ?_)
      refine zt_iand C rfl rfl (fun x35 => ?_)
      have gx35 := rg x35
      refine b_if_ne C (t := 41) rfl rfl rfl (fun c36 => ?_) (fun c36 => ?_)
      · skip
        refine k_aload_n C rfl rfl rfl ?_
        refine k_iload C rfl rfl rfl ?_
        refine k_iload_n C rfl rfl rfl ?_
        refine z_sipush C (z := 492) rfl rfl rfl (fun x37 ex37 => ?_)
        refine k_iload C rfl rfl rfl ?_
        refine z_imulL C (c := 492) rfl rfl (by omega) ⟨by omega, by omega⟩ (fun x38 ex38 => ?_)
        refine k_iload C rfl rfl rfl ?_
        refine c_VI C (a_X12_rowOf hI25 H_r0 (by omega) (by omega) (by omega) (by omega) (by omega) (by omega) (by omega) (by omega) (fun a1 h1 => by cases (R_r0_1.symm.trans h1); first | omega | (simp only [e27, nx31] <;> omega))) rfl rfl rfl rfl rfl ⟨_, rfl, rfl, T_r0, Nat.le_of_ble_eq_true rfl⟩ rfl rfl (Nat.le_of_ble_eq_true rfl) (Nat.le_of_ble_eq_true rfl) (Nat.le_of_ble_eq_true rfl) ?_
        rintro x39 I40 L41 ⟨o0x39, o1x39, p0x39, p1x39, hI40, S42⟩
        have p0x39 := p0x39 r0_4 R_r0_4
        have p1x39 := p1x39 r0_22 R_r0_22
        have e44 := CM.j S42 R_r0_1 (by decide) nx31
        have gx39 := rg x39
        obtain ⟨x45, e46⟩ : ∃ x, I40 r0 24 = x := ⟨_, rfl⟩
        have gx45 := rg x45
        have ox45 := IM.f24 hI40 e46
        obtain ⟨x47, e48⟩ : ∃ x, I40 r0_4 0 = x := ⟨_, rfl⟩
        have gx47 := rg x47
        have ox47 := IM.dgR hI40 R_r0_4 e48
        try simp only [e27, nx31, e46, e48] at p0x39
        try have q0x39 := congrArg Int32.toInt p0x39
        have hR := RWS.fr (n2 := x14) ff18_1 p1x39 (by omega) (by omega) (by omega)
        have hQ := p0x39
        refine b_if_ne C (t := 61) rfl rfl rfl (fun c49 => ?_) (fun c49 => ?_)
        · skip
          have hR2 := RWS.lg (lg' := x45.toInt) hR (by omega) (by omega)
          refine k_aload_n C rfl rfl rfl ?_
          refine g_R C rfl rfl rfl T_r0 rfl R_r0_4 ?_
          refine z_iconst C (z := 0) rfl rfl rfl (fun x50 ex50 => ?_)
          obtain ⟨T_r0_4, N_r0_4, A_r0_4⟩ := id H_r0_4
          refine a_I C rfl rfl T_r0_4 (by rw [N_r0_4]; exact vpi (by omega) (by omega)) ((congrArg (I40 r0_4) (nck (n := 0) (by omega))).trans e48) ?_
          refine k_istore C (lw := [(6, .int x47), (0, .ref r0), (1, .int n1), (2, .int n2), (4, .int x14), (5, .int x17), (7, .int x21)]) rfl rfl (Nat.le_of_ble_eq_true rfl) rfl ?_
          refine k_aload_n C rfl rfl rfl ?_
          refine z_sipush C (z := 492) rfl rfl rfl (fun x51 ex51 => ?_)
          refine k_iload C rfl rfl rfl ?_
          refine z_imulL C (c := 492) rfl rfl (by omega) ⟨by omega, by omega⟩ (fun x52 ex52 => ?_)
          refine k_iload C rfl rfl rfl ?_
          refine c_VI C (a_X12_isNew hI40 H_r0 (by omega) (by omega) (by omega) (by omega) (by first | omega | (simp only [e44, e46, e48] <;> omega)) (fun a22 h22 => by cases (R_r0_22.symm.trans h22); simp only [e44, e46, e48]; exact hR2)) rfl rfl rfl rfl rfl ⟨_, rfl, rfl, T_r0, Nat.le_of_ble_eq_true rfl⟩ rfl rfl (Nat.le_of_ble_eq_true rfl) (Nat.le_of_ble_eq_true rfl) (Nat.le_of_ble_eq_true rfl) ?_
          rintro x53 I54 L55 ⟨o0x53, o1x53, p0x53, p1x53, hI54, S56⟩
          have p0x53 := p0x53 r0_22 R_r0_22
          have p1x53 := p1x53 r0_22 R_r0_22
          have e57 := CM.j S56 R_r0_1 (by decide) e44
          have e58 := CM.k S56 (by decide) e46
          have e59 := CM.j S56 R_r0_4 (by decide) e48
          have gx53 := rg x53
          try simp only [e44, e46, e48, e58] at p0x53
          try have q0x53 := congrArg Int32.toInt p0x53
          have hP := p0x53
          have hR3 := RWS.fr (n2 := x14) hR2 p1x53 (by omega) (by omega) (by omega)
          refine b_if_ne C (t := 87) rfl rfl rfl (fun c60 => ?_) (fun c60 => ?_)
          · skip
            have hW := hP (by omega)
            refine z_iinc C (z := 1) (lw := fun x61 => [(4, .int x61), (6, .int x47), (0, .ref r0), (1, .int n1), (2, .int n2), (5, .int x17), (7, .int x21)]) rfl rfl rfl (Nat.le_of_ble_eq_true rfl) rfl ⟨by omega, by omega⟩ (fun _ => rfl) (fun x61 ex61 => ?_)
            show V 90 [(4, .int x61), (6, .int x47), (0, .ref r0), (1, .int n1), (2, .int n2), (5, .int x17), (7, .int x21)] _ _ _ _
            refine k_iload C rfl rfl rfl ?_
            refine z_iconst C (z := 1) rfl rfl rfl (fun x62 ex62 => ?_)
            refine k_iload C rfl rfl rfl ?_
            refine zt_ishl C rfl rfl (fun x63 => ?_)
            have gx63 := rg x63
            refine zt_ior C rfl rfl (fun x64 => ?_)
            have gx64 := rg x64
            refine k_istore C (lw := [(5, .int x64), (4, .int x61), (6, .int x47), (0, .ref r0), (1, .int n1), (2, .int n2), (7, .int x21)]) rfl rfl (Nat.le_of_ble_eq_true rfl) rfl ?_
            refine z_iinc C (z := 1) (lw := fun x65 => [(7, .int x65), (5, .int x64), (4, .int x61), (6, .int x47), (0, .ref r0), (1, .int n1), (2, .int n2)]) rfl rfl rfl (Nat.le_of_ble_eq_true rfl) rfl ⟨by omega, by omega⟩ (fun _ => rfl) (fun x65 ex65 => ?_)
            show V 102 [(7, .int x65), (5, .int x64), (4, .int x61), (6, .int x47), (0, .ref r0), (1, .int n1), (2, .int n2)] _ _ _ _
            refine k_goto C (pc2 := 18) rfl rfl ?_
            refine k_sub S [(0, .ref r0), (1, .int n1), (2, .int n2), (4, .int x61), (5, .int x64), (6, .int x47), (7, .int x65)] (List.forall_mem_cons.mpr ⟨List.mem_of_getElem? (i := 4) rfl, List.forall_mem_cons.mpr ⟨List.mem_of_getElem? (i := 5) rfl, List.forall_mem_cons.mpr ⟨List.mem_of_getElem? (i := 6) rfl, List.forall_mem_cons.mpr ⟨List.mem_of_getElem? (i := 2) rfl, List.forall_mem_cons.mpr ⟨List.mem_of_getElem? (i := 1) rfl, List.forall_mem_cons.mpr ⟨List.mem_of_getElem? (i := 3) rfl, List.forall_mem_cons.mpr ⟨List.mem_of_getElem? (i := 0) rfl, fun _ h => nomatch h⟩⟩⟩⟩⟩⟩⟩) ?_
            exact ihJ10 _ (MN.lt hmnn11 (by omega) (by omega)) I54 L55 x61 x64 x47 x65 x45 rfl hI54 (CM.cons S24 (CM.cons S42 (CM.mono S56 (by decide) (by decide)) (by decide) (by decide)) (by decide) (by decide)) (by omega) (by omega) (by omega) (by omega) (by omega) (by omega) e58 (by omega) (by omega) (by omega) (by first | exact RWS.s hR3 hW (by omega) (by omega) (by omega) | exact hR3 | exact ff18_1) (by omega)
          refine k_goto C (pc2 := 99) rfl rfl ?_
          refine z_iinc C (z := 1) (lw := fun x66 => [(7, .int x66), (6, .int x47), (0, .ref r0), (1, .int n1), (2, .int n2), (4, .int x14), (5, .int x17)]) rfl rfl rfl (Nat.le_of_ble_eq_true rfl) rfl ⟨by omega, by omega⟩ (fun _ => rfl) (fun x66 ex66 => ?_)
          show V 102 [(7, .int x66), (6, .int x47), (0, .ref r0), (1, .int n1), (2, .int n2), (4, .int x14), (5, .int x17)] _ _ _ _
          refine k_goto C (pc2 := 18) rfl rfl ?_
          refine k_sub S [(0, .ref r0), (1, .int n1), (2, .int n2), (4, .int x14), (5, .int x17), (6, .int x47), (7, .int x66)] (List.forall_mem_cons.mpr ⟨List.mem_of_getElem? (i := 2) rfl, List.forall_mem_cons.mpr ⟨List.mem_of_getElem? (i := 3) rfl, List.forall_mem_cons.mpr ⟨List.mem_of_getElem? (i := 4) rfl, List.forall_mem_cons.mpr ⟨List.mem_of_getElem? (i := 5) rfl, List.forall_mem_cons.mpr ⟨List.mem_of_getElem? (i := 6) rfl, List.forall_mem_cons.mpr ⟨List.mem_of_getElem? (i := 1) rfl, List.forall_mem_cons.mpr ⟨List.mem_of_getElem? (i := 0) rfl, fun _ h => nomatch h⟩⟩⟩⟩⟩⟩⟩) ?_
          exact ihJ10 _ (MN.lt hmnn11 (by omega) (by omega)) I54 L55 x14 x17 x47 x66 x45 rfl hI54 (CM.cons S24 (CM.cons S42 (CM.mono S56 (by decide) (by decide)) (by decide) (by decide)) (by decide) (by decide)) (by omega) (by omega) (by omega) (by omega) (by omega) (by omega) e58 (by omega) (by omega) (by omega) (by first | exact RWS.s hR3 hW (by omega) (by omega) (by omega) | exact hR3 | exact ff18_1) (by omega)
        refine z_iconst C (z := -1) rfl rfl rfl (fun x67 ex67 => ?_)
        exact k_iret C rfl (Or.inl rfl) (Nat.le_of_ble_eq_true rfl) (Nat.le_of_ble_eq_true rfl) ⟨_, _, _, rfl, rfl, hI40, (CM.cons S4 (CM.cons S24 (CM.mono S42 (by decide) (by decide)) (by decide) (by decide)) (by decide) (by decide))⟩
      refine k_goto C (pc2 := 99) rfl rfl ?_
      refine z_iinc C (z := 1) (lw := fun x68 => [(7, .int x68), (0, .ref r0), (1, .int n1), (2, .int n2), (4, .int x14), (5, .int x17), (6, .int x18)]) rfl rfl rfl (Nat.le_of_ble_eq_true rfl) rfl ⟨by omega, by omega⟩ (fun _ => rfl) (fun x68 ex68 => ?_)
      show V 102 [(7, .int x68), (0, .ref r0), (1, .int n1), (2, .int n2), (4, .int x14), (5, .int x17), (6, .int x18)] _ _ _ _
      refine k_goto C (pc2 := 18) rfl rfl ?_
      refine k_sub S [(0, .ref r0), (1, .int n1), (2, .int n2), (4, .int x14), (5, .int x17), (6, .int x18), (7, .int x68)] (List.forall_mem_cons.mpr ⟨List.mem_of_getElem? (i := 1) rfl, List.forall_mem_cons.mpr ⟨List.mem_of_getElem? (i := 2) rfl, List.forall_mem_cons.mpr ⟨List.mem_of_getElem? (i := 3) rfl, List.forall_mem_cons.mpr ⟨List.mem_of_getElem? (i := 4) rfl, List.forall_mem_cons.mpr ⟨List.mem_of_getElem? (i := 5) rfl, List.forall_mem_cons.mpr ⟨List.mem_of_getElem? (i := 6) rfl, List.forall_mem_cons.mpr ⟨List.mem_of_getElem? (i := 0) rfl, fun _ h => nomatch h⟩⟩⟩⟩⟩⟩⟩) ?_
      exact ihJ10 _ (MN.lt hmnn11 (by omega) (by omega)) I12 L13 x14 x17 x18 x68 x26 rfl hI25 (CM.mono S24 (by decide) (by decide)) (by omega) (by omega) (by omega) (by omega) (by omega) (by omega) e27 (by omega) (by omega) (by omega) (by first | exact RWS.s hR3 hW (by omega) (by omega) (by omega) | exact hR3 | exact ff18_1) (by omega)
  refine k_istore C (lw := [(7, .int x9), (6, .int x8), (5, .int x7), (4, .int x6), (0, .ref r0), (1, .int n1), (2, .int n2), (3, .int n3)]) rfl rfl (Nat.le_of_ble_eq_true rfl) rfl ?_
  refine k_sub S [(0, .ref r0), (1, .int n1), (2, .int n2), (4, .int x6), (5, .int x7), (6, .int x8), (7, .int x9)] (List.forall_mem_cons.mpr ⟨List.mem_of_getElem? (i := 4) rfl, List.forall_mem_cons.mpr ⟨List.mem_of_getElem? (i := 5) rfl, List.forall_mem_cons.mpr ⟨List.mem_of_getElem? (i := 6) rfl, List.forall_mem_cons.mpr ⟨List.mem_of_getElem? (i := 3) rfl, List.forall_mem_cons.mpr ⟨List.mem_of_getElem? (i := 2) rfl, List.forall_mem_cons.mpr ⟨List.mem_of_getElem? (i := 1) rfl, List.forall_mem_cons.mpr ⟨List.mem_of_getElem? (i := 0) rfl, fun _ h => nomatch h⟩⟩⟩⟩⟩⟩⟩) ?_
  exact J10 _ I2 L3 x6 x7 x8 x9 w_r0_24 rfl hI2 CM.rf (by omega) (by omega) (by omega) (by omega) (by omega) (by omega) e5 (by omega) (by omega) (by omega) (by exact RWS.z (by omega)) (by omega)

theorem a_X12_basis {d : Nat} {T N : Nat → Nat} {I : IT} {L : LT} {R : RT} {A : Nat → Prop} {r0 : Nat} {n1 n2 n3 : Int32} (hI : IM R r0 I) (H_r0 : (h_MD T N R A) r0) : Ex (d + 11) 266 [.ref r0, .int n1, .int n2, .int n3] (T, N, I, L, R) 0 0 (pI T N R (fun x9 I9 L9 => (IM R r0 I9 ∧ CM A R r0 [0, 24] [4, 5, 22, 23] I L I9 L9))) := by
  refine ⟨_, rfl, Nat.le_of_ble_eq_true rfl, fun V C S => ?_⟩
  show V 0 [(0, .ref r0), (1, .int n1), (2, .int n2), (3, .int n3)] [] (T, N, I, L, R) 0 0
  have gn1 := rg n1
  have gn2 := rg n2
  have gn3 := rg n3
  obtain ⟨T_r0, A_r0, ⟨r0_1, R_r0_1, H_r0_1⟩, ⟨r0_2, R_r0_2, H_r0_2⟩, ⟨r0_4, R_r0_4, H_r0_4⟩, ⟨r0_5, R_r0_5, H_r0_5⟩, ⟨r0_10, R_r0_10, H_r0_10⟩, ⟨r0_18, R_r0_18, H_r0_18⟩, ⟨r0_20, R_r0_20, H_r0_20⟩, ⟨r0_21, R_r0_21, H_r0_21⟩, ⟨r0_22, R_r0_22, H_r0_22⟩, ⟨r0_23, R_r0_23, H_r0_23⟩, ⟨r0_25, R_r0_25, H_r0_25⟩, ⟨r0_26, R_r0_26, H_r0_26⟩, ⟨r0_27, R_r0_27, H_r0_27⟩, ⟨r0_28, R_r0_28, H_r0_28⟩, ⟨r0_34, R_r0_34, H_r0_34⟩, J_r0, Y_r0⟩ := id H_r0
  have G_r0 : mF T R r0 := ⟨J_r0, Y_r0, T_r0⟩
  refine k_aload_n C rfl rfl rfl ?_
  refine z_iconst C (z := 0) rfl rfl rfl (fun x1 ex1 => ?_)
  refine z_pI C rfl rfl rfl T_r0 (Or.inr rfl) rfl (fun I2 uI2 => ?_)
  have hI2 : IM R r0 I2 := IM.fld hI G_r0 ⟨(fun h => absurd h (by decide)), (fun h => absurd h (by decide)), (fun h => absurd h (by decide)), (fun h => absurd h (by decide)), (fun h => absurd h (by decide))⟩ uI2
  have S3 : CM A R r0 [0] [] I L I2 L := CM.f G_r0 A_r0 uI2
  have e4 := u2_e uI2
  refine k_aload_n C rfl rfl rfl ?_
  refine k_iload_n C rfl rfl rfl ?_
  refine z_iconst C (z := 1) rfl rfl rfl (fun x5 ex5 => ?_)
  refine z_bipush C (z := 8) rfl rfl rfl (fun x6 ex6 => ?_)
  have q7 : x5.toNatClampNeg = 1 := nck (by omega)
  have q8 : x6.toNatClampNeg = 8 := nck (by omega)
  refine c_SI C a_X12_in rfl rfl rfl rfl rfl rfl rfl (Nat.le_of_ble_eq_true rfl) (Nat.le_of_ble_eq_true rfl) (Nat.le_of_ble_eq_true rfl) ?_
  rintro x9 _ _ ⟨o0x9, o1x9, p0x9, rfl, rfl⟩
  have gx9 := rg x9
  try simp only [q7, q8, e4] at p0x9
  try have q0x9 := congrArg Int32.toInt p0x9
  refine b_if_ne C (t := 20) rfl rfl rfl (fun c10 => ?_) (fun c10 => ?_)
  · skip
    refine z_iconst C (z := 0) rfl rfl rfl (fun x11 ex11 => ?_)
    refine z_iconst C (z := 1) rfl rfl rfl (fun x12 ex12 => ?_)
    have q13 : x11.toNatClampNeg = 0 := nck (by omega)
    have q14 : x12.toNatClampNeg = 1 := nck (by omega)
    refine c_VI C (a_X12_throwsIf hI2 H_r0 (by omega) (by omega)) rfl rfl rfl rfl rfl ⟨_, rfl, rfl, T_r0, Nat.le_of_ble_eq_true rfl⟩ rfl rfl (Nat.le_of_ble_eq_true rfl) (Nat.le_of_ble_eq_true rfl) (Nat.le_of_ble_eq_true rfl) ?_
    rintro x15 I16 L17 ⟨o0x15, o1x15, p0x15, hI16, S18⟩
    have gx15 := rg x15
    try simp only [q13, q14, e4] at p0x15
    try have q0x15 := congrArg Int32.toInt p0x15
    refine b_if_eq C (t := 32) rfl rfl rfl (fun c20 => ?_) (fun c20 => by exfalso; omega)
    refine k_aload_n C rfl rfl rfl ?_
    refine k_iload_n C rfl rfl rfl ?_
    refine k_iload_n C rfl rfl rfl ?_
    refine k_iload_n C rfl rfl rfl ?_
    refine c_VI C (a_X12_basisOf hI16 H_r0 (by omega) (by omega)) rfl rfl rfl rfl rfl ⟨_, rfl, rfl, T_r0, Nat.le_of_ble_eq_true rfl⟩ rfl rfl (Nat.le_of_ble_eq_true rfl) (Nat.le_of_ble_eq_true rfl) (Nat.le_of_ble_eq_true rfl) ?_
    rintro x21 I22 L23 ⟨hI22, S24⟩
    have gx21 := rg x21
    exact k_iret C rfl (Or.inl rfl) (Nat.le_of_ble_eq_true rfl) (Nat.le_of_ble_eq_true rfl) ⟨_, _, _, rfl, rfl, hI22, (CM.cons S3 (CM.cons S18 (CM.mono S24 (by decide) (by decide)) (by decide) (by decide)) (by decide) (by decide))⟩
  refine z_iconst C (z := 1) rfl rfl rfl (fun x25 ex25 => ?_)
  refine k_goto C (pc2 := 21) rfl rfl ?_
  refine z_iconst C (z := 1) rfl rfl rfl (fun x26 ex26 => ?_)
  have q27 : x25.toNatClampNeg = 1 := nck (by omega)
  have q28 : x26.toNatClampNeg = 1 := nck (by omega)
  refine c_VI C (a_X12_throwsIf hI2 H_r0 (by omega) (by omega)) rfl rfl rfl rfl rfl ⟨_, rfl, rfl, T_r0, Nat.le_of_ble_eq_true rfl⟩ rfl rfl (Nat.le_of_ble_eq_true rfl) (Nat.le_of_ble_eq_true rfl) (Nat.le_of_ble_eq_true rfl) ?_
  rintro x29 I30 L31 ⟨o0x29, o1x29, p0x29, hI30, S32⟩
  have gx29 := rg x29
  try simp only [q27, q28, e4] at p0x29
  try have q0x29 := congrArg Int32.toInt p0x29
  refine b_if_eq C (t := 32) rfl rfl rfl (fun c34 => by exfalso; omega) (fun c34 => ?_)
  refine z_iconst C (z := 0) rfl rfl rfl (fun x35 ex35 => ?_)
  refine k_goto C (pc2 := 39) rfl rfl ?_
  exact k_iret C rfl (Or.inl rfl) (Nat.le_of_ble_eq_true rfl) (Nat.le_of_ble_eq_true rfl) ⟨_, _, _, rfl, rfl, hI30, (CM.cons S3 (CM.mono S32 (by decide) (by decide)) (by decide) (by decide))⟩
end
-- 45.ref.lean.txt
section
/-! the reference in any state: what lies in common -/
theorem a_X12_strips {d : Nat} {T N : Nat → Nat} {I : IT} {L : LT} {R : RT} {A : Nat → Prop} {r0 : Nat} {n1 : Int32} (hI : IM R r0 I) (H_r0 : (h_MD T N R A) r0) (b0_n1 : 40 ≤ n1.toInt) (b1_n1 : n1.toInt ≤ 41) (hp0 : ∀ a4 a5, R r0 4 = some a4 → R r0 5 = some a5 → NZ I a5 n1.toNatClampNeg (I a4 n1.toNatClampNeg).toInt) : Ex (d + 2) 288 [.ref r0, .int n1] (T, N, I, L, R) 0 0 (pI T N R (fun x9 I9 L9 => (∀ a4, R r0 4 = some a4 → (I9 a4 n1.toNatClampNeg).toInt = (I a4 n1.toNatClampNeg).toInt - x9.toInt) ∧ (∀ a4, R r0 4 = some a4 → 0 ≤ x9.toInt ∧ x9.toInt ≤ (I a4 n1.toNatClampNeg).toInt) ∧ (∀ a5, R r0 5 = some a5 → NE1 I a5 (41 * n1.toNatClampNeg + x9.toNatClampNeg)) ∧ (∀ a4 a5, R r0 4 = some a4 → R r0 5 = some a5 → STP I I9 a5 n1.toNatClampNeg x9.toInt (I a4 n1.toNatClampNeg).toInt) ∧ (∀ a4, R r0 4 = some a4 → ∀ r : Nat, r ≠ n1.toNatClampNeg → I9 a4 r = I a4 r) ∧ (∀ a5, R r0 5 = some a5 → ∀ r : Nat, (r < 41 * n1.toNatClampNeg ∨ 41 * n1.toNatClampNeg + 41 ≤ r) → I9 a5 r = I a5 r) ∧ (IM R r0 I9 ∧ CM A R r0 [] [4, 5] I L I9 L9))) := by
  refine ⟨_, rfl, Nat.le_of_ble_eq_true rfl, fun V C S => ?_⟩
  show V 0 [(0, .ref r0), (1, .int n1)] [] (T, N, I, L, R) 0 0
  have gn1 := rg n1
  obtain ⟨T_r0, A_r0, ⟨r0_1, R_r0_1, H_r0_1⟩, ⟨r0_2, R_r0_2, H_r0_2⟩, ⟨r0_4, R_r0_4, H_r0_4⟩, ⟨r0_5, R_r0_5, H_r0_5⟩, ⟨r0_10, R_r0_10, H_r0_10⟩, ⟨r0_18, R_r0_18, H_r0_18⟩, ⟨r0_20, R_r0_20, H_r0_20⟩, ⟨r0_21, R_r0_21, H_r0_21⟩, ⟨r0_22, R_r0_22, H_r0_22⟩, ⟨r0_23, R_r0_23, H_r0_23⟩, ⟨r0_25, R_r0_25, H_r0_25⟩, ⟨r0_26, R_r0_26, H_r0_26⟩, ⟨r0_27, R_r0_27, H_r0_27⟩, ⟨r0_28, R_r0_28, H_r0_28⟩, ⟨r0_34, R_r0_34, H_r0_34⟩, J_r0, Y_r0⟩ := id H_r0
  have G_r0 : mF T R r0 := ⟨J_r0, Y_r0, T_r0⟩
  obtain ⟨w_r0_4_n1, k0_r0_4_n1⟩ : ∃ x, I r0_4 n1.toNatClampNeg = x := ⟨_, rfl⟩
  have gw_r0_4_n1 := rg w_r0_4_n1
  have ow_r0_4_n1 := IM.dgR hI R_r0_4 k0_r0_4_n1
  have hp0 := hp0 r0_4 r0_5 R_r0_4 R_r0_5
  try simp only [k0_r0_4_n1] at hp0
  obtain ⟨K, hK1, hK2⟩ := hp0
  refine z_iconst C (z := 0) rfl rfl rfl (fun x1 ex1 => ?_)
  have J2 : ∀ (nn3 : Nat) (x4 : Int32), (MN (41 - x4.toInt) nn3) → (0 ≤ x4.toInt) → (x4.toInt ≤ 41) → (x4.toInt ≤ (K : Int)) → (AZ I r0_5 (41 * n1.toNatClampNeg) x4.toInt) → V 2 [(0, .ref r0), (1, .int n1), (2, .int x4)] [] (T, N, I, L, R) 0 0 := by
    intro nn3
    induction nn3 using Nat.strongRecOn with
    | _ nn3 ihJ2 =>
      intro x4 hmnn3 b5 b6 ff2_0 ff2_1
      have gx4 := rg x4
      refine k_aload_n C rfl rfl rfl ?_
      refine k_iload_n C rfl rfl rfl ?_
      refine k_iload_n C rfl rfl rfl ?_
      refine c_VI C (a_X12_of hI H_r0 (by omega) (by omega) (by omega) (by omega)) rfl rfl rfl rfl rfl ⟨_, rfl, rfl, T_r0, Nat.le_of_ble_eq_true rfl⟩ rfl rfl (Nat.le_of_ble_eq_true rfl) (Nat.le_of_ble_eq_true rfl) (Nat.le_of_ble_eq_true rfl) ?_
      rintro x7 _ _ ⟨o0x7, o1x7, p0x7, rfl, rfl⟩
      have p0x7 := p0x7 r0_5 R_r0_5
      have gx7 := rg x7
      try simp only [k0_r0_4_n1] at p0x7
      try have q0x7 := congrArg Int32.toInt p0x7
      have hO := p0x7
      refine b_if_ne C (t := 17) rfl rfl rfl (fun c8 => ?_) (fun c8 => ?_)
      · skip
        have hNE : NE1 I r0_5 (41 * n1.toNatClampNeg + x4.toNatClampNeg) := by (show (I r0_5 _).toInt ≠ 0); omega
        refine k_iload_n C rfl rfl rfl ?_
        have J9 : ∀ (nn10 : Nat) (I11 : IT) (L12 : LT) (x13 : Int32), (MN (41 - x13.toInt) nn10) → (IM R r0 I11) → (CM A R r0 [] [5] I L I11 L12) → (∀ r : Nat, (r < 41 * n1.toNatClampNeg ∨ 41 * n1.toNatClampNeg + 41 ≤ r) → I11 r0_5 r = I r0_5 r) → (0 ≤ x13.toInt) → (x13.toInt ≤ 41) → (x4.toInt ≤ x13.toInt) → (x13.toInt ≤ w_r0_4_n1.toInt + 1) → (STQ I I11 r0_5 n1.toNatClampNeg x4.toInt x13.toInt) → V 19 [(0, .ref r0), (1, .int n1), (2, .int x4), (3, .int x13)] [] (T, N, I11, L12, R) 0 0 := by
          intro nn10
          induction nn10 using Nat.strongRecOn with
          | _ nn10 ihJ9 =>
            intro I11 L12 x13 hmnn10 hI17 S16 F18 b14 b15 ff19_0 ff19_1 ff19_2
            have gx13 := rg x13
            have e19 := CM.j S16 R_r0_4 (by decide) k0_r0_4_n1
            refine k_iload_n C rfl rfl rfl ?_
            refine k_aload_n C rfl rfl rfl ?_
            refine g_R C rfl rfl rfl T_r0 rfl R_r0_4 ?_
            refine k_iload_n C rfl rfl rfl ?_
            obtain ⟨T_r0_4, N_r0_4, A_r0_4⟩ := id H_r0_4
            refine a_I C rfl rfl T_r0_4 (by rw [N_r0_4]; exact vpi (by omega) (by omega)) e19 ?_
            refine b_icmp_gt C (t := 49) rfl rfl rfl (fun c20 => ?_) (fun c20 => ?_)
            · skip
              refine k_aload_n C rfl rfl rfl ?_
              refine g_R C rfl rfl rfl T_r0 rfl R_r0_4 ?_
              refine k_iload_n C rfl rfl rfl ?_
              refine k_dup2 C rfl rfl rfl rfl ?_
              refine a_I C rfl rfl T_r0_4 (by rw [N_r0_4]; exact vpi (by omega) (by omega)) e19 ?_
              refine k_iload_n C rfl rfl rfl ?_
              refine z_isub C rfl rfl ⟨by omega, by omega⟩ (fun x21 ex21 => ?_)
              refine z_sI C rfl rfl T_r0_4 N_r0_4 (by omega) (by omega) (fun I22 uI22 => ?_)
              have hI22 : IM R r0 I22 := IM.arr hI17 G_r0 R_r0_4 ⟨(fun _ => ⟨by omega, by omega⟩), (fun h => absurd h (by decide)), (fun h => absurd h (by decide))⟩ (fun h => absurd h (by decide)) uI22
              have S23 : CM A R r0 [] [4] I11 L12 I22 L12 := CM.a G_r0 R_r0_4 A_r0_4 uI22
              have F24 : ∀ r : Nat, r ≠ n1.toNatClampNeg → I22 r0_4 r = I11 r0_4 r := fun r z0 => by rw [uI22]; first | exact u2_k z0
              have e26 := u2_e uI22
              refine k_iload_n C rfl rfl rfl ?_
              exact k_iret C rfl (Or.inl rfl) (Nat.le_of_ble_eq_true rfl) (Nat.le_of_ble_eq_true rfl) ⟨_, _, _, rfl, rfl, fun a4 h4 => by cases (R_r0_4.symm.trans h4); first | omega | (simp only [e26, k0_r0_4_n1] <;> omega), fun a4 h4 => by cases (R_r0_4.symm.trans h4); first | omega | (simp only [e26, k0_r0_4_n1] <;> omega), fun a5 h5 => by cases (R_r0_5.symm.trans h5); exact hNE, fun a4 a5 h4 h5 => by cases (R_r0_4.symm.trans h4); cases (R_r0_5.symm.trans h5); simp only [k0_r0_4_n1]; exact STQ.p ff19_2 (CM.j0 S23 R_r0_5 (by decide)) (by omega), fun a4 h4 => by cases (R_r0_4.symm.trans h4); exact (fun r z0 => ((F24 r z0).trans (congrFun (CM.j0 S16 R_r0_4 (by decide)) r))), fun a5 h5 => by cases (R_r0_5.symm.trans h5); exact (fun r z0 => ((congrFun (CM.j0 S23 R_r0_5 (by decide)) r).trans (F18 r z0))), hI22, (CM.cons S16 (CM.mono S23 (by decide) (by decide)) (by decide) (by decide))⟩
            refine k_aload_n C rfl rfl rfl ?_
            refine k_iload_n C rfl rfl rfl ?_
            refine k_iload_n C rfl rfl rfl ?_
            refine k_iload_n C rfl rfl rfl ?_
            refine z_isub C rfl rfl ⟨by omega, by omega⟩ (fun x27 ex27 => ?_)
            refine k_aload_n C rfl rfl rfl ?_
            refine k_iload_n C rfl rfl rfl ?_
            refine k_iload_n C rfl rfl rfl ?_
            refine c_VI C (a_X12_of hI17 H_r0 (by omega) (by omega) (by omega) (by omega)) rfl rfl rfl rfl rfl ⟨_, rfl, rfl, T_r0, Nat.le_of_ble_eq_true rfl⟩ rfl rfl (Nat.le_of_ble_eq_true rfl) (Nat.le_of_ble_eq_true rfl) (Nat.le_of_ble_eq_true rfl) ?_
            rintro x28 _ _ ⟨o0x28, o1x28, p0x28, rfl, rfl⟩
            have p0x28 := p0x28 r0_5 R_r0_5
            have gx28 := rg x28
            try simp only [e19] at p0x28
            try have q0x28 := congrArg Int32.toInt p0x28
            have hO2 := p0x28
            refine c_VV C (a_X12_put hI17 H_r0 (by omega) (by omega) (by omega) (by omega) (by omega) (by omega)) rfl rfl rfl rfl rfl ⟨_, rfl, rfl, T_r0, Nat.le_of_ble_eq_true rfl⟩ rfl rfl (Nat.le_of_ble_eq_true rfl) (Nat.le_of_ble_eq_true rfl) (Nat.le_of_ble_eq_true rfl) ?_
            rintro I30 L31 ⟨p0v29, p1v29, hI30, S32⟩
            have p0v29 := p0v29 r0_5 R_r0_5
            have p1v29 := p1v29 r0_5 R_r0_5
            have F33 : ∀ r : Nat, (r < 41 * n1.toNatClampNeg ∨ 41 * n1.toNatClampNeg + 41 ≤ r) → I30 r0_5 r = I11 r0_5 r := fun r z0 => p1v29 r (by first | exact z0)
            have e34 := CM.j S32 R_r0_4 (by decide) e19
            try simp only [e19] at p0v29
            try have q0v29 := congrArg Int32.toInt p0v29
            have hP := p0v29
            refine z_iinc C (z := 1) (lw := fun x35 => [(3, .int x35), (0, .ref r0), (1, .int n1), (2, .int x4)]) rfl rfl rfl (Nat.le_of_ble_eq_true rfl) rfl ⟨by omega, by omega⟩ (fun _ => rfl) (fun x35 ex35 => ?_)
            show V 46 [(3, .int x35), (0, .ref r0), (1, .int n1), (2, .int x4)] _ _ _ _
            refine k_goto C (pc2 := 19) rfl rfl ?_
            refine k_sub S [(0, .ref r0), (1, .int n1), (2, .int x4), (3, .int x35)] (List.forall_mem_cons.mpr ⟨List.mem_of_getElem? (i := 1) rfl, List.forall_mem_cons.mpr ⟨List.mem_of_getElem? (i := 2) rfl, List.forall_mem_cons.mpr ⟨List.mem_of_getElem? (i := 3) rfl, List.forall_mem_cons.mpr ⟨List.mem_of_getElem? (i := 0) rfl, fun _ h => nomatch h⟩⟩⟩⟩) ?_
            exact ihJ9 _ (MN.lt hmnn10 (by omega) (by omega)) I30 L31 x35 rfl hI30 (CM.cons S16 (CM.mono S32 (by decide) (by decide)) (by decide) (by decide)) (fun r z0 => ((F33 r z0).trans (F18 r z0))) (by omega) (by omega) (by omega) (by omega) (by exact STQ.s ff19_2 hO2 hP (by omega) (by omega) (by omega) (by omega))
        refine k_istore_n C (lw := [(3, .int x4), (0, .ref r0), (1, .int n1), (2, .int x4)]) rfl rfl (Nat.le_of_ble_eq_true rfl) rfl ?_
        refine k_sub S [(0, .ref r0), (1, .int n1), (2, .int x4), (3, .int x4)] (List.forall_mem_cons.mpr ⟨List.mem_of_getElem? (i := 1) rfl, List.forall_mem_cons.mpr ⟨List.mem_of_getElem? (i := 2) rfl, List.forall_mem_cons.mpr ⟨List.mem_of_getElem? (i := 3) rfl, List.forall_mem_cons.mpr ⟨List.mem_of_getElem? (i := 0) rfl, fun _ h => nomatch h⟩⟩⟩⟩) ?_
        exact J9 _ I L x4 rfl hI CM.rf (fun r z0 => rfl) (by omega) (by omega) (by omega) (by omega) (by exact STQ.z (by omega) rfl)
      refine z_iinc C (z := 1) (lw := fun x36 => [(2, .int x36), (0, .ref r0), (1, .int n1)]) rfl rfl rfl (Nat.le_of_ble_eq_true rfl) rfl ⟨by omega, by omega⟩ (fun _ => rfl) (fun x36 ex36 => ?_)
      show V 14 [(2, .int x36), (0, .ref r0), (1, .int n1)] _ _ _ _
      refine k_goto C (pc2 := 2) rfl rfl ?_
      refine k_sub S [(0, .ref r0), (1, .int n1), (2, .int x36)] (List.forall_mem_cons.mpr ⟨List.mem_of_getElem? (i := 1) rfl, List.forall_mem_cons.mpr ⟨List.mem_of_getElem? (i := 2) rfl, List.forall_mem_cons.mpr ⟨List.mem_of_getElem? (i := 0) rfl, fun _ h => nomatch h⟩⟩⟩) ?_
      exact ihJ2 _ (MN.lt hmnn3 (by omega) (by omega)) x36 rfl (by omega) (by omega) (by (have h9 : x4.toNatClampNeg ≠ K := by (intro q; have hK3 := hK2; rw [← q] at hK3; omega)); (have h8 := ncz (x := x4) (by omega)); omega) (by exact AZ.s ff2_1 (by omega) (by omega) (by omega))
  refine k_istore_n C (lw := [(2, .int x1), (0, .ref r0), (1, .int n1)]) rfl rfl (Nat.le_of_ble_eq_true rfl) rfl ?_
  refine k_sub S [(0, .ref r0), (1, .int n1), (2, .int x1)] (List.forall_mem_cons.mpr ⟨List.mem_of_getElem? (i := 1) rfl, List.forall_mem_cons.mpr ⟨List.mem_of_getElem? (i := 2) rfl, List.forall_mem_cons.mpr ⟨List.mem_of_getElem? (i := 0) rfl, fun _ h => nomatch h⟩⟩⟩) ?_
  exact J2 _ x1 rfl (by omega) (by omega) (by omega) (by exact AZ.z (by omega))

theorem a_X12_divides {d : Nat} {T N : Nat → Nat} {I : IT} {L : LT} {R : RT} {A : Nat → Prop} {r0 : Nat} {n1 n2 n3 : Int32} (hI : IM R r0 I) (H_r0 : (h_MD T N R A) r0) (b0_n1 : 40 ≤ n1.toInt) (b1_n1 : n1.toInt ≤ 40) (b0_n2 : 41 ≤ n2.toInt) (b1_n2 : n2.toInt ≤ 41) (b0_n3 : 43 ≤ n3.toInt) (b1_n3 : n3.toInt ≤ 43) (hp0 : ∀ a4, R r0 4 = some a4 → (I a4 41).toInt ≤ (I a4 40).toInt) (hp1 : ∀ a5, R r0 5 = some a5 → NE1 I a5 (41 * 41)) (hp2 : ∀ a1 a5, R r0 1 = some a1 → R r0 5 = some a5 → QN I a5 41 1 (I a1 0).toInt) (hp3 : ∀ a1 a4 a5, R r0 1 = some a1 → R r0 4 = some a4 → R r0 5 = some a5 → QN I a5 40 ((I a4 40).toInt + 1) (I a1 0).toInt) : Ex (d + 5) 289 [.ref r0, .int n1, .int n2, .int n3] (T, N, I, L, R) 0 0 (pV T N R (fun I9 L9 => (∀ a4 a5, R r0 4 = some a4 → R r0 5 = some a5 → AZ I9 a5 (41 * 40) ((I a4 40).toInt - (I a4 41).toInt + 1)) ∧ (∀ a1 a4 a5, R r0 1 = some a1 → R r0 4 = some a4 → R r0 5 = some a5 → QN I9 a5 40 ((I a4 40).toInt + 1) (I a1 0).toInt) ∧ (∀ a4, R r0 4 = some a4 → (I9 a4 43).toInt = (I a4 40).toInt - (I a4 41).toInt) ∧ (∀ a4, R r0 4 = some a4 → ∀ r : Nat, r ≠ 43 → I9 a4 r = I a4 r) ∧ (∀ a5, R r0 5 = some a5 → ∀ r : Nat, (r < 41 * 40 ∨ 41 * 40 + 41 ≤ r) → (r < 41 * 43 ∨ 41 * 43 + 41 ≤ r) → I9 a5 r = I a5 r) ∧ (IM R r0 I9 ∧ CM A R r0 [] [4, 5] I L I9 L9))) := by
  refine ⟨_, rfl, Nat.le_of_ble_eq_true rfl, fun V C S => ?_⟩
  show V 0 [(0, .ref r0), (1, .int n1), (2, .int n2), (3, .int n3)] [] (T, N, I, L, R) 0 0
  have gn1 := rg n1
  have gn2 := rg n2
  have gn3 := rg n3
  obtain ⟨T_r0, A_r0, ⟨r0_1, R_r0_1, H_r0_1⟩, ⟨r0_2, R_r0_2, H_r0_2⟩, ⟨r0_4, R_r0_4, H_r0_4⟩, ⟨r0_5, R_r0_5, H_r0_5⟩, ⟨r0_10, R_r0_10, H_r0_10⟩, ⟨r0_18, R_r0_18, H_r0_18⟩, ⟨r0_20, R_r0_20, H_r0_20⟩, ⟨r0_21, R_r0_21, H_r0_21⟩, ⟨r0_22, R_r0_22, H_r0_22⟩, ⟨r0_23, R_r0_23, H_r0_23⟩, ⟨r0_25, R_r0_25, H_r0_25⟩, ⟨r0_26, R_r0_26, H_r0_26⟩, ⟨r0_27, R_r0_27, H_r0_27⟩, ⟨r0_28, R_r0_28, H_r0_28⟩, ⟨r0_34, R_r0_34, H_r0_34⟩, J_r0, Y_r0⟩ := id H_r0
  have G_r0 : mF T R r0 := ⟨J_r0, Y_r0, T_r0⟩
  obtain ⟨w_r0_4_40, k0_r0_4_40⟩ : ∃ x, I r0_4 40 = x := ⟨_, rfl⟩
  have gw_r0_4_40 := rg w_r0_4_40
  have ow_r0_4_40 := IM.dgR hI R_r0_4 k0_r0_4_40
  obtain ⟨w_r0_4_41, k0_r0_4_41⟩ : ∃ x, I r0_4 41 = x := ⟨_, rfl⟩
  have gw_r0_4_41 := rg w_r0_4_41
  have ow_r0_4_41 := IM.dgR hI R_r0_4 k0_r0_4_41
  obtain ⟨w_r0_1_0, k0_r0_1_0⟩ : ∃ x, I r0_1 0 = x := ⟨_, rfl⟩
  have gw_r0_1_0 := rg w_r0_1_0
  have ow_r0_1_0 := IM.pi hI R_r0_1 k0_r0_1_0
  have hp0 := hp0 r0_4 R_r0_4
  have hp1 := hp1 r0_5 R_r0_5
  have hp2 := hp2 r0_1 r0_5 R_r0_1 R_r0_5
  have hp3 := hp3 r0_1 r0_4 r0_5 R_r0_1 R_r0_4 R_r0_5
  try simp only [k0_r0_4_40, k0_r0_4_41, k0_r0_1_0] at hp0
  try simp only [k0_r0_4_40, k0_r0_4_41, k0_r0_1_0] at hp1
  try simp only [k0_r0_4_40, k0_r0_4_41, k0_r0_1_0] at hp2
  try simp only [k0_r0_4_40, k0_r0_4_41, k0_r0_1_0] at hp3
  refine k_aload_n C rfl rfl rfl ?_
  refine k_aload_n C rfl rfl rfl ?_
  refine k_iload_n C rfl rfl rfl ?_
  refine z_iconst C (z := 0) rfl rfl rfl (fun x1 ex1 => ?_)
  have q2 : n2.toNatClampNeg = 41 := nck (by omega)
  have q3 : x1.toNatClampNeg = 0 := nck (by omega)
  refine c_VI C (a_X12_of hI H_r0 (by omega) (by omega) (by omega) (by omega)) rfl rfl rfl rfl rfl ⟨_, rfl, rfl, T_r0, Nat.le_of_ble_eq_true rfl⟩ rfl rfl (Nat.le_of_ble_eq_true rfl) (Nat.le_of_ble_eq_true rfl) (Nat.le_of_ble_eq_true rfl) ?_
  rintro x4 _ _ ⟨o0x4, o1x4, p0x4, rfl, rfl⟩
  have p0x4 := p0x4 r0_5 R_r0_5
  have gx4 := rg x4
  try simp only [q2, q3, k0_r0_4_40, k0_r0_4_41, k0_r0_1_0] at p0x4
  try have q0x4 := congrArg Int32.toInt p0x4
  have hO1 := p0x4
  refine c_VI C (a_X12_inverse hI H_r0 (by omega) (by omega)) rfl rfl rfl rfl rfl ⟨_, rfl, rfl, T_r0, Nat.le_of_ble_eq_true rfl⟩ rfl rfl (Nat.le_of_ble_eq_true rfl) (Nat.le_of_ble_eq_true rfl) (Nat.le_of_ble_eq_true rfl) ?_
  rintro x5 _ _ ⟨o0x5, o1x5, p0x5, rfl, rfl⟩
  have p0x5 := p0x5 r0_1 R_r0_1
  have gx5 := rg x5
  try simp only [k0_r0_4_40, k0_r0_4_41, k0_r0_1_0] at p0x5
  try have q0x5 := congrArg Int32.toInt p0x5
  have hI9 := p0x5
  obtain ⟨vl, hvl⟩ : ∃ z : Int, z = x5.toInt := ⟨_, rfl⟩
  refine k_istore C (lw := [(4, .int x5), (0, .ref r0), (1, .int n1), (2, .int n2), (3, .int n3)]) rfl rfl (Nat.le_of_ble_eq_true rfl) rfl ?_
  obtain ⟨vb, hvb⟩ : ∃ z : Int, z = (I r0_5 (41 * 41 + 0)).toInt := ⟨_, rfl⟩
  have hinv : (vb * vl) % w_r0_1_0.toInt = 1 := by (rw [hvb, hvl, ← hO1]; exact hI9 (by have h1 := hp2 0 (by omega); omega) (by have h1 := hp2 0 (by omega); omega) (by have h2 : (I r0_5 (41 * 41)).toInt ≠ 0 := hp1; have h3 : (I r0_5 (41 * 41 + 0)).toInt ≠ 0 := h2; omega))
  refine k_aload_n C rfl rfl rfl ?_
  refine k_iload_n C rfl rfl rfl ?_
  refine k_aload_n C rfl rfl rfl ?_
  refine g_R C rfl rfl rfl T_r0 rfl R_r0_4 ?_
  refine k_iload_n C rfl rfl rfl ?_
  obtain ⟨T_r0_4, N_r0_4, A_r0_4⟩ := id H_r0_4
  refine a_I C rfl rfl T_r0_4 (by rw [N_r0_4]; exact vpi (by omega) (by omega)) ((congrArg (I r0_4) (nck (n := 40) (by omega))).trans k0_r0_4_40) ?_
  refine k_aload_n C rfl rfl rfl ?_
  refine g_R C rfl rfl rfl T_r0 rfl R_r0_4 ?_
  refine k_iload_n C rfl rfl rfl ?_
  refine a_I C rfl rfl T_r0_4 (by rw [N_r0_4]; exact vpi (by omega) (by omega)) ((congrArg (I r0_4) (nck (n := 41) (by omega))).trans k0_r0_4_41) ?_
  refine z_isub C rfl rfl ⟨by omega, by omega⟩ (fun x6 ex6 => ?_)
  have q7 : n3.toNatClampNeg = 43 := nck (by omega)
  refine c_VV C (a_X12_clears hI H_r0 (by omega) (by omega) (by omega) (by omega)) rfl rfl rfl rfl rfl ⟨_, rfl, rfl, T_r0, Nat.le_of_ble_eq_true rfl⟩ rfl rfl (Nat.le_of_ble_eq_true rfl) (Nat.le_of_ble_eq_true rfl) (Nat.le_of_ble_eq_true rfl) ?_
  rintro I9 L10 ⟨p0v8, p1v8, p2v8, p3v8, hI9, S11⟩
  have p0v8 := p0v8 r0_4 R_r0_4
  have p1v8 := p1v8 r0_5 R_r0_5
  have p2v8 := p2v8 r0_4 R_r0_4
  have p3v8 := p3v8 r0_5 R_r0_5
  try simp only [q7] at p2v8
  have F12 : ∀ r : Nat, r ≠ 43 → I9 r0_4 r = I r0_4 r := fun r z0 => p2v8 r (by first | exact z0)
  try simp only [q7] at p3v8
  have F13 : ∀ r : Nat, (r < 41 * 40 ∨ 41 * 40 + 41 ≤ r) → (r < 41 * 43 ∨ 41 * 43 + 41 ≤ r) → I9 r0_5 r = I r0_5 r := fun r z0 z1 => p3v8 r (by first | exact z0 | exact z1)
  have e14 := (p2v8 40 (by first | decide | exact ncne (by omega) (by omega) (by omega) | exact nckn (by omega) (by omega) | exact (nckn (by omega) (by omega)).symm)).trans k0_r0_4_40
  have e15 := (p2v8 41 (by first | decide | exact ncne (by omega) (by omega) (by omega) | exact nckn (by omega) (by omega) | exact (nckn (by omega) (by omega)).symm)).trans k0_r0_4_41
  have e16 := CM.j S11 R_r0_1 (by decide) k0_r0_1_0
  obtain ⟨x17, e18⟩ : ∃ x, I9 r0_4 43 = x := ⟨_, rfl⟩
  have gx17 := rg x17
  have ox17 := IM.dgR hI9 R_r0_4 e18
  try simp only [q7, k0_r0_4_40, k0_r0_4_41, k0_r0_1_0, e18] at p0v8
  try have q0v8 := congrArg Int32.toInt p0v8
  try simp only [q7, k0_r0_4_40, k0_r0_4_41, k0_r0_1_0, e18] at p1v8
  try have q1v8 := congrArg Int32.toInt p1v8
  have hS40 : SMR I I9 r0_5 40 := fun k hk => p3v8 _ (by omega)
  have hS41 : SMR I I9 r0_5 41 := fun k hk => p3v8 _ (by omega)
  refine z_iconst C (z := 0) rfl rfl rfl (fun x19 ex19 => ?_)
  have J20 : ∀ (nn21 : Nat) (I22 : IT) (L23 : LT) (x24 : Int32), (MN (41 - x24.toInt) nn21) → (IM R r0 I22) → (CM A R r0 [] [5] I9 L10 I22 L23) → (∀ r : Nat, (r < 41 * 40 ∨ 41 * 40 + 41 ≤ r) → (r < 41 * 43 ∨ 41 * 43 + 41 ≤ r) → I22 r0_5 r = I9 r0_5 r) → (0 ≤ x24.toInt) → (x24.toInt ≤ 41) → (AZ I22 r0_5 (41 * 40) x24.toInt) → (QN I22 r0_5 40 (w_r0_4_40.toInt + 1) w_r0_1_0.toInt) → (SMR I I22 r0_5 41) → (x24.toInt ≤ w_r0_4_40.toInt - w_r0_4_41.toInt + 1) → V 33 [(0, .ref r0), (1, .int n1), (2, .int n2), (3, .int n3), (4, .int x5), (5, .int x24)] [] (T, N, I22, L23, R) 0 0 := by
    intro nn21
    induction nn21 using Nat.strongRecOn with
    | _ nn21 ihJ20 =>
      intro I22 L23 x24 hmnn21 hI28 S27 F29 b25 b26 ff33_0 ff33_1 ff33_2 ff33_3
      have gx24 := rg x24
      have e30 := CM.j S27 R_r0_4 (by decide) e14
      have e31 := CM.j S27 R_r0_4 (by decide) e15
      have e32 := CM.j S27 R_r0_1 (by decide) e16
      have e33 := CM.j S27 R_r0_4 (by decide) e18
      refine k_iload C rfl rfl rfl ?_
      refine k_aload_n C rfl rfl rfl ?_
      refine g_R C rfl rfl rfl T_r0 rfl R_r0_4 ?_
      refine k_iload_n C rfl rfl rfl ?_
      refine a_I C rfl rfl T_r0_4 (by rw [N_r0_4]; exact vpi (by omega) (by omega)) ((congrArg (I22 r0_4) (nck (n := 43) (by omega))).trans e33) ?_
      refine b_icmp_gt C (t := 131) rfl rfl rfl (fun c34 => ?_) (fun c34 => ?_)
      · skip
        exact k_vret C rfl rfl (Nat.le_of_ble_eq_true rfl) (Nat.le_of_ble_eq_true rfl) ⟨_, _, rfl, rfl, fun a4 a5 h4 h5 => by cases (R_r0_4.symm.trans h4); cases (R_r0_5.symm.trans h5); simp only [k0_r0_4_40, k0_r0_4_41]; exact AZ.le ff33_0 (by omega), fun a1 a4 a5 h1 h4 h5 => by cases (R_r0_1.symm.trans h1); cases (R_r0_4.symm.trans h4); cases (R_r0_5.symm.trans h5); simp only [k0_r0_4_40, k0_r0_1_0]; exact ff33_1, fun a4 h4 => by cases (R_r0_4.symm.trans h4); first | omega | (simp only [e30, e31, e32, e33, k0_r0_4_40, k0_r0_4_41, k0_r0_1_0] <;> omega), fun a4 h4 => by cases (R_r0_4.symm.trans h4); exact (fun r z0 => ((congrFun (CM.j0 S27 R_r0_4 (by decide)) r).trans (F12 r z0))), fun a5 h5 => by cases (R_r0_5.symm.trans h5); exact (fun r z0 z1 => ((F29 r z0 z1).trans (F13 r z0 z1))), hI28, (CM.cons S11 (CM.mono S27 (by decide) (by decide)) (by decide) (by decide))⟩
      refine k_aload_n C rfl rfl rfl ?_
      refine k_aload_n C rfl rfl rfl ?_
      refine k_iload_n C rfl rfl rfl ?_
      refine k_iload C rfl rfl rfl ?_
      have q35 : n1.toNatClampNeg = 40 := nck (by omega)
      refine c_VI C (a_X12_of hI28 H_r0 (by omega) (by omega) (by omega) (by omega)) rfl rfl rfl rfl rfl ⟨_, rfl, rfl, T_r0, Nat.le_of_ble_eq_true rfl⟩ rfl rfl (Nat.le_of_ble_eq_true rfl) (Nat.le_of_ble_eq_true rfl) (Nat.le_of_ble_eq_true rfl) ?_
      rintro x36 _ _ ⟨o0x36, o1x36, p0x36, rfl, rfl⟩
      have p0x36 := p0x36 r0_5 R_r0_5
      have gx36 := rg x36
      try simp only [q35, e30, e31, e32, e33] at p0x36
      try have q0x36 := congrArg Int32.toInt p0x36
      have hO2 := p0x36
      obtain ⟨va, hva⟩ : ∃ z : Int, z = x36.toInt := ⟨_, rfl⟩
      refine k_iload C rfl rfl rfl ?_
      refine c_VI C (a_X12_times hI28 H_r0 (by omega) (by omega) (by omega) (by omega)) rfl rfl rfl rfl rfl ⟨_, rfl, rfl, T_r0, Nat.le_of_ble_eq_true rfl⟩ rfl rfl (Nat.le_of_ble_eq_true rfl) (Nat.le_of_ble_eq_true rfl) (Nat.le_of_ble_eq_true rfl) ?_
      rintro x37 _ _ ⟨o0x37, o1x37, p0x37, p1x37, p2x37, p3x37, rfl, rfl⟩
      have p0x37 := p0x37 r0_1 R_r0_1
      have p2x37 := p2x37 r0_1 R_r0_1
      have p3x37 := p3x37 r0_1 R_r0_1
      have gx37 := rg x37
      try simp only [e30, e31, e32, e33] at p0x37
      try have q0x37 := congrArg Int32.toInt p0x37
      try simp only [e30, e31, e32, e33] at p1x37
      try have q1x37 := congrArg Int32.toInt p1x37
      try simp only [e30, e31, e32, e33] at p2x37
      try have q2x37 := congrArg Int32.toInt p2x37
      try simp only [e30, e31, e32, e33] at p3x37
      try have q3x37 := congrArg Int32.toInt p3x37
      have hT1 := p3x37
      refine k_istore C (lw := [(6, .int x37), (0, .ref r0), (1, .int n1), (2, .int n2), (3, .int n3), (4, .int x5), (5, .int x24)]) rfl rfl (Nat.le_of_ble_eq_true rfl) rfl ?_
      refine k_aload_n C rfl rfl rfl ?_
      refine k_iload_n C rfl rfl rfl ?_
      refine k_iload C rfl rfl rfl ?_
      refine k_iload C rfl rfl rfl ?_
      have q38 : n3.toNatClampNeg = 43 := nck (by omega)
      refine c_VV C (a_X12_put hI28 H_r0 (by omega) (by omega) (by omega) (by omega) (by omega) (by omega)) rfl rfl rfl rfl rfl ⟨_, rfl, rfl, T_r0, Nat.le_of_ble_eq_true rfl⟩ rfl rfl (Nat.le_of_ble_eq_true rfl) (Nat.le_of_ble_eq_true rfl) (Nat.le_of_ble_eq_true rfl) ?_
      rintro I40 L41 ⟨p0v39, p1v39, hI40, S42⟩
      have p0v39 := p0v39 r0_5 R_r0_5
      have p1v39 := p1v39 r0_5 R_r0_5
      try simp only [q38] at p1v39
      have F43 : ∀ r : Nat, (r < 41 * 40 ∨ 41 * 40 + 41 ≤ r) → (r < 41 * 43 ∨ 41 * 43 + 41 ≤ r) → I40 r0_5 r = I22 r0_5 r := fun r z0 z1 => p1v39 r (by first | exact z0 | exact z1)
      have e44 := CM.j S42 R_r0_4 (by decide) e30
      have e45 := CM.j S42 R_r0_4 (by decide) e31
      have e46 := CM.j S42 R_r0_1 (by decide) e32
      have e47 := CM.j S42 R_r0_4 (by decide) e33
      try simp only [q38, e30, e31, e32, e33] at p0v39
      try have q0v39 := congrArg Int32.toInt p0v39
      have hP1 := p0v39
      refine z_iconst C (z := 0) rfl rfl rfl (fun x48 ex48 => ?_)
      have J49 : ∀ (nn50 : Nat) (I51 : IT) (L52 : LT) (x53 : Int32), (MN (41 - x53.toInt) nn50) → (IM R r0 I51) → (CM A R r0 [] [5] I40 L41 I51 L52) → (∀ r : Nat, (r < 41 * 40 ∨ 41 * 40 + 41 ≤ r) → (r < 41 * 43 ∨ 41 * 43 + 41 ≤ r) → I51 r0_5 r = I40 r0_5 r) → (0 ≤ x53.toInt) → (x53.toInt ≤ 41) → (AZ I51 r0_5 (41 * 40) x24.toInt) → (QN I51 r0_5 40 (w_r0_4_40.toInt + 1) w_r0_1_0.toInt) → (SMR I I51 r0_5 41) → (ROWK I51 r0_5 (41 * 40 + x24.toNatClampNeg) x53.toInt va) → V 71 [(0, .ref r0), (1, .int n1), (2, .int n2), (3, .int n3), (4, .int x5), (5, .int x24), (6, .int x37), (7, .int x53)] [] (T, N, I51, L52, R) 0 0 := by
        intro nn50
        induction nn50 using Nat.strongRecOn with
        | _ nn50 ihJ49 =>
          intro I51 L52 x53 hmnn50 hI57 S56 F58 b54 b55 ff71_0 ff71_1 ff71_2 ff71_3
          have gx53 := rg x53
          have e59 := CM.j S56 R_r0_4 (by decide) e44
          have e60 := CM.j S56 R_r0_4 (by decide) e45
          have e61 := CM.j S56 R_r0_1 (by decide) e46
          have e62 := CM.j S56 R_r0_4 (by decide) e47
          refine k_iload C rfl rfl rfl ?_
          refine k_aload_n C rfl rfl rfl ?_
          refine g_R C rfl rfl rfl T_r0 rfl R_r0_4 ?_
          refine k_iload_n C rfl rfl rfl ?_
          refine a_I C rfl rfl T_r0_4 (by rw [N_r0_4]; exact vpi (by omega) (by omega)) ((congrArg (I51 r0_4) (nck (n := 41) (by omega))).trans e60) ?_
          refine b_icmp_gt C (t := 125) rfl rfl rfl (fun c63 => ?_) (fun c63 => ?_)
          · skip
            refine z_iinc C (z := 1) (lw := fun x64 => [(5, .int x64), (0, .ref r0), (1, .int n1), (2, .int n2), (3, .int n3), (4, .int x5), (6, .int x37), (7, .int x53)]) rfl rfl rfl (Nat.le_of_ble_eq_true rfl) rfl ⟨by omega, by omega⟩ (fun _ => rfl) (fun x64 ex64 => ?_)
            show V 128 [(5, .int x64), (0, .ref r0), (1, .int n1), (2, .int n2), (3, .int n3), (4, .int x5), (6, .int x37), (7, .int x53)] _ _ _ _
            refine k_goto C (pc2 := 33) rfl rfl ?_
            refine k_sub S [(0, .ref r0), (1, .int n1), (2, .int n2), (3, .int n3), (4, .int x5), (5, .int x64)] (List.forall_mem_cons.mpr ⟨List.mem_of_getElem? (i := 1) rfl, List.forall_mem_cons.mpr ⟨List.mem_of_getElem? (i := 2) rfl, List.forall_mem_cons.mpr ⟨List.mem_of_getElem? (i := 3) rfl, List.forall_mem_cons.mpr ⟨List.mem_of_getElem? (i := 4) rfl, List.forall_mem_cons.mpr ⟨List.mem_of_getElem? (i := 5) rfl, List.forall_mem_cons.mpr ⟨List.mem_of_getElem? (i := 0) rfl, fun _ h => nomatch h⟩⟩⟩⟩⟩⟩) ?_
            exact ihJ20 _ (MN.lt hmnn21 (by omega) (by omega)) I51 L52 x64 rfl hI57 (CM.cons S27 (CM.cons S42 (CM.mono S56 (by decide) (by decide)) (by decide) (by decide)) (by decide) (by decide)) (fun r z0 z1 => ((F58 r z0 z1).trans ((F43 r z0 z1).trans (F29 r z0 z1)))) (by omega) (by omega) (by exact AZ.row ff71_0 ff71_3 (by omega) (by omega) (by omega)) (by exact ff71_1) (by exact ff71_2) (by omega)
          refine k_aload_n C rfl rfl rfl ?_
          refine k_iload_n C rfl rfl rfl ?_
          refine k_iload C rfl rfl rfl ?_
          refine k_iload C rfl rfl rfl ?_
          refine z_iadd C rfl rfl ⟨by omega, by omega⟩ (fun x65 ex65 => ?_)
          refine k_aload_n C rfl rfl rfl ?_
          refine k_aload_n C rfl rfl rfl ?_
          refine k_iload_n C rfl rfl rfl ?_
          refine k_iload C rfl rfl rfl ?_
          refine k_iload C rfl rfl rfl ?_
          refine z_iadd C rfl rfl ⟨by omega, by omega⟩ (fun x66 ex66 => ?_)
          have q67 : n1.toNatClampNeg = 40 := nck (by omega)
          refine c_VI C (a_X12_of hI57 H_r0 (by omega) (by omega) (by omega) (by omega)) rfl rfl rfl rfl rfl ⟨_, rfl, rfl, T_r0, Nat.le_of_ble_eq_true rfl⟩ rfl rfl (Nat.le_of_ble_eq_true rfl) (Nat.le_of_ble_eq_true rfl) (Nat.le_of_ble_eq_true rfl) ?_
          rintro x68 _ _ ⟨o0x68, o1x68, p0x68, rfl, rfl⟩
          have p0x68 := p0x68 r0_5 R_r0_5
          have gx68 := rg x68
          try simp only [q67, e59, e60, e61, e62] at p0x68
          try have q0x68 := congrArg Int32.toInt p0x68
          have hO3 := p0x68
          refine k_aload_n C rfl rfl rfl ?_
          refine k_iload C rfl rfl rfl ?_
          refine k_aload_n C rfl rfl rfl ?_
          refine k_iload_n C rfl rfl rfl ?_
          refine k_iload C rfl rfl rfl ?_
          have q69 : n2.toNatClampNeg = 41 := nck (by omega)
          refine c_VI C (a_X12_of hI57 H_r0 (by omega) (by omega) (by omega) (by omega)) rfl rfl rfl rfl rfl ⟨_, rfl, rfl, T_r0, Nat.le_of_ble_eq_true rfl⟩ rfl rfl (Nat.le_of_ble_eq_true rfl) (Nat.le_of_ble_eq_true rfl) (Nat.le_of_ble_eq_true rfl) ?_
          rintro x70 _ _ ⟨o0x70, o1x70, p0x70, rfl, rfl⟩
          have p0x70 := p0x70 r0_5 R_r0_5
          have gx70 := rg x70
          try simp only [q69, e59, e60, e61, e62] at p0x70
          try have q0x70 := congrArg Int32.toInt p0x70
          have hO4 := p0x70
          refine c_VI C (a_X12_times hI57 H_r0 (by omega) (by omega) (by omega) (by omega)) rfl rfl rfl rfl rfl ⟨_, rfl, rfl, T_r0, Nat.le_of_ble_eq_true rfl⟩ rfl rfl (Nat.le_of_ble_eq_true rfl) (Nat.le_of_ble_eq_true rfl) (Nat.le_of_ble_eq_true rfl) ?_
          rintro x71 _ _ ⟨o0x71, o1x71, p0x71, p1x71, p2x71, p3x71, rfl, rfl⟩
          have p0x71 := p0x71 r0_1 R_r0_1
          have p2x71 := p2x71 r0_1 R_r0_1
          have p3x71 := p3x71 r0_1 R_r0_1
          have gx71 := rg x71
          try simp only [e59, e60, e61, e62] at p0x71
          try have q0x71 := congrArg Int32.toInt p0x71
          try simp only [e59, e60, e61, e62] at p1x71
          try have q1x71 := congrArg Int32.toInt p1x71
          try simp only [e59, e60, e61, e62] at p2x71
          try have q2x71 := congrArg Int32.toInt p2x71
          try simp only [e59, e60, e61, e62] at p3x71
          try have q3x71 := congrArg Int32.toInt p3x71
          have hT2 := p3x71
          refine c_VI C (a_X12_less hI57 H_r0 (by omega) (by omega) (by omega) (by omega)) rfl rfl rfl rfl rfl ⟨_, rfl, rfl, T_r0, Nat.le_of_ble_eq_true rfl⟩ rfl rfl (Nat.le_of_ble_eq_true rfl) (Nat.le_of_ble_eq_true rfl) (Nat.le_of_ble_eq_true rfl) ?_
          rintro x72 _ _ ⟨o0x72, o1x72, p0x72, p1x72, p2x72, p3x72, rfl, rfl⟩
          have p0x72 := p0x72 r0_1 R_r0_1
          have p2x72 := p2x72 r0_1 R_r0_1
          have p3x72 := p3x72 r0_1 R_r0_1
          have gx72 := rg x72
          try simp only [e59, e60, e61, e62] at p0x72
          try have q0x72 := congrArg Int32.toInt p0x72
          try simp only [e59, e60, e61, e62] at p1x72
          try have q1x72 := congrArg Int32.toInt p1x72
          try simp only [e59, e60, e61, e62] at p2x72
          try have q2x72 := congrArg Int32.toInt p2x72
          try simp only [e59, e60, e61, e62] at p3x72
          try have q3x72 := congrArg Int32.toInt p3x72
          have hx0 := fun (hi : x53.toInt = 0) => div0 (by omega) ff71_3 ff71_2 hi (by omega) (by omega) hO3 hO4 hvb hinv (by rw [hva, hvl]; exact hT1) hT2 p3x72
          have q73 : n1.toNatClampNeg = 40 := nck (by omega)
          refine c_VV C (a_X12_put hI57 H_r0 (by omega) (by omega) (by omega) (by omega) (by omega) (by omega)) rfl rfl rfl rfl rfl ⟨_, rfl, rfl, T_r0, Nat.le_of_ble_eq_true rfl⟩ rfl rfl (Nat.le_of_ble_eq_true rfl) (Nat.le_of_ble_eq_true rfl) (Nat.le_of_ble_eq_true rfl) ?_
          rintro I75 L76 ⟨p0v74, p1v74, hI75, S77⟩
          have p0v74 := p0v74 r0_5 R_r0_5
          have p1v74 := p1v74 r0_5 R_r0_5
          try simp only [q73] at p1v74
          have F78 : ∀ r : Nat, (r < 41 * 40 ∨ 41 * 40 + 41 ≤ r) → (r < 41 * 43 ∨ 41 * 43 + 41 ≤ r) → I75 r0_5 r = I51 r0_5 r := fun r z0 z1 => p1v74 r (by first | exact z0 | exact z1)
          have e79 := CM.j S77 R_r0_4 (by decide) e59
          have e80 := CM.j S77 R_r0_4 (by decide) e60
          have e81 := CM.j S77 R_r0_1 (by decide) e61
          have e82 := CM.j S77 R_r0_4 (by decide) e62
          try simp only [q73, e59, e60, e61, e62] at p0v74
          try have q0v74 := congrArg Int32.toInt p0v74
          have hP := p0v74
          refine z_iinc C (z := 1) (lw := fun x83 => [(7, .int x83), (0, .ref r0), (1, .int n1), (2, .int n2), (3, .int n3), (4, .int x5), (5, .int x24), (6, .int x37)]) rfl rfl rfl (Nat.le_of_ble_eq_true rfl) rfl ⟨by omega, by omega⟩ (fun _ => rfl) (fun x83 ex83 => ?_)
          show V 122 [(7, .int x83), (0, .ref r0), (1, .int n1), (2, .int n2), (3, .int n3), (4, .int x5), (5, .int x24), (6, .int x37)] _ _ _ _
          refine k_goto C (pc2 := 71) rfl rfl ?_
          refine k_sub S [(0, .ref r0), (1, .int n1), (2, .int n2), (3, .int n3), (4, .int x5), (5, .int x24), (6, .int x37), (7, .int x83)] (List.forall_mem_cons.mpr ⟨List.mem_of_getElem? (i := 1) rfl, List.forall_mem_cons.mpr ⟨List.mem_of_getElem? (i := 2) rfl, List.forall_mem_cons.mpr ⟨List.mem_of_getElem? (i := 3) rfl, List.forall_mem_cons.mpr ⟨List.mem_of_getElem? (i := 4) rfl, List.forall_mem_cons.mpr ⟨List.mem_of_getElem? (i := 5) rfl, List.forall_mem_cons.mpr ⟨List.mem_of_getElem? (i := 6) rfl, List.forall_mem_cons.mpr ⟨List.mem_of_getElem? (i := 7) rfl, List.forall_mem_cons.mpr ⟨List.mem_of_getElem? (i := 0) rfl, fun _ h => nomatch h⟩⟩⟩⟩⟩⟩⟩⟩) ?_
          exact ihJ49 _ (MN.lt hmnn50 (by omega) (by omega)) I75 L76 x83 rfl hI75 (CM.cons S56 (CM.mono S77 (by decide) (by decide)) (by decide) (by decide)) (fun r z0 z1 => ((F78 r z0 z1).trans (F58 r z0 z1))) (by omega) (by omega) (by exact AZ.put ff71_0 hP (by omega) (by omega)) (by exact QN.put ff71_1 hP (by omega) (by omega)) (by exact SMR.put ff71_2 hP (nclt (by omega) (by omega)) (by decide)) (by exact ROWK.s ff71_3 hP (by omega) hx0 (by omega) (by omega) (by omega))
      refine k_istore C (lw := [(7, .int x48), (6, .int x37), (0, .ref r0), (1, .int n1), (2, .int n2), (3, .int n3), (4, .int x5), (5, .int x24)]) rfl rfl (Nat.le_of_ble_eq_true rfl) rfl ?_
      refine k_sub S [(0, .ref r0), (1, .int n1), (2, .int n2), (3, .int n3), (4, .int x5), (5, .int x24), (6, .int x37), (7, .int x48)] (List.forall_mem_cons.mpr ⟨List.mem_of_getElem? (i := 2) rfl, List.forall_mem_cons.mpr ⟨List.mem_of_getElem? (i := 3) rfl, List.forall_mem_cons.mpr ⟨List.mem_of_getElem? (i := 4) rfl, List.forall_mem_cons.mpr ⟨List.mem_of_getElem? (i := 5) rfl, List.forall_mem_cons.mpr ⟨List.mem_of_getElem? (i := 6) rfl, List.forall_mem_cons.mpr ⟨List.mem_of_getElem? (i := 7) rfl, List.forall_mem_cons.mpr ⟨List.mem_of_getElem? (i := 1) rfl, List.forall_mem_cons.mpr ⟨List.mem_of_getElem? (i := 0) rfl, fun _ h => nomatch h⟩⟩⟩⟩⟩⟩⟩⟩) ?_
      exact J49 _ I40 L41 x48 rfl hI40 CM.rf (fun r z0 z1 => rfl) (by omega) (by omega) (by exact AZ.put43 ff33_0 hP1 (by omega)) (by exact QN.put ff33_1 hP1 (by omega) (by omega)) (by exact SMR.put ff33_2 hP1 (by have := ncz (x := x24) (by omega); omega) (by decide)) (by exact ROWK.z hP1 (by omega) (by omega) hO2 hva (by omega))
  refine k_istore C (lw := [(5, .int x19), (4, .int x5), (0, .ref r0), (1, .int n1), (2, .int n2), (3, .int n3)]) rfl rfl (Nat.le_of_ble_eq_true rfl) rfl ?_
  refine k_sub S [(0, .ref r0), (1, .int n1), (2, .int n2), (3, .int n3), (4, .int x5), (5, .int x19)] (List.forall_mem_cons.mpr ⟨List.mem_of_getElem? (i := 2) rfl, List.forall_mem_cons.mpr ⟨List.mem_of_getElem? (i := 3) rfl, List.forall_mem_cons.mpr ⟨List.mem_of_getElem? (i := 4) rfl, List.forall_mem_cons.mpr ⟨List.mem_of_getElem? (i := 5) rfl, List.forall_mem_cons.mpr ⟨List.mem_of_getElem? (i := 1) rfl, List.forall_mem_cons.mpr ⟨List.mem_of_getElem? (i := 0) rfl, fun _ h => nomatch h⟩⟩⟩⟩⟩⟩) ?_
  exact J20 _ I9 L10 x19 rfl hI9 CM.rf (fun r z0 z1 => rfl) (by omega) (by omega) (by exact AZ.z (by omega)) (by exact QN.smr hp3 hS40 (by omega)) (by exact hS41) (by omega)
end
-- 46.ref.lean.txt
section
/-! the reference in any state: what lies in common, quotients -/
theorem a_X12_commons {d : Nat} {T N : Nat → Nat} {I : IT} {L : LT} {R : RT} {A : Nat → Prop} {r0 : Nat} (hI : IM R r0 I) (H_r0 : (h_MD T N R A) r0) (hp0 : ∀ a4, R r0 4 = some a4 → (I a4 40).toInt ≤ 8) (hp1 : ∀ a4, R r0 4 = some a4 → (I a4 41).toInt ≤ 8) (hp2 : ∀ a4 a5, R r0 4 = some a4 → R r0 5 = some a5 → NZ I a5 40 (I a4 40).toInt) (hp3 : ∀ a4 a5, R r0 4 = some a4 → R r0 5 = some a5 → NZ I a5 41 (I a4 41).toInt) (hp4 : ∀ a1 a4 a5, R r0 1 = some a1 → R r0 4 = some a4 → R r0 5 = some a5 → QN I a5 40 ((I a4 40).toInt + 1) (I a1 0).toInt) (hp5 : ∀ a1 a4 a5, R r0 1 = some a1 → R r0 4 = some a4 → R r0 5 = some a5 → QN I a5 41 ((I a4 41).toInt + 1) (I a1 0).toInt) : Ex (d + 6) 290 [.ref r0] (T, N, I, L, R) 0 0 (pV T N R (fun I9 L9 => (IM R r0 I9 ∧ CM A R r0 [] [4, 5] I L I9 L9))) := by
  refine ⟨_, rfl, Nat.le_of_ble_eq_true rfl, fun V C S => ?_⟩
  show V 0 [(0, .ref r0)] [] (T, N, I, L, R) 0 0
  obtain ⟨T_r0, A_r0, ⟨r0_1, R_r0_1, H_r0_1⟩, ⟨r0_2, R_r0_2, H_r0_2⟩, ⟨r0_4, R_r0_4, H_r0_4⟩, ⟨r0_5, R_r0_5, H_r0_5⟩, ⟨r0_10, R_r0_10, H_r0_10⟩, ⟨r0_18, R_r0_18, H_r0_18⟩, ⟨r0_20, R_r0_20, H_r0_20⟩, ⟨r0_21, R_r0_21, H_r0_21⟩, ⟨r0_22, R_r0_22, H_r0_22⟩, ⟨r0_23, R_r0_23, H_r0_23⟩, ⟨r0_25, R_r0_25, H_r0_25⟩, ⟨r0_26, R_r0_26, H_r0_26⟩, ⟨r0_27, R_r0_27, H_r0_27⟩, ⟨r0_28, R_r0_28, H_r0_28⟩, ⟨r0_34, R_r0_34, H_r0_34⟩, J_r0, Y_r0⟩ := id H_r0
  have G_r0 : mF T R r0 := ⟨J_r0, Y_r0, T_r0⟩
  obtain ⟨w_r0_4_40, k0_r0_4_40⟩ : ∃ x, I r0_4 40 = x := ⟨_, rfl⟩
  have gw_r0_4_40 := rg w_r0_4_40
  have ow_r0_4_40 := IM.dgR hI R_r0_4 k0_r0_4_40
  obtain ⟨w_r0_4_41, k0_r0_4_41⟩ : ∃ x, I r0_4 41 = x := ⟨_, rfl⟩
  have gw_r0_4_41 := rg w_r0_4_41
  have ow_r0_4_41 := IM.dgR hI R_r0_4 k0_r0_4_41
  obtain ⟨w_r0_1_0, k0_r0_1_0⟩ : ∃ x, I r0_1 0 = x := ⟨_, rfl⟩
  have gw_r0_1_0 := rg w_r0_1_0
  have ow_r0_1_0 := IM.pi hI R_r0_1 k0_r0_1_0
  have hp0 := hp0 r0_4 R_r0_4
  have hp1 := hp1 r0_4 R_r0_4
  have hp2 := hp2 r0_4 r0_5 R_r0_4 R_r0_5
  have hp3 := hp3 r0_4 r0_5 R_r0_4 R_r0_5
  have hp4 := hp4 r0_1 r0_4 r0_5 R_r0_1 R_r0_4 R_r0_5
  have hp5 := hp5 r0_1 r0_4 r0_5 R_r0_1 R_r0_4 R_r0_5
  try simp only [k0_r0_4_40, k0_r0_4_41, k0_r0_1_0] at hp0
  try simp only [k0_r0_4_40, k0_r0_4_41, k0_r0_1_0] at hp1
  try simp only [k0_r0_4_40, k0_r0_4_41, k0_r0_1_0] at hp2
  try simp only [k0_r0_4_40, k0_r0_4_41, k0_r0_1_0] at hp3
  try simp only [k0_r0_4_40, k0_r0_4_41, k0_r0_1_0] at hp4
  try simp only [k0_r0_4_40, k0_r0_4_41, k0_r0_1_0] at hp5
  refine k_aload_n C rfl rfl rfl ?_
  refine z_bipush C (z := 40) rfl rfl rfl (fun x1 ex1 => ?_)
  have q2 : x1.toNatClampNeg = 40 := nck (by omega)
  refine c_VI C (a_X12_strips hI H_r0 (by omega) (by omega) (fun a4 a5 h4 h5 => by cases (R_r0_4.symm.trans h4); cases (R_r0_5.symm.trans h5); simp only [q2, k0_r0_4_40, k0_r0_4_41, k0_r0_1_0]; exact hp2)) rfl rfl rfl rfl rfl ⟨_, rfl, rfl, T_r0, Nat.le_of_ble_eq_true rfl⟩ rfl rfl (Nat.le_of_ble_eq_true rfl) (Nat.le_of_ble_eq_true rfl) (Nat.le_of_ble_eq_true rfl) ?_
  rintro x3 I4 L5 ⟨p0x3, p1x3, p2x3, p3x3, p4x3, p5x3, hI4, S6⟩
  have p0x3 := p0x3 r0_4 R_r0_4
  have p1x3 := p1x3 r0_4 R_r0_4
  have p2x3 := p2x3 r0_5 R_r0_5
  have p3x3 := p3x3 r0_4 r0_5 R_r0_4 R_r0_5
  have p4x3 := p4x3 r0_4 R_r0_4
  have p5x3 := p5x3 r0_5 R_r0_5
  try simp only [q2] at p4x3
  try simp only [q2] at p5x3
  have e8 := (p4x3 41 (by first | decide | exact ncne (by omega) (by omega) (by omega) | exact nckn (by omega) (by omega) | exact (nckn (by omega) (by omega)).symm)).trans k0_r0_4_41
  have e9 := CM.j S6 R_r0_1 (by decide) k0_r0_1_0
  have gx3 := rg x3
  obtain ⟨x10, e11⟩ : ∃ x, I4 r0_4 40 = x := ⟨_, rfl⟩
  have gx10 := rg x10
  have ox10 := IM.dgR hI4 R_r0_4 e11
  try simp only [q2, k0_r0_4_40, k0_r0_4_41, k0_r0_1_0, e11] at p0x3
  try have q0x3 := congrArg Int32.toInt p0x3
  try simp only [q2, k0_r0_4_40, k0_r0_4_41, k0_r0_1_0, e11] at p1x3
  try have q1x3 := congrArg Int32.toInt p1x3
  try simp only [q2, k0_r0_4_40, k0_r0_4_41, k0_r0_1_0, e11] at p2x3
  try have q2x3 := congrArg Int32.toInt p2x3
  try simp only [q2, k0_r0_4_40, k0_r0_4_41, k0_r0_1_0, e11] at p3x3
  try have q3x3 := congrArg Int32.toInt p3x3
  have hA := QN.st hp4 p3x3 (by omega)
  have nA := STP.ne p3x3 p2x3 (by omega) (by omega)
  have hB := QN.sm hp5 (fun k hk => p5x3 _ (by omega)) (by omega)
  have zB := NZ.sm hp3 (fun k hk => p5x3 _ (by omega)) (by omega)
  refine z_bipush C (z := 99) rfl rfl rfl (fun x12 ex12 => ?_)
  have q13 : x12.toNatClampNeg = 99 := nck (by omega)
  refine c_SI C a_J9_min_7cf53_m rfl rfl rfl rfl rfl rfl rfl (Nat.le_of_ble_eq_true rfl) (Nat.le_of_ble_eq_true rfl) (Nat.le_of_ble_eq_true rfl) ?_
  rintro x14 _ _ ⟨p0x14, p1x14, p2x14, rfl, rfl⟩
  have gx14 := rg x14
  try simp only [q13, e8, e9, e11] at p0x14
  try have q0x14 := congrArg Int32.toInt p0x14
  try simp only [q13, e8, e9, e11] at p1x14
  try have q1x14 := congrArg Int32.toInt p1x14
  try simp only [q13, e8, e9, e11] at p2x14
  try have q2x14 := congrArg Int32.toInt p2x14
  refine k_istore_n C (lw := [(1, .int x14), (0, .ref r0)]) rfl rfl (Nat.le_of_ble_eq_true rfl) rfl ?_
  refine k_iload_n C rfl rfl rfl ?_
  refine k_aload_n C rfl rfl rfl ?_
  refine z_bipush C (z := 41) rfl rfl rfl (fun x15 ex15 => ?_)
  have q16 : x15.toNatClampNeg = 41 := nck (by omega)
  refine c_VI C (a_X12_strips hI4 H_r0 (by omega) (by omega) (fun a4 a5 h4 h5 => by cases (R_r0_4.symm.trans h4); cases (R_r0_5.symm.trans h5); simp only [q16, e8, e9, e11]; exact zB)) rfl rfl rfl rfl rfl ⟨_, rfl, rfl, T_r0, Nat.le_of_ble_eq_true rfl⟩ rfl rfl (Nat.le_of_ble_eq_true rfl) (Nat.le_of_ble_eq_true rfl) (Nat.le_of_ble_eq_true rfl) ?_
  rintro x17 I18 L19 ⟨p0x17, p1x17, p2x17, p3x17, p4x17, p5x17, hI18, S20⟩
  have p0x17 := p0x17 r0_4 R_r0_4
  have p1x17 := p1x17 r0_4 R_r0_4
  have p2x17 := p2x17 r0_5 R_r0_5
  have p3x17 := p3x17 r0_4 r0_5 R_r0_4 R_r0_5
  have p4x17 := p4x17 r0_4 R_r0_4
  have p5x17 := p5x17 r0_5 R_r0_5
  try simp only [q16] at p4x17
  try simp only [q16] at p5x17
  have e22 := CM.j S20 R_r0_1 (by decide) e9
  have e23 := (p4x17 40 (by first | decide | exact ncne (by omega) (by omega) (by omega) | exact nckn (by omega) (by omega) | exact (nckn (by omega) (by omega)).symm)).trans e11
  have gx17 := rg x17
  obtain ⟨x24, e25⟩ : ∃ x, I18 r0_4 41 = x := ⟨_, rfl⟩
  have gx24 := rg x24
  have ox24 := IM.dgR hI18 R_r0_4 e25
  try simp only [q16, e8, e9, e11, e25] at p0x17
  try have q0x17 := congrArg Int32.toInt p0x17
  try simp only [q16, e8, e9, e11, e25] at p1x17
  try have q1x17 := congrArg Int32.toInt p1x17
  try simp only [q16, e8, e9, e11, e25] at p2x17
  try have q2x17 := congrArg Int32.toInt p2x17
  try simp only [q16, e8, e9, e11, e25] at p3x17
  try have q3x17 := congrArg Int32.toInt p3x17
  have hB := QN.st hB p3x17 (by omega)
  have nB := STP.ne p3x17 p2x17 (by omega) (by omega)
  have hA := QN.sm hA (fun k hk => p5x17 _ (by omega)) (by omega)
  have nA := NE1.smr nA (fun k hk => p5x17 _ (by omega))
  refine c_SI C a_J9_min_7cf53_m rfl rfl rfl rfl rfl rfl rfl (Nat.le_of_ble_eq_true rfl) (Nat.le_of_ble_eq_true rfl) (Nat.le_of_ble_eq_true rfl) ?_
  rintro x26 _ _ ⟨p0x26, p1x26, p2x26, rfl, rfl⟩
  have gx26 := rg x26
  try simp only [e22, e23, e25] at p0x26
  try have q0x26 := congrArg Int32.toInt p0x26
  try simp only [e22, e23, e25] at p1x26
  try have q1x26 := congrArg Int32.toInt p1x26
  try simp only [e22, e23, e25] at p2x26
  try have q2x26 := congrArg Int32.toInt p2x26
  refine k_istore_n C (lw := [(1, .int x26), (0, .ref r0)]) rfl rfl (Nat.le_of_ble_eq_true rfl) rfl ?_
  refine z_iconst C (z := 1) rfl rfl rfl (fun x27 ex27 => ?_)
  have J28 : ∀ (nn29 : Nat) (I30 : IT) (L31 : LT) (x32 : Int32) (x37 : Int32) (x41 : Int32), (MN (2 * min x37.toInt x41.toInt + x32.toInt) nn29) → (IM R r0 I30) → (CM A R r0 [] [4, 5] I18 L19 I30 L31) → (0 ≤ x32.toInt) → (x32.toInt ≤ 1) → (I30 r0_4 40 = x37) → (0 ≤ x37.toInt) → (x37.toInt ≤ 8) → (I30 r0_4 41 = x41) → (0 ≤ x41.toInt) → (x41.toInt ≤ 8) → (QN I30 r0_5 40 (x37.toInt + 1) w_r0_1_0.toInt) → (QN I30 r0_5 41 (x41.toInt + 1) w_r0_1_0.toInt) → (GN I30 r0_5 (41 * 40) x32.toInt) → (GN I30 r0_5 (41 * 41) x32.toInt) → V 25 [(0, .ref r0), (1, .int x26), (2, .int x32)] [] (T, N, I30, L31, R) 0 0 := by
    intro nn29
    induction nn29 using Nat.strongRecOn with
    | _ nn29 ihJ28 =>
      intro I30 L31 x32 x37 x41 hmnn29 hI36 S35 b33 b34 e38 b39 b40 e42 b43 b44 ff25_0 ff25_1 ff25_2 ff25_3
      have gx32 := rg x32
      have gx37 := rg x37
      have gx41 := rg x41
      have e45 := CM.j S35 R_r0_1 (by decide) e22
      refine k_iload_n C rfl rfl rfl ?_
      refine b_if_eq C (t := 128) rfl rfl rfl (fun c46 => ?_) (fun c46 => ?_)
      · skip
        refine k_aload_n C rfl rfl rfl ?_
        refine k_aload_n C rfl rfl rfl ?_
        refine z_bipush C (z := 41) rfl rfl rfl (fun x47 ex47 => ?_)
        refine z_iconst C (z := 0) rfl rfl rfl (fun x48 ex48 => ?_)
        have q49 : x47.toNatClampNeg = 41 := nck (by omega)
        have q50 : x48.toNatClampNeg = 0 := nck (by omega)
        refine c_VI C (a_X12_of hI36 H_r0 (by omega) (by omega) (by omega) (by omega)) rfl rfl rfl rfl rfl ⟨_, rfl, rfl, T_r0, Nat.le_of_ble_eq_true rfl⟩ rfl rfl (Nat.le_of_ble_eq_true rfl) (Nat.le_of_ble_eq_true rfl) (Nat.le_of_ble_eq_true rfl) ?_
        rintro x51 _ _ ⟨o0x51, o1x51, p0x51, rfl, rfl⟩
        have p0x51 := p0x51 r0_5 R_r0_5
        have gx51 := rg x51
        try simp only [q49, q50, e45, e38, e42] at p0x51
        try have q0x51 := congrArg Int32.toInt p0x51
        refine c_VI C (a_X12_inverse hI36 H_r0 (by omega) (by omega)) rfl rfl rfl rfl rfl ⟨_, rfl, rfl, T_r0, Nat.le_of_ble_eq_true rfl⟩ rfl rfl (Nat.le_of_ble_eq_true rfl) (Nat.le_of_ble_eq_true rfl) (Nat.le_of_ble_eq_true rfl) ?_
        rintro x52 _ _ ⟨o0x52, o1x52, p0x52, rfl, rfl⟩
        have p0x52 := p0x52 r0_1 R_r0_1
        have gx52 := rg x52
        try simp only [e45, e38, e42] at p0x52
        try have q0x52 := congrArg Int32.toInt p0x52
        refine k_istore_n C (lw := [(3, .int x52), (0, .ref r0), (1, .int x26), (2, .int x32)]) rfl rfl (Nat.le_of_ble_eq_true rfl) rfl ?_
        refine k_aload_n C rfl rfl rfl ?_
        refine z_bipush C (z := 40) rfl rfl rfl (fun x53 ex53 => ?_)
        refine k_aload_n C rfl rfl rfl ?_
        refine g_R C rfl rfl rfl T_r0 rfl R_r0_4 ?_
        refine z_bipush C (z := 41) rfl rfl rfl (fun x54 ex54 => ?_)
        obtain ⟨T_r0_4, N_r0_4, A_r0_4⟩ := id H_r0_4
        refine a_I C rfl rfl T_r0_4 (by rw [N_r0_4]; exact vpi (by omega) (by omega)) ((congrArg (I30 r0_4) (nck (n := 41) (by omega))).trans e42) ?_
        refine k_iload_n C rfl rfl rfl ?_
        refine z_iadd C rfl rfl ⟨by omega, by omega⟩ (fun x55 ex55 => ?_)
        have q56 : x53.toNatClampNeg = 40 := nck (by omega)
        refine c_VV C (a_X12_clears hI36 H_r0 (by omega) (by omega) (by omega) (by omega)) rfl rfl rfl rfl rfl ⟨_, rfl, rfl, T_r0, Nat.le_of_ble_eq_true rfl⟩ rfl rfl (Nat.le_of_ble_eq_true rfl) (Nat.le_of_ble_eq_true rfl) (Nat.le_of_ble_eq_true rfl) ?_
        rintro I58 L59 ⟨p0v57, p1v57, p2v57, p3v57, hI58, S60⟩
        have p0v57 := p0v57 r0_4 R_r0_4
        have p1v57 := p1v57 r0_5 R_r0_5
        have p2v57 := p2v57 r0_4 R_r0_4
        have p3v57 := p3v57 r0_5 R_r0_5
        try simp only [q56] at p2v57
        try simp only [q56] at p3v57
        have e61 := CM.j S60 R_r0_1 (by decide) e45
        have e63 := (p2v57 41 (by first | decide | exact ncne (by omega) (by omega) (by omega) | exact nckn (by omega) (by omega) | exact (nckn (by omega) (by omega)).symm)).trans e42
        obtain ⟨x64, e65⟩ : ∃ x, I58 r0_4 40 = x := ⟨_, rfl⟩
        have gx64 := rg x64
        have ox64 := IM.dgR hI58 R_r0_4 e65
        try simp only [q56, e45, e38, e42, e65] at p0v57
        try have q0v57 := congrArg Int32.toInt p0v57
        try simp only [q56, e45, e38, e42, e65] at p1v57
        try have q1v57 := congrArg Int32.toInt p1v57
        refine z_iconst C (z := 0) rfl rfl rfl (fun x66 ex66 => ?_)
        have J67 : ∀ (nn68 : Nat) (I69 : IT) (L70 : LT) (x71 : Int32), (MN (41 - x71.toInt) nn68) → (IM R r0 I69) → (CM A R r0 [] [5] I58 L59 I69 L70) → (0 ≤ x71.toInt) → (x71.toInt ≤ 41) → V 158 [(0, .ref r0), (1, .int x26), (3, .int x52), (4, .int x71)] [] (T, N, I69, L70, R) 0 0 := by
          intro nn68
          induction nn68 using Nat.strongRecOn with
          | _ nn68 ihJ67 =>
            intro I69 L70 x71 hmnn68 hI75 S74 b72 b73
            have gx71 := rg x71
            have e76 := CM.j S74 R_r0_1 (by decide) e61
            have e77 := CM.j S74 R_r0_4 (by decide) e63
            have e78 := CM.j S74 R_r0_4 (by decide) e65
            refine k_iload C rfl rfl rfl ?_
            refine k_aload_n C rfl rfl rfl ?_
            refine g_R C rfl rfl rfl T_r0 rfl R_r0_4 ?_
            refine z_bipush C (z := 41) rfl rfl rfl (fun x79 ex79 => ?_)
            refine a_I C rfl rfl T_r0_4 (by rw [N_r0_4]; exact vpi (by omega) (by omega)) ((congrArg (I69 r0_4) (nck (n := 41) (by omega))).trans e77) ?_
            refine b_icmp_gt C (t := 199) rfl rfl rfl (fun c80 => ?_) (fun c80 => ?_)
            · skip
              exact k_vret C rfl rfl (Nat.le_of_ble_eq_true rfl) (Nat.le_of_ble_eq_true rfl) ⟨_, _, rfl, rfl, hI75, (CM.cons S6 (CM.cons S20 (CM.cons S35 (CM.cons S60 (CM.mono S74 (by decide) (by decide)) (by decide) (by decide)) (by decide) (by decide)) (by decide) (by decide)) (by decide) (by decide))⟩
            refine k_aload_n C rfl rfl rfl ?_
            refine z_bipush C (z := 40) rfl rfl rfl (fun x81 ex81 => ?_)
            refine k_iload C rfl rfl rfl ?_
            refine k_iload_n C rfl rfl rfl ?_
            refine z_iadd C rfl rfl ⟨by omega, by omega⟩ (fun x82 ex82 => ?_)
            refine k_aload_n C rfl rfl rfl ?_
            refine k_iload_n C rfl rfl rfl ?_
            refine k_aload_n C rfl rfl rfl ?_
            refine z_bipush C (z := 41) rfl rfl rfl (fun x83 ex83 => ?_)
            refine k_iload C rfl rfl rfl ?_
            have q84 : x83.toNatClampNeg = 41 := nck (by omega)
            refine c_VI C (a_X12_of hI75 H_r0 (by omega) (by omega) (by omega) (by omega)) rfl rfl rfl rfl rfl ⟨_, rfl, rfl, T_r0, Nat.le_of_ble_eq_true rfl⟩ rfl rfl (Nat.le_of_ble_eq_true rfl) (Nat.le_of_ble_eq_true rfl) (Nat.le_of_ble_eq_true rfl) ?_
            rintro x85 _ _ ⟨o0x85, o1x85, p0x85, rfl, rfl⟩
            have p0x85 := p0x85 r0_5 R_r0_5
            have gx85 := rg x85
            try simp only [q84, e76, e77, e78] at p0x85
            try have q0x85 := congrArg Int32.toInt p0x85
            refine c_VI C (a_X12_times hI75 H_r0 (by omega) (by omega) (by omega) (by omega)) rfl rfl rfl rfl rfl ⟨_, rfl, rfl, T_r0, Nat.le_of_ble_eq_true rfl⟩ rfl rfl (Nat.le_of_ble_eq_true rfl) (Nat.le_of_ble_eq_true rfl) (Nat.le_of_ble_eq_true rfl) ?_
            rintro x86 _ _ ⟨o0x86, o1x86, p0x86, p1x86, p2x86, p3x86, rfl, rfl⟩
            have p0x86 := p0x86 r0_1 R_r0_1
            have p2x86 := p2x86 r0_1 R_r0_1
            have p3x86 := p3x86 r0_1 R_r0_1
            have gx86 := rg x86
            try simp only [e76, e77, e78] at p0x86
            try have q0x86 := congrArg Int32.toInt p0x86
            try simp only [e76, e77, e78] at p1x86
            try have q1x86 := congrArg Int32.toInt p1x86
            try simp only [e76, e77, e78] at p2x86
            try have q2x86 := congrArg Int32.toInt p2x86
            try simp only [e76, e77, e78] at p3x86
            try have q3x86 := congrArg Int32.toInt p3x86
            have q87 : x81.toNatClampNeg = 40 := nck (by omega)
            refine c_VV C (a_X12_put hI75 H_r0 (by omega) (by omega) (by omega) (by omega) (by omega) (by omega)) rfl rfl rfl rfl rfl ⟨_, rfl, rfl, T_r0, Nat.le_of_ble_eq_true rfl⟩ rfl rfl (Nat.le_of_ble_eq_true rfl) (Nat.le_of_ble_eq_true rfl) (Nat.le_of_ble_eq_true rfl) ?_
            rintro I89 L90 ⟨p0v88, p1v88, hI89, S91⟩
            have p0v88 := p0v88 r0_5 R_r0_5
            have p1v88 := p1v88 r0_5 R_r0_5
            try simp only [q87] at p1v88
            have e92 := CM.j S91 R_r0_1 (by decide) e76
            have e93 := CM.j S91 R_r0_4 (by decide) e77
            have e94 := CM.j S91 R_r0_4 (by decide) e78
            try simp only [q87, e76, e77, e78] at p0v88
            try have q0v88 := congrArg Int32.toInt p0v88
            refine z_iinc C (z := 1) (lw := fun x95 => [(4, .int x95), (0, .ref r0), (1, .int x26), (3, .int x52)]) rfl rfl rfl (Nat.le_of_ble_eq_true rfl) rfl ⟨by omega, by omega⟩ (fun _ => rfl) (fun x95 ex95 => ?_)
            show V 196 [(4, .int x95), (0, .ref r0), (1, .int x26), (3, .int x52)] _ _ _ _
            refine k_goto C (pc2 := 158) rfl rfl ?_
            refine k_sub S [(0, .ref r0), (1, .int x26), (3, .int x52), (4, .int x95)] (List.forall_mem_cons.mpr ⟨List.mem_of_getElem? (i := 1) rfl, List.forall_mem_cons.mpr ⟨List.mem_of_getElem? (i := 2) rfl, List.forall_mem_cons.mpr ⟨List.mem_of_getElem? (i := 3) rfl, List.forall_mem_cons.mpr ⟨List.mem_of_getElem? (i := 0) rfl, fun _ h => nomatch h⟩⟩⟩⟩) ?_
            exact ihJ67 _ (MN.lt hmnn68 (by omega) (by omega)) I89 L90 x95 rfl hI89 (CM.cons S74 (CM.mono S91 (by decide) (by decide)) (by decide) (by decide)) (by omega) (by omega)
        refine k_istore C (lw := [(4, .int x66), (3, .int x52), (0, .ref r0), (1, .int x26), (2, .int x32)]) rfl rfl (Nat.le_of_ble_eq_true rfl) rfl ?_
        refine k_sub S [(0, .ref r0), (1, .int x26), (3, .int x52), (4, .int x66)] (List.forall_mem_cons.mpr ⟨List.mem_of_getElem? (i := 2) rfl, List.forall_mem_cons.mpr ⟨List.mem_of_getElem? (i := 3) rfl, List.forall_mem_cons.mpr ⟨List.mem_of_getElem? (i := 1) rfl, List.forall_mem_cons.mpr ⟨List.mem_of_getElem? (i := 0) rfl, fun _ h => nomatch h⟩⟩⟩⟩) ?_
        exact J67 _ I58 L59 x66 rfl hI58 CM.rf (by omega) (by omega)
      have nA := ff25_2 (by omega)
      have nB := ff25_3 (by omega)
      have hA := ff25_0
      have hB := ff25_1
      refine k_aload_n C rfl rfl rfl ?_
      refine g_R C rfl rfl rfl T_r0 rfl R_r0_4 ?_
      refine z_bipush C (z := 40) rfl rfl rfl (fun x96 ex96 => ?_)
      obtain ⟨T_r0_4, N_r0_4, A_r0_4⟩ := id H_r0_4
      refine a_I C rfl rfl T_r0_4 (by rw [N_r0_4]; exact vpi (by omega) (by omega)) ((congrArg (I30 r0_4) (nck (n := 40) (by omega))).trans e38) ?_
      refine k_aload_n C rfl rfl rfl ?_
      refine g_R C rfl rfl rfl T_r0 rfl R_r0_4 ?_
      refine z_bipush C (z := 41) rfl rfl rfl (fun x97 ex97 => ?_)
      refine a_I C rfl rfl T_r0_4 (by rw [N_r0_4]; exact vpi (by omega) (by omega)) ((congrArg (I30 r0_4) (nck (n := 41) (by omega))).trans e42) ?_
      refine b_icmp_ge C (t := 70) rfl rfl rfl (fun c98 => ?_) (fun c98 => ?_)
      · skip
        refine k_aload_n C rfl rfl rfl ?_
        refine z_bipush C (z := 40) rfl rfl rfl (fun x99 ex99 => ?_)
        refine z_bipush C (z := 41) rfl rfl rfl (fun x100 ex100 => ?_)
        refine z_bipush C (z := 43) rfl rfl rfl (fun x101 ex101 => ?_)
        have q102 : x99.toNatClampNeg = 40 := nck (by omega)
        have q103 : x100.toNatClampNeg = 41 := nck (by omega)
        have q104 : x101.toNatClampNeg = 43 := nck (by omega)
        refine c_VV C (a_X12_divides hI36 H_r0 (by omega) (by omega) (by omega) (by omega) (by omega) (by omega) (fun a4 h4 => by cases (R_r0_4.symm.trans h4); first | omega | (simp only [q102, q103, q104, e45, e38, e42] <;> omega)) (fun a5 h5 => by cases (R_r0_5.symm.trans h5); exact nB) (fun a1 a5 h1 h5 => by cases (R_r0_1.symm.trans h1); cases (R_r0_5.symm.trans h5); simp only [q102, q103, q104, e45, e38, e42]; exact QN.le hB (by omega)) (fun a1 a4 a5 h1 h4 h5 => by cases (R_r0_1.symm.trans h1); cases (R_r0_4.symm.trans h4); cases (R_r0_5.symm.trans h5); simp only [q102, q103, q104, e45, e38, e42]; exact QN.le hA (by omega))) rfl rfl rfl rfl rfl ⟨_, rfl, rfl, T_r0, Nat.le_of_ble_eq_true rfl⟩ rfl rfl (Nat.le_of_ble_eq_true rfl) (Nat.le_of_ble_eq_true rfl) (Nat.le_of_ble_eq_true rfl) ?_
        rintro I106 L107 ⟨p0v105, p1v105, p2v105, p3v105, p4v105, hI106, S108⟩
        have p0v105 := p0v105 r0_4 r0_5 R_r0_4 R_r0_5
        have p1v105 := p1v105 r0_1 r0_4 r0_5 R_r0_1 R_r0_4 R_r0_5
        have p2v105 := p2v105 r0_4 R_r0_4
        have p3v105 := p3v105 r0_4 R_r0_4
        have p4v105 := p4v105 r0_5 R_r0_5
        try simp only [q102, q103, q104] at p3v105
        try simp only [q102, q103, q104] at p4v105
        have e109 := CM.j S108 R_r0_1 (by decide) e45
        have e110 := (p3v105 40 (by first | decide | exact ncne (by omega) (by omega) (by omega) | exact nckn (by omega) (by omega) | exact (nckn (by omega) (by omega)).symm)).trans e38
        have e111 := (p3v105 41 (by first | decide | exact ncne (by omega) (by omega) (by omega) | exact nckn (by omega) (by omega) | exact (nckn (by omega) (by omega)).symm)).trans e42
        obtain ⟨x112, e113⟩ : ∃ x, I106 r0_4 43 = x := ⟨_, rfl⟩
        have gx112 := rg x112
        have ox112 := IM.dgR hI106 R_r0_4 e113
        try simp only [q102, q103, q104, e45, e38, e42, e113] at p0v105
        try have q0v105 := congrArg Int32.toInt p0v105
        try simp only [q102, q103, q104, e45, e38, e42, e113] at p1v105
        try have q1v105 := congrArg Int32.toInt p1v105
        try simp only [q102, q103, q104, e45, e38, e42, e113] at p2v105
        try have q2v105 := congrArg Int32.toInt p2v105
        have hZ := p0v105
        have hA := p1v105
        have hB := QN.sm hB (fun k hk => p4v105 _ (by omega) (by omega)) (by omega)
        have nB := NE1.smr nB (fun k hk => p4v105 _ (by omega) (by omega))
        refine k_aload_n C rfl rfl rfl ?_
        refine z_bipush C (z := 40) rfl rfl rfl (fun x114 ex114 => ?_)
        have q115 : x114.toNatClampNeg = 40 := nck (by omega)
        refine c_VI C (a_X12_isNought hI106 H_r0 (by omega) (by omega)) rfl rfl rfl rfl rfl ⟨_, rfl, rfl, T_r0, Nat.le_of_ble_eq_true rfl⟩ rfl rfl (Nat.le_of_ble_eq_true rfl) (Nat.le_of_ble_eq_true rfl) (Nat.le_of_ble_eq_true rfl) ?_
        rintro x116 _ _ ⟨o0x116, o1x116, p0x116, rfl, rfl⟩
        have p0x116 := p0x116 r0_4 r0_5 R_r0_4 R_r0_5
        have gx116 := rg x116
        try simp only [q115, e109, e110, e111, e113] at p0x116
        try have q0x116 := congrArg Int32.toInt p0x116
        have hNZ := p0x116
        refine b_if_eq C (t := 94) rfl rfl rfl (fun c117 => ?_) (fun c117 => ?_)
        · skip
          refine k_aload_n C rfl rfl rfl ?_
          refine z_bipush C (z := 40) rfl rfl rfl (fun x118 ex118 => ?_)
          have q119 : x118.toNatClampNeg = 40 := nck (by omega)
          refine c_VI C (a_X12_strips hI106 H_r0 (by omega) (by omega) (fun a4 a5 h4 h5 => by cases (R_r0_4.symm.trans h4); cases (R_r0_5.symm.trans h5); simp only [q119, e109, e110, e111, e113]; exact hNZ (by omega))) rfl rfl rfl rfl rfl ⟨_, rfl, rfl, T_r0, Nat.le_of_ble_eq_true rfl⟩ rfl rfl (Nat.le_of_ble_eq_true rfl) (Nat.le_of_ble_eq_true rfl) (Nat.le_of_ble_eq_true rfl) ?_
          rintro x120 I121 L122 ⟨p0x120, p1x120, p2x120, p3x120, p4x120, p5x120, hI121, S123⟩
          have p0x120 := p0x120 r0_4 R_r0_4
          have p1x120 := p1x120 r0_4 R_r0_4
          have p2x120 := p2x120 r0_5 R_r0_5
          have p3x120 := p3x120 r0_4 r0_5 R_r0_4 R_r0_5
          have p4x120 := p4x120 r0_4 R_r0_4
          have p5x120 := p5x120 r0_5 R_r0_5
          try simp only [q119] at p4x120
          try simp only [q119] at p5x120
          have e124 := CM.j S123 R_r0_1 (by decide) e109
          have e126 := (p4x120 41 (by first | decide | exact ncne (by omega) (by omega) (by omega) | exact nckn (by omega) (by omega) | exact (nckn (by omega) (by omega)).symm)).trans e111
          have e127 := (p4x120 43 (by first | decide | exact ncne (by omega) (by omega) (by omega) | exact nckn (by omega) (by omega) | exact (nckn (by omega) (by omega)).symm)).trans e113
          have gx120 := rg x120
          obtain ⟨x128, e129⟩ : ∃ x, I121 r0_4 40 = x := ⟨_, rfl⟩
          have gx128 := rg x128
          have ox128 := IM.dgR hI121 R_r0_4 e129
          try simp only [q119, e109, e110, e111, e113, e129] at p0x120
          try have q0x120 := congrArg Int32.toInt p0x120
          try simp only [q119, e109, e110, e111, e113, e129] at p1x120
          try have q1x120 := congrArg Int32.toInt p1x120
          try simp only [q119, e109, e110, e111, e113, e129] at p2x120
          try have q2x120 := congrArg Int32.toInt p2x120
          try simp only [q119, e109, e110, e111, e113, e129] at p3x120
          try have q3x120 := congrArg Int32.toInt p3x120
          have hge := AZ.ge hZ p2x120 (by omega)
          have hA := QN.st hA p3x120 (by omega)
          have nA := STP.ne p3x120 p2x120 (by omega) (by omega)
          have hB := QN.sm hB (fun k hk => p5x120 _ (by omega)) (by omega)
          have nB := NE1.smr nB (fun k hk => p5x120 _ (by omega))
          refine k_pop C rfl rfl rfl ?_
          refine k_aload_n C rfl rfl rfl ?_
          refine z_bipush C (z := 40) rfl rfl rfl (fun x130 ex130 => ?_)
          refine z_bipush C (z := 42) rfl rfl rfl (fun x131 ex131 => ?_)
          have q132 : x130.toNatClampNeg = 40 := nck (by omega)
          have q133 : x131.toNatClampNeg = 42 := nck (by omega)
          refine c_VV C (a_X12_copies hI121 H_r0 (by omega) (by omega) (by omega) (by omega) (by first | omega | (simp only [q132, q133, e124, e126, e127, e129] <;> omega))) rfl rfl rfl rfl rfl ⟨_, rfl, rfl, T_r0, Nat.le_of_ble_eq_true rfl⟩ rfl rfl (Nat.le_of_ble_eq_true rfl) (Nat.le_of_ble_eq_true rfl) (Nat.le_of_ble_eq_true rfl) ?_
          rintro I135 L136 ⟨p0v134, p1v134, p2v134, p3v134, hI135, S137⟩
          have p0v134 := p0v134 r0_4 R_r0_4
          have p1v134 := p1v134 r0_4 r0_5 R_r0_4 R_r0_5
          have p2v134 := p2v134 r0_4 R_r0_4
          have p3v134 := p3v134 r0_5 R_r0_5
          try simp only [q132, q133] at p2v134
          try simp only [q132, q133] at p3v134
          have e138 := CM.j S137 R_r0_1 (by decide) e124
          have e139 := (p2v134 41 (by first | decide | exact ncne (by omega) (by omega) (by omega) | exact nckn (by omega) (by omega) | exact (nckn (by omega) (by omega)).symm)).trans e126
          have e140 := (p2v134 43 (by first | decide | exact ncne (by omega) (by omega) (by omega) | exact nckn (by omega) (by omega) | exact (nckn (by omega) (by omega)).symm)).trans e127
          have e141 := (p2v134 40 (by first | decide | exact ncne (by omega) (by omega) (by omega) | exact nckn (by omega) (by omega) | exact (nckn (by omega) (by omega)).symm)).trans e129
          obtain ⟨x142, e143⟩ : ∃ x, I135 r0_4 42 = x := ⟨_, rfl⟩
          have gx142 := rg x142
          have ox142 := IM.dgR hI135 R_r0_4 e143
          try simp only [q132, q133, e124, e126, e127, e129, e143] at p0v134
          try have q0v134 := congrArg Int32.toInt p0v134
          try simp only [q132, q133, e124, e126, e127, e129, e143] at p1v134
          try have q1v134 := congrArg Int32.toInt p1v134
          have hC := QN.cp hA (CPN.le p1v134 (by omega))
          have nC := NE1.cp nA p1v134 (by omega)
          have hB := QN.sm hB (fun k hk => p3v134 _ (by omega)) (by omega)
          have nB := NE1.smr nB (fun k hk => p3v134 _ (by omega))
          refine k_aload_n C rfl rfl rfl ?_
          refine z_bipush C (z := 41) rfl rfl rfl (fun x144 ex144 => ?_)
          refine z_bipush C (z := 40) rfl rfl rfl (fun x145 ex145 => ?_)
          have q146 : x144.toNatClampNeg = 41 := nck (by omega)
          have q147 : x145.toNatClampNeg = 40 := nck (by omega)
          refine c_VV C (a_X12_copies hI135 H_r0 (by omega) (by omega) (by omega) (by omega) (by first | omega | (simp only [q146, q147, e138, e139, e140, e141, e143] <;> omega))) rfl rfl rfl rfl rfl ⟨_, rfl, rfl, T_r0, Nat.le_of_ble_eq_true rfl⟩ rfl rfl (Nat.le_of_ble_eq_true rfl) (Nat.le_of_ble_eq_true rfl) (Nat.le_of_ble_eq_true rfl) ?_
          rintro I149 L150 ⟨p0v148, p1v148, p2v148, p3v148, hI149, S151⟩
          have p0v148 := p0v148 r0_4 R_r0_4
          have p1v148 := p1v148 r0_4 r0_5 R_r0_4 R_r0_5
          have p2v148 := p2v148 r0_4 R_r0_4
          have p3v148 := p3v148 r0_5 R_r0_5
          try simp only [q146, q147] at p2v148
          try simp only [q146, q147] at p3v148
          have e152 := CM.j S151 R_r0_1 (by decide) e138
          have e153 := (p2v148 41 (by first | decide | exact ncne (by omega) (by omega) (by omega) | exact nckn (by omega) (by omega) | exact (nckn (by omega) (by omega)).symm)).trans e139
          have e154 := (p2v148 43 (by first | decide | exact ncne (by omega) (by omega) (by omega) | exact nckn (by omega) (by omega) | exact (nckn (by omega) (by omega)).symm)).trans e140
          have e156 := (p2v148 42 (by first | decide | exact ncne (by omega) (by omega) (by omega) | exact nckn (by omega) (by omega) | exact (nckn (by omega) (by omega)).symm)).trans e143
          obtain ⟨x157, e158⟩ : ∃ x, I149 r0_4 40 = x := ⟨_, rfl⟩
          have gx157 := rg x157
          have ox157 := IM.dgR hI149 R_r0_4 e158
          try simp only [q146, q147, e138, e139, e140, e141, e143, e158] at p0v148
          try have q0v148 := congrArg Int32.toInt p0v148
          try simp only [q146, q147, e138, e139, e140, e141, e143, e158] at p1v148
          try have q1v148 := congrArg Int32.toInt p1v148
          have hA := QN.cp hB (CPN.le p1v148 (by omega))
          have nA := NE1.cp nB p1v148 (by omega)
          have hC := QN.sm hC (fun k hk => p3v148 _ (by omega)) (by omega)
          have nC := NE1.smr nC (fun k hk => p3v148 _ (by omega))
          have hB := QN.sm hB (fun k hk => p3v148 _ (by omega)) (by omega)
          have nB := NE1.smr nB (fun k hk => p3v148 _ (by omega))
          refine k_aload_n C rfl rfl rfl ?_
          refine z_bipush C (z := 42) rfl rfl rfl (fun x159 ex159 => ?_)
          refine z_bipush C (z := 41) rfl rfl rfl (fun x160 ex160 => ?_)
          have q161 : x159.toNatClampNeg = 42 := nck (by omega)
          have q162 : x160.toNatClampNeg = 41 := nck (by omega)
          refine c_VV C (a_X12_copies hI149 H_r0 (by omega) (by omega) (by omega) (by omega) (by first | omega | (simp only [q161, q162, e152, e153, e154, e156, e158] <;> omega))) rfl rfl rfl rfl rfl ⟨_, rfl, rfl, T_r0, Nat.le_of_ble_eq_true rfl⟩ rfl rfl (Nat.le_of_ble_eq_true rfl) (Nat.le_of_ble_eq_true rfl) (Nat.le_of_ble_eq_true rfl) ?_
          rintro I164 L165 ⟨p0v163, p1v163, p2v163, p3v163, hI164, S166⟩
          have p0v163 := p0v163 r0_4 R_r0_4
          have p1v163 := p1v163 r0_4 r0_5 R_r0_4 R_r0_5
          have p2v163 := p2v163 r0_4 R_r0_4
          have p3v163 := p3v163 r0_5 R_r0_5
          try simp only [q161, q162] at p2v163
          try simp only [q161, q162] at p3v163
          have e167 := CM.j S166 R_r0_1 (by decide) e152
          have e169 := (p2v163 43 (by first | decide | exact ncne (by omega) (by omega) (by omega) | exact nckn (by omega) (by omega) | exact (nckn (by omega) (by omega)).symm)).trans e154
          have e170 := (p2v163 42 (by first | decide | exact ncne (by omega) (by omega) (by omega) | exact nckn (by omega) (by omega) | exact (nckn (by omega) (by omega)).symm)).trans e156
          have e171 := (p2v163 40 (by first | decide | exact ncne (by omega) (by omega) (by omega) | exact nckn (by omega) (by omega) | exact (nckn (by omega) (by omega)).symm)).trans e158
          obtain ⟨x172, e173⟩ : ∃ x, I164 r0_4 41 = x := ⟨_, rfl⟩
          have gx172 := rg x172
          have ox172 := IM.dgR hI164 R_r0_4 e173
          try simp only [q161, q162, e152, e153, e154, e156, e158, e173] at p0v163
          try have q0v163 := congrArg Int32.toInt p0v163
          try simp only [q161, q162, e152, e153, e154, e156, e158, e173] at p1v163
          try have q1v163 := congrArg Int32.toInt p1v163
          have hB := QN.cp hC (CPN.le p1v163 (by omega))
          have nB := NE1.cp nC p1v163 (by omega)
          have hA := QN.sm hA (fun k hk => p3v163 _ (by omega)) (by omega)
          have nA := NE1.smr nA (fun k hk => p3v163 _ (by omega))
          refine k_goto C (pc2 := 25) rfl rfl ?_
          refine k_sub S [(0, .ref r0), (1, .int x26), (2, .int x32)] (List.forall_mem_cons.mpr ⟨List.mem_of_getElem? (i := 0) rfl, List.forall_mem_cons.mpr ⟨List.mem_of_getElem? (i := 1) rfl, List.forall_mem_cons.mpr ⟨List.mem_of_getElem? (i := 2) rfl, fun _ h => nomatch h⟩⟩⟩) ?_
          exact ihJ28 _ (MN.lt hmnn29 (by omega) (by omega)) I164 L165 x32 x157 x172 rfl hI164 (CM.cons S35 (CM.cons S108 (CM.cons S123 (CM.cons S137 (CM.cons S151 (CM.mono S166 (by decide) (by decide)) (by decide) (by decide)) (by decide) (by decide)) (by decide) (by decide)) (by decide) (by decide)) (by decide) (by decide)) (by omega) (by omega) e171 (by omega) (by omega) e173 (by omega) (by omega) (by exact QN.le hA (by omega)) (by exact QN.le hB (by omega)) (by first | exact fun h => absurd (by omega) h | exact fun _ => nA) (by first | exact fun h => absurd (by omega) h | exact fun _ => nB)
        refine z_iconst C (z := 0) rfl rfl rfl (fun x174 ex174 => ?_)
        refine k_istore_n C (lw := [(2, .int x174), (0, .ref r0), (1, .int x26)]) rfl rfl (Nat.le_of_ble_eq_true rfl) rfl ?_
        refine k_goto C (pc2 := 25) rfl rfl ?_
        refine k_sub S [(0, .ref r0), (1, .int x26), (2, .int x174)] (List.forall_mem_cons.mpr ⟨List.mem_of_getElem? (i := 1) rfl, List.forall_mem_cons.mpr ⟨List.mem_of_getElem? (i := 2) rfl, List.forall_mem_cons.mpr ⟨List.mem_of_getElem? (i := 0) rfl, fun _ h => nomatch h⟩⟩⟩) ?_
        exact ihJ28 _ (MN.lt hmnn29 (by omega) (by omega)) I106 L107 x174 x37 x41 rfl hI106 (CM.cons S35 (CM.mono S108 (by decide) (by decide)) (by decide) (by decide)) (by omega) (by omega) e110 (by omega) (by omega) e111 (by omega) (by omega) (by exact QN.le hA (by omega)) (by exact QN.le hB (by omega)) (by first | exact fun h => absurd (by omega) h | exact fun _ => nA) (by first | exact fun h => absurd (by omega) h | exact fun _ => nB)
      refine k_aload_n C rfl rfl rfl ?_
      refine z_bipush C (z := 40) rfl rfl rfl (fun x175 ex175 => ?_)
      refine z_bipush C (z := 42) rfl rfl rfl (fun x176 ex176 => ?_)
      have q177 : x175.toNatClampNeg = 40 := nck (by omega)
      have q178 : x176.toNatClampNeg = 42 := nck (by omega)
      refine c_VV C (a_X12_copies hI36 H_r0 (by omega) (by omega) (by omega) (by omega) (by first | omega | (simp only [q177, q178, e45, e38, e42] <;> omega))) rfl rfl rfl rfl rfl ⟨_, rfl, rfl, T_r0, Nat.le_of_ble_eq_true rfl⟩ rfl rfl (Nat.le_of_ble_eq_true rfl) (Nat.le_of_ble_eq_true rfl) (Nat.le_of_ble_eq_true rfl) ?_
      rintro I180 L181 ⟨p0v179, p1v179, p2v179, p3v179, hI180, S182⟩
      have p0v179 := p0v179 r0_4 R_r0_4
      have p1v179 := p1v179 r0_4 r0_5 R_r0_4 R_r0_5
      have p2v179 := p2v179 r0_4 R_r0_4
      have p3v179 := p3v179 r0_5 R_r0_5
      try simp only [q177, q178] at p2v179
      try simp only [q177, q178] at p3v179
      have e183 := CM.j S182 R_r0_1 (by decide) e45
      have e184 := (p2v179 40 (by first | decide | exact ncne (by omega) (by omega) (by omega) | exact nckn (by omega) (by omega) | exact (nckn (by omega) (by omega)).symm)).trans e38
      have e185 := (p2v179 41 (by first | decide | exact ncne (by omega) (by omega) (by omega) | exact nckn (by omega) (by omega) | exact (nckn (by omega) (by omega)).symm)).trans e42
      obtain ⟨x186, e187⟩ : ∃ x, I180 r0_4 42 = x := ⟨_, rfl⟩
      have gx186 := rg x186
      have ox186 := IM.dgR hI180 R_r0_4 e187
      try simp only [q177, q178, e45, e38, e42, e187] at p0v179
      try have q0v179 := congrArg Int32.toInt p0v179
      try simp only [q177, q178, e45, e38, e42, e187] at p1v179
      try have q1v179 := congrArg Int32.toInt p1v179
      have hC := QN.cp hA (CPN.le p1v179 (by omega))
      have nC := NE1.cp nA p1v179 (by omega)
      have hB := QN.sm hB (fun k hk => p3v179 _ (by omega)) (by omega)
      have nB := NE1.smr nB (fun k hk => p3v179 _ (by omega))
      refine k_aload_n C rfl rfl rfl ?_
      refine z_bipush C (z := 41) rfl rfl rfl (fun x188 ex188 => ?_)
      refine z_bipush C (z := 40) rfl rfl rfl (fun x189 ex189 => ?_)
      have q190 : x188.toNatClampNeg = 41 := nck (by omega)
      have q191 : x189.toNatClampNeg = 40 := nck (by omega)
      refine c_VV C (a_X12_copies hI180 H_r0 (by omega) (by omega) (by omega) (by omega) (by first | omega | (simp only [q190, q191, e183, e184, e185, e187] <;> omega))) rfl rfl rfl rfl rfl ⟨_, rfl, rfl, T_r0, Nat.le_of_ble_eq_true rfl⟩ rfl rfl (Nat.le_of_ble_eq_true rfl) (Nat.le_of_ble_eq_true rfl) (Nat.le_of_ble_eq_true rfl) ?_
      rintro I193 L194 ⟨p0v192, p1v192, p2v192, p3v192, hI193, S195⟩
      have p0v192 := p0v192 r0_4 R_r0_4
      have p1v192 := p1v192 r0_4 r0_5 R_r0_4 R_r0_5
      have p2v192 := p2v192 r0_4 R_r0_4
      have p3v192 := p3v192 r0_5 R_r0_5
      try simp only [q190, q191] at p2v192
      try simp only [q190, q191] at p3v192
      have e196 := CM.j S195 R_r0_1 (by decide) e183
      have e198 := (p2v192 41 (by first | decide | exact ncne (by omega) (by omega) (by omega) | exact nckn (by omega) (by omega) | exact (nckn (by omega) (by omega)).symm)).trans e185
      have e199 := (p2v192 42 (by first | decide | exact ncne (by omega) (by omega) (by omega) | exact nckn (by omega) (by omega) | exact (nckn (by omega) (by omega)).symm)).trans e187
      obtain ⟨x200, e201⟩ : ∃ x, I193 r0_4 40 = x := ⟨_, rfl⟩
      have gx200 := rg x200
      have ox200 := IM.dgR hI193 R_r0_4 e201
      try simp only [q190, q191, e183, e184, e185, e187, e201] at p0v192
      try have q0v192 := congrArg Int32.toInt p0v192
      try simp only [q190, q191, e183, e184, e185, e187, e201] at p1v192
      try have q1v192 := congrArg Int32.toInt p1v192
      have hA := QN.cp hB (CPN.le p1v192 (by omega))
      have nA := NE1.cp nB p1v192 (by omega)
      have hC := QN.sm hC (fun k hk => p3v192 _ (by omega)) (by omega)
      have nC := NE1.smr nC (fun k hk => p3v192 _ (by omega))
      have hB := QN.sm hB (fun k hk => p3v192 _ (by omega)) (by omega)
      have nB := NE1.smr nB (fun k hk => p3v192 _ (by omega))
      refine k_aload_n C rfl rfl rfl ?_
      refine z_bipush C (z := 42) rfl rfl rfl (fun x202 ex202 => ?_)
      refine z_bipush C (z := 41) rfl rfl rfl (fun x203 ex203 => ?_)
      have q204 : x202.toNatClampNeg = 42 := nck (by omega)
      have q205 : x203.toNatClampNeg = 41 := nck (by omega)
      refine c_VV C (a_X12_copies hI193 H_r0 (by omega) (by omega) (by omega) (by omega) (by first | omega | (simp only [q204, q205, e196, e198, e199, e201] <;> omega))) rfl rfl rfl rfl rfl ⟨_, rfl, rfl, T_r0, Nat.le_of_ble_eq_true rfl⟩ rfl rfl (Nat.le_of_ble_eq_true rfl) (Nat.le_of_ble_eq_true rfl) (Nat.le_of_ble_eq_true rfl) ?_
      rintro I207 L208 ⟨p0v206, p1v206, p2v206, p3v206, hI207, S209⟩
      have p0v206 := p0v206 r0_4 R_r0_4
      have p1v206 := p1v206 r0_4 r0_5 R_r0_4 R_r0_5
      have p2v206 := p2v206 r0_4 R_r0_4
      have p3v206 := p3v206 r0_5 R_r0_5
      try simp only [q204, q205] at p2v206
      try simp only [q204, q205] at p3v206
      have e210 := CM.j S209 R_r0_1 (by decide) e196
      have e212 := (p2v206 42 (by first | decide | exact ncne (by omega) (by omega) (by omega) | exact nckn (by omega) (by omega) | exact (nckn (by omega) (by omega)).symm)).trans e199
      have e213 := (p2v206 40 (by first | decide | exact ncne (by omega) (by omega) (by omega) | exact nckn (by omega) (by omega) | exact (nckn (by omega) (by omega)).symm)).trans e201
      obtain ⟨x214, e215⟩ : ∃ x, I207 r0_4 41 = x := ⟨_, rfl⟩
      have gx214 := rg x214
      have ox214 := IM.dgR hI207 R_r0_4 e215
      try simp only [q204, q205, e196, e198, e199, e201, e215] at p0v206
      try have q0v206 := congrArg Int32.toInt p0v206
      try simp only [q204, q205, e196, e198, e199, e201, e215] at p1v206
      try have q1v206 := congrArg Int32.toInt p1v206
      have hB := QN.cp hC (CPN.le p1v206 (by omega))
      have nB := NE1.cp nC p1v206 (by omega)
      have hA := QN.sm hA (fun k hk => p3v206 _ (by omega)) (by omega)
      have nA := NE1.smr nA (fun k hk => p3v206 _ (by omega))
      refine k_aload_n C rfl rfl rfl ?_
      refine z_bipush C (z := 40) rfl rfl rfl (fun x216 ex216 => ?_)
      refine z_bipush C (z := 41) rfl rfl rfl (fun x217 ex217 => ?_)
      refine z_bipush C (z := 43) rfl rfl rfl (fun x218 ex218 => ?_)
      have q219 : x216.toNatClampNeg = 40 := nck (by omega)
      have q220 : x217.toNatClampNeg = 41 := nck (by omega)
      have q221 : x218.toNatClampNeg = 43 := nck (by omega)
      refine c_VV C (a_X12_divides hI207 H_r0 (by omega) (by omega) (by omega) (by omega) (by omega) (by omega) (fun a4 h4 => by cases (R_r0_4.symm.trans h4); first | omega | (simp only [q219, q220, q221, e210, e212, e213, e215] <;> omega)) (fun a5 h5 => by cases (R_r0_5.symm.trans h5); exact nB) (fun a1 a5 h1 h5 => by cases (R_r0_1.symm.trans h1); cases (R_r0_5.symm.trans h5); simp only [q219, q220, q221, e210, e212, e213, e215]; exact QN.le hB (by omega)) (fun a1 a4 a5 h1 h4 h5 => by cases (R_r0_1.symm.trans h1); cases (R_r0_4.symm.trans h4); cases (R_r0_5.symm.trans h5); simp only [q219, q220, q221, e210, e212, e213, e215]; exact QN.le hA (by omega))) rfl rfl rfl rfl rfl ⟨_, rfl, rfl, T_r0, Nat.le_of_ble_eq_true rfl⟩ rfl rfl (Nat.le_of_ble_eq_true rfl) (Nat.le_of_ble_eq_true rfl) (Nat.le_of_ble_eq_true rfl) ?_
      rintro I223 L224 ⟨p0v222, p1v222, p2v222, p3v222, p4v222, hI223, S225⟩
      have p0v222 := p0v222 r0_4 r0_5 R_r0_4 R_r0_5
      have p1v222 := p1v222 r0_1 r0_4 r0_5 R_r0_1 R_r0_4 R_r0_5
      have p2v222 := p2v222 r0_4 R_r0_4
      have p3v222 := p3v222 r0_4 R_r0_4
      have p4v222 := p4v222 r0_5 R_r0_5
      try simp only [q219, q220, q221] at p3v222
      try simp only [q219, q220, q221] at p4v222
      have e226 := CM.j S225 R_r0_1 (by decide) e210
      have e227 := (p3v222 42 (by first | decide | exact ncne (by omega) (by omega) (by omega) | exact nckn (by omega) (by omega) | exact (nckn (by omega) (by omega)).symm)).trans e212
      have e228 := (p3v222 40 (by first | decide | exact ncne (by omega) (by omega) (by omega) | exact nckn (by omega) (by omega) | exact (nckn (by omega) (by omega)).symm)).trans e213
      have e229 := (p3v222 41 (by first | decide | exact ncne (by omega) (by omega) (by omega) | exact nckn (by omega) (by omega) | exact (nckn (by omega) (by omega)).symm)).trans e215
      obtain ⟨x230, e231⟩ : ∃ x, I223 r0_4 43 = x := ⟨_, rfl⟩
      have gx230 := rg x230
      have ox230 := IM.dgR hI223 R_r0_4 e231
      try simp only [q219, q220, q221, e210, e212, e213, e215, e231] at p0v222
      try have q0v222 := congrArg Int32.toInt p0v222
      try simp only [q219, q220, q221, e210, e212, e213, e215, e231] at p1v222
      try have q1v222 := congrArg Int32.toInt p1v222
      try simp only [q219, q220, q221, e210, e212, e213, e215, e231] at p2v222
      try have q2v222 := congrArg Int32.toInt p2v222
      have hZ := p0v222
      have hA := p1v222
      have hB := QN.sm hB (fun k hk => p4v222 _ (by omega) (by omega)) (by omega)
      have nB := NE1.smr nB (fun k hk => p4v222 _ (by omega) (by omega))
      refine k_aload_n C rfl rfl rfl ?_
      refine z_bipush C (z := 40) rfl rfl rfl (fun x232 ex232 => ?_)
      have q233 : x232.toNatClampNeg = 40 := nck (by omega)
      refine c_VI C (a_X12_isNought hI223 H_r0 (by omega) (by omega)) rfl rfl rfl rfl rfl ⟨_, rfl, rfl, T_r0, Nat.le_of_ble_eq_true rfl⟩ rfl rfl (Nat.le_of_ble_eq_true rfl) (Nat.le_of_ble_eq_true rfl) (Nat.le_of_ble_eq_true rfl) ?_
      rintro x234 _ _ ⟨o0x234, o1x234, p0x234, rfl, rfl⟩
      have p0x234 := p0x234 r0_4 r0_5 R_r0_4 R_r0_5
      have gx234 := rg x234
      try simp only [q233, e226, e227, e228, e229, e231] at p0x234
      try have q0x234 := congrArg Int32.toInt p0x234
      have hNZ := p0x234
      refine b_if_eq C (t := 94) rfl rfl rfl (fun c235 => ?_) (fun c235 => ?_)
      · skip
        refine k_aload_n C rfl rfl rfl ?_
        refine z_bipush C (z := 40) rfl rfl rfl (fun x236 ex236 => ?_)
        have q237 : x236.toNatClampNeg = 40 := nck (by omega)
        refine c_VI C (a_X12_strips hI223 H_r0 (by omega) (by omega) (fun a4 a5 h4 h5 => by cases (R_r0_4.symm.trans h4); cases (R_r0_5.symm.trans h5); simp only [q237, e226, e227, e228, e229, e231]; exact hNZ (by omega))) rfl rfl rfl rfl rfl ⟨_, rfl, rfl, T_r0, Nat.le_of_ble_eq_true rfl⟩ rfl rfl (Nat.le_of_ble_eq_true rfl) (Nat.le_of_ble_eq_true rfl) (Nat.le_of_ble_eq_true rfl) ?_
        rintro x238 I239 L240 ⟨p0x238, p1x238, p2x238, p3x238, p4x238, p5x238, hI239, S241⟩
        have p0x238 := p0x238 r0_4 R_r0_4
        have p1x238 := p1x238 r0_4 R_r0_4
        have p2x238 := p2x238 r0_5 R_r0_5
        have p3x238 := p3x238 r0_4 r0_5 R_r0_4 R_r0_5
        have p4x238 := p4x238 r0_4 R_r0_4
        have p5x238 := p5x238 r0_5 R_r0_5
        try simp only [q237] at p4x238
        try simp only [q237] at p5x238
        have e242 := CM.j S241 R_r0_1 (by decide) e226
        have e243 := (p4x238 42 (by first | decide | exact ncne (by omega) (by omega) (by omega) | exact nckn (by omega) (by omega) | exact (nckn (by omega) (by omega)).symm)).trans e227
        have e245 := (p4x238 41 (by first | decide | exact ncne (by omega) (by omega) (by omega) | exact nckn (by omega) (by omega) | exact (nckn (by omega) (by omega)).symm)).trans e229
        have e246 := (p4x238 43 (by first | decide | exact ncne (by omega) (by omega) (by omega) | exact nckn (by omega) (by omega) | exact (nckn (by omega) (by omega)).symm)).trans e231
        have gx238 := rg x238
        obtain ⟨x247, e248⟩ : ∃ x, I239 r0_4 40 = x := ⟨_, rfl⟩
        have gx247 := rg x247
        have ox247 := IM.dgR hI239 R_r0_4 e248
        try simp only [q237, e226, e227, e228, e229, e231, e248] at p0x238
        try have q0x238 := congrArg Int32.toInt p0x238
        try simp only [q237, e226, e227, e228, e229, e231, e248] at p1x238
        try have q1x238 := congrArg Int32.toInt p1x238
        try simp only [q237, e226, e227, e228, e229, e231, e248] at p2x238
        try have q2x238 := congrArg Int32.toInt p2x238
        try simp only [q237, e226, e227, e228, e229, e231, e248] at p3x238
        try have q3x238 := congrArg Int32.toInt p3x238
        have hge := AZ.ge hZ p2x238 (by omega)
        have hA := QN.st hA p3x238 (by omega)
        have nA := STP.ne p3x238 p2x238 (by omega) (by omega)
        have hB := QN.sm hB (fun k hk => p5x238 _ (by omega)) (by omega)
        have nB := NE1.smr nB (fun k hk => p5x238 _ (by omega))
        refine k_pop C rfl rfl rfl ?_
        refine k_aload_n C rfl rfl rfl ?_
        refine z_bipush C (z := 40) rfl rfl rfl (fun x249 ex249 => ?_)
        refine z_bipush C (z := 42) rfl rfl rfl (fun x250 ex250 => ?_)
        have q251 : x249.toNatClampNeg = 40 := nck (by omega)
        have q252 : x250.toNatClampNeg = 42 := nck (by omega)
        refine c_VV C (a_X12_copies hI239 H_r0 (by omega) (by omega) (by omega) (by omega) (by first | omega | (simp only [q251, q252, e242, e243, e245, e246, e248] <;> omega))) rfl rfl rfl rfl rfl ⟨_, rfl, rfl, T_r0, Nat.le_of_ble_eq_true rfl⟩ rfl rfl (Nat.le_of_ble_eq_true rfl) (Nat.le_of_ble_eq_true rfl) (Nat.le_of_ble_eq_true rfl) ?_
        rintro I254 L255 ⟨p0v253, p1v253, p2v253, p3v253, hI254, S256⟩
        have p0v253 := p0v253 r0_4 R_r0_4
        have p1v253 := p1v253 r0_4 r0_5 R_r0_4 R_r0_5
        have p2v253 := p2v253 r0_4 R_r0_4
        have p3v253 := p3v253 r0_5 R_r0_5
        try simp only [q251, q252] at p2v253
        try simp only [q251, q252] at p3v253
        have e257 := CM.j S256 R_r0_1 (by decide) e242
        have e259 := (p2v253 41 (by first | decide | exact ncne (by omega) (by omega) (by omega) | exact nckn (by omega) (by omega) | exact (nckn (by omega) (by omega)).symm)).trans e245
        have e260 := (p2v253 43 (by first | decide | exact ncne (by omega) (by omega) (by omega) | exact nckn (by omega) (by omega) | exact (nckn (by omega) (by omega)).symm)).trans e246
        have e261 := (p2v253 40 (by first | decide | exact ncne (by omega) (by omega) (by omega) | exact nckn (by omega) (by omega) | exact (nckn (by omega) (by omega)).symm)).trans e248
        obtain ⟨x262, e263⟩ : ∃ x, I254 r0_4 42 = x := ⟨_, rfl⟩
        have gx262 := rg x262
        have ox262 := IM.dgR hI254 R_r0_4 e263
        try simp only [q251, q252, e242, e243, e245, e246, e248, e263] at p0v253
        try have q0v253 := congrArg Int32.toInt p0v253
        try simp only [q251, q252, e242, e243, e245, e246, e248, e263] at p1v253
        try have q1v253 := congrArg Int32.toInt p1v253
        have hC := QN.cp hA (CPN.le p1v253 (by omega))
        have nC := NE1.cp nA p1v253 (by omega)
        have hB := QN.sm hB (fun k hk => p3v253 _ (by omega)) (by omega)
        have nB := NE1.smr nB (fun k hk => p3v253 _ (by omega))
        refine k_aload_n C rfl rfl rfl ?_
        refine z_bipush C (z := 41) rfl rfl rfl (fun x264 ex264 => ?_)
        refine z_bipush C (z := 40) rfl rfl rfl (fun x265 ex265 => ?_)
        have q266 : x264.toNatClampNeg = 41 := nck (by omega)
        have q267 : x265.toNatClampNeg = 40 := nck (by omega)
        refine c_VV C (a_X12_copies hI254 H_r0 (by omega) (by omega) (by omega) (by omega) (by first | omega | (simp only [q266, q267, e257, e259, e260, e261, e263] <;> omega))) rfl rfl rfl rfl rfl ⟨_, rfl, rfl, T_r0, Nat.le_of_ble_eq_true rfl⟩ rfl rfl (Nat.le_of_ble_eq_true rfl) (Nat.le_of_ble_eq_true rfl) (Nat.le_of_ble_eq_true rfl) ?_
        rintro I269 L270 ⟨p0v268, p1v268, p2v268, p3v268, hI269, S271⟩
        have p0v268 := p0v268 r0_4 R_r0_4
        have p1v268 := p1v268 r0_4 r0_5 R_r0_4 R_r0_5
        have p2v268 := p2v268 r0_4 R_r0_4
        have p3v268 := p3v268 r0_5 R_r0_5
        try simp only [q266, q267] at p2v268
        try simp only [q266, q267] at p3v268
        have e272 := CM.j S271 R_r0_1 (by decide) e257
        have e273 := (p2v268 41 (by first | decide | exact ncne (by omega) (by omega) (by omega) | exact nckn (by omega) (by omega) | exact (nckn (by omega) (by omega)).symm)).trans e259
        have e274 := (p2v268 43 (by first | decide | exact ncne (by omega) (by omega) (by omega) | exact nckn (by omega) (by omega) | exact (nckn (by omega) (by omega)).symm)).trans e260
        have e276 := (p2v268 42 (by first | decide | exact ncne (by omega) (by omega) (by omega) | exact nckn (by omega) (by omega) | exact (nckn (by omega) (by omega)).symm)).trans e263
        obtain ⟨x277, e278⟩ : ∃ x, I269 r0_4 40 = x := ⟨_, rfl⟩
        have gx277 := rg x277
        have ox277 := IM.dgR hI269 R_r0_4 e278
        try simp only [q266, q267, e257, e259, e260, e261, e263, e278] at p0v268
        try have q0v268 := congrArg Int32.toInt p0v268
        try simp only [q266, q267, e257, e259, e260, e261, e263, e278] at p1v268
        try have q1v268 := congrArg Int32.toInt p1v268
        have hA := QN.cp hB (CPN.le p1v268 (by omega))
        have nA := NE1.cp nB p1v268 (by omega)
        have hC := QN.sm hC (fun k hk => p3v268 _ (by omega)) (by omega)
        have nC := NE1.smr nC (fun k hk => p3v268 _ (by omega))
        have hB := QN.sm hB (fun k hk => p3v268 _ (by omega)) (by omega)
        have nB := NE1.smr nB (fun k hk => p3v268 _ (by omega))
        refine k_aload_n C rfl rfl rfl ?_
        refine z_bipush C (z := 42) rfl rfl rfl (fun x279 ex279 => ?_)
        refine z_bipush C (z := 41) rfl rfl rfl (fun x280 ex280 => ?_)
        have q281 : x279.toNatClampNeg = 42 := nck (by omega)
        have q282 : x280.toNatClampNeg = 41 := nck (by omega)
        refine c_VV C (a_X12_copies hI269 H_r0 (by omega) (by omega) (by omega) (by omega) (by first | omega | (simp only [q281, q282, e272, e273, e274, e276, e278] <;> omega))) rfl rfl rfl rfl rfl ⟨_, rfl, rfl, T_r0, Nat.le_of_ble_eq_true rfl⟩ rfl rfl (Nat.le_of_ble_eq_true rfl) (Nat.le_of_ble_eq_true rfl) (Nat.le_of_ble_eq_true rfl) ?_
        rintro I284 L285 ⟨p0v283, p1v283, p2v283, p3v283, hI284, S286⟩
        have p0v283 := p0v283 r0_4 R_r0_4
        have p1v283 := p1v283 r0_4 r0_5 R_r0_4 R_r0_5
        have p2v283 := p2v283 r0_4 R_r0_4
        have p3v283 := p3v283 r0_5 R_r0_5
        try simp only [q281, q282] at p2v283
        try simp only [q281, q282] at p3v283
        have e287 := CM.j S286 R_r0_1 (by decide) e272
        have e289 := (p2v283 43 (by first | decide | exact ncne (by omega) (by omega) (by omega) | exact nckn (by omega) (by omega) | exact (nckn (by omega) (by omega)).symm)).trans e274
        have e290 := (p2v283 42 (by first | decide | exact ncne (by omega) (by omega) (by omega) | exact nckn (by omega) (by omega) | exact (nckn (by omega) (by omega)).symm)).trans e276
        have e291 := (p2v283 40 (by first | decide | exact ncne (by omega) (by omega) (by omega) | exact nckn (by omega) (by omega) | exact (nckn (by omega) (by omega)).symm)).trans e278
        obtain ⟨x292, e293⟩ : ∃ x, I284 r0_4 41 = x := ⟨_, rfl⟩
        have gx292 := rg x292
        have ox292 := IM.dgR hI284 R_r0_4 e293
        try simp only [q281, q282, e272, e273, e274, e276, e278, e293] at p0v283
        try have q0v283 := congrArg Int32.toInt p0v283
        try simp only [q281, q282, e272, e273, e274, e276, e278, e293] at p1v283
        try have q1v283 := congrArg Int32.toInt p1v283
        have hB := QN.cp hC (CPN.le p1v283 (by omega))
        have nB := NE1.cp nC p1v283 (by omega)
        have hA := QN.sm hA (fun k hk => p3v283 _ (by omega)) (by omega)
        have nA := NE1.smr nA (fun k hk => p3v283 _ (by omega))
        refine k_goto C (pc2 := 25) rfl rfl ?_
        refine k_sub S [(0, .ref r0), (1, .int x26), (2, .int x32)] (List.forall_mem_cons.mpr ⟨List.mem_of_getElem? (i := 0) rfl, List.forall_mem_cons.mpr ⟨List.mem_of_getElem? (i := 1) rfl, List.forall_mem_cons.mpr ⟨List.mem_of_getElem? (i := 2) rfl, fun _ h => nomatch h⟩⟩⟩) ?_
        exact ihJ28 _ (MN.lt hmnn29 (by omega) (by omega)) I284 L285 x32 x277 x292 rfl hI284 (CM.cons S35 (CM.cons S182 (CM.cons S195 (CM.cons S209 (CM.cons S225 (CM.cons S241 (CM.cons S256 (CM.cons S271 (CM.mono S286 (by decide) (by decide)) (by decide) (by decide)) (by decide) (by decide)) (by decide) (by decide)) (by decide) (by decide)) (by decide) (by decide)) (by decide) (by decide)) (by decide) (by decide)) (by decide) (by decide)) (by omega) (by omega) e291 (by omega) (by omega) e293 (by omega) (by omega) (by exact QN.le hA (by omega)) (by exact QN.le hB (by omega)) (by first | exact fun h => absurd (by omega) h | exact fun _ => nA) (by first | exact fun h => absurd (by omega) h | exact fun _ => nB)
      refine z_iconst C (z := 0) rfl rfl rfl (fun x294 ex294 => ?_)
      refine k_istore_n C (lw := [(2, .int x294), (0, .ref r0), (1, .int x26)]) rfl rfl (Nat.le_of_ble_eq_true rfl) rfl ?_
      refine k_goto C (pc2 := 25) rfl rfl ?_
      refine k_sub S [(0, .ref r0), (1, .int x26), (2, .int x294)] (List.forall_mem_cons.mpr ⟨List.mem_of_getElem? (i := 1) rfl, List.forall_mem_cons.mpr ⟨List.mem_of_getElem? (i := 2) rfl, List.forall_mem_cons.mpr ⟨List.mem_of_getElem? (i := 0) rfl, fun _ h => nomatch h⟩⟩⟩) ?_
      exact ihJ28 _ (MN.lt hmnn29 (by omega) (by omega)) I223 L224 x294 x200 x214 rfl hI223 (CM.cons S35 (CM.cons S182 (CM.cons S195 (CM.cons S209 (CM.mono S225 (by decide) (by decide)) (by decide) (by decide)) (by decide) (by decide)) (by decide) (by decide)) (by decide) (by decide)) (by omega) (by omega) e228 (by omega) (by omega) e229 (by omega) (by omega) (by exact QN.le hA (by omega)) (by exact QN.le hB (by omega)) (by first | exact fun h => absurd (by omega) h | exact fun _ => nA) (by first | exact fun h => absurd (by omega) h | exact fun _ => nB)
  refine k_istore_n C (lw := [(2, .int x27), (1, .int x26), (0, .ref r0)]) rfl rfl (Nat.le_of_ble_eq_true rfl) rfl ?_
  refine k_sub S [(0, .ref r0), (1, .int x26), (2, .int x27)] (List.forall_mem_cons.mpr ⟨List.mem_of_getElem? (i := 2) rfl, List.forall_mem_cons.mpr ⟨List.mem_of_getElem? (i := 1) rfl, List.forall_mem_cons.mpr ⟨List.mem_of_getElem? (i := 0) rfl, fun _ h => nomatch h⟩⟩⟩) ?_
  exact J28 _ I18 L19 x27 x10 x24 rfl hI18 CM.rf (by omega) (by omega) e23 (by omega) (by omega) e25 (by omega) (by omega) (by exact QN.le hA (by omega)) (by exact QN.le hB (by omega)) (by exact fun _ => nA) (by exact fun _ => nB)

theorem a_X12_common {d : Nat} {T N : Nat → Nat} {I : IT} {L : LT} {R : RT} {A : Nat → Prop} {r0 : Nat} {n1 n2 n3 : Int32} (hI : IM R r0 I) (H_r0 : (h_MD T N R A) r0) : Ex (d + 7) 292 [.ref r0, .int n1, .int n2, .int n3] (T, N, I, L, R) 0 0 (pI T N R (fun x9 I9 L9 => (-18 ≤ x9.toInt) ∧ (x9.toInt ≤ 40) ∧ (IM R r0 I9 ∧ CM A R r0 [0] [4, 5] I L I9 L9))) := by
  refine ⟨_, rfl, Nat.le_of_ble_eq_true rfl, fun V C S => ?_⟩
  show V 0 [(0, .ref r0), (1, .int n1), (2, .int n2), (3, .int n3)] [] (T, N, I, L, R) 0 0
  have gn1 := rg n1
  have gn2 := rg n2
  have gn3 := rg n3
  obtain ⟨T_r0, A_r0, ⟨r0_1, R_r0_1, H_r0_1⟩, ⟨r0_2, R_r0_2, H_r0_2⟩, ⟨r0_4, R_r0_4, H_r0_4⟩, ⟨r0_5, R_r0_5, H_r0_5⟩, ⟨r0_10, R_r0_10, H_r0_10⟩, ⟨r0_18, R_r0_18, H_r0_18⟩, ⟨r0_20, R_r0_20, H_r0_20⟩, ⟨r0_21, R_r0_21, H_r0_21⟩, ⟨r0_22, R_r0_22, H_r0_22⟩, ⟨r0_23, R_r0_23, H_r0_23⟩, ⟨r0_25, R_r0_25, H_r0_25⟩, ⟨r0_26, R_r0_26, H_r0_26⟩, ⟨r0_27, R_r0_27, H_r0_27⟩, ⟨r0_28, R_r0_28, H_r0_28⟩, ⟨r0_34, R_r0_34, H_r0_34⟩, J_r0, Y_r0⟩ := id H_r0
  have G_r0 : mF T R r0 := ⟨J_r0, Y_r0, T_r0⟩
  refine k_aload_n C rfl rfl rfl ?_
  refine z_iconst C (z := 0) rfl rfl rfl (fun x1 ex1 => ?_)
  refine z_pI C rfl rfl rfl T_r0 (Or.inr rfl) rfl (fun I2 uI2 => ?_)
  have hI2 : IM R r0 I2 := IM.fld hI G_r0 ⟨(fun h => absurd h (by decide)), (fun h => absurd h (by decide)), (fun h => absurd h (by decide)), (fun h => absurd h (by decide)), (fun h => absurd h (by decide))⟩ uI2
  have S3 : CM A R r0 [0] [] I L I2 L := CM.f G_r0 A_r0 uI2
  have e4 := u2_e uI2
  refine k_aload_n C rfl rfl rfl ?_
  refine k_aload_n C rfl rfl rfl ?_
  refine k_iload_n C rfl rfl rfl ?_
  refine c_VI C (a_X12_noForm hI2 H_r0) rfl rfl rfl rfl rfl ⟨_, rfl, rfl, T_r0, Nat.le_of_ble_eq_true rfl⟩ rfl rfl (Nat.le_of_ble_eq_true rfl) (Nat.le_of_ble_eq_true rfl) (Nat.le_of_ble_eq_true rfl) ?_
  rintro x5 _ _ ⟨o0x5, o1x5, p0x5, rfl, rfl⟩
  have p0x5 := p0x5 r0_1 R_r0_1
  have gx5 := rg x5
  obtain ⟨x6, e7⟩ : ∃ x, I2 r0_1 1 = x := ⟨_, rfl⟩
  have gx6 := rg x6
  have ox6 := IM.c1 hI2 R_r0_1 e7
  try simp only [e4, e7] at p0x5
  try have q0x5 := congrArg Int32.toInt p0x5
  refine b_if_ne C (t := 22) rfl rfl rfl (fun c8 => ?_) (fun c8 => ?_)
  · skip
    refine z_iconst C (z := 1) rfl rfl rfl (fun x9 ex9 => ?_)
    refine k_goto C (pc2 := 27) rfl rfl ?_
    refine z_iconst C (z := 1) rfl rfl rfl (fun x10 ex10 => ?_)
    have q11 : x9.toNatClampNeg = 1 := nck (by omega)
    have q12 : x10.toNatClampNeg = 1 := nck (by omega)
    refine c_VI C (a_X12_throwsIf hI2 H_r0 (by omega) (by omega)) rfl rfl rfl rfl rfl ⟨_, rfl, rfl, T_r0, Nat.le_of_ble_eq_true rfl⟩ rfl rfl (Nat.le_of_ble_eq_true rfl) (Nat.le_of_ble_eq_true rfl) (Nat.le_of_ble_eq_true rfl) ?_
    rintro x13 I14 L15 ⟨o0x13, o1x13, p0x13, hI14, S16⟩
    have e18 := CM.j S16 R_r0_1 (by decide) e7
    have gx13 := rg x13
    try simp only [q11, q12, e4, e7] at p0x13
    try have q0x13 := congrArg Int32.toInt p0x13
    refine b_if_eq C (t := 36) rfl rfl rfl (fun c19 => by exfalso; omega) (fun c19 => ?_)
    refine z_iconst C (z := 0) rfl rfl rfl (fun x20 ex20 => ?_)
    exact k_iret C rfl (Or.inl rfl) (Nat.le_of_ble_eq_true rfl) (Nat.le_of_ble_eq_true rfl) ⟨_, _, _, rfl, rfl, by omega, by omega, hI14, (CM.cons S3 (CM.mono S16 (by decide) (by decide)) (by decide) (by decide))⟩
  refine k_aload_n C rfl rfl rfl ?_
  refine k_iload_n C rfl rfl rfl ?_
  refine c_VI C (a_X12_noForm hI2 H_r0) rfl rfl rfl rfl rfl ⟨_, rfl, rfl, T_r0, Nat.le_of_ble_eq_true rfl⟩ rfl rfl (Nat.le_of_ble_eq_true rfl) (Nat.le_of_ble_eq_true rfl) (Nat.le_of_ble_eq_true rfl) ?_
  rintro x21 _ _ ⟨o0x21, o1x21, p0x21, rfl, rfl⟩
  have p0x21 := p0x21 r0_1 R_r0_1
  have gx21 := rg x21
  try simp only [e4, e7, e7] at p0x21
  try have q0x21 := congrArg Int32.toInt p0x21
  refine b_if_eq C (t := 26) rfl rfl rfl (fun c22 => ?_) (fun c22 => ?_)
  · skip
    refine z_iconst C (z := 0) rfl rfl rfl (fun x23 ex23 => ?_)
    refine z_iconst C (z := 1) rfl rfl rfl (fun x24 ex24 => ?_)
    have q25 : x23.toNatClampNeg = 0 := nck (by omega)
    have q26 : x24.toNatClampNeg = 1 := nck (by omega)
    refine c_VI C (a_X12_throwsIf hI2 H_r0 (by omega) (by omega)) rfl rfl rfl rfl rfl ⟨_, rfl, rfl, T_r0, Nat.le_of_ble_eq_true rfl⟩ rfl rfl (Nat.le_of_ble_eq_true rfl) (Nat.le_of_ble_eq_true rfl) (Nat.le_of_ble_eq_true rfl) ?_
    rintro x27 I28 L29 ⟨o0x27, o1x27, p0x27, hI28, S30⟩
    have e32 := CM.j S30 R_r0_1 (by decide) e7
    have gx27 := rg x27
    try simp only [q25, q26, e4, e7] at p0x27
    try have q0x27 := congrArg Int32.toInt p0x27
    refine b_if_eq C (t := 36) rfl rfl rfl (fun c33 => ?_) (fun c33 => by exfalso; omega)
    refine k_aload_n C rfl rfl rfl ?_
    refine z_bipush C (z := 40) rfl rfl rfl (fun x34 ex34 => ?_)
    refine k_iload_n C rfl rfl rfl ?_
    obtain ⟨x35, e36⟩ : ∃ x, I28 r0_1 (6 + 10 * n1.toNatClampNeg) = x := ⟨_, rfl⟩
    have gx35 := rg x35
    obtain ⟨x37, e38⟩ : ∃ x, I28 r0_1 0 = x := ⟨_, rfl⟩
    have gx37 := rg x37
    have ox37 := IM.pi hI28 R_r0_1 e38
    have q39 : x34.toNatClampNeg = 40 := nck (by omega)
    refine c_VV C (a_X12_takes hI28 H_r0 (by omega) (by omega) (by omega) (by omega)) rfl rfl rfl rfl rfl ⟨_, rfl, rfl, T_r0, Nat.le_of_ble_eq_true rfl⟩ rfl rfl (Nat.le_of_ble_eq_true rfl) (Nat.le_of_ble_eq_true rfl) (Nat.le_of_ble_eq_true rfl) ?_
    rintro I41 L42 ⟨p0v40, p1v40, p2v40, p3v40, p4v40, hI41, S43⟩
    have p0v40 := p0v40 r0_4 R_r0_4
    have p1v40 := p1v40 r0_1 r0_4 R_r0_1 R_r0_4
    have p2v40 := p2v40 r0_1 r0_4 r0_5 R_r0_1 R_r0_4 R_r0_5
    have p3v40 := p3v40 r0_4 R_r0_4
    have p4v40 := p4v40 r0_5 R_r0_5
    try simp only [q39] at p3v40
    try simp only [q39] at p4v40
    have e44 := CM.j S43 R_r0_1 (by decide) e32
    have e45 := CM.j S43 R_r0_1 (by decide) e36
    have e46 := CM.j S43 R_r0_1 (by decide) e38
    obtain ⟨x47, e48⟩ : ∃ x, I41 r0_4 40 = x := ⟨_, rfl⟩
    have gx47 := rg x47
    have ox47 := IM.dgR hI41 R_r0_4 e48
    try simp only [q39, e32, e36, e38, e48] at p0v40
    try have q0v40 := congrArg Int32.toInt p0v40
    try simp only [q39, e32, e36, e38, e48] at p1v40
    try have q1v40 := congrArg Int32.toInt p1v40
    try simp only [q39, e32, e36, e38, e48] at p2v40
    try have q2v40 := congrArg Int32.toInt p2v40
    have hA := p2v40 (by omega)
    refine k_aload_n C rfl rfl rfl ?_
    refine z_bipush C (z := 41) rfl rfl rfl (fun x49 ex49 => ?_)
    refine k_iload_n C rfl rfl rfl ?_
    obtain ⟨x50, e51⟩ : ∃ x, I41 r0_1 (6 + 10 * n2.toNatClampNeg) = x := ⟨_, rfl⟩
    have gx50 := rg x50
    have q52 : x49.toNatClampNeg = 41 := nck (by omega)
    refine c_VV C (a_X12_takes hI41 H_r0 (by omega) (by omega) (by omega) (by omega)) rfl rfl rfl rfl rfl ⟨_, rfl, rfl, T_r0, Nat.le_of_ble_eq_true rfl⟩ rfl rfl (Nat.le_of_ble_eq_true rfl) (Nat.le_of_ble_eq_true rfl) (Nat.le_of_ble_eq_true rfl) ?_
    rintro I54 L55 ⟨p0v53, p1v53, p2v53, p3v53, p4v53, hI54, S56⟩
    have p0v53 := p0v53 r0_4 R_r0_4
    have p1v53 := p1v53 r0_1 r0_4 R_r0_1 R_r0_4
    have p2v53 := p2v53 r0_1 r0_4 r0_5 R_r0_1 R_r0_4 R_r0_5
    have p3v53 := p3v53 r0_4 R_r0_4
    have p4v53 := p4v53 r0_5 R_r0_5
    try simp only [q52] at p3v53
    try simp only [q52] at p4v53
    have e57 := CM.j S56 R_r0_1 (by decide) e44
    have e58 := CM.j S56 R_r0_1 (by decide) e45
    have e59 := CM.j S56 R_r0_1 (by decide) e46
    have e60 := (p3v53 40 (by first | decide | exact ncne (by omega) (by omega) (by omega) | exact nckn (by omega) (by omega) | exact (nckn (by omega) (by omega)).symm)).trans e48
    have e61 := CM.j S56 R_r0_1 (by decide) e51
    obtain ⟨x62, e63⟩ : ∃ x, I54 r0_4 41 = x := ⟨_, rfl⟩
    have gx62 := rg x62
    have ox62 := IM.dgR hI54 R_r0_4 e63
    try simp only [q52, e44, e45, e46, e48, e51, e63] at p0v53
    try have q0v53 := congrArg Int32.toInt p0v53
    try simp only [q52, e44, e45, e46, e48, e51, e63] at p1v53
    try have q1v53 := congrArg Int32.toInt p1v53
    try simp only [q52, e44, e45, e46, e48, e51, e63] at p2v53
    try have q2v53 := congrArg Int32.toInt p2v53
    have hB := p2v53 (by omega)
    have hA := QN.sm hA (fun k hk => p4v53 _ (by omega)) (by omega)
    refine k_aload_n C rfl rfl rfl ?_
    refine z_bipush C (z := 40) rfl rfl rfl (fun x64 ex64 => ?_)
    have q65 : x64.toNatClampNeg = 40 := nck (by omega)
    refine c_VI C (a_X12_isNought hI54 H_r0 (by omega) (by omega)) rfl rfl rfl rfl rfl ⟨_, rfl, rfl, T_r0, Nat.le_of_ble_eq_true rfl⟩ rfl rfl (Nat.le_of_ble_eq_true rfl) (Nat.le_of_ble_eq_true rfl) (Nat.le_of_ble_eq_true rfl) ?_
    rintro x66 _ _ ⟨o0x66, o1x66, p0x66, rfl, rfl⟩
    have p0x66 := p0x66 r0_4 r0_5 R_r0_4 R_r0_5
    have gx66 := rg x66
    try simp only [q65, e57, e58, e59, e60, e61, e63] at p0x66
    try have q0x66 := congrArg Int32.toInt p0x66
    have zA := p0x66
    refine b_if_ne C (t := 68) rfl rfl rfl (fun c67 => ?_) (fun c67 => ?_)
    · skip
      refine z_bipush C (z := -2) rfl rfl rfl (fun x68 ex68 => ?_)
      exact k_iret C rfl (Or.inl rfl) (Nat.le_of_ble_eq_true rfl) (Nat.le_of_ble_eq_true rfl) ⟨_, _, _, rfl, rfl, by omega, by omega, hI54, (CM.cons S3 (CM.cons S30 (CM.cons S43 (CM.mono S56 (by decide) (by decide)) (by decide) (by decide)) (by decide) (by decide)) (by decide) (by decide))⟩
    refine k_aload_n C rfl rfl rfl ?_
    refine z_bipush C (z := 41) rfl rfl rfl (fun x69 ex69 => ?_)
    have q70 : x69.toNatClampNeg = 41 := nck (by omega)
    refine c_VI C (a_X12_isNought hI54 H_r0 (by omega) (by omega)) rfl rfl rfl rfl rfl ⟨_, rfl, rfl, T_r0, Nat.le_of_ble_eq_true rfl⟩ rfl rfl (Nat.le_of_ble_eq_true rfl) (Nat.le_of_ble_eq_true rfl) (Nat.le_of_ble_eq_true rfl) ?_
    rintro x71 _ _ ⟨o0x71, o1x71, p0x71, rfl, rfl⟩
    have p0x71 := p0x71 r0_4 r0_5 R_r0_4 R_r0_5
    have gx71 := rg x71
    try simp only [q70, e57, e58, e59, e60, e61, e63] at p0x71
    try have q0x71 := congrArg Int32.toInt p0x71
    have zB := p0x71
    refine b_if_eq C (t := 71) rfl rfl rfl (fun c72 => ?_) (fun c72 => ?_)
    · skip
      refine k_aload_n C rfl rfl rfl ?_
      refine c_VV C (a_X12_commons hI54 H_r0 (fun a4 h4 => by cases (R_r0_4.symm.trans h4); first | omega | (simp only [e57, e58, e59, e60, e61, e63] <;> omega)) (fun a4 h4 => by cases (R_r0_4.symm.trans h4); first | omega | (simp only [e57, e58, e59, e60, e61, e63] <;> omega)) (fun a4 a5 h4 h5 => by cases (R_r0_4.symm.trans h4); cases (R_r0_5.symm.trans h5); simp only [e57, e58, e59, e60, e61, e63]; exact zA (by omega)) (fun a4 a5 h4 h5 => by cases (R_r0_4.symm.trans h4); cases (R_r0_5.symm.trans h5); simp only [e57, e58, e59, e60, e61, e63]; exact zB (by omega)) (fun a1 a4 a5 h1 h4 h5 => by cases (R_r0_1.symm.trans h1); cases (R_r0_4.symm.trans h4); cases (R_r0_5.symm.trans h5); simp only [e57, e58, e59, e60, e61, e63]; exact hA) (fun a1 a4 a5 h1 h4 h5 => by cases (R_r0_1.symm.trans h1); cases (R_r0_4.symm.trans h4); cases (R_r0_5.symm.trans h5); simp only [e57, e58, e59, e60, e61, e63]; exact hB)) rfl rfl rfl rfl rfl ⟨_, rfl, rfl, T_r0, Nat.le_of_ble_eq_true rfl⟩ rfl rfl (Nat.le_of_ble_eq_true rfl) (Nat.le_of_ble_eq_true rfl) (Nat.le_of_ble_eq_true rfl) ?_
      rintro I74 L75 ⟨hI74, S76⟩
      have e77 := CM.j S76 R_r0_1 (by decide) e57
      have e78 := CM.j S76 R_r0_1 (by decide) e58
      have e79 := CM.j S76 R_r0_1 (by decide) e59
      have e81 := CM.j S76 R_r0_1 (by decide) e61
      refine k_aload_n C rfl rfl rfl ?_
      refine z_bipush C (z := 40) rfl rfl rfl (fun x83 ex83 => ?_)
      refine k_iload_n C rfl rfl rfl ?_
      refine c_VI C (a_X12_toldOf hI74 H_r0 (by omega) (by omega)) rfl rfl rfl rfl rfl ⟨_, rfl, rfl, T_r0, Nat.le_of_ble_eq_true rfl⟩ rfl rfl (Nat.le_of_ble_eq_true rfl) (Nat.le_of_ble_eq_true rfl) (Nat.le_of_ble_eq_true rfl) ?_
      rintro x84 _ _ ⟨o0x84, o1x84, rfl, rfl⟩
      have gx84 := rg x84
      exact k_iret C rfl (Or.inl rfl) (Nat.le_of_ble_eq_true rfl) (Nat.le_of_ble_eq_true rfl) ⟨_, _, _, rfl, rfl, by omega, by omega, hI74, (CM.cons S3 (CM.cons S30 (CM.cons S43 (CM.cons S56 (CM.mono S76 (by decide) (by decide)) (by decide) (by decide)) (by decide) (by decide)) (by decide) (by decide)) (by decide) (by decide))⟩
    refine z_bipush C (z := -2) rfl rfl rfl (fun x85 ex85 => ?_)
    exact k_iret C rfl (Or.inl rfl) (Nat.le_of_ble_eq_true rfl) (Nat.le_of_ble_eq_true rfl) ⟨_, _, _, rfl, rfl, by omega, by omega, hI54, (CM.cons S3 (CM.cons S30 (CM.cons S43 (CM.mono S56 (by decide) (by decide)) (by decide) (by decide)) (by decide) (by decide)) (by decide) (by decide))⟩
  refine z_iconst C (z := 1) rfl rfl rfl (fun x86 ex86 => ?_)
  refine k_goto C (pc2 := 27) rfl rfl ?_
  refine z_iconst C (z := 1) rfl rfl rfl (fun x87 ex87 => ?_)
  have q88 : x86.toNatClampNeg = 1 := nck (by omega)
  have q89 : x87.toNatClampNeg = 1 := nck (by omega)
  refine c_VI C (a_X12_throwsIf hI2 H_r0 (by omega) (by omega)) rfl rfl rfl rfl rfl ⟨_, rfl, rfl, T_r0, Nat.le_of_ble_eq_true rfl⟩ rfl rfl (Nat.le_of_ble_eq_true rfl) (Nat.le_of_ble_eq_true rfl) (Nat.le_of_ble_eq_true rfl) ?_
  rintro x90 I91 L92 ⟨o0x90, o1x90, p0x90, hI91, S93⟩
  have e95 := CM.j S93 R_r0_1 (by decide) e7
  have gx90 := rg x90
  try simp only [q88, q89, e4, e7] at p0x90
  try have q0x90 := congrArg Int32.toInt p0x90
  refine b_if_eq C (t := 36) rfl rfl rfl (fun c96 => by exfalso; omega) (fun c96 => ?_)
  refine z_iconst C (z := 0) rfl rfl rfl (fun x97 ex97 => ?_)
  exact k_iret C rfl (Or.inl rfl) (Nat.le_of_ble_eq_true rfl) (Nat.le_of_ble_eq_true rfl) ⟨_, _, _, rfl, rfl, by omega, by omega, hI91, (CM.cons S3 (CM.mono S93 (by decide) (by decide)) (by decide) (by decide))⟩

theorem a_X12_plain {d : Nat} {T N : Nat → Nat} {I : IT} {L : LT} {R : RT} {A : Nat → Prop} {r0 : Nat} {n1 : Int32} (hI : IM R r0 I) (H_r0 : (h_MD T N R A) r0) : Ex (d + 7) 295 [.ref r0, .int n1] (T, N, I, L, R) 0 0 (pI T N R (fun x9 I9 L9 => (0 ≤ x9.toInt) ∧ (x9.toInt ≤ 1) ∧ (IM R r0 I9 ∧ CM A R r0 [0] [4, 5] I L I9 L9))) := by
  refine ⟨_, rfl, Nat.le_of_ble_eq_true rfl, fun V C S => ?_⟩
  show V 0 [(0, .ref r0), (1, .int n1)] [] (T, N, I, L, R) 0 0
  have gn1 := rg n1
  obtain ⟨T_r0, A_r0, ⟨r0_1, R_r0_1, H_r0_1⟩, ⟨r0_2, R_r0_2, H_r0_2⟩, ⟨r0_4, R_r0_4, H_r0_4⟩, ⟨r0_5, R_r0_5, H_r0_5⟩, ⟨r0_10, R_r0_10, H_r0_10⟩, ⟨r0_18, R_r0_18, H_r0_18⟩, ⟨r0_20, R_r0_20, H_r0_20⟩, ⟨r0_21, R_r0_21, H_r0_21⟩, ⟨r0_22, R_r0_22, H_r0_22⟩, ⟨r0_23, R_r0_23, H_r0_23⟩, ⟨r0_25, R_r0_25, H_r0_25⟩, ⟨r0_26, R_r0_26, H_r0_26⟩, ⟨r0_27, R_r0_27, H_r0_27⟩, ⟨r0_28, R_r0_28, H_r0_28⟩, ⟨r0_34, R_r0_34, H_r0_34⟩, J_r0, Y_r0⟩ := id H_r0
  have G_r0 : mF T R r0 := ⟨J_r0, Y_r0, T_r0⟩
  refine k_aload_n C rfl rfl rfl ?_
  refine z_iconst C (z := 0) rfl rfl rfl (fun x1 ex1 => ?_)
  refine z_pI C rfl rfl rfl T_r0 (Or.inr rfl) rfl (fun I2 uI2 => ?_)
  have hI2 : IM R r0 I2 := IM.fld hI G_r0 ⟨(fun h => absurd h (by decide)), (fun h => absurd h (by decide)), (fun h => absurd h (by decide)), (fun h => absurd h (by decide)), (fun h => absurd h (by decide))⟩ uI2
  have S3 : CM A R r0 [0] [] I L I2 L := CM.f G_r0 A_r0 uI2
  have e4 := u2_e uI2
  refine k_aload_n C rfl rfl rfl ?_
  refine k_aload_n C rfl rfl rfl ?_
  refine k_iload_n C rfl rfl rfl ?_
  refine c_VI C (a_X12_noForm hI2 H_r0) rfl rfl rfl rfl rfl ⟨_, rfl, rfl, T_r0, Nat.le_of_ble_eq_true rfl⟩ rfl rfl (Nat.le_of_ble_eq_true rfl) (Nat.le_of_ble_eq_true rfl) (Nat.le_of_ble_eq_true rfl) ?_
  rintro x5 _ _ ⟨o0x5, o1x5, p0x5, rfl, rfl⟩
  have p0x5 := p0x5 r0_1 R_r0_1
  have gx5 := rg x5
  obtain ⟨x6, e7⟩ : ∃ x, I2 r0_1 1 = x := ⟨_, rfl⟩
  have gx6 := rg x6
  have ox6 := IM.c1 hI2 R_r0_1 e7
  try simp only [e4, e7] at p0x5
  try have q0x5 := congrArg Int32.toInt p0x5
  refine z_iconst C (z := 1) rfl rfl rfl (fun x8 ex8 => ?_)
  have q9 : x8.toNatClampNeg = 1 := nck (by omega)
  refine c_VI C (a_X12_throwsIf hI2 H_r0 (by omega) (by omega)) rfl rfl rfl rfl rfl ⟨_, rfl, rfl, T_r0, Nat.le_of_ble_eq_true rfl⟩ rfl rfl (Nat.le_of_ble_eq_true rfl) (Nat.le_of_ble_eq_true rfl) (Nat.le_of_ble_eq_true rfl) ?_
  rintro x10 I11 L12 ⟨o0x10, o1x10, p0x10, hI11, S13⟩
  have e15 := CM.j S13 R_r0_1 (by decide) e7
  have gx10 := rg x10
  try simp only [q9, e4, e7] at p0x10
  try have q0x10 := congrArg Int32.toInt p0x10
  refine b_if_eq C (t := 20) rfl rfl rfl (fun c16 => ?_) (fun c16 => ?_)
  · skip
    refine k_aload_n C rfl rfl rfl ?_
    refine z_bipush C (z := 44) rfl rfl rfl (fun x17 ex17 => ?_)
    refine k_iload_n C rfl rfl rfl ?_
    obtain ⟨x18, e19⟩ : ∃ x, I11 r0_1 (6 + 10 * n1.toNatClampNeg) = x := ⟨_, rfl⟩
    have gx18 := rg x18
    obtain ⟨x20, e21⟩ : ∃ x, I11 r0_1 0 = x := ⟨_, rfl⟩
    have gx20 := rg x20
    have ox20 := IM.pi hI11 R_r0_1 e21
    have q22 : x17.toNatClampNeg = 44 := nck (by omega)
    refine c_VV C (a_X12_takes hI11 H_r0 (by omega) (by omega) (by omega) (by omega)) rfl rfl rfl rfl rfl ⟨_, rfl, rfl, T_r0, Nat.le_of_ble_eq_true rfl⟩ rfl rfl (Nat.le_of_ble_eq_true rfl) (Nat.le_of_ble_eq_true rfl) (Nat.le_of_ble_eq_true rfl) ?_
    rintro I24 L25 ⟨p0v23, p1v23, p2v23, p3v23, p4v23, hI24, S26⟩
    have p0v23 := p0v23 r0_4 R_r0_4
    have p1v23 := p1v23 r0_1 r0_4 R_r0_1 R_r0_4
    have p2v23 := p2v23 r0_1 r0_4 r0_5 R_r0_1 R_r0_4 R_r0_5
    have p3v23 := p3v23 r0_4 R_r0_4
    have p4v23 := p4v23 r0_5 R_r0_5
    try simp only [q22] at p3v23
    try simp only [q22] at p4v23
    have e27 := CM.j S26 R_r0_1 (by decide) e15
    have e28 := CM.j S26 R_r0_1 (by decide) e19
    have e29 := CM.j S26 R_r0_1 (by decide) e21
    obtain ⟨x30, e31⟩ : ∃ x, I24 r0_4 44 = x := ⟨_, rfl⟩
    have gx30 := rg x30
    have ox30 := IM.dgR hI24 R_r0_4 e31
    try simp only [q22, e15, e19, e21, e31] at p0v23
    try have q0v23 := congrArg Int32.toInt p0v23
    try simp only [q22, e15, e19, e21, e31] at p1v23
    try have q1v23 := congrArg Int32.toInt p1v23
    try simp only [q22, e15, e19, e21, e31] at p2v23
    try have q2v23 := congrArg Int32.toInt p2v23
    refine k_aload_n C rfl rfl rfl ?_
    refine g_R C rfl rfl rfl T_r0 rfl R_r0_4 ?_
    refine z_bipush C (z := 44) rfl rfl rfl (fun x32 ex32 => ?_)
    obtain ⟨T_r0_4, N_r0_4, A_r0_4⟩ := id H_r0_4
    refine a_I C rfl rfl T_r0_4 (by rw [N_r0_4]; exact vpi (by omega) (by omega)) ((congrArg (I24 r0_4) (nck (n := 44) (by omega))).trans e31) ?_
    refine z_iconst C (z := 2) rfl rfl rfl (fun x33 ex33 => ?_)
    refine b_icmp_lt C (t := 47) rfl rfl rfl (fun c34 => ?_) (fun c34 => ?_)
    · skip
      refine z_iconst C (z := 0) rfl rfl rfl (fun x35 ex35 => ?_)
      exact k_iret C rfl (Or.inr ⟨rfl, z01 (by omega) (by omega)⟩) (Nat.le_of_ble_eq_true rfl) (Nat.le_of_ble_eq_true rfl) ⟨_, _, _, rfl, rfl, by omega, by omega, hI24, (CM.cons S3 (CM.cons S13 (CM.mono S26 (by decide) (by decide)) (by decide) (by decide)) (by decide) (by decide))⟩
    refine k_aload_n C rfl rfl rfl ?_
    refine z_bipush C (z := 44) rfl rfl rfl (fun x36 ex36 => ?_)
    have q37 : x36.toNatClampNeg = 44 := nck (by omega)
    refine c_VI C (a_X12_isNought hI24 H_r0 (by omega) (by omega)) rfl rfl rfl rfl rfl ⟨_, rfl, rfl, T_r0, Nat.le_of_ble_eq_true rfl⟩ rfl rfl (Nat.le_of_ble_eq_true rfl) (Nat.le_of_ble_eq_true rfl) (Nat.le_of_ble_eq_true rfl) ?_
    rintro x38 _ _ ⟨o0x38, o1x38, p0x38, rfl, rfl⟩
    have p0x38 := p0x38 r0_4 r0_5 R_r0_4 R_r0_5
    have gx38 := rg x38
    try simp only [q37, e27, e28, e29, e31] at p0x38
    try have q0x38 := congrArg Int32.toInt p0x38
    refine b_if_eq C (t := 49) rfl rfl rfl (fun c39 => ?_) (fun c39 => ?_)
    · skip
      refine k_aload_n C rfl rfl rfl ?_
      refine z_bipush C (z := 44) rfl rfl rfl (fun x40 ex40 => ?_)
      refine z_iconst C (z := 1) rfl rfl rfl (fun x41 ex41 => ?_)
      refine z_iconst C (z := 0) rfl rfl rfl (fun x42 ex42 => ?_)
      refine z_bipush C (z := 40) rfl rfl rfl (fun x43 ex43 => ?_)
      have q44 : x40.toNatClampNeg = 44 := nck (by omega)
      have q45 : x41.toNatClampNeg = 1 := nck (by omega)
      have q46 : x42.toNatClampNeg = 0 := nck (by omega)
      have q47 : x43.toNatClampNeg = 40 := nck (by omega)
      refine c_VV C (a_X12_differentiates hI24 H_r0 (by omega) (by omega) (by omega) (by omega) (by omega) (by omega) (by omega) (by omega) (by first | omega | (simp only [q44, q45, q46, q47, e27, e28, e29, e31] <;> omega)) (fun a4 h4 => by cases (R_r0_4.symm.trans h4); first | omega | (simp only [q44, q45, q46, q47, e27, e28, e29, e31] <;> omega))) rfl rfl rfl rfl rfl ⟨_, rfl, rfl, T_r0, Nat.le_of_ble_eq_true rfl⟩ rfl rfl (Nat.le_of_ble_eq_true rfl) (Nat.le_of_ble_eq_true rfl) (Nat.le_of_ble_eq_true rfl) ?_
      rintro I49 L50 ⟨p0v48, p1v48, p2v48, p3v48, hI49, S51⟩
      have p0v48 := p0v48 r0_4 R_r0_4
      have p1v48 := p1v48 r0_1 r0_4 r0_5 R_r0_1 R_r0_4 R_r0_5
      have p2v48 := p2v48 r0_4 R_r0_4
      have p3v48 := p3v48 r0_5 R_r0_5
      try simp only [q44, q45, q46, q47] at p2v48
      try simp only [q44, q45, q46, q47] at p3v48
      have e52 := CM.j S51 R_r0_1 (by decide) e27
      have e53 := CM.j S51 R_r0_1 (by decide) e28
      have e54 := CM.j S51 R_r0_1 (by decide) e29
      have e55 := (p2v48 44 (by first | decide | exact ncne (by omega) (by omega) (by omega) | exact nckn (by omega) (by omega) | exact (nckn (by omega) (by omega)).symm)).trans e31
      obtain ⟨x56, e57⟩ : ∃ x, I49 r0_4 40 = x := ⟨_, rfl⟩
      have gx56 := rg x56
      have ox56 := IM.dgR hI49 R_r0_4 e57
      try simp only [q44, q45, q46, q47, e27, e28, e29, e31, e57] at p0v48
      try have q0v48 := congrArg Int32.toInt p0v48
      try simp only [q44, q45, q46, q47, e27, e28, e29, e31, e57] at p1v48
      try have q1v48 := congrArg Int32.toInt p1v48
      have hA := p1v48
      refine k_aload_n C rfl rfl rfl ?_
      refine z_bipush C (z := 44) rfl rfl rfl (fun x58 ex58 => ?_)
      refine z_iconst C (z := 0) rfl rfl rfl (fun x59 ex59 => ?_)
      refine z_iconst C (z := 1) rfl rfl rfl (fun x60 ex60 => ?_)
      refine z_bipush C (z := 41) rfl rfl rfl (fun x61 ex61 => ?_)
      have q62 : x58.toNatClampNeg = 44 := nck (by omega)
      have q63 : x59.toNatClampNeg = 0 := nck (by omega)
      have q64 : x60.toNatClampNeg = 1 := nck (by omega)
      have q65 : x61.toNatClampNeg = 41 := nck (by omega)
      refine c_VV C (a_X12_differentiates hI49 H_r0 (by omega) (by omega) (by omega) (by omega) (by omega) (by omega) (by omega) (by omega) (by first | omega | (simp only [q62, q63, q64, q65, e52, e53, e54, e55, e57] <;> omega)) (fun a4 h4 => by cases (R_r0_4.symm.trans h4); first | omega | (simp only [q62, q63, q64, q65, e52, e53, e54, e55, e57] <;> omega))) rfl rfl rfl rfl rfl ⟨_, rfl, rfl, T_r0, Nat.le_of_ble_eq_true rfl⟩ rfl rfl (Nat.le_of_ble_eq_true rfl) (Nat.le_of_ble_eq_true rfl) (Nat.le_of_ble_eq_true rfl) ?_
      rintro I67 L68 ⟨p0v66, p1v66, p2v66, p3v66, hI67, S69⟩
      have p0v66 := p0v66 r0_4 R_r0_4
      have p1v66 := p1v66 r0_1 r0_4 r0_5 R_r0_1 R_r0_4 R_r0_5
      have p2v66 := p2v66 r0_4 R_r0_4
      have p3v66 := p3v66 r0_5 R_r0_5
      try simp only [q62, q63, q64, q65] at p2v66
      try simp only [q62, q63, q64, q65] at p3v66
      have e70 := CM.j S69 R_r0_1 (by decide) e52
      have e71 := CM.j S69 R_r0_1 (by decide) e53
      have e72 := CM.j S69 R_r0_1 (by decide) e54
      have e73 := (p2v66 44 (by first | decide | exact ncne (by omega) (by omega) (by omega) | exact nckn (by omega) (by omega) | exact (nckn (by omega) (by omega)).symm)).trans e55
      have e74 := (p2v66 40 (by first | decide | exact ncne (by omega) (by omega) (by omega) | exact nckn (by omega) (by omega) | exact (nckn (by omega) (by omega)).symm)).trans e57
      obtain ⟨x75, e76⟩ : ∃ x, I67 r0_4 41 = x := ⟨_, rfl⟩
      have gx75 := rg x75
      have ox75 := IM.dgR hI67 R_r0_4 e76
      try simp only [q62, q63, q64, q65, e52, e53, e54, e55, e57, e76] at p0v66
      try have q0v66 := congrArg Int32.toInt p0v66
      try simp only [q62, q63, q64, q65, e52, e53, e54, e55, e57, e76] at p1v66
      try have q1v66 := congrArg Int32.toInt p1v66
      have hB := p1v66
      have hA := QN.sm hA (fun k hk => p3v66 _ (by omega)) (by omega)
      refine k_aload_n C rfl rfl rfl ?_
      refine z_bipush C (z := 40) rfl rfl rfl (fun x77 ex77 => ?_)
      have q78 : x77.toNatClampNeg = 40 := nck (by omega)
      refine c_VI C (a_X12_isNought hI67 H_r0 (by omega) (by omega)) rfl rfl rfl rfl rfl ⟨_, rfl, rfl, T_r0, Nat.le_of_ble_eq_true rfl⟩ rfl rfl (Nat.le_of_ble_eq_true rfl) (Nat.le_of_ble_eq_true rfl) (Nat.le_of_ble_eq_true rfl) ?_
      rintro x79 _ _ ⟨o0x79, o1x79, p0x79, rfl, rfl⟩
      have p0x79 := p0x79 r0_4 r0_5 R_r0_4 R_r0_5
      have gx79 := rg x79
      try simp only [q78, e70, e71, e72, e73, e74, e76] at p0x79
      try have q0x79 := congrArg Int32.toInt p0x79
      have zA := p0x79
      refine b_if_ne C (t := 87) rfl rfl rfl (fun c80 => ?_) (fun c80 => ?_)
      · skip
        refine z_iconst C (z := 0) rfl rfl rfl (fun x81 ex81 => ?_)
        exact k_iret C rfl (Or.inr ⟨rfl, z01 (by omega) (by omega)⟩) (Nat.le_of_ble_eq_true rfl) (Nat.le_of_ble_eq_true rfl) ⟨_, _, _, rfl, rfl, by omega, by omega, hI67, (CM.cons S3 (CM.cons S13 (CM.cons S26 (CM.cons S51 (CM.mono S69 (by decide) (by decide)) (by decide) (by decide)) (by decide) (by decide)) (by decide) (by decide)) (by decide) (by decide))⟩
      refine k_aload_n C rfl rfl rfl ?_
      refine z_bipush C (z := 41) rfl rfl rfl (fun x82 ex82 => ?_)
      have q83 : x82.toNatClampNeg = 41 := nck (by omega)
      refine c_VI C (a_X12_isNought hI67 H_r0 (by omega) (by omega)) rfl rfl rfl rfl rfl ⟨_, rfl, rfl, T_r0, Nat.le_of_ble_eq_true rfl⟩ rfl rfl (Nat.le_of_ble_eq_true rfl) (Nat.le_of_ble_eq_true rfl) (Nat.le_of_ble_eq_true rfl) ?_
      rintro x84 _ _ ⟨o0x84, o1x84, p0x84, rfl, rfl⟩
      have p0x84 := p0x84 r0_4 r0_5 R_r0_4 R_r0_5
      have gx84 := rg x84
      try simp only [q83, e70, e71, e72, e73, e74, e76] at p0x84
      try have q0x84 := congrArg Int32.toInt p0x84
      have zB := p0x84
      refine b_if_eq C (t := 89) rfl rfl rfl (fun c85 => ?_) (fun c85 => ?_)
      · skip
        refine k_aload_n C rfl rfl rfl ?_
        refine c_VV C (a_X12_commons hI67 H_r0 (fun a4 h4 => by cases (R_r0_4.symm.trans h4); first | omega | (simp only [e70, e71, e72, e73, e74, e76] <;> omega)) (fun a4 h4 => by cases (R_r0_4.symm.trans h4); first | omega | (simp only [e70, e71, e72, e73, e74, e76] <;> omega)) (fun a4 a5 h4 h5 => by cases (R_r0_4.symm.trans h4); cases (R_r0_5.symm.trans h5); simp only [e70, e71, e72, e73, e74, e76]; exact zA (by omega)) (fun a4 a5 h4 h5 => by cases (R_r0_4.symm.trans h4); cases (R_r0_5.symm.trans h5); simp only [e70, e71, e72, e73, e74, e76]; exact zB (by omega)) (fun a1 a4 a5 h1 h4 h5 => by cases (R_r0_1.symm.trans h1); cases (R_r0_4.symm.trans h4); cases (R_r0_5.symm.trans h5); simp only [e70, e71, e72, e73, e74, e76]; exact hA) (fun a1 a4 a5 h1 h4 h5 => by cases (R_r0_1.symm.trans h1); cases (R_r0_4.symm.trans h4); cases (R_r0_5.symm.trans h5); simp only [e70, e71, e72, e73, e74, e76]; exact hB)) rfl rfl rfl rfl rfl ⟨_, rfl, rfl, T_r0, Nat.le_of_ble_eq_true rfl⟩ rfl rfl (Nat.le_of_ble_eq_true rfl) (Nat.le_of_ble_eq_true rfl) (Nat.le_of_ble_eq_true rfl) ?_
        rintro I87 L88 ⟨hI87, S89⟩
        have e90 := CM.j S89 R_r0_1 (by decide) e70
        have e91 := CM.j S89 R_r0_1 (by decide) e71
        have e92 := CM.j S89 R_r0_1 (by decide) e72
        refine k_aload_n C rfl rfl rfl ?_
        refine g_R C rfl rfl rfl T_r0 rfl R_r0_4 ?_
        refine z_bipush C (z := 40) rfl rfl rfl (fun x96 ex96 => ?_)
        refine z_aI C rfl rfl T_r0_4 N_r0_4 (by omega) (by omega) (fun x97 ex97 => ?_)
        have gx97 := rg x97
        have nx97 : I87 r0_4 40 = x97 := (congrArg (I87 r0_4) (nck (n := 40) (by omega))).symm.trans ex97
        have ox97 := IM.dgR hI87 R_r0_4 nx97
        refine b_if_ne C (t := 107) rfl rfl rfl (fun c98 => ?_) (fun c98 => ?_)
        · skip
          refine z_iconst C (z := 0) rfl rfl rfl (fun x99 ex99 => ?_)
          exact k_iret C rfl (Or.inr ⟨rfl, z01 (by omega) (by omega)⟩) (Nat.le_of_ble_eq_true rfl) (Nat.le_of_ble_eq_true rfl) ⟨_, _, _, rfl, rfl, by omega, by omega, hI87, (CM.cons S3 (CM.cons S13 (CM.cons S26 (CM.cons S51 (CM.cons S69 (CM.mono S89 (by decide) (by decide)) (by decide) (by decide)) (by decide) (by decide)) (by decide) (by decide)) (by decide) (by decide)) (by decide) (by decide))⟩
        refine z_iconst C (z := 1) rfl rfl rfl (fun x100 ex100 => ?_)
        refine k_goto C (pc2 := 108) rfl rfl ?_
        exact k_iret C rfl (Or.inr ⟨rfl, z01 (by omega) (by omega)⟩) (Nat.le_of_ble_eq_true rfl) (Nat.le_of_ble_eq_true rfl) ⟨_, _, _, rfl, rfl, by omega, by omega, hI87, (CM.cons S3 (CM.cons S13 (CM.cons S26 (CM.cons S51 (CM.cons S69 (CM.mono S89 (by decide) (by decide)) (by decide) (by decide)) (by decide) (by decide)) (by decide) (by decide)) (by decide) (by decide)) (by decide) (by decide))⟩
      refine z_iconst C (z := 0) rfl rfl rfl (fun x101 ex101 => ?_)
      exact k_iret C rfl (Or.inr ⟨rfl, z01 (by omega) (by omega)⟩) (Nat.le_of_ble_eq_true rfl) (Nat.le_of_ble_eq_true rfl) ⟨_, _, _, rfl, rfl, by omega, by omega, hI67, (CM.cons S3 (CM.cons S13 (CM.cons S26 (CM.cons S51 (CM.mono S69 (by decide) (by decide)) (by decide) (by decide)) (by decide) (by decide)) (by decide) (by decide)) (by decide) (by decide))⟩
    refine z_iconst C (z := 0) rfl rfl rfl (fun x102 ex102 => ?_)
    exact k_iret C rfl (Or.inr ⟨rfl, z01 (by omega) (by omega)⟩) (Nat.le_of_ble_eq_true rfl) (Nat.le_of_ble_eq_true rfl) ⟨_, _, _, rfl, rfl, by omega, by omega, hI24, (CM.cons S3 (CM.cons S13 (CM.mono S26 (by decide) (by decide)) (by decide) (by decide)) (by decide) (by decide))⟩
  refine z_iconst C (z := 0) rfl rfl rfl (fun x103 ex103 => ?_)
  exact k_iret C rfl (Or.inr ⟨rfl, z01 (by omega) (by omega)⟩) (Nat.le_of_ble_eq_true rfl) (Nat.le_of_ble_eq_true rfl) ⟨_, _, _, rfl, rfl, by omega, by omega, hI11, (CM.cons S3 (CM.mono S13 (by decide) (by decide)) (by decide) (by decide))⟩

theorem a_X12_hasQuotient {d : Nat} {T N : Nat → Nat} {I : IT} {L : LT} {R : RT} {A : Nat → Prop} {r0 : Nat} (hI : IM R r0 I) (H_r0 : (h_MD T N R A) r0) (hp0 : ∀ a4, R r0 4 = some a4 → (I a4 40).toInt ≤ 8) (hp1 : ∀ a4, R r0 4 = some a4 → (I a4 41).toInt ≤ 8) (hp2 : ∀ a1 a4 a5, R r0 1 = some a1 → R r0 4 = some a4 → R r0 5 = some a5 → QN I a5 40 ((I a4 40).toInt + 1) (I a1 0).toInt) (hp3 : ∀ a1 a4 a5, R r0 1 = some a1 → R r0 4 = some a4 → R r0 5 = some a5 → QN I a5 41 ((I a4 41).toInt + 1) (I a1 0).toInt) : Ex (d + 6) 293 [.ref r0] (T, N, I, L, R) 0 0 (pI T N R (fun x9 I9 L9 => (0 ≤ x9.toInt) ∧ (x9.toInt ≤ 1) ∧ (IM R r0 I9 ∧ CM A R r0 [] [4, 5] I L I9 L9))) := by
  refine ⟨_, rfl, Nat.le_of_ble_eq_true rfl, fun V C S => ?_⟩
  show V 0 [(0, .ref r0)] [] (T, N, I, L, R) 0 0
  obtain ⟨T_r0, A_r0, ⟨r0_1, R_r0_1, H_r0_1⟩, ⟨r0_2, R_r0_2, H_r0_2⟩, ⟨r0_4, R_r0_4, H_r0_4⟩, ⟨r0_5, R_r0_5, H_r0_5⟩, ⟨r0_10, R_r0_10, H_r0_10⟩, ⟨r0_18, R_r0_18, H_r0_18⟩, ⟨r0_20, R_r0_20, H_r0_20⟩, ⟨r0_21, R_r0_21, H_r0_21⟩, ⟨r0_22, R_r0_22, H_r0_22⟩, ⟨r0_23, R_r0_23, H_r0_23⟩, ⟨r0_25, R_r0_25, H_r0_25⟩, ⟨r0_26, R_r0_26, H_r0_26⟩, ⟨r0_27, R_r0_27, H_r0_27⟩, ⟨r0_28, R_r0_28, H_r0_28⟩, ⟨r0_34, R_r0_34, H_r0_34⟩, J_r0, Y_r0⟩ := id H_r0
  have G_r0 : mF T R r0 := ⟨J_r0, Y_r0, T_r0⟩
  obtain ⟨w_r0_4_40, k0_r0_4_40⟩ : ∃ x, I r0_4 40 = x := ⟨_, rfl⟩
  have gw_r0_4_40 := rg w_r0_4_40
  have ow_r0_4_40 := IM.dgR hI R_r0_4 k0_r0_4_40
  obtain ⟨w_r0_4_41, k0_r0_4_41⟩ : ∃ x, I r0_4 41 = x := ⟨_, rfl⟩
  have gw_r0_4_41 := rg w_r0_4_41
  have ow_r0_4_41 := IM.dgR hI R_r0_4 k0_r0_4_41
  obtain ⟨w_r0_1_0, k0_r0_1_0⟩ : ∃ x, I r0_1 0 = x := ⟨_, rfl⟩
  have gw_r0_1_0 := rg w_r0_1_0
  have ow_r0_1_0 := IM.pi hI R_r0_1 k0_r0_1_0
  have hp0 := hp0 r0_4 R_r0_4
  have hp1 := hp1 r0_4 R_r0_4
  have hp2 := hp2 r0_1 r0_4 r0_5 R_r0_1 R_r0_4 R_r0_5
  have hp3 := hp3 r0_1 r0_4 r0_5 R_r0_1 R_r0_4 R_r0_5
  try simp only [k0_r0_4_40, k0_r0_4_41, k0_r0_1_0] at hp0
  try simp only [k0_r0_4_40, k0_r0_4_41, k0_r0_1_0] at hp1
  try simp only [k0_r0_4_40, k0_r0_4_41, k0_r0_1_0] at hp2
  try simp only [k0_r0_4_40, k0_r0_4_41, k0_r0_1_0] at hp3
  refine k_aload_n C rfl rfl rfl ?_
  refine z_bipush C (z := 41) rfl rfl rfl (fun x1 ex1 => ?_)
  have q2 : x1.toNatClampNeg = 41 := nck (by omega)
  refine c_VI C (a_X12_isNought hI H_r0 (by omega) (by omega)) rfl rfl rfl rfl rfl ⟨_, rfl, rfl, T_r0, Nat.le_of_ble_eq_true rfl⟩ rfl rfl (Nat.le_of_ble_eq_true rfl) (Nat.le_of_ble_eq_true rfl) (Nat.le_of_ble_eq_true rfl) ?_
  rintro x3 _ _ ⟨o0x3, o1x3, p0x3, rfl, rfl⟩
  have p0x3 := p0x3 r0_4 r0_5 R_r0_4 R_r0_5
  have gx3 := rg x3
  try simp only [q2, k0_r0_4_40, k0_r0_4_41, k0_r0_1_0] at p0x3
  try have q0x3 := congrArg Int32.toInt p0x3
  have zB := p0x3
  refine b_if_ne C (t := 26) rfl rfl rfl (fun c4 => ?_) (fun c4 => ?_)
  · skip
    refine z_iconst C (z := 0) rfl rfl rfl (fun x5 ex5 => ?_)
    exact k_iret C rfl (Or.inr ⟨rfl, z01 (by omega) (by omega)⟩) (Nat.le_of_ble_eq_true rfl) (Nat.le_of_ble_eq_true rfl) ⟨_, _, _, rfl, rfl, by omega, by omega, hI, CM.rf⟩
  refine k_aload_n C rfl rfl rfl ?_
  refine g_R C rfl rfl rfl T_r0 rfl R_r0_4 ?_
  refine z_bipush C (z := 40) rfl rfl rfl (fun x6 ex6 => ?_)
  obtain ⟨T_r0_4, N_r0_4, A_r0_4⟩ := id H_r0_4
  refine a_I C rfl rfl T_r0_4 (by rw [N_r0_4]; exact vpi (by omega) (by omega)) ((congrArg (I r0_4) (nck (n := 40) (by omega))).trans k0_r0_4_40) ?_
  refine k_aload_n C rfl rfl rfl ?_
  refine g_R C rfl rfl rfl T_r0 rfl R_r0_4 ?_
  refine z_bipush C (z := 41) rfl rfl rfl (fun x7 ex7 => ?_)
  refine a_I C rfl rfl T_r0_4 (by rw [N_r0_4]; exact vpi (by omega) (by omega)) ((congrArg (I r0_4) (nck (n := 41) (by omega))).trans k0_r0_4_41) ?_
  refine b_icmp_ge C (t := 28) rfl rfl rfl (fun c8 => ?_) (fun c8 => ?_)
  · skip
    refine k_aload_n C rfl rfl rfl ?_
    refine g_R C rfl rfl rfl T_r0 rfl R_r0_4 ?_
    refine z_bipush C (z := 40) rfl rfl rfl (fun x9 ex9 => ?_)
    refine a_I C rfl rfl T_r0_4 (by rw [N_r0_4]; exact vpi (by omega) (by omega)) ((congrArg (I r0_4) (nck (n := 40) (by omega))).trans k0_r0_4_40) ?_
    refine k_aload_n C rfl rfl rfl ?_
    refine g_R C rfl rfl rfl T_r0 rfl R_r0_4 ?_
    refine z_bipush C (z := 41) rfl rfl rfl (fun x10 ex10 => ?_)
    refine a_I C rfl rfl T_r0_4 (by rw [N_r0_4]; exact vpi (by omega) (by omega)) ((congrArg (I r0_4) (nck (n := 41) (by omega))).trans k0_r0_4_41) ?_
    refine z_isub C rfl rfl ⟨by omega, by omega⟩ (fun x11 ex11 => ?_)
    refine k_istore_n C (lw := [(1, .int x11), (0, .ref r0)]) rfl rfl (Nat.le_of_ble_eq_true rfl) rfl ?_
    refine k_aload_n C rfl rfl rfl ?_
    refine z_bipush C (z := 40) rfl rfl rfl (fun x12 ex12 => ?_)
    have q13 : x12.toNatClampNeg = 40 := nck (by omega)
    refine c_VI C (a_X12_isNought hI H_r0 (by omega) (by omega)) rfl rfl rfl rfl rfl ⟨_, rfl, rfl, T_r0, Nat.le_of_ble_eq_true rfl⟩ rfl rfl (Nat.le_of_ble_eq_true rfl) (Nat.le_of_ble_eq_true rfl) (Nat.le_of_ble_eq_true rfl) ?_
    rintro x14 _ _ ⟨o0x14, o1x14, p0x14, rfl, rfl⟩
    have p0x14 := p0x14 r0_4 r0_5 R_r0_4 R_r0_5
    have gx14 := rg x14
    try simp only [q13, k0_r0_4_40, k0_r0_4_41, k0_r0_1_0] at p0x14
    try have q0x14 := congrArg Int32.toInt p0x14
    have zA := p0x14
    refine b_if_eq C (t := 62) rfl rfl rfl (fun c15 => ?_) (fun c15 => ?_)
    · skip
      refine k_aload_n C rfl rfl rfl ?_
      refine z_bipush C (z := 40) rfl rfl rfl (fun x16 ex16 => ?_)
      have q17 : x16.toNatClampNeg = 40 := nck (by omega)
      refine c_VI C (a_X12_strips hI H_r0 (by omega) (by omega) (fun a4 a5 h4 h5 => by cases (R_r0_4.symm.trans h4); cases (R_r0_5.symm.trans h5); simp only [q17, k0_r0_4_40, k0_r0_4_41, k0_r0_1_0]; exact zA (by omega))) rfl rfl rfl rfl rfl ⟨_, rfl, rfl, T_r0, Nat.le_of_ble_eq_true rfl⟩ rfl rfl (Nat.le_of_ble_eq_true rfl) (Nat.le_of_ble_eq_true rfl) (Nat.le_of_ble_eq_true rfl) ?_
      rintro x18 I19 L20 ⟨p0x18, p1x18, p2x18, p3x18, p4x18, p5x18, hI19, S21⟩
      have p0x18 := p0x18 r0_4 R_r0_4
      have p1x18 := p1x18 r0_4 R_r0_4
      have p2x18 := p2x18 r0_5 R_r0_5
      have p3x18 := p3x18 r0_4 r0_5 R_r0_4 R_r0_5
      have p4x18 := p4x18 r0_4 R_r0_4
      have p5x18 := p5x18 r0_5 R_r0_5
      try simp only [q17] at p4x18
      try simp only [q17] at p5x18
      have e23 := (p4x18 41 (by first | decide | exact ncne (by omega) (by omega) (by omega) | exact nckn (by omega) (by omega) | exact (nckn (by omega) (by omega)).symm)).trans k0_r0_4_41
      have e24 := CM.j S21 R_r0_1 (by decide) k0_r0_1_0
      have gx18 := rg x18
      obtain ⟨x25, e26⟩ : ∃ x, I19 r0_4 40 = x := ⟨_, rfl⟩
      have gx25 := rg x25
      have ox25 := IM.dgR hI19 R_r0_4 e26
      try simp only [q17, k0_r0_4_40, k0_r0_4_41, k0_r0_1_0, e26] at p0x18
      try have q0x18 := congrArg Int32.toInt p0x18
      try simp only [q17, k0_r0_4_40, k0_r0_4_41, k0_r0_1_0, e26] at p1x18
      try have q1x18 := congrArg Int32.toInt p1x18
      try simp only [q17, k0_r0_4_40, k0_r0_4_41, k0_r0_1_0, e26] at p2x18
      try have q2x18 := congrArg Int32.toInt p2x18
      try simp only [q17, k0_r0_4_40, k0_r0_4_41, k0_r0_1_0, e26] at p3x18
      try have q3x18 := congrArg Int32.toInt p3x18
      have hA := QN.st hp2 p3x18 (by omega)
      have hB := QN.sm hp3 (fun k hk => p5x18 _ (by omega)) (by omega)
      have zB := NZ.sm (zB (by omega)) (fun k hk => p5x18 _ (by omega)) (by omega)
      refine k_aload_n C rfl rfl rfl ?_
      refine z_bipush C (z := 41) rfl rfl rfl (fun x27 ex27 => ?_)
      have q28 : x27.toNatClampNeg = 41 := nck (by omega)
      refine c_VI C (a_X12_strips hI19 H_r0 (by omega) (by omega) (fun a4 a5 h4 h5 => by cases (R_r0_4.symm.trans h4); cases (R_r0_5.symm.trans h5); simp only [q28, e23, e24, e26]; exact zB)) rfl rfl rfl rfl rfl ⟨_, rfl, rfl, T_r0, Nat.le_of_ble_eq_true rfl⟩ rfl rfl (Nat.le_of_ble_eq_true rfl) (Nat.le_of_ble_eq_true rfl) (Nat.le_of_ble_eq_true rfl) ?_
      rintro x29 I30 L31 ⟨p0x29, p1x29, p2x29, p3x29, p4x29, p5x29, hI30, S32⟩
      have p0x29 := p0x29 r0_4 R_r0_4
      have p1x29 := p1x29 r0_4 R_r0_4
      have p2x29 := p2x29 r0_5 R_r0_5
      have p3x29 := p3x29 r0_4 r0_5 R_r0_4 R_r0_5
      have p4x29 := p4x29 r0_4 R_r0_4
      have p5x29 := p5x29 r0_5 R_r0_5
      try simp only [q28] at p4x29
      try simp only [q28] at p5x29
      have e34 := CM.j S32 R_r0_1 (by decide) e24
      have e35 := (p4x29 40 (by first | decide | exact ncne (by omega) (by omega) (by omega) | exact nckn (by omega) (by omega) | exact (nckn (by omega) (by omega)).symm)).trans e26
      have gx29 := rg x29
      obtain ⟨x36, e37⟩ : ∃ x, I30 r0_4 41 = x := ⟨_, rfl⟩
      have gx36 := rg x36
      have ox36 := IM.dgR hI30 R_r0_4 e37
      try simp only [q28, e23, e24, e26, e37] at p0x29
      try have q0x29 := congrArg Int32.toInt p0x29
      try simp only [q28, e23, e24, e26, e37] at p1x29
      try have q1x29 := congrArg Int32.toInt p1x29
      try simp only [q28, e23, e24, e26, e37] at p2x29
      try have q2x29 := congrArg Int32.toInt p2x29
      try simp only [q28, e23, e24, e26, e37] at p3x29
      try have q3x29 := congrArg Int32.toInt p3x29
      have hB := QN.st hB p3x29 (by omega)
      have nB := STP.ne p3x29 p2x29 (by omega) (by omega)
      have hA := QN.sm hA (fun k hk => p5x29 _ (by omega)) (by omega)
      refine z_isub C rfl rfl ⟨by omega, by omega⟩ (fun x38 ex38 => ?_)
      refine k_istore_n C (lw := [(2, .int x38), (1, .int x11), (0, .ref r0)]) rfl rfl (Nat.le_of_ble_eq_true rfl) rfl ?_
      refine k_iload_n C rfl rfl rfl ?_
      refine b_if_lt C (t := 97) rfl rfl rfl (fun c39 => ?_) (fun c39 => ?_)
      · skip
        refine z_iconst C (z := 0) rfl rfl rfl (fun x40 ex40 => ?_)
        exact k_iret C rfl (Or.inr ⟨rfl, z01 (by omega) (by omega)⟩) (Nat.le_of_ble_eq_true rfl) (Nat.le_of_ble_eq_true rfl) ⟨_, _, _, rfl, rfl, by omega, by omega, hI30, (CM.cons S21 (CM.mono S32 (by decide) (by decide)) (by decide) (by decide))⟩
      refine k_aload_n C rfl rfl rfl ?_
      refine g_R C rfl rfl rfl T_r0 rfl R_r0_4 ?_
      refine z_bipush C (z := 40) rfl rfl rfl (fun x41 ex41 => ?_)
      refine a_I C rfl rfl T_r0_4 (by rw [N_r0_4]; exact vpi (by omega) (by omega)) ((congrArg (I30 r0_4) (nck (n := 40) (by omega))).trans e35) ?_
      refine k_aload_n C rfl rfl rfl ?_
      refine g_R C rfl rfl rfl T_r0 rfl R_r0_4 ?_
      refine z_bipush C (z := 41) rfl rfl rfl (fun x42 ex42 => ?_)
      refine a_I C rfl rfl T_r0_4 (by rw [N_r0_4]; exact vpi (by omega) (by omega)) ((congrArg (I30 r0_4) (nck (n := 41) (by omega))).trans e37) ?_
      refine b_icmp_ge C (t := 99) rfl rfl rfl (fun c43 => ?_) (fun c43 => ?_)
      · skip
        refine k_aload_n C rfl rfl rfl ?_
        refine z_bipush C (z := 40) rfl rfl rfl (fun x44 ex44 => ?_)
        refine z_bipush C (z := 41) rfl rfl rfl (fun x45 ex45 => ?_)
        refine z_bipush C (z := 43) rfl rfl rfl (fun x46 ex46 => ?_)
        have q47 : x44.toNatClampNeg = 40 := nck (by omega)
        have q48 : x45.toNatClampNeg = 41 := nck (by omega)
        have q49 : x46.toNatClampNeg = 43 := nck (by omega)
        refine c_VV C (a_X12_divides hI30 H_r0 (by omega) (by omega) (by omega) (by omega) (by omega) (by omega) (fun a4 h4 => by cases (R_r0_4.symm.trans h4); first | omega | (simp only [q47, q48, q49, e34, e35, e37] <;> omega)) (fun a5 h5 => by cases (R_r0_5.symm.trans h5); exact nB) (fun a1 a5 h1 h5 => by cases (R_r0_1.symm.trans h1); cases (R_r0_5.symm.trans h5); simp only [q47, q48, q49, e34, e35, e37]; exact QN.le hB (by omega)) (fun a1 a4 a5 h1 h4 h5 => by cases (R_r0_1.symm.trans h1); cases (R_r0_4.symm.trans h4); cases (R_r0_5.symm.trans h5); simp only [q47, q48, q49, e34, e35, e37]; exact QN.le hA (by omega))) rfl rfl rfl rfl rfl ⟨_, rfl, rfl, T_r0, Nat.le_of_ble_eq_true rfl⟩ rfl rfl (Nat.le_of_ble_eq_true rfl) (Nat.le_of_ble_eq_true rfl) (Nat.le_of_ble_eq_true rfl) ?_
        rintro I51 L52 ⟨p0v50, p1v50, p2v50, p3v50, p4v50, hI51, S53⟩
        have p0v50 := p0v50 r0_4 r0_5 R_r0_4 R_r0_5
        have p1v50 := p1v50 r0_1 r0_4 r0_5 R_r0_1 R_r0_4 R_r0_5
        have p2v50 := p2v50 r0_4 R_r0_4
        have p3v50 := p3v50 r0_4 R_r0_4
        have p4v50 := p4v50 r0_5 R_r0_5
        try simp only [q47, q48, q49] at p3v50
        try simp only [q47, q48, q49] at p4v50
        have e54 := CM.j S53 R_r0_1 (by decide) e34
        have e55 := (p3v50 40 (by first | decide | exact ncne (by omega) (by omega) (by omega) | exact nckn (by omega) (by omega) | exact (nckn (by omega) (by omega)).symm)).trans e35
        have e56 := (p3v50 41 (by first | decide | exact ncne (by omega) (by omega) (by omega) | exact nckn (by omega) (by omega) | exact (nckn (by omega) (by omega)).symm)).trans e37
        obtain ⟨x57, e58⟩ : ∃ x, I51 r0_4 43 = x := ⟨_, rfl⟩
        have gx57 := rg x57
        have ox57 := IM.dgR hI51 R_r0_4 e58
        try simp only [q47, q48, q49, e34, e35, e37, e58] at p0v50
        try have q0v50 := congrArg Int32.toInt p0v50
        try simp only [q47, q48, q49, e34, e35, e37, e58] at p1v50
        try have q1v50 := congrArg Int32.toInt p1v50
        try simp only [q47, q48, q49, e34, e35, e37, e58] at p2v50
        try have q2v50 := congrArg Int32.toInt p2v50
        refine k_aload_n C rfl rfl rfl ?_
        refine z_bipush C (z := 40) rfl rfl rfl (fun x59 ex59 => ?_)
        have q60 : x59.toNatClampNeg = 40 := nck (by omega)
        refine c_VI C (a_X12_isNought hI51 H_r0 (by omega) (by omega)) rfl rfl rfl rfl rfl ⟨_, rfl, rfl, T_r0, Nat.le_of_ble_eq_true rfl⟩ rfl rfl (Nat.le_of_ble_eq_true rfl) (Nat.le_of_ble_eq_true rfl) (Nat.le_of_ble_eq_true rfl) ?_
        rintro x61 _ _ ⟨o0x61, o1x61, p0x61, rfl, rfl⟩
        have p0x61 := p0x61 r0_4 r0_5 R_r0_4 R_r0_5
        have gx61 := rg x61
        try simp only [q60, e54, e55, e56, e58] at p0x61
        try have q0x61 := congrArg Int32.toInt p0x61
        refine b_if_ne C (t := 120) rfl rfl rfl (fun c62 => ?_) (fun c62 => ?_)
        · skip
          refine k_aload_n C rfl rfl rfl ?_
          refine z_bipush C (z := 42) rfl rfl rfl (fun x63 ex63 => ?_)
          refine k_iload_n C rfl rfl rfl ?_
          have q64 : x63.toNatClampNeg = 42 := nck (by omega)
          refine c_VV C (a_X12_clears hI51 H_r0 (by omega) (by omega) (by omega) (by omega)) rfl rfl rfl rfl rfl ⟨_, rfl, rfl, T_r0, Nat.le_of_ble_eq_true rfl⟩ rfl rfl (Nat.le_of_ble_eq_true rfl) (Nat.le_of_ble_eq_true rfl) (Nat.le_of_ble_eq_true rfl) ?_
          rintro I66 L67 ⟨p0v65, p1v65, p2v65, p3v65, hI66, S68⟩
          have p0v65 := p0v65 r0_4 R_r0_4
          have p1v65 := p1v65 r0_5 R_r0_5
          have p2v65 := p2v65 r0_4 R_r0_4
          have p3v65 := p3v65 r0_5 R_r0_5
          try simp only [q64] at p2v65
          try simp only [q64] at p3v65
          have e69 := CM.j S68 R_r0_1 (by decide) e54
          have e70 := (p2v65 40 (by first | decide | exact ncne (by omega) (by omega) (by omega) | exact nckn (by omega) (by omega) | exact (nckn (by omega) (by omega)).symm)).trans e55
          have e71 := (p2v65 41 (by first | decide | exact ncne (by omega) (by omega) (by omega) | exact nckn (by omega) (by omega) | exact (nckn (by omega) (by omega)).symm)).trans e56
          have e72 := (p2v65 43 (by first | decide | exact ncne (by omega) (by omega) (by omega) | exact nckn (by omega) (by omega) | exact (nckn (by omega) (by omega)).symm)).trans e58
          obtain ⟨x73, e74⟩ : ∃ x, I66 r0_4 42 = x := ⟨_, rfl⟩
          have gx73 := rg x73
          have ox73 := IM.dgR hI66 R_r0_4 e74
          try simp only [q64, e54, e55, e56, e58, e74] at p0v65
          try have q0v65 := congrArg Int32.toInt p0v65
          try simp only [q64, e54, e55, e56, e58, e74] at p1v65
          try have q1v65 := congrArg Int32.toInt p1v65
          refine z_iconst C (z := 0) rfl rfl rfl (fun x75 ex75 => ?_)
          have J76 : ∀ (nn77 : Nat) (I78 : IT) (L79 : LT) (x80 : Int32), (MN (41 - x80.toInt) nn77) → (IM R r0 I78) → (CM A R r0 [] [5] I66 L67 I78 L79) → (0 ≤ x80.toInt) → (x80.toInt ≤ 41) → V 129 [(0, .ref r0), (2, .int x38), (3, .int x80)] [] (T, N, I78, L79, R) 0 0 := by
            intro nn77
            induction nn77 using Nat.strongRecOn with
            | _ nn77 ihJ76 =>
              intro I78 L79 x80 hmnn77 hI84 S83 b81 b82
              have gx80 := rg x80
              have e85 := CM.j S83 R_r0_1 (by decide) e69
              have e86 := CM.j S83 R_r0_4 (by decide) e70
              have e87 := CM.j S83 R_r0_4 (by decide) e71
              have e88 := CM.j S83 R_r0_4 (by decide) e72
              have e89 := CM.j S83 R_r0_4 (by decide) e74
              refine k_iload_n C rfl rfl rfl ?_
              refine k_aload_n C rfl rfl rfl ?_
              refine g_R C rfl rfl rfl T_r0 rfl R_r0_4 ?_
              refine z_bipush C (z := 43) rfl rfl rfl (fun x90 ex90 => ?_)
              refine a_I C rfl rfl T_r0_4 (by rw [N_r0_4]; exact vpi (by omega) (by omega)) ((congrArg (I78 r0_4) (nck (n := 43) (by omega))).trans e88) ?_
              refine b_icmp_gt C (t := 162) rfl rfl rfl (fun c91 => ?_) (fun c91 => ?_)
              · skip
                refine z_iconst C (z := 1) rfl rfl rfl (fun x92 ex92 => ?_)
                exact k_iret C rfl (Or.inr ⟨rfl, z01 (by omega) (by omega)⟩) (Nat.le_of_ble_eq_true rfl) (Nat.le_of_ble_eq_true rfl) ⟨_, _, _, rfl, rfl, by omega, by omega, hI84, (CM.cons S21 (CM.cons S32 (CM.cons S53 (CM.cons S68 (CM.mono S83 (by decide) (by decide)) (by decide) (by decide)) (by decide) (by decide)) (by decide) (by decide)) (by decide) (by decide))⟩
              refine k_aload_n C rfl rfl rfl ?_
              refine z_bipush C (z := 42) rfl rfl rfl (fun x93 ex93 => ?_)
              refine k_iload_n C rfl rfl rfl ?_
              refine k_iload_n C rfl rfl rfl ?_
              refine z_iadd C rfl rfl ⟨by omega, by omega⟩ (fun x94 ex94 => ?_)
              refine k_aload_n C rfl rfl rfl ?_
              refine z_bipush C (z := 43) rfl rfl rfl (fun x95 ex95 => ?_)
              refine k_iload_n C rfl rfl rfl ?_
              have q96 : x95.toNatClampNeg = 43 := nck (by omega)
              refine c_VI C (a_X12_of hI84 H_r0 (by omega) (by omega) (by omega) (by omega)) rfl rfl rfl rfl rfl ⟨_, rfl, rfl, T_r0, Nat.le_of_ble_eq_true rfl⟩ rfl rfl (Nat.le_of_ble_eq_true rfl) (Nat.le_of_ble_eq_true rfl) (Nat.le_of_ble_eq_true rfl) ?_
              rintro x97 _ _ ⟨o0x97, o1x97, p0x97, rfl, rfl⟩
              have p0x97 := p0x97 r0_5 R_r0_5
              have gx97 := rg x97
              try simp only [q96, e85, e86, e87, e88, e89] at p0x97
              try have q0x97 := congrArg Int32.toInt p0x97
              have q98 : x93.toNatClampNeg = 42 := nck (by omega)
              refine c_VV C (a_X12_put hI84 H_r0 (by omega) (by omega) (by omega) (by omega) (by omega) (by omega)) rfl rfl rfl rfl rfl ⟨_, rfl, rfl, T_r0, Nat.le_of_ble_eq_true rfl⟩ rfl rfl (Nat.le_of_ble_eq_true rfl) (Nat.le_of_ble_eq_true rfl) (Nat.le_of_ble_eq_true rfl) ?_
              rintro I100 L101 ⟨p0v99, p1v99, hI100, S102⟩
              have p0v99 := p0v99 r0_5 R_r0_5
              have p1v99 := p1v99 r0_5 R_r0_5
              try simp only [q98] at p1v99
              have e103 := CM.j S102 R_r0_1 (by decide) e85
              have e104 := CM.j S102 R_r0_4 (by decide) e86
              have e105 := CM.j S102 R_r0_4 (by decide) e87
              have e106 := CM.j S102 R_r0_4 (by decide) e88
              have e107 := CM.j S102 R_r0_4 (by decide) e89
              try simp only [q98, e85, e86, e87, e88, e89] at p0v99
              try have q0v99 := congrArg Int32.toInt p0v99
              refine z_iinc C (z := 1) (lw := fun x108 => [(3, .int x108), (0, .ref r0), (2, .int x38)]) rfl rfl rfl (Nat.le_of_ble_eq_true rfl) rfl ⟨by omega, by omega⟩ (fun _ => rfl) (fun x108 ex108 => ?_)
              show V 159 [(3, .int x108), (0, .ref r0), (2, .int x38)] _ _ _ _
              refine k_goto C (pc2 := 129) rfl rfl ?_
              refine k_sub S [(0, .ref r0), (2, .int x38), (3, .int x108)] (List.forall_mem_cons.mpr ⟨List.mem_of_getElem? (i := 1) rfl, List.forall_mem_cons.mpr ⟨List.mem_of_getElem? (i := 2) rfl, List.forall_mem_cons.mpr ⟨List.mem_of_getElem? (i := 0) rfl, fun _ h => nomatch h⟩⟩⟩) ?_
              exact ihJ76 _ (MN.lt hmnn77 (by omega) (by omega)) I100 L101 x108 rfl hI100 (CM.cons S83 (CM.mono S102 (by decide) (by decide)) (by decide) (by decide)) (by omega) (by omega)
          refine k_istore_n C (lw := [(3, .int x75), (2, .int x38), (1, .int x11), (0, .ref r0)]) rfl rfl (Nat.le_of_ble_eq_true rfl) rfl ?_
          refine k_sub S [(0, .ref r0), (2, .int x38), (3, .int x75)] (List.forall_mem_cons.mpr ⟨List.mem_of_getElem? (i := 3) rfl, List.forall_mem_cons.mpr ⟨List.mem_of_getElem? (i := 1) rfl, List.forall_mem_cons.mpr ⟨List.mem_of_getElem? (i := 0) rfl, fun _ h => nomatch h⟩⟩⟩) ?_
          exact J76 _ I66 L67 x75 rfl hI66 CM.rf (by omega) (by omega)
        refine z_iconst C (z := 0) rfl rfl rfl (fun x109 ex109 => ?_)
        exact k_iret C rfl (Or.inr ⟨rfl, z01 (by omega) (by omega)⟩) (Nat.le_of_ble_eq_true rfl) (Nat.le_of_ble_eq_true rfl) ⟨_, _, _, rfl, rfl, by omega, by omega, hI51, (CM.cons S21 (CM.cons S32 (CM.mono S53 (by decide) (by decide)) (by decide) (by decide)) (by decide) (by decide))⟩
      refine z_iconst C (z := 0) rfl rfl rfl (fun x110 ex110 => ?_)
      exact k_iret C rfl (Or.inr ⟨rfl, z01 (by omega) (by omega)⟩) (Nat.le_of_ble_eq_true rfl) (Nat.le_of_ble_eq_true rfl) ⟨_, _, _, rfl, rfl, by omega, by omega, hI30, (CM.cons S21 (CM.mono S32 (by decide) (by decide)) (by decide) (by decide))⟩
    refine k_aload_n C rfl rfl rfl ?_
    refine z_bipush C (z := 42) rfl rfl rfl (fun x111 ex111 => ?_)
    refine k_iload_n C rfl rfl rfl ?_
    have q112 : x111.toNatClampNeg = 42 := nck (by omega)
    refine c_VV C (a_X12_clears hI H_r0 (by omega) (by omega) (by omega) (by omega)) rfl rfl rfl rfl rfl ⟨_, rfl, rfl, T_r0, Nat.le_of_ble_eq_true rfl⟩ rfl rfl (Nat.le_of_ble_eq_true rfl) (Nat.le_of_ble_eq_true rfl) (Nat.le_of_ble_eq_true rfl) ?_
    rintro I114 L115 ⟨p0v113, p1v113, p2v113, p3v113, hI114, S116⟩
    have p0v113 := p0v113 r0_4 R_r0_4
    have p1v113 := p1v113 r0_5 R_r0_5
    have p2v113 := p2v113 r0_4 R_r0_4
    have p3v113 := p3v113 r0_5 R_r0_5
    try simp only [q112] at p2v113
    try simp only [q112] at p3v113
    have e117 := (p2v113 40 (by first | decide | exact ncne (by omega) (by omega) (by omega) | exact nckn (by omega) (by omega) | exact (nckn (by omega) (by omega)).symm)).trans k0_r0_4_40
    have e118 := (p2v113 41 (by first | decide | exact ncne (by omega) (by omega) (by omega) | exact nckn (by omega) (by omega) | exact (nckn (by omega) (by omega)).symm)).trans k0_r0_4_41
    have e119 := CM.j S116 R_r0_1 (by decide) k0_r0_1_0
    obtain ⟨x120, e121⟩ : ∃ x, I114 r0_4 42 = x := ⟨_, rfl⟩
    have gx120 := rg x120
    have ox120 := IM.dgR hI114 R_r0_4 e121
    try simp only [q112, k0_r0_4_40, k0_r0_4_41, k0_r0_1_0, e121] at p0v113
    try have q0v113 := congrArg Int32.toInt p0v113
    try simp only [q112, k0_r0_4_40, k0_r0_4_41, k0_r0_1_0, e121] at p1v113
    try have q1v113 := congrArg Int32.toInt p1v113
    refine z_iconst C (z := 1) rfl rfl rfl (fun x122 ex122 => ?_)
    exact k_iret C rfl (Or.inr ⟨rfl, z01 (by omega) (by omega)⟩) (Nat.le_of_ble_eq_true rfl) (Nat.le_of_ble_eq_true rfl) ⟨_, _, _, rfl, rfl, by omega, by omega, hI114, (CM.mono S116 (by decide) (by decide))⟩
  refine z_iconst C (z := 0) rfl rfl rfl (fun x123 ex123 => ?_)
  exact k_iret C rfl (Or.inr ⟨rfl, z01 (by omega) (by omega)⟩) (Nat.le_of_ble_eq_true rfl) (Nat.le_of_ble_eq_true rfl) ⟨_, _, _, rfl, rfl, by omega, by omega, hI, CM.rf⟩

theorem a_X12_quotient {d : Nat} {T N : Nat → Nat} {I : IT} {L : LT} {R : RT} {A : Nat → Prop} {r0 : Nat} {n1 n2 n3 : Int32} (hI : IM R r0 I) (H_r0 : (h_MD T N R A) r0) : Ex (d + 7) 294 [.ref r0, .int n1, .int n2, .int n3] (T, N, I, L, R) 0 0 (pI T N R (fun x9 I9 L9 => (-18 ≤ x9.toInt) ∧ (x9.toInt ≤ 40) ∧ (IM R r0 I9 ∧ CM A R r0 [0] [4, 5] I L I9 L9))) := by
  refine ⟨_, rfl, Nat.le_of_ble_eq_true rfl, fun V C S => ?_⟩
  show V 0 [(0, .ref r0), (1, .int n1), (2, .int n2), (3, .int n3)] [] (T, N, I, L, R) 0 0
  have gn1 := rg n1
  have gn2 := rg n2
  have gn3 := rg n3
  obtain ⟨T_r0, A_r0, ⟨r0_1, R_r0_1, H_r0_1⟩, ⟨r0_2, R_r0_2, H_r0_2⟩, ⟨r0_4, R_r0_4, H_r0_4⟩, ⟨r0_5, R_r0_5, H_r0_5⟩, ⟨r0_10, R_r0_10, H_r0_10⟩, ⟨r0_18, R_r0_18, H_r0_18⟩, ⟨r0_20, R_r0_20, H_r0_20⟩, ⟨r0_21, R_r0_21, H_r0_21⟩, ⟨r0_22, R_r0_22, H_r0_22⟩, ⟨r0_23, R_r0_23, H_r0_23⟩, ⟨r0_25, R_r0_25, H_r0_25⟩, ⟨r0_26, R_r0_26, H_r0_26⟩, ⟨r0_27, R_r0_27, H_r0_27⟩, ⟨r0_28, R_r0_28, H_r0_28⟩, ⟨r0_34, R_r0_34, H_r0_34⟩, J_r0, Y_r0⟩ := id H_r0
  have G_r0 : mF T R r0 := ⟨J_r0, Y_r0, T_r0⟩
  refine k_aload_n C rfl rfl rfl ?_
  refine z_iconst C (z := 0) rfl rfl rfl (fun x1 ex1 => ?_)
  refine z_pI C rfl rfl rfl T_r0 (Or.inr rfl) rfl (fun I2 uI2 => ?_)
  have hI2 : IM R r0 I2 := IM.fld hI G_r0 ⟨(fun h => absurd h (by decide)), (fun h => absurd h (by decide)), (fun h => absurd h (by decide)), (fun h => absurd h (by decide)), (fun h => absurd h (by decide))⟩ uI2
  have S3 : CM A R r0 [0] [] I L I2 L := CM.f G_r0 A_r0 uI2
  have e4 := u2_e uI2
  refine k_aload_n C rfl rfl rfl ?_
  refine k_aload_n C rfl rfl rfl ?_
  refine k_iload_n C rfl rfl rfl ?_
  refine c_VI C (a_X12_noForm hI2 H_r0) rfl rfl rfl rfl rfl ⟨_, rfl, rfl, T_r0, Nat.le_of_ble_eq_true rfl⟩ rfl rfl (Nat.le_of_ble_eq_true rfl) (Nat.le_of_ble_eq_true rfl) (Nat.le_of_ble_eq_true rfl) ?_
  rintro x5 _ _ ⟨o0x5, o1x5, p0x5, rfl, rfl⟩
  have p0x5 := p0x5 r0_1 R_r0_1
  have gx5 := rg x5
  obtain ⟨x6, e7⟩ : ∃ x, I2 r0_1 1 = x := ⟨_, rfl⟩
  have gx6 := rg x6
  have ox6 := IM.c1 hI2 R_r0_1 e7
  try simp only [e4, e7] at p0x5
  try have q0x5 := congrArg Int32.toInt p0x5
  refine b_if_ne C (t := 22) rfl rfl rfl (fun c8 => ?_) (fun c8 => ?_)
  · skip
    refine z_iconst C (z := 1) rfl rfl rfl (fun x9 ex9 => ?_)
    refine k_goto C (pc2 := 27) rfl rfl ?_
    refine z_iconst C (z := 1) rfl rfl rfl (fun x10 ex10 => ?_)
    have q11 : x9.toNatClampNeg = 1 := nck (by omega)
    have q12 : x10.toNatClampNeg = 1 := nck (by omega)
    refine c_VI C (a_X12_throwsIf hI2 H_r0 (by omega) (by omega)) rfl rfl rfl rfl rfl ⟨_, rfl, rfl, T_r0, Nat.le_of_ble_eq_true rfl⟩ rfl rfl (Nat.le_of_ble_eq_true rfl) (Nat.le_of_ble_eq_true rfl) (Nat.le_of_ble_eq_true rfl) ?_
    rintro x13 I14 L15 ⟨o0x13, o1x13, p0x13, hI14, S16⟩
    have e18 := CM.j S16 R_r0_1 (by decide) e7
    have gx13 := rg x13
    try simp only [q11, q12, e4, e7] at p0x13
    try have q0x13 := congrArg Int32.toInt p0x13
    refine b_if_eq C (t := 36) rfl rfl rfl (fun c19 => by exfalso; omega) (fun c19 => ?_)
    refine z_iconst C (z := 0) rfl rfl rfl (fun x20 ex20 => ?_)
    exact k_iret C rfl (Or.inl rfl) (Nat.le_of_ble_eq_true rfl) (Nat.le_of_ble_eq_true rfl) ⟨_, _, _, rfl, rfl, by omega, by omega, hI14, (CM.cons S3 (CM.mono S16 (by decide) (by decide)) (by decide) (by decide))⟩
  refine k_aload_n C rfl rfl rfl ?_
  refine k_iload_n C rfl rfl rfl ?_
  refine c_VI C (a_X12_noForm hI2 H_r0) rfl rfl rfl rfl rfl ⟨_, rfl, rfl, T_r0, Nat.le_of_ble_eq_true rfl⟩ rfl rfl (Nat.le_of_ble_eq_true rfl) (Nat.le_of_ble_eq_true rfl) (Nat.le_of_ble_eq_true rfl) ?_
  rintro x21 _ _ ⟨o0x21, o1x21, p0x21, rfl, rfl⟩
  have p0x21 := p0x21 r0_1 R_r0_1
  have gx21 := rg x21
  try simp only [e4, e7, e7] at p0x21
  try have q0x21 := congrArg Int32.toInt p0x21
  refine b_if_eq C (t := 26) rfl rfl rfl (fun c22 => ?_) (fun c22 => ?_)
  · skip
    refine z_iconst C (z := 0) rfl rfl rfl (fun x23 ex23 => ?_)
    refine z_iconst C (z := 1) rfl rfl rfl (fun x24 ex24 => ?_)
    have q25 : x23.toNatClampNeg = 0 := nck (by omega)
    have q26 : x24.toNatClampNeg = 1 := nck (by omega)
    refine c_VI C (a_X12_throwsIf hI2 H_r0 (by omega) (by omega)) rfl rfl rfl rfl rfl ⟨_, rfl, rfl, T_r0, Nat.le_of_ble_eq_true rfl⟩ rfl rfl (Nat.le_of_ble_eq_true rfl) (Nat.le_of_ble_eq_true rfl) (Nat.le_of_ble_eq_true rfl) ?_
    rintro x27 I28 L29 ⟨o0x27, o1x27, p0x27, hI28, S30⟩
    have e32 := CM.j S30 R_r0_1 (by decide) e7
    have gx27 := rg x27
    try simp only [q25, q26, e4, e7] at p0x27
    try have q0x27 := congrArg Int32.toInt p0x27
    refine b_if_eq C (t := 36) rfl rfl rfl (fun c33 => ?_) (fun c33 => by exfalso; omega)
    refine k_aload_n C rfl rfl rfl ?_
    refine z_bipush C (z := 40) rfl rfl rfl (fun x34 ex34 => ?_)
    refine k_iload_n C rfl rfl rfl ?_
    obtain ⟨x35, e36⟩ : ∃ x, I28 r0_1 (6 + 10 * n1.toNatClampNeg) = x := ⟨_, rfl⟩
    have gx35 := rg x35
    obtain ⟨x37, e38⟩ : ∃ x, I28 r0_1 0 = x := ⟨_, rfl⟩
    have gx37 := rg x37
    have ox37 := IM.pi hI28 R_r0_1 e38
    have q39 : x34.toNatClampNeg = 40 := nck (by omega)
    refine c_VV C (a_X12_takes hI28 H_r0 (by omega) (by omega) (by omega) (by omega)) rfl rfl rfl rfl rfl ⟨_, rfl, rfl, T_r0, Nat.le_of_ble_eq_true rfl⟩ rfl rfl (Nat.le_of_ble_eq_true rfl) (Nat.le_of_ble_eq_true rfl) (Nat.le_of_ble_eq_true rfl) ?_
    rintro I41 L42 ⟨p0v40, p1v40, p2v40, p3v40, p4v40, hI41, S43⟩
    have p0v40 := p0v40 r0_4 R_r0_4
    have p1v40 := p1v40 r0_1 r0_4 R_r0_1 R_r0_4
    have p2v40 := p2v40 r0_1 r0_4 r0_5 R_r0_1 R_r0_4 R_r0_5
    have p3v40 := p3v40 r0_4 R_r0_4
    have p4v40 := p4v40 r0_5 R_r0_5
    try simp only [q39] at p3v40
    try simp only [q39] at p4v40
    have e44 := CM.j S43 R_r0_1 (by decide) e32
    have e45 := CM.j S43 R_r0_1 (by decide) e36
    have e46 := CM.j S43 R_r0_1 (by decide) e38
    obtain ⟨x47, e48⟩ : ∃ x, I41 r0_4 40 = x := ⟨_, rfl⟩
    have gx47 := rg x47
    have ox47 := IM.dgR hI41 R_r0_4 e48
    try simp only [q39, e32, e36, e38, e48] at p0v40
    try have q0v40 := congrArg Int32.toInt p0v40
    try simp only [q39, e32, e36, e38, e48] at p1v40
    try have q1v40 := congrArg Int32.toInt p1v40
    try simp only [q39, e32, e36, e38, e48] at p2v40
    try have q2v40 := congrArg Int32.toInt p2v40
    have hA := p2v40 (by omega)
    refine k_aload_n C rfl rfl rfl ?_
    refine z_bipush C (z := 41) rfl rfl rfl (fun x49 ex49 => ?_)
    refine k_iload_n C rfl rfl rfl ?_
    obtain ⟨x50, e51⟩ : ∃ x, I41 r0_1 (6 + 10 * n2.toNatClampNeg) = x := ⟨_, rfl⟩
    have gx50 := rg x50
    have q52 : x49.toNatClampNeg = 41 := nck (by omega)
    refine c_VV C (a_X12_takes hI41 H_r0 (by omega) (by omega) (by omega) (by omega)) rfl rfl rfl rfl rfl ⟨_, rfl, rfl, T_r0, Nat.le_of_ble_eq_true rfl⟩ rfl rfl (Nat.le_of_ble_eq_true rfl) (Nat.le_of_ble_eq_true rfl) (Nat.le_of_ble_eq_true rfl) ?_
    rintro I54 L55 ⟨p0v53, p1v53, p2v53, p3v53, p4v53, hI54, S56⟩
    have p0v53 := p0v53 r0_4 R_r0_4
    have p1v53 := p1v53 r0_1 r0_4 R_r0_1 R_r0_4
    have p2v53 := p2v53 r0_1 r0_4 r0_5 R_r0_1 R_r0_4 R_r0_5
    have p3v53 := p3v53 r0_4 R_r0_4
    have p4v53 := p4v53 r0_5 R_r0_5
    try simp only [q52] at p3v53
    try simp only [q52] at p4v53
    have e57 := CM.j S56 R_r0_1 (by decide) e44
    have e58 := CM.j S56 R_r0_1 (by decide) e45
    have e59 := CM.j S56 R_r0_1 (by decide) e46
    have e60 := (p3v53 40 (by first | decide | exact ncne (by omega) (by omega) (by omega) | exact nckn (by omega) (by omega) | exact (nckn (by omega) (by omega)).symm)).trans e48
    have e61 := CM.j S56 R_r0_1 (by decide) e51
    obtain ⟨x62, e63⟩ : ∃ x, I54 r0_4 41 = x := ⟨_, rfl⟩
    have gx62 := rg x62
    have ox62 := IM.dgR hI54 R_r0_4 e63
    try simp only [q52, e44, e45, e46, e48, e51, e63] at p0v53
    try have q0v53 := congrArg Int32.toInt p0v53
    try simp only [q52, e44, e45, e46, e48, e51, e63] at p1v53
    try have q1v53 := congrArg Int32.toInt p1v53
    try simp only [q52, e44, e45, e46, e48, e51, e63] at p2v53
    try have q2v53 := congrArg Int32.toInt p2v53
    have hB := p2v53 (by omega)
    have hA := QN.sm hA (fun k hk => p4v53 _ (by omega)) (by omega)
    refine k_aload_n C rfl rfl rfl ?_
    refine c_VI C (a_X12_hasQuotient hI54 H_r0 (fun a4 h4 => by cases (R_r0_4.symm.trans h4); first | omega | (simp only [e57, e58, e59, e60, e61, e63] <;> omega)) (fun a4 h4 => by cases (R_r0_4.symm.trans h4); first | omega | (simp only [e57, e58, e59, e60, e61, e63] <;> omega)) (fun a1 a4 a5 h1 h4 h5 => by cases (R_r0_1.symm.trans h1); cases (R_r0_4.symm.trans h4); cases (R_r0_5.symm.trans h5); simp only [e57, e58, e59, e60, e61, e63]; exact hA) (fun a1 a4 a5 h1 h4 h5 => by cases (R_r0_1.symm.trans h1); cases (R_r0_4.symm.trans h4); cases (R_r0_5.symm.trans h5); simp only [e57, e58, e59, e60, e61, e63]; exact hB)) rfl rfl rfl rfl rfl ⟨_, rfl, rfl, T_r0, Nat.le_of_ble_eq_true rfl⟩ rfl rfl (Nat.le_of_ble_eq_true rfl) (Nat.le_of_ble_eq_true rfl) (Nat.le_of_ble_eq_true rfl) ?_
    rintro x64 I65 L66 ⟨o0x64, o1x64, hI65, S67⟩
    have e68 := CM.j S67 R_r0_1 (by decide) e57
    have e69 := CM.j S67 R_r0_1 (by decide) e58
    have e70 := CM.j S67 R_r0_1 (by decide) e59
    have e72 := CM.j S67 R_r0_1 (by decide) e61
    have gx64 := rg x64
    refine b_if_eq C (t := 67) rfl rfl rfl (fun c74 => ?_) (fun c74 => ?_)
    · skip
      refine z_bipush C (z := -2) rfl rfl rfl (fun x75 ex75 => ?_)
      exact k_iret C rfl (Or.inl rfl) (Nat.le_of_ble_eq_true rfl) (Nat.le_of_ble_eq_true rfl) ⟨_, _, _, rfl, rfl, by omega, by omega, hI65, (CM.cons S3 (CM.cons S30 (CM.cons S43 (CM.cons S56 (CM.mono S67 (by decide) (by decide)) (by decide) (by decide)) (by decide) (by decide)) (by decide) (by decide)) (by decide) (by decide))⟩
    refine k_aload_n C rfl rfl rfl ?_
    refine z_bipush C (z := 42) rfl rfl rfl (fun x76 ex76 => ?_)
    refine k_iload_n C rfl rfl rfl ?_
    refine c_VI C (a_X12_toldOf hI65 H_r0 (by omega) (by omega)) rfl rfl rfl rfl rfl ⟨_, rfl, rfl, T_r0, Nat.le_of_ble_eq_true rfl⟩ rfl rfl (Nat.le_of_ble_eq_true rfl) (Nat.le_of_ble_eq_true rfl) (Nat.le_of_ble_eq_true rfl) ?_
    rintro x77 _ _ ⟨o0x77, o1x77, rfl, rfl⟩
    have gx77 := rg x77
    refine k_goto C (pc2 := 69) rfl rfl ?_
    exact k_iret C rfl (Or.inl rfl) (Nat.le_of_ble_eq_true rfl) (Nat.le_of_ble_eq_true rfl) ⟨_, _, _, rfl, rfl, by omega, by omega, hI65, (CM.cons S3 (CM.cons S30 (CM.cons S43 (CM.cons S56 (CM.mono S67 (by decide) (by decide)) (by decide) (by decide)) (by decide) (by decide)) (by decide) (by decide)) (by decide) (by decide))⟩
  refine z_iconst C (z := 1) rfl rfl rfl (fun x78 ex78 => ?_)
  refine k_goto C (pc2 := 27) rfl rfl ?_
  refine z_iconst C (z := 1) rfl rfl rfl (fun x79 ex79 => ?_)
  have q80 : x78.toNatClampNeg = 1 := nck (by omega)
  have q81 : x79.toNatClampNeg = 1 := nck (by omega)
  refine c_VI C (a_X12_throwsIf hI2 H_r0 (by omega) (by omega)) rfl rfl rfl rfl rfl ⟨_, rfl, rfl, T_r0, Nat.le_of_ble_eq_true rfl⟩ rfl rfl (Nat.le_of_ble_eq_true rfl) (Nat.le_of_ble_eq_true rfl) (Nat.le_of_ble_eq_true rfl) ?_
  rintro x82 I83 L84 ⟨o0x82, o1x82, p0x82, hI83, S85⟩
  have e87 := CM.j S85 R_r0_1 (by decide) e7
  have gx82 := rg x82
  try simp only [q80, q81, e4, e7] at p0x82
  try have q0x82 := congrArg Int32.toInt p0x82
  refine b_if_eq C (t := 36) rfl rfl rfl (fun c88 => by exfalso; omega) (fun c88 => ?_)
  refine z_iconst C (z := 0) rfl rfl rfl (fun x89 ex89 => ?_)
  exact k_iret C rfl (Or.inl rfl) (Nat.le_of_ble_eq_true rfl) (Nat.le_of_ble_eq_true rfl) ⟨_, _, _, rfl, rfl, by omega, by omega, hI83, (CM.cons S3 (CM.mono S85 (by decide) (by decide)) (by decide) (by decide))⟩
end
-- 47.wld.lean.txt
section
/-! the world of the reference: what a write keeps -/
theorem Hgt.eq {g g' : Nat → Int32} {b : Nat} : ∀ j : Nat, (∀ i : Nat, i < j → g' (b + 1 + 2 * i) = g (b + 1 + 2 * i)) → Hgt g' b j = Hgt g b j
  | 0, _ => rfl
  | j + 1, h => by
    show Hgt g' b j + _ = Hgt g b j + _
    rw [Hgt.eq j (fun i hi => h i (by omega)), h j (by omega)]
theorem SGN.eq {g g' : Nat → Int32} {b : Nat} (h : SGN g b) (e : ∀ k : Nat, b ≤ k → k ≤ b + 400 → g' k = g k) : SGN g' b := by
  obtain ⟨h1, h2, h3⟩ := h
  have e0 := e b (by omega) (by omega)
  refine ⟨by rw [e0]; exact h1, by rw [e0]; exact h2, fun j hj => ?_⟩
  rw [e0] at hj
  rw [e (b + 1 + 2 * j) (by omega) (by omega), e (b + 2 + 2 * j) (by omega) (by omega), Hgt.eq j (fun i hi => e _ (by omega) (by omega))]
  exact h3 j hj
theorem WO1.eq {g g' : Nat → Int32} (h : WO1 g) (e : g' 0 = g 0) : WO1 g' := by unfold WO1 at *; rw [e]; exact h
theorem WO2.eq {g g' : Nat → Int32} (h : WO2 g) (e : ∀ k : Nat, 1 ≤ k → k < 6 → g' k = g k) : WO2 g' := by
  unfold WO2 at *; rw [e 1 (by omega) (by omega), e 2 (by omega) (by omega), e 3 (by omega) (by omega), e 4 (by omega) (by omega), e 5 (by omega) (by omega)]; exact h
theorem WO3.eq {g g' : Nat → Int32} (h : WO3 g) (e : ∀ k : Nat, 6 ≤ k → k < 166 → g' k = g k) : WO3 g' := fun f hf => by
  rw [e _ (by omega) (by omega)]
  exact ⟨(h f hf).1, (h f hf).2.1, fun k hk => by rw [e _ (by omega) (by omega)]; exact (h f hf).2.2 k hk⟩
theorem WO4.eq {g g' : Nat → Int32} (h : WO4 g) (h2 : WO2 g) (h3 : WO3 g) (e0 : g' 0 = g 0) (e1 : g' 1 = g 1) (e : ∀ k : Nat, 6 ≤ k → k < 166 → g' k = g k) : WO4 g' := fun f hf k hk => by
  rw [e1] at hf
  have a1 := h2.1
  rw [e (6 + 10 * f) (by omega) (by omega)] at hk
  have a3 := h3 f (by omega)
  rw [e (6 + 10 * f + 1 + k) (by omega) (by omega), e0]; exact h f hf k hk
theorem WO5.eq {g g' : Nat → Int32} (h : WO5 g) (e : ∀ k : Nat, 166 ≤ k → k < 198 → g' k = g k) : WO5 g' := fun t ht => by rw [e _ (by omega) (by omega)]; exact h t ht
theorem WO6.eq {g g' : Nat → Int32} (h : WO6 g) (h2 : WO2 g) (e3 : g' 3 = g 3) (e : ∀ k : Nat, 198 ≤ k → k < 3406 → g' k = g k) : WO6 g' := fun s hs => by
  rw [e3] at hs
  have a1 := h2.2.2.1
  exact (h s hs).eq (fun k h1 h3 => e k (by omega) (by omega))
theorem WO7.eq {g g' : Nat → Int32} (h : WO7 g) (e : ∀ k : Nat, 3406 ≤ k → k < 3606 → g' k = g k) : WO7 g' := fun a ha => by
  rw [e _ (by omega) (by omega)]
  exact ⟨(h a ha).1, (h a ha).2.1, fun j h1 h2 => by rw [e _ (by omega) (by omega)]; exact (h a ha).2.2 j h1 h2⟩
theorem WOK.eq {g g' : Nat → Int32} (h : WOK g) (e : ∀ k : Nat, k < 3606 → g' k = g k) : WOK g' := by
  obtain ⟨h1, h2, h3, h4, h5, h6, h7⟩ := h
  exact ⟨h1.eq (e 0 (by omega)), h2.eq (fun k _ hk => e k (by omega)), h3.eq (fun k _ hk => e k (by omega)), h4.eq h2 h3 (e 0 (by omega)) (e 1 (by omega)) (fun k _ hk => e k (by omega)), h5.eq (fun k _ hk => e k (by omega)), h6.eq h2 (e 3 (by omega)) (fun k _ hk => e k (by omega)), h7.eq (fun k _ hk => e k (by omega))⟩
theorem WOS.eq {g g' : Nat → Int32} (h : WOS g) (e : ∀ k : Nat, k < 3606 → g' k = g k) : WOS g' := ⟨h.1.eq e, by rw [e 4 (by omega), e 5 (by omega)]; exact h.2⟩
def SGC (g : Nat → Int32) (j : Nat) : Prop := 0 ≤ (g (3606 + 1 + 2 * j)).toInt ∧ (g (3606 + 1 + 2 * j)).toInt ≤ 5 ∧ 0 ≤ (g (3606 + 2 + 2 * j)).toInt ∧ (g (3606 + 2 + 2 * j)).toInt ≤ 999 ∧ 0 ≤ Hgt g 3606 j ∧ Hgt g 3606 j ≤ 40 ∧ ((g (3606 + 1 + 2 * j)).toInt ≤ 1 → Hgt g 3606 j ≤ 39) ∧ (2 ≤ (g (3606 + 1 + 2 * j)).toInt → (g (3606 + 1 + 2 * j)).toInt ≤ 4 → 2 ≤ Hgt g 3606 j) ∧ ((g (3606 + 1 + 2 * j)).toInt = 5 → 1 ≤ Hgt g 3606 j)
def PD (g : Nat → Int32) (n : Int) : Prop := ∀ j : Nat, (j : Int) < n → SGC g j
theorem PD.z {g : Nat → Int32} {x : Int32} (h : x.toInt = 0) : PD g x.toInt := fun j hj => by omega
def EMT (g g' : Nat → Int32) (s : Nat) (a b : Int32) : Prop := g' (3606 + 1 + 2 * s) = a ∧ g' (3606 + 2 + 2 * s) = b ∧ ∀ j, j ≠ 3606 + 1 + 2 * s → j ≠ 3606 + 2 + 2 * s → g' j = g j
theorem EMT.of {I I1 I2 : IT} {w : Nat} {j1 j2 x1 x2 s : Int32} (e1 : I1 = u2 I w j1.toNatClampNeg x1) (e2 : I2 = u2 I1 w j2.toNatClampNeg x2) (hs : 0 ≤ s.toInt) (h1 : j1.toInt = 3607 + 2 * s.toInt) (h2 : j2.toInt = 3608 + 2 * s.toInt) : EMT (I w) (I2 w) s.toNatClampNeg x1 x2 := by
  subst e1; subst e2
  have a0 := ncz hs
  have a1 := ncz (x := j1) (by omega)
  have a2 := ncz (x := j2) (by omega)
  have b1 : 3606 + 1 + 2 * s.toNatClampNeg = j1.toNatClampNeg := by omega
  have b2 : 3606 + 2 + 2 * s.toNatClampNeg = j2.toNatClampNeg := by omega
  refine ⟨?_, ?_, fun j hj1 hj2 => ?_⟩
  · rw [b1, u2_k (by omega), u2_s]
  · rw [b2, u2_s]
  · rw [u2_k (by omega), u2_k (by omega)]
theorem Hgt.em {g g' : Nat → Int32} {s : Nat} {a b : Int32} (e : EMT g g' s a b) (j : Nat) (hj : j ≤ s) : Hgt g' 3606 j = Hgt g 3606 j := Hgt.eq j (fun i hi => e.2.2 _ (by omega) (by omega))
theorem PD.em {g g' : Nat → Int32} {s s' a b : Int32} (h : PD g s.toInt) (e : EMT g g' s.toNatClampNeg a b) (h0 : 0 ≤ s.toInt) (hs' : s'.toInt = s.toInt + 1) (ha : 0 ≤ a.toInt ∧ a.toInt ≤ 5) (hb : 0 ≤ b.toInt ∧ b.toInt ≤ 999) (hH : 0 ≤ Hgt g 3606 s.toNatClampNeg ∧ Hgt g 3606 s.toNatClampNeg ≤ 40) (c1 : a.toInt ≤ 1 → Hgt g 3606 s.toNatClampNeg ≤ 39) (c2 : 2 ≤ a.toInt → a.toInt ≤ 4 → 2 ≤ Hgt g 3606 s.toNatClampNeg) (c3 : a.toInt = 5 → 1 ≤ Hgt g 3606 s.toNatClampNeg) : PD g' s'.toInt := fun j hj => by
  have a0 := ncz h0
  have hh := Hgt.em e j (by omega)
  unfold SGC
  rw [hh]
  by_cases q : j = s.toNatClampNeg
  · subst q
    rw [e.1, e.2.1]
    exact ⟨ha.1, ha.2, hb.1, hb.2, hH.1, hH.2, c1, c2, c3⟩
  · rw [e.2.2 _ (by omega) (by omega), e.2.2 _ (by omega) (by omega)]
    exact h j (by omega)
theorem Hgt.s' {g g' : Nat → Int32} {s s' a b : Int32} (e : EMT g g' s.toNatClampNeg a b) (h0 : 0 ≤ s.toInt) (hs' : s'.toInt = s.toInt + 1) : Hgt g' 3606 s'.toNatClampNeg = Hgt g 3606 s.toNatClampNeg + (if a.toInt ≤ 1 then 1 else if a.toInt = 5 then 0 else -1) := by
  have a0 := ncz h0
  have a1 := ncz (x := s') (by omega)
  rw [show s'.toNatClampNeg = s.toNatClampNeg + 1 from by omega]
  show Hgt g' 3606 s.toNatClampNeg + _ = _
  rw [Hgt.em e _ (Nat.le_refl _), e.1]
theorem Hgt.e1 {g g' : Nat → Int32} {s s' a b : Int32} (e : EMT g g' s.toNatClampNeg a b) (h0 : 0 ≤ s.toInt) (hs' : s'.toInt = s.toInt + 1) (ha : a.toInt ≤ 1) : Hgt g' 3606 s'.toNatClampNeg = Hgt g 3606 s.toNatClampNeg + 1 := by rw [Hgt.s' e h0 hs', if_pos ha]
theorem Hgt.e5 {g g' : Nat → Int32} {s s' a b : Int32} (e : EMT g g' s.toNatClampNeg a b) (h0 : 0 ≤ s.toInt) (hs' : s'.toInt = s.toInt + 1) (ha : a.toInt = 5) : Hgt g' 3606 s'.toNatClampNeg = Hgt g 3606 s.toNatClampNeg := by rw [Hgt.s' e h0 hs', if_neg (by omega), if_pos ha]; omega
theorem Hgt.e2 {g g' : Nat → Int32} {s s' a b : Int32} (e : EMT g g' s.toNatClampNeg a b) (h0 : 0 ≤ s.toInt) (hs' : s'.toInt = s.toInt + 1) (ha : 2 ≤ a.toInt ∧ a.toInt ≤ 4) : Hgt g' 3606 s'.toNatClampNeg = Hgt g 3606 s.toNatClampNeg - 1 := by rw [Hgt.s' e h0 hs', if_neg (by omega), if_neg (by omega)]; omega
section Wld
variable {I : IT} {w : Nat} {j x : Int32}
/-- a draft cell -/
theorem WOK.dr (h : WOK (I w)) (hj : 3606 ≤ j.toInt) : WOK (u2 I w j.toNatClampNeg x w) := h.eq (fun k hk => u2_k (by have := ncz (x := j) (by omega); omega))
/-- p, while nothing is told -/
theorem WOK.p (h : WOK (I w)) (h1 : (I w 1).toInt ≤ 0) (hx : x.toInt = 11 ∨ x.toInt = 13 ∨ x.toInt = 17 ∨ x.toInt = 19) : WOK (u2 I w 0 x w) := by
  obtain ⟨a1, a2, a3, a4, a5, a6, a7⟩ := h
  have e : ∀ k : Nat, 1 ≤ k → u2 I w 0 x w k = I w k := fun k hk => u2_k (by omega)
  refine ⟨by unfold WO1; rw [u2_s]; exact hx, a2.eq (fun k hk _ => e k hk), a3.eq (fun k hk _ => e k (by omega)), fun f hf k hk => ?_, a5.eq (fun k hk _ => e k (by omega)), a6.eq a2 (e 3 (by omega)) (fun k hk _ => e k (by omega)), a7.eq (fun k hk _ => e k (by omega))⟩
  rw [e 1 (by omega)] at hf; omega
/-- a number of a form -/
theorem WOK.num {f k : Int32} (h : WOK (I w)) (hf : 0 ≤ f.toInt ∧ f.toInt ≤ 15) (hk : 0 ≤ k.toInt ∧ k.toInt ≤ 8) (hj : j.toInt = 6 + 10 * f.toInt + 1 + k.toInt) (h1 : -(I w 0).toInt < x.toInt) (h2 : x.toInt < (I w 0).toInt) : WOK (u2 I w j.toNatClampNeg x w) := by
  obtain ⟨a1, a2, a3, a4, a5, a6, a7⟩ := h
  have f1 := ncz hf.1
  have k1 := ncz hk.1
  have j1 := ncz (x := j) (by omega)
  have p1 : 11 ≤ (I w 0).toInt ∧ (I w 0).toInt ≤ 19 := by unfold WO1 at a1; omega
  have e : ∀ i : Nat, (i < 6 ∨ 166 ≤ i) → u2 I w j.toNatClampNeg x w i = I w i := fun i hi => u2_k (by omega)
  have ed : ∀ f' : Nat, u2 I w j.toNatClampNeg x w (6 + 10 * f') = I w (6 + 10 * f') := fun f' => u2_k (by omega)
  refine ⟨a1.eq (e 0 (by omega)), a2.eq (fun i _ hi => e i (by omega)), fun f' hf' => ?_, fun f' hf' k' hk' => ?_, a5.eq (fun i hi _ => e i (by omega)), a6.eq a2 (e 3 (by omega)) (fun i hi _ => e i (by omega)), a7.eq (fun i hi _ => e i (by omega))⟩
  · rw [ed]
    refine ⟨(a3 f' hf').1, (a3 f' hf').2.1, fun k' hk' => ?_⟩
    by_cases q : 6 + 10 * f' + 1 + k' = j.toNatClampNeg
    · rw [q, u2_s]; omega
    · rw [u2_k q]; exact (a3 f' hf').2.2 k' hk'
  · rw [e 1 (by omega)] at hf'
    rw [ed] at hk'
    rw [e 0 (by omega)]
    by_cases q : 6 + 10 * f' + 1 + k' = j.toNatClampNeg
    · rw [q, u2_s]; exact ⟨h1, h2⟩
    · rw [u2_k q]; exact a4 f' hf' k' hk'
/-- the degree of a form that isn't told yet -/
theorem WOK.dg {f : Int32} (h : WOK (I w)) (hf : (I w 1).toInt ≤ f.toInt ∧ f.toInt ≤ 15) (hj : j.toInt = 6 + 10 * f.toInt) (h1 : 0 ≤ x.toInt) (h2 : x.toInt ≤ 8) : WOK (u2 I w j.toNatClampNeg x w) := by
  obtain ⟨a1, a2, a3, a4, a5, a6, a7⟩ := h
  have c1 := a2.1
  have f1 := ncz (x := f) (by omega)
  have j1 := ncz (x := j) (by omega)
  have e : ∀ i : Nat, (i < 6 ∨ 166 ≤ i) → u2 I w j.toNatClampNeg x w i = I w i := fun i hi => u2_k (by omega)
  refine ⟨a1.eq (e 0 (by omega)), a2.eq (fun i _ hi => e i (by omega)), fun f' hf' => ?_, fun f' hf' k' hk' => ?_, a5.eq (fun i hi _ => e i (by omega)), a6.eq a2 (e 3 (by omega)) (fun i hi _ => e i (by omega)), a7.eq (fun i hi _ => e i (by omega))⟩
  · have hn : ∀ k', k' < 9 → u2 I w j.toNatClampNeg x w (6 + 10 * f' + 1 + k') = I w (6 + 10 * f' + 1 + k') := fun k' hk' => u2_k (by omega)
    by_cases q : 6 + 10 * f' = j.toNatClampNeg
    · have e1 : u2 I w j.toNatClampNeg x w (6 + 10 * f') = x := by rw [q, u2_s]
      rw [e1]; exact ⟨h1, h2, fun k' hk' => by rw [hn k' hk']; exact (a3 f' hf').2.2 k' hk'⟩
    · rw [u2_k q]; exact ⟨(a3 f' hf').1, (a3 f' hf').2.1, fun k' hk' => by rw [hn k' hk']; exact (a3 f' hf').2.2 k' hk'⟩
  · rw [e 1 (by omega)] at hf'
    have b3 := a3 f' (by omega)
    rw [u2_k (show 6 + 10 * f' ≠ j.toNatClampNeg by omega)] at hk'
    rw [e 0 (by omega), u2_k (show 6 + 10 * f' + 1 + k' ≠ j.toNatClampNeg by omega)]
    exact a4 f' hf' k' hk'
/-- one form more -/
theorem WOK.c1 {f : Int32} (h : WOK (I w)) (hf : (I w 1).toInt = f.toInt) (hf2 : f.toInt ≤ 15) (hx : x.toInt = f.toInt + 1) (hn : ∀ k : Nat, (k : Int) ≤ (I w (6 + 10 * f.toNatClampNeg)).toInt → -(I w 0).toInt < (I w (6 + 10 * f.toNatClampNeg + 1 + k)).toInt ∧ (I w (6 + 10 * f.toNatClampNeg + 1 + k)).toInt < (I w 0).toInt) : WOK (u2 I w 1 x w) := by
  obtain ⟨a1, a2, a3, a4, a5, a6, a7⟩ := h
  have c1 := a2.1
  have f1 := ncz (x := f) (by omega)
  have e : ∀ i : Nat, i ≠ 1 → u2 I w 1 x w i = I w i := fun i hi => u2_k hi
  refine ⟨a1.eq (e 0 (by omega)), ?_, a3.eq (fun i hi _ => e i (by omega)), fun f' hf' k' hk' => ?_, a5.eq (fun i hi _ => e i (by omega)), a6.eq a2 (e 3 (by omega)) (fun i hi _ => e i (by omega)), a7.eq (fun i hi _ => e i (by omega))⟩
  · unfold WO2 at *; rw [u2_s, e 2 (by omega), e 3 (by omega), e 4 (by omega), e 5 (by omega)]; omega
  · rw [u2_s] at hf'
    rw [e _ (by omega)] at hk'
    rw [e 0 (by omega), e _ (by omega)]
    by_cases q : f' = f.toNatClampNeg
    · subst q; exact hn k' hk'
    · exact a4 f' (by omega) k' hk'
theorem WOK.c2 (h : WOK (I w)) (h1 : 0 ≤ x.toInt) (h2 : x.toInt ≤ 8) : WOK (u2 I w 2 x w) := by
  obtain ⟨a1, a2, a3, a4, a5, a6, a7⟩ := h
  have e : ∀ i : Nat, i ≠ 2 → u2 I w 2 x w i = I w i := fun i hi => u2_k hi
  refine ⟨a1.eq (e 0 (by omega)), ?_, a3.eq (fun i hi _ => e i (by omega)), a4.eq a2 a3 (e 0 (by omega)) (e 1 (by omega)) (fun i hi _ => e i (by omega)), a5.eq (fun i hi _ => e i (by omega)), a6.eq a2 (e 3 (by omega)) (fun i hi _ => e i (by omega)), a7.eq (fun i hi _ => e i (by omega))⟩
  unfold WO2 at *; rw [u2_s, e 1 (by omega), e 3 (by omega), e 4 (by omega), e 5 (by omega)]; omega
theorem WOK.c3 {s : Int32} (h : WOK (I w)) (hs : (I w 3).toInt = s.toInt) (hs2 : s.toInt ≤ 7) (hx : x.toInt = s.toInt + 1) (hn : SGN (I w) (198 + 401 * s.toNatClampNeg)) : WOK (u2 I w 3 x w) := by
  obtain ⟨a1, a2, a3, a4, a5, a6, a7⟩ := h
  have c1 := a2.2.2.1
  have f1 := ncz (x := s) (by omega)
  have e : ∀ i : Nat, i ≠ 3 → u2 I w 3 x w i = I w i := fun i hi => u2_k hi
  refine ⟨a1.eq (e 0 (by omega)), ?_, a3.eq (fun i hi _ => e i (by omega)), a4.eq a2 a3 (e 0 (by omega)) (e 1 (by omega)) (fun i hi _ => e i (by omega)), a5.eq (fun i hi _ => e i (by omega)), fun t ht => ?_, a7.eq (fun i hi _ => e i (by omega))⟩
  · unfold WO2 at *; rw [u2_s, e 1 (by omega), e 2 (by omega), e 4 (by omega), e 5 (by omega)]; omega
  · rw [u2_s] at ht
    have g1 : SGN (I w) (198 + 401 * t) := by
      by_cases q : t = s.toNatClampNeg
      · subst q; exact hn
      · exact a6 t (by omega)
    exact g1.eq (fun k h1 _ => e k (by omega))
theorem WOK.c4 (h : WOK (I w)) (h1 : 0 ≤ x.toInt) (h2 : x.toInt ≤ 40) : WOK (u2 I w 4 x w) := by
  obtain ⟨a1, a2, a3, a4, a5, a6, a7⟩ := h
  have e : ∀ i : Nat, i ≠ 4 → u2 I w 4 x w i = I w i := fun i hi => u2_k hi
  refine ⟨a1.eq (e 0 (by omega)), ?_, a3.eq (fun i hi _ => e i (by omega)), a4.eq a2 a3 (e 0 (by omega)) (e 1 (by omega)) (fun i hi _ => e i (by omega)), a5.eq (fun i hi _ => e i (by omega)), a6.eq a2 (e 3 (by omega)) (fun i hi _ => e i (by omega)), a7.eq (fun i hi _ => e i (by omega))⟩
  unfold WO2 at *; rw [u2_s, e 1 (by omega), e 2 (by omega), e 3 (by omega), e 5 (by omega)]; omega
theorem WOK.c5 (h : WOK (I w)) (h1 : 0 ≤ x.toInt) (h2 : x.toInt ≤ 40) : WOK (u2 I w 5 x w) := by
  obtain ⟨a1, a2, a3, a4, a5, a6, a7⟩ := h
  have e : ∀ i : Nat, i ≠ 5 → u2 I w 5 x w i = I w i := fun i hi => u2_k hi
  refine ⟨a1.eq (e 0 (by omega)), ?_, a3.eq (fun i hi _ => e i (by omega)), a4.eq a2 a3 (e 0 (by omega)) (e 1 (by omega)) (fun i hi _ => e i (by omega)), a5.eq (fun i hi _ => e i (by omega)), a6.eq a2 (e 3 (by omega)) (fun i hi _ => e i (by omega)), a7.eq (fun i hi _ => e i (by omega))⟩
  unfold WO2 at *; rw [u2_s, e 1 (by omega), e 2 (by omega), e 3 (by omega), e 4 (by omega)]; omega
/-- a number of a table -/
theorem WOK.tab (h : WOK (I w)) (hj : 166 ≤ j.toInt ∧ j.toInt ≤ 197) (h1 : -18 ≤ x.toInt) (h2 : x.toInt ≤ 18) : WOK (u2 I w j.toNatClampNeg x w) := by
  obtain ⟨a1, a2, a3, a4, a5, a6, a7⟩ := h
  have j1 := ncz (x := j) (by omega)
  have e : ∀ i : Nat, (i < 166 ∨ 198 ≤ i) → u2 I w j.toNatClampNeg x w i = I w i := fun i hi => u2_k (by omega)
  refine ⟨a1.eq (e 0 (by omega)), a2.eq (fun i _ hi => e i (by omega)), a3.eq (fun i hi _ => e i (by omega)), a4.eq a2 a3 (e 0 (by omega)) (e 1 (by omega)) (fun i hi _ => e i (by omega)), fun t ht => ?_, a6.eq a2 (e 3 (by omega)) (fun i hi _ => e i (by omega)), a7.eq (fun i hi _ => e i (by omega))⟩
  by_cases q : 166 + t = j.toNatClampNeg
  · rw [q, u2_s]; exact ⟨h1, h2⟩
  · rw [u2_k q]; exact a5 t ht
/-- a cell of an act: its form (c = 0), or a number of its table -/
theorem WOK.act {b c : Int} (h : WOK (I w)) (hb : 0 ≤ b ∧ b < 40) (hc : 0 ≤ c ∧ c < 5) (hj : j.toInt = 3406 + 5 * b + c) (h1 : -18 ≤ x.toInt) (h2 : x.toInt ≤ 18) (h3 : c = 0 → 0 ≤ x.toInt ∧ x.toInt ≤ 15) : WOK (u2 I w j.toNatClampNeg x w) := by
  obtain ⟨a1, a2, a3, a4, a5, a6, a7⟩ := h
  have j1 := ncz (x := j) (by omega)
  have e : ∀ i : Nat, i < 3406 → u2 I w j.toNatClampNeg x w i = I w i := fun i hi => u2_k (by omega)
  refine ⟨a1.eq (e 0 (by omega)), a2.eq (fun i _ hi => e i (by omega)), a3.eq (fun i hi _ => e i (by omega)), a4.eq a2 a3 (e 0 (by omega)) (e 1 (by omega)) (fun i hi _ => e i (by omega)), a5.eq (fun i hi _ => e i (by omega)), a6.eq a2 (e 3 (by omega)) (fun i hi _ => e i (by omega)), fun a ha => ?_⟩
  refine ⟨?_, ?_, fun i hi1 hi2 => ?_⟩
  · by_cases q : 3406 + 5 * a = j.toNatClampNeg
    · rw [q, u2_s]; exact (h3 (by omega)).1
    · rw [u2_k q]; exact (a7 a ha).1
  · by_cases q : 3406 + 5 * a = j.toNatClampNeg
    · rw [q, u2_s]; exact (h3 (by omega)).2
    · rw [u2_k q]; exact (a7 a ha).2.1
  · by_cases q : 3406 + 5 * a + i = j.toNatClampNeg
    · rw [q, u2_s]; exact ⟨h1, h2⟩
    · rw [u2_k q]; exact (a7 a ha).2.2 i hi1 hi2
/-- acts go five cells ahead -/
theorem WOK.sh {k : Int32} (h : WOK (I w)) (hk : 3406 ≤ j.toInt ∧ j.toInt ≤ 3600) (hk2 : k.toInt = j.toInt + 5) (o : I w k.toNatClampNeg = x) : WOK (u2 I w j.toNatClampNeg x w) := by
  have j1 := ncz (x := j) (by omega)
  have k1 := ncz (x := k) (by omega)
  have hm : (j.toInt - 3406) / 5 * 5 + (j.toInt - 3406) % 5 = j.toInt - 3406 := by omega
  have a7 := h.2.2.2.2.2.2 (((j.toInt - 3406) / 5 + 1).toNat) (by omega)
  by_cases q : (j.toInt - 3406) % 5 = 0
  · have q2 : k.toNatClampNeg = 3406 + 5 * ((j.toInt - 3406) / 5 + 1).toNat := by omega
    rw [q2] at o
    rw [o] at a7
    exact h.act (b := (j.toInt - 3406) / 5) (c := (j.toInt - 3406) % 5) (by omega) (by omega) (by omega) (by omega) (by omega) (fun _ => ⟨a7.1, a7.2.1⟩)
  · have q2 : k.toNatClampNeg = 3406 + 5 * ((j.toInt - 3406) / 5 + 1).toNat + ((j.toInt - 3406) % 5).toNat := by omega
    have a8 := a7.2.2 ((j.toInt - 3406) % 5).toNat (by omega) (by omega)
    rw [← q2, o] at a8
    exact h.act (b := (j.toInt - 3406) / 5) (c := (j.toInt - 3406) % 5) (by omega) (by omega) (by omega) a8.1 a8.2 (fun z => absurd z q)
end Wld
end
