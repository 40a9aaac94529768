/-! the reference: tables tried, same, keep, orbit, kind -/
theorem TKE.sm {I1 I' I : IT} {w nu r b : Nat} {D : Int} (h : TKE I1 I w nu r b D) (e : ∀ k, k < 41 → I' nu (41 * r + k) = I1 nu (41 * r + k)) (hD : D ≤ 40) : TKE I' I w nu r b D := fun j hj => by
  show (I' nu _).toInt = _; rw [e j (by omega)]; exact h j hj
theorem TKE.w {I1 I' I : IT} {w nu r b : Nat} {D : Int} (h : TKE I' I1 w nu r b D) (e : I1 w = I w) : TKE I' I w nu r b D := fun j hj => by rw [← e]; exact h j hj
theorem EQR.of {I' I : IT} {w dg nu a b : Nat} {D1 D2 p : Int} (T1 : TKE I' I w nu 40 a D1) (T2 : TKE I' I w nu 41 b D2) (d1 : (I' dg 40).toInt = D1) (d2 : (I' dg 41).toInt = D2) (e : a = b) (hD : D1 = D2) (Q : QN I' nu 40 (D1 + 1) p) : EQR I' dg nu p := by
  subst e; subst hD
  exact ⟨by omega, fun k hk => by rw [T1 k (by omega), T2 k (by omega)], by rw [d1]; exact Q⟩
theorem EQR.nq {I : IT} {dg nu : Nat} {p : Int} (E : EQR I dg nu p) : NQA I dg nu 40 ↔ NQA I dg nu 41 :=
  ⟨fun h k hk => by rw [← E.2.1 k (by have := E.1; omega)]; exact h k (by have := E.1; omega), fun h k hk => by rw [E.2.1 k hk]; exact h k (by have := E.1; omega)⟩
theorem IFF.c {x y : Int} {P Q : Prop} (h1 : IFF x P) (h2 : IFF y Q) (e : P ↔ Q) (hx : x = 0 ∨ x = 1) (hy : y = 0 ∨ y = 1) : x = y := by
  rcases hx with a | a <;> rcases hy with b | b
  · omega
  · exact absurd (e.mpr (h2.1 b)) (h1.2 a)
  · exact absurd (e.mp (h1.1 a)) (h2.2 b)
  · omega
set_option maxHeartbeats 8000000 in
theorem a_X12_tried_e {d : Nat} {T N : Nat → Nat} {I : IT} {L : LT} {R : RT} {A : Nat → Prop} {r0 : Nat} {n1 : Int32} (hI : IM R r0 I) (H_r0 : (h_MD T N R A) r0) (b0_n1 : 0 ≤ n1.toInt) (b1_n1 : n1.toInt ≤ 1) : Ex (d + 6) 273 [.ref r0, .int n1] (T, N, I, L, R) 0 0 (pI T N R (fun x9 I9 L9 => (∀ a1 a4 a5, R r0 1 = some a1 → R r0 4 = some a4 → R r0 5 = some a5 → TRP I a4 a5 (I a1 0).toInt n1.toInt x9.toInt) ∧ (IM R r0 I9 ∧ CM A R r0 [6, 7, 8, 9] [4, 5, 25] I L I9 L9))) := by
  refine ⟨_, rfl, Nat.le_of_ble_eq_true rfl, fun V C S => ?_⟩
  show V 0 [(0, .ref r0), (1, .int n1)] [] (T, N, I, L, R) 0 0
  have gn1 := rg n1
  obtain ⟨T_r0, A_r0, ⟨r0_1, R_r0_1, H_r0_1⟩, ⟨r0_2, R_r0_2, H_r0_2⟩, ⟨r0_4, R_r0_4, H_r0_4⟩, ⟨r0_5, R_r0_5, H_r0_5⟩, ⟨r0_10, R_r0_10, H_r0_10⟩, ⟨r0_18, R_r0_18, H_r0_18⟩, ⟨r0_20, R_r0_20, H_r0_20⟩, ⟨r0_21, R_r0_21, H_r0_21⟩, ⟨r0_22, R_r0_22, H_r0_22⟩, ⟨r0_23, R_r0_23, H_r0_23⟩, ⟨r0_25, R_r0_25, H_r0_25⟩, ⟨r0_26, R_r0_26, H_r0_26⟩, ⟨r0_27, R_r0_27, H_r0_27⟩, ⟨r0_28, R_r0_28, H_r0_28⟩, ⟨r0_34, R_r0_34, H_r0_34⟩, J_r0, Y_r0⟩ := id H_r0
  have G_r0 : mF T R r0 := ⟨J_r0, Y_r0, T_r0⟩
  obtain ⟨w_r0_4_40, k0_r0_4_40⟩ : ∃ x, I r0_4 40 = x := ⟨_, rfl⟩
  have gw_r0_4_40 := rg w_r0_4_40
  have ow_r0_4_40 := IM.dgR hI R_r0_4 k0_r0_4_40
  obtain ⟨w_r0_4_41, k0_r0_4_41⟩ : ∃ x, I r0_4 41 = x := ⟨_, rfl⟩
  have gw_r0_4_41 := rg w_r0_4_41
  have ow_r0_4_41 := IM.dgR hI R_r0_4 k0_r0_4_41
  obtain ⟨w_r0_1_0, k0_r0_1_0⟩ : ∃ x, I r0_1 0 = x := ⟨_, rfl⟩
  have gw_r0_1_0 := rg w_r0_1_0
  have ow_r0_1_0 := IM.pi hI R_r0_1 k0_r0_1_0
  refine z_iconst C (z := 0) rfl rfl rfl (fun x1 ex1 => ?_)
  refine k_istore_n C (lw := [(2, .int x1), (0, .ref r0), (1, .int n1)]) rfl rfl (Nat.le_of_ble_eq_true rfl) rfl ?_
  refine k_aload_n C rfl rfl rfl ?_
  refine z_bipush C (z := 40) rfl rfl rfl (fun x2 ex2 => ?_)
  have q3 : x2.toNatClampNeg = 40 := nck (by omega)
  refine c_VV C (a_X12_values_e hI H_r0 (by omega) (by omega)) rfl rfl rfl rfl rfl ⟨_, rfl, rfl, T_r0, Nat.le_of_ble_eq_true rfl⟩ rfl rfl (Nat.le_of_ble_eq_true rfl) (Nat.le_of_ble_eq_true rfl) (Nat.le_of_ble_eq_true rfl) ?_
  rintro I5 L6 ⟨p0v4, hI5, S7⟩
  have p0v4 := p0v4 r0_1 r0_4 r0_5 r0_25 R_r0_1 R_r0_4 R_r0_5 R_r0_25
  have e8 := CM.j S7 R_r0_4 (by decide) k0_r0_4_40
  have e9 := CM.j S7 R_r0_4 (by decide) k0_r0_4_41
  have e10 := CM.j S7 R_r0_1 (by decide) k0_r0_1_0
  obtain ⟨x11, e12⟩ : ∃ x, I5 r0_25 19 = x := ⟨_, rfl⟩
  have gx11 := rg x11
  obtain ⟨x13, e14⟩ : ∃ x, I5 r0_25 1 = x := ⟨_, rfl⟩
  have gx13 := rg x13
  try simp only [q3, k0_r0_4_40, k0_r0_4_41, k0_r0_1_0, e12, e14] at p0v4
  try have q0v4 := congrArg Int32.toInt p0v4
  have hVL := p0v4
  have hV5 := CM.j0 S7 R_r0_5 (by decide)
  refine k_aload_n C rfl rfl rfl ?_
  refine z_bipush C (z := 41) rfl rfl rfl (fun x15 ex15 => ?_)
  refine z_iconst C (z := 0) rfl rfl rfl (fun x16 ex16 => ?_)
  have q17 : x15.toNatClampNeg = 41 := nck (by omega)
  have q18 : x16.toNatClampNeg = 0 := nck (by omega)
  refine c_VI C (a_X12_of hI5 H_r0 (by omega) (by omega) (by omega) (by omega)) rfl rfl rfl rfl rfl ⟨_, rfl, rfl, T_r0, Nat.le_of_ble_eq_true rfl⟩ rfl rfl (Nat.le_of_ble_eq_true rfl) (Nat.le_of_ble_eq_true rfl) (Nat.le_of_ble_eq_true rfl) ?_
  rintro x19 _ _ ⟨o0x19, o1x19, p0x19, rfl, rfl⟩
  have p0x19 := p0x19 r0_5 R_r0_5
  have gx19 := rg x19
  try simp only [q17, q18, e8, e9, e10, e12, e14] at p0x19
  try have q0x19 := congrArg Int32.toInt p0x19
  have hlow := p0x19
  rw [hV5] at hlow
  have hE1 := fun (E : EQR I r0_4 r0_5 w_r0_1_0.toInt) => EQR.low E hVL e12 (by omega) (by rw [k0_r0_4_40]) (by omega) hlow
  refine k_istore_n C (lw := [(3, .int x19), (2, .int x1), (0, .ref r0), (1, .int n1)]) rfl rfl (Nat.le_of_ble_eq_true rfl) rfl ?_
  refine k_aload_n C rfl rfl rfl ?_
  refine z_bipush C (z := 41) rfl rfl rfl (fun x20 ex20 => ?_)
  refine k_aload_n C rfl rfl rfl ?_
  refine g_R C rfl rfl rfl T_r0 rfl R_r0_4 ?_
  refine z_bipush C (z := 41) rfl rfl rfl (fun x21 ex21 => ?_)
  obtain ⟨T_r0_4, N_r0_4, A_r0_4⟩ := id H_r0_4
  refine a_I C rfl rfl T_r0_4 (by rw [N_r0_4]; exact vpi (by omega) (by omega)) ((congrArg (I5 r0_4) (nck (n := 41) (by omega))).trans e9) ?_
  have q22 : x20.toNatClampNeg = 41 := nck (by omega)
  refine c_VI C (a_X12_of hI5 H_r0 (by omega) (by omega) (by omega) (by omega)) rfl rfl rfl rfl rfl ⟨_, rfl, rfl, T_r0, Nat.le_of_ble_eq_true rfl⟩ rfl rfl (Nat.le_of_ble_eq_true rfl) (Nat.le_of_ble_eq_true rfl) (Nat.le_of_ble_eq_true rfl) ?_
  rintro x23 _ _ ⟨o0x23, o1x23, p0x23, rfl, rfl⟩
  have p0x23 := p0x23 r0_5 R_r0_5
  have gx23 := rg x23
  try simp only [q22, e8, e9, e10, e12, e14] at p0x23
  try have q0x23 := congrArg Int32.toInt p0x23
  have hhigh := p0x23
  rw [hV5] at hhigh
  have hE2 := fun (E : EQR I r0_4 r0_5 w_r0_1_0.toInt) => EQR.high E hVL e14 (by omega) (by rw [k0_r0_4_40]) (by omega) (by rw [k0_r0_4_41]) hhigh
  refine k_istore C (lw := [(4, .int x23), (3, .int x19), (2, .int x1), (0, .ref r0), (1, .int n1)]) rfl rfl (Nat.le_of_ble_eq_true rfl) rfl ?_
  refine z_iconst C (z := 0) rfl rfl rfl (fun x24 ex24 => ?_)
  have J25 : ∀ (nn26 : Nat) (I27 : IT) (L28 : LT) (x29 : Int32) (x32 : Int32), (MN (19 - x32.toInt) nn26) → (IM R r0 I27) → (CM A R r0 [6, 7, 8, 9] [4, 5] I5 L6 I27 L28) → (∀ r : Nat, r ≠ 42 → r ≠ 45 → I27 r0_4 r = I5 r0_4 r) → (∀ r : Nat, (r < 41 * 42 ∨ 41 * 42 + 41 ≤ r) → (r < 41 * 45 ∨ 41 * 45 + 41 ≤ r) → I27 r0_5 r = I5 r0_5 r) → (0 ≤ x29.toInt) → (x29.toInt ≤ 130321) → (0 ≤ x32.toInt) → (x32.toInt ≤ 19) → (x29.toInt ≤ 6859 * x32.toInt) → (TF (EQR I r0_4 r0_5 w_r0_1_0.toInt) n1.toInt x29.toInt (6859 * x32.toInt)) → (SMR I I27 r0_5 40) → (SMR I I27 r0_5 41) → V 34 [(0, .ref r0), (1, .int n1), (2, .int x29), (3, .int x19), (4, .int x23), (5, .int x32)] [] (T, N, I27, L28, R) 0 0 := by
    intro nn26
    induction nn26 using Nat.strongRecOn with
    | _ nn26 ihJ25 =>
      intro I27 L28 x29 x32 hmnn26 hI36 S35 F37 F38 b30 b31 b33 b34 ff34_0 ff34_1 ff34_2 ff34_3
      have gx29 := rg x29
      have gx32 := rg x32
      have e39 := (F37 40 (by first | decide | exact ncne (by omega) (by omega) (by omega) | exact nckn (by omega) (by omega) | exact (nckn (by omega) (by omega)).symm) (by first | decide | exact ncne (by omega) (by omega) (by omega) | exact nckn (by omega) (by omega) | exact (nckn (by omega) (by omega)).symm)).trans e8
      have e40 := (F37 41 (by first | decide | exact ncne (by omega) (by omega) (by omega) | exact nckn (by omega) (by omega) | exact (nckn (by omega) (by omega)).symm) (by first | decide | exact ncne (by omega) (by omega) (by omega) | exact nckn (by omega) (by omega) | exact (nckn (by omega) (by omega)).symm)).trans e9
      have e41 := CM.j S35 R_r0_1 (by decide) e10
      have e42 := CM.j S35 R_r0_25 (by decide) e12
      have e43 := CM.j S35 R_r0_25 (by decide) e14
      refine k_iload C rfl rfl rfl ?_
      refine k_aload_n C rfl rfl rfl ?_
      refine c_VI C (a_X12_p hI36 H_r0) rfl rfl rfl rfl rfl ⟨_, rfl, rfl, T_r0, Nat.le_of_ble_eq_true rfl⟩ rfl rfl (Nat.le_of_ble_eq_true rfl) (Nat.le_of_ble_eq_true rfl) (Nat.le_of_ble_eq_true rfl) ?_
      rintro x44 _ _ ⟨o0x44, o1x44, p0x44, rfl, rfl⟩
      have p0x44 := p0x44 r0_1 R_r0_1
      have gx44 := rg x44
      try simp only [e39, e40, e41, e42, e43, e41] at p0x44
      try have q0x44 := congrArg Int32.toInt p0x44
      refine b_icmp_ge C (t := 216) rfl rfl rfl (fun c45 => ?_) (fun c45 => ?_)
      · skip
        refine k_iload_n C rfl rfl rfl ?_
        refine b_if_eq C (t := 224) rfl rfl rfl (fun c46 => ?_) (fun c46 => ?_)
        · skip
          refine k_iload_n C rfl rfl rfl ?_
          exact k_iret C rfl (Or.inl rfl) (Nat.le_of_ble_eq_true rfl) (Nat.le_of_ble_eq_true rfl) ⟨_, _, _, rfl, rfl, fun a1 a4 a5 h1 h4 h5 => by cases (R_r0_1.symm.trans h1); cases (R_r0_4.symm.trans h4); cases (R_r0_5.symm.trans h5); simp only [k0_r0_1_0]; exact TRP.e ff34_1 (by omega) (fun h9 => by omega), hI36, (CM.cons S7 (CM.mono S35 (by decide) (by decide)) (by decide) (by decide))⟩
        refine z_iconst C (z := -1) rfl rfl rfl (fun x47 ex47 => ?_)
        refine k_goto C (pc2 := 225) rfl rfl ?_
        exact k_iret C rfl (Or.inl rfl) (Nat.le_of_ble_eq_true rfl) (Nat.le_of_ble_eq_true rfl) ⟨_, _, _, rfl, rfl, fun a1 a4 a5 h1 h4 h5 => by cases (R_r0_1.symm.trans h1); cases (R_r0_4.symm.trans h4); cases (R_r0_5.symm.trans h5); simp only [k0_r0_1_0]; exact TRP.e ff34_1 (by omega) (fun h9 => by omega), hI36, (CM.cons S7 (CM.mono S35 (by decide) (by decide)) (by decide) (by decide))⟩
      refine z_iconst C (z := 0) rfl rfl rfl (fun x48 ex48 => ?_)
      have J49 : ∀ (nn50 : Nat) (I51 : IT) (L52 : LT) (x53 : Int32) (x56 : Int32), (MN (19 - x56.toInt) nn50) → (IM R r0 I51) → (CM A R r0 [6, 7, 8, 9] [4, 5] I27 L28 I51 L52) → (∀ r : Nat, r ≠ 42 → r ≠ 45 → I51 r0_4 r = I27 r0_4 r) → (∀ r : Nat, (r < 41 * 42 ∨ 41 * 42 + 41 ≤ r) → (r < 41 * 45 ∨ 41 * 45 + 41 ≤ r) → I51 r0_5 r = I27 r0_5 r) → (0 ≤ x53.toInt) → (x53.toInt ≤ 130321) → (0 ≤ x56.toInt) → (x56.toInt ≤ 19) → (x53.toInt ≤ 6859 * x32.toInt + 361 * x56.toInt) → (TF (EQR I r0_4 r0_5 w_r0_1_0.toInt) n1.toInt x53.toInt (6859 * x32.toInt + 361 * x56.toInt)) → (SMR I I51 r0_5 40) → (SMR I I51 r0_5 41) → V 46 [(0, .ref r0), (1, .int n1), (2, .int x53), (3, .int x19), (4, .int x23), (5, .int x32), (6, .int x56)] [] (T, N, I51, L52, R) 0 0 := by
        intro nn50
        induction nn50 using Nat.strongRecOn with
        | _ nn50 ihJ49 =>
          intro I51 L52 x53 x56 hmnn50 hI60 S59 F61 F62 b54 b55 b57 b58 ff46_0 ff46_1 ff46_2 ff46_3
          have gx53 := rg x53
          have gx56 := rg x56
          have e63 := (F61 40 (by first | decide | exact ncne (by omega) (by omega) (by omega) | exact nckn (by omega) (by omega) | exact (nckn (by omega) (by omega)).symm) (by first | decide | exact ncne (by omega) (by omega) (by omega) | exact nckn (by omega) (by omega) | exact (nckn (by omega) (by omega)).symm)).trans e39
          have e64 := (F61 41 (by first | decide | exact ncne (by omega) (by omega) (by omega) | exact nckn (by omega) (by omega) | exact (nckn (by omega) (by omega)).symm) (by first | decide | exact ncne (by omega) (by omega) (by omega) | exact nckn (by omega) (by omega) | exact (nckn (by omega) (by omega)).symm)).trans e40
          have e65 := CM.j S59 R_r0_1 (by decide) e41
          have e66 := CM.j S59 R_r0_25 (by decide) e42
          have e67 := CM.j S59 R_r0_25 (by decide) e43
          refine k_iload C rfl rfl rfl ?_
          refine k_aload_n C rfl rfl rfl ?_
          refine c_VI C (a_X12_p hI60 H_r0) rfl rfl rfl rfl rfl ⟨_, rfl, rfl, T_r0, Nat.le_of_ble_eq_true rfl⟩ rfl rfl (Nat.le_of_ble_eq_true rfl) (Nat.le_of_ble_eq_true rfl) (Nat.le_of_ble_eq_true rfl) ?_
          rintro x68 _ _ ⟨o0x68, o1x68, p0x68, rfl, rfl⟩
          have p0x68 := p0x68 r0_1 R_r0_1
          have gx68 := rg x68
          try simp only [e63, e64, e65, e66, e67, e65] at p0x68
          try have q0x68 := congrArg Int32.toInt p0x68
          refine b_icmp_ge C (t := 210) rfl rfl rfl (fun c69 => ?_) (fun c69 => ?_)
          · skip
            refine z_iinc C (z := 1) (lw := fun x70 => [(5, .int x70), (0, .ref r0), (1, .int n1), (2, .int x53), (3, .int x19), (4, .int x23), (6, .int x56)]) rfl rfl rfl (Nat.le_of_ble_eq_true rfl) rfl ⟨by omega, by omega⟩ (fun _ => rfl) (fun x70 ex70 => ?_)
            show V 213 [(5, .int x70), (0, .ref r0), (1, .int n1), (2, .int x53), (3, .int x19), (4, .int x23), (6, .int x56)] _ _ _ _
            refine k_goto C (pc2 := 34) rfl rfl ?_
            refine k_sub S [(0, .ref r0), (1, .int n1), (2, .int x53), (3, .int x19), (4, .int x23), (5, .int x70)] (List.forall_mem_cons.mpr ⟨List.mem_of_getElem? (i := 1) rfl, List.forall_mem_cons.mpr ⟨List.mem_of_getElem? (i := 2) rfl, List.forall_mem_cons.mpr ⟨List.mem_of_getElem? (i := 3) rfl, List.forall_mem_cons.mpr ⟨List.mem_of_getElem? (i := 4) rfl, List.forall_mem_cons.mpr ⟨List.mem_of_getElem? (i := 5) rfl, List.forall_mem_cons.mpr ⟨List.mem_of_getElem? (i := 0) rfl, fun _ h => nomatch h⟩⟩⟩⟩⟩⟩) ?_
            exact ihJ25 _ (MN.lt hmnn26 (by omega) (by omega)) I51 L52 x53 x70 rfl hI60 (CM.cons S35 (CM.mono S59 (by decide) (by decide)) (by decide) (by decide)) (fun r z0 z1 => ((F61 r z0 z1).trans (F37 r z0 z1))) (fun r z0 z1 => ((F62 r z0 z1).trans (F38 r z0 z1))) (by omega) (by omega) (by omega) (by omega) (by omega) (by exact TF.c ff46_1 (fun h9 => by omega)) (by exact ff46_2) (by exact ff46_3)
          refine z_iconst C (z := 0) rfl rfl rfl (fun x71 ex71 => ?_)
          have J72 : ∀ (nn73 : Nat) (I74 : IT) (L75 : LT) (x76 : Int32) (x79 : Int32), (MN (19 - x79.toInt) nn73) → (IM R r0 I74) → (CM A R r0 [6, 7, 8, 9] [4, 5] I51 L52 I74 L75) → (∀ r : Nat, r ≠ 42 → r ≠ 45 → I74 r0_4 r = I51 r0_4 r) → (∀ r : Nat, (r < 41 * 42 ∨ 41 * 42 + 41 ≤ r) → (r < 41 * 45 ∨ 41 * 45 + 41 ≤ r) → I74 r0_5 r = I51 r0_5 r) → (0 ≤ x76.toInt) → (x76.toInt ≤ 130321) → (0 ≤ x79.toInt) → (x79.toInt ≤ 19) → (x76.toInt ≤ 6859 * x32.toInt + 361 * x56.toInt + 19 * x79.toInt) → (TF (EQR I r0_4 r0_5 w_r0_1_0.toInt) n1.toInt x76.toInt (6859 * x32.toInt + 361 * x56.toInt + 19 * x79.toInt)) → (SMR I I74 r0_5 40) → (SMR I I74 r0_5 41) → V 58 [(0, .ref r0), (1, .int n1), (2, .int x76), (3, .int x19), (4, .int x23), (5, .int x32), (6, .int x56), (7, .int x79)] [] (T, N, I74, L75, R) 0 0 := by
            intro nn73
            induction nn73 using Nat.strongRecOn with
            | _ nn73 ihJ72 =>
              intro I74 L75 x76 x79 hmnn73 hI83 S82 F84 F85 b77 b78 b80 b81 ff58_0 ff58_1 ff58_2 ff58_3
              have gx76 := rg x76
              have gx79 := rg x79
              have e86 := (F84 40 (by first | decide | exact ncne (by omega) (by omega) (by omega) | exact nckn (by omega) (by omega) | exact (nckn (by omega) (by omega)).symm) (by first | decide | exact ncne (by omega) (by omega) (by omega) | exact nckn (by omega) (by omega) | exact (nckn (by omega) (by omega)).symm)).trans e63
              have e87 := (F84 41 (by first | decide | exact ncne (by omega) (by omega) (by omega) | exact nckn (by omega) (by omega) | exact (nckn (by omega) (by omega)).symm) (by first | decide | exact ncne (by omega) (by omega) (by omega) | exact nckn (by omega) (by omega) | exact (nckn (by omega) (by omega)).symm)).trans e64
              have e88 := CM.j S82 R_r0_1 (by decide) e65
              have e89 := CM.j S82 R_r0_25 (by decide) e66
              have e90 := CM.j S82 R_r0_25 (by decide) e67
              refine k_iload C rfl rfl rfl ?_
              refine k_aload_n C rfl rfl rfl ?_
              refine c_VI C (a_X12_p hI83 H_r0) rfl rfl rfl rfl rfl ⟨_, rfl, rfl, T_r0, Nat.le_of_ble_eq_true rfl⟩ rfl rfl (Nat.le_of_ble_eq_true rfl) (Nat.le_of_ble_eq_true rfl) (Nat.le_of_ble_eq_true rfl) ?_
              rintro x91 _ _ ⟨o0x91, o1x91, p0x91, rfl, rfl⟩
              have p0x91 := p0x91 r0_1 R_r0_1
              have gx91 := rg x91
              try simp only [e86, e87, e88, e89, e90, e88] at p0x91
              try have q0x91 := congrArg Int32.toInt p0x91
              refine b_icmp_ge C (t := 204) rfl rfl rfl (fun c92 => ?_) (fun c92 => ?_)
              · skip
                refine z_iinc C (z := 1) (lw := fun x93 => [(6, .int x93), (0, .ref r0), (1, .int n1), (2, .int x76), (3, .int x19), (4, .int x23), (5, .int x32), (7, .int x79)]) rfl rfl rfl (Nat.le_of_ble_eq_true rfl) rfl ⟨by omega, by omega⟩ (fun _ => rfl) (fun x93 ex93 => ?_)
                show V 207 [(6, .int x93), (0, .ref r0), (1, .int n1), (2, .int x76), (3, .int x19), (4, .int x23), (5, .int x32), (7, .int x79)] _ _ _ _
                refine k_goto C (pc2 := 46) rfl rfl ?_
                refine k_sub S [(0, .ref r0), (1, .int n1), (2, .int x76), (3, .int x19), (4, .int x23), (5, .int x32), (6, .int x93)] (List.forall_mem_cons.mpr ⟨List.mem_of_getElem? (i := 1) rfl, List.forall_mem_cons.mpr ⟨List.mem_of_getElem? (i := 2) rfl, List.forall_mem_cons.mpr ⟨List.mem_of_getElem? (i := 3) rfl, List.forall_mem_cons.mpr ⟨List.mem_of_getElem? (i := 4) rfl, List.forall_mem_cons.mpr ⟨List.mem_of_getElem? (i := 5) rfl, List.forall_mem_cons.mpr ⟨List.mem_of_getElem? (i := 6) rfl, List.forall_mem_cons.mpr ⟨List.mem_of_getElem? (i := 0) rfl, fun _ h => nomatch h⟩⟩⟩⟩⟩⟩⟩) ?_
                exact ihJ49 _ (MN.lt hmnn50 (by omega) (by omega)) I74 L75 x76 x93 rfl hI83 (CM.cons S59 (CM.mono S82 (by decide) (by decide)) (by decide) (by decide)) (fun r z0 z1 => ((F84 r z0 z1).trans (F61 r z0 z1))) (fun r z0 z1 => ((F85 r z0 z1).trans (F62 r z0 z1))) (by omega) (by omega) (by omega) (by omega) (by omega) (by exact TF.c ff58_1 (fun h9 => by omega)) (by exact ff58_2) (by exact ff58_3)
              refine k_aload_n C rfl rfl rfl ?_
              refine g_R C rfl rfl rfl T_r0 rfl R_r0_25 ?_
              refine z_bipush C (z := 19) rfl rfl rfl (fun x94 ex94 => ?_)
              refine k_iload C rfl rfl rfl ?_
              refine z_imulL C (c := 19) rfl rfl (by omega) ⟨by omega, by omega⟩ (fun x95 ex95 => ?_)
              refine k_iload C rfl rfl rfl ?_
              refine z_iadd C rfl rfl ⟨by omega, by omega⟩ (fun x96 ex96 => ?_)
              obtain ⟨T_r0_25, N_r0_25, A_r0_25⟩ := id H_r0_25
              refine z_aI C rfl rfl T_r0_25 N_r0_25 (by omega) (by omega) (fun x97 ex97 => ?_)
              have gx97 := rg x97
              have hr79 : x96.toInt = 19 → x97.toInt = x11.toInt := fun z => by rw [← ex97, nck (x := x96) (n := 19) z, e89]
              refine k_iload_n C rfl rfl rfl ?_
              refine b_icmp_eq C (t := 87) rfl rfl rfl (fun c98 => ?_) (fun c98 => ?_)
              · skip
                refine z_iconst C (z := 0) rfl rfl rfl (fun x99 ex99 => ?_)
                have J100 : ∀ (nn101 : Nat) (I102 : IT) (L103 : LT) (x104 : Int32) (x107 : Int32), (MN (19 - x107.toInt) nn101) → (IM R r0 I102) → (CM A R r0 [6, 7, 8, 9] [4, 5] I74 L75 I102 L103) → (∀ r : Nat, r ≠ 42 → r ≠ 45 → I102 r0_4 r = I74 r0_4 r) → (∀ r : Nat, (r < 41 * 42 ∨ 41 * 42 + 41 ≤ r) → (r < 41 * 45 ∨ 41 * 45 + 41 ≤ r) → I102 r0_5 r = I74 r0_5 r) → (0 ≤ x104.toInt) → (x104.toInt ≤ 130321) → (0 ≤ x107.toInt) → (x107.toInt ≤ 19) → (x104.toInt ≤ 6859 * x32.toInt + 361 * x56.toInt + 19 * x79.toInt + x107.toInt) → (TF (EQR I r0_4 r0_5 w_r0_1_0.toInt) n1.toInt x104.toInt (6859 * x32.toInt + 361 * x56.toInt + 19 * x79.toInt + x107.toInt)) → (SMR I I102 r0_5 40) → (SMR I I102 r0_5 41) → V 90 [(0, .ref r0), (1, .int n1), (2, .int x104), (3, .int x19), (4, .int x23), (5, .int x32), (6, .int x56), (7, .int x79), (8, .int x107)] [] (T, N, I102, L103, R) 0 0 := by
                  intro nn101
                  induction nn101 using Nat.strongRecOn with
                  | _ nn101 ihJ100 =>
                    intro I102 L103 x104 x107 hmnn101 hI111 S110 F112 F113 b105 b106 b108 b109 ff90_0 ff90_1 ff90_2 ff90_3
                    have gx104 := rg x104
                    have gx107 := rg x107
                    have e114 := (F112 40 (by first | decide | exact ncne (by omega) (by omega) (by omega) | exact nckn (by omega) (by omega) | exact (nckn (by omega) (by omega)).symm) (by first | decide | exact ncne (by omega) (by omega) (by omega) | exact nckn (by omega) (by omega) | exact (nckn (by omega) (by omega)).symm)).trans e86
                    have e115 := (F112 41 (by first | decide | exact ncne (by omega) (by omega) (by omega) | exact nckn (by omega) (by omega) | exact (nckn (by omega) (by omega)).symm) (by first | decide | exact ncne (by omega) (by omega) (by omega) | exact nckn (by omega) (by omega) | exact (nckn (by omega) (by omega)).symm)).trans e87
                    have e116 := CM.j S110 R_r0_1 (by decide) e88
                    have e117 := CM.j S110 R_r0_25 (by decide) e89
                    have e118 := CM.j S110 R_r0_25 (by decide) e90
                    have e119 := CM.j S110 R_r0_25 (by decide) ex97
                    refine k_iload C rfl rfl rfl ?_
                    refine k_aload_n C rfl rfl rfl ?_
                    refine c_VI C (a_X12_p hI111 H_r0) rfl rfl rfl rfl rfl ⟨_, rfl, rfl, T_r0, Nat.le_of_ble_eq_true rfl⟩ rfl rfl (Nat.le_of_ble_eq_true rfl) (Nat.le_of_ble_eq_true rfl) (Nat.le_of_ble_eq_true rfl) ?_
                    rintro x120 _ _ ⟨o0x120, o1x120, p0x120, rfl, rfl⟩
                    have p0x120 := p0x120 r0_1 R_r0_1
                    have gx120 := rg x120
                    try simp only [e114, e115, e116, e117, e118, e119, e116] at p0x120
                    try have q0x120 := congrArg Int32.toInt p0x120
                    refine b_icmp_ge C (t := 198) rfl rfl rfl (fun c121 => ?_) (fun c121 => ?_)
                    · skip
                      refine z_iinc C (z := 1) (lw := fun x122 => [(7, .int x122), (0, .ref r0), (1, .int n1), (2, .int x104), (3, .int x19), (4, .int x23), (5, .int x32), (6, .int x56), (8, .int x107)]) rfl rfl rfl (Nat.le_of_ble_eq_true rfl) rfl ⟨by omega, by omega⟩ (fun _ => rfl) (fun x122 ex122 => ?_)
                      show V 201 [(7, .int x122), (0, .ref r0), (1, .int n1), (2, .int x104), (3, .int x19), (4, .int x23), (5, .int x32), (6, .int x56), (8, .int x107)] _ _ _ _
                      refine k_goto C (pc2 := 58) rfl rfl ?_
                      refine k_sub S [(0, .ref r0), (1, .int n1), (2, .int x104), (3, .int x19), (4, .int x23), (5, .int x32), (6, .int x56), (7, .int x122)] (List.forall_mem_cons.mpr ⟨List.mem_of_getElem? (i := 1) rfl, List.forall_mem_cons.mpr ⟨List.mem_of_getElem? (i := 2) rfl, List.forall_mem_cons.mpr ⟨List.mem_of_getElem? (i := 3) rfl, List.forall_mem_cons.mpr ⟨List.mem_of_getElem? (i := 4) rfl, List.forall_mem_cons.mpr ⟨List.mem_of_getElem? (i := 5) rfl, List.forall_mem_cons.mpr ⟨List.mem_of_getElem? (i := 6) rfl, List.forall_mem_cons.mpr ⟨List.mem_of_getElem? (i := 7) rfl, List.forall_mem_cons.mpr ⟨List.mem_of_getElem? (i := 0) rfl, fun _ h => nomatch h⟩⟩⟩⟩⟩⟩⟩⟩) ?_
                      exact ihJ72 _ (MN.lt hmnn73 (by omega) (by omega)) I102 L103 x104 x122 rfl hI111 (CM.cons S82 (CM.mono S110 (by decide) (by decide)) (by decide) (by decide)) (fun r z0 z1 => ((F112 r z0 z1).trans (F84 r z0 z1))) (fun r z0 z1 => ((F113 r z0 z1).trans (F85 r z0 z1))) (by omega) (by omega) (by omega) (by omega) (by omega) (by first | exact TF.c ff90_1 (fun h9 => by omega) | exact TF.of ff58_1 (fun E h8 h9 => by have h7 := hE1 E; have h6 := hr79 (by omega); omega)) (by first | exact ff90_2 | exact ff58_2) (by first | exact ff90_3 | exact ff58_3)
                    refine k_aload_n C rfl rfl rfl ?_
                    refine g_R C rfl rfl rfl T_r0 rfl R_r0_25 ?_
                    refine z_bipush C (z := 19) rfl rfl rfl (fun x123 ex123 => ?_)
                    refine k_iload C rfl rfl rfl ?_
                    refine z_imulL C (c := 19) rfl rfl (by omega) ⟨by omega, by omega⟩ (fun x124 ex124 => ?_)
                    refine k_iload C rfl rfl rfl ?_
                    refine z_iadd C rfl rfl ⟨by omega, by omega⟩ (fun x125 ex125 => ?_)
                    refine z_aI C rfl rfl T_r0_25 N_r0_25 (by omega) (by omega) (fun x126 ex126 => ?_)
                    have gx126 := rg x126
                    have hr111 : x125.toInt = 1 → x126.toInt = x13.toInt := fun z => by rw [← ex126, nck (x := x125) (n := 1) z, e118]
                    refine k_iload C rfl rfl rfl ?_
                    refine b_icmp_eq C (t := 120) rfl rfl rfl (fun c127 => ?_) (fun c127 => ?_)
                    · skip
                      refine k_aload_n C rfl rfl rfl ?_
                      refine k_iload C rfl rfl rfl ?_
                      refine k_iload C rfl rfl rfl ?_
                      refine k_iload C rfl rfl rfl ?_
                      refine k_iload C rfl rfl rfl ?_
                      refine c_VV C (a_X12_takesTable_e hI111 H_r0 (by omega) (by omega) (by omega) (by omega) (by omega) (by omega) (by omega) (by omega)) rfl rfl rfl rfl rfl ⟨_, rfl, rfl, T_r0, Nat.le_of_ble_eq_true rfl⟩ rfl rfl (Nat.le_of_ble_eq_true rfl) (Nat.le_of_ble_eq_true rfl) (Nat.le_of_ble_eq_true rfl) ?_
                      rintro I129 L130 ⟨p0v128, p1v128, p2v128, p3v128, hI129, S131⟩
                      have e132 := CM.j S131 R_r0_4 (by decide) e114
                      have e133 := CM.j S131 R_r0_4 (by decide) e115
                      have e134 := CM.j S131 R_r0_1 (by decide) e116
                      have e135 := CM.j S131 R_r0_25 (by decide) e117
                      have e136 := CM.j S131 R_r0_25 (by decide) e118
                      have e137 := CM.j S131 R_r0_25 (by decide) e119
                      have e138 := CM.j S131 R_r0_25 (by decide) ex126
                      obtain ⟨x139, e140⟩ : ∃ x, I129 r0 6 = x := ⟨_, rfl⟩
                      have gx139 := rg x139
                      have ox139 := IM.f6 hI129 e140
                      obtain ⟨x141, e142⟩ : ∃ x, I129 r0 7 = x := ⟨_, rfl⟩
                      have gx141 := rg x141
                      have ox141 := IM.f7 hI129 e142
                      obtain ⟨x143, e144⟩ : ∃ x, I129 r0 8 = x := ⟨_, rfl⟩
                      have gx143 := rg x143
                      have ox143 := IM.f8 hI129 e144
                      obtain ⟨x145, e146⟩ : ∃ x, I129 r0 9 = x := ⟨_, rfl⟩
                      have gx145 := rg x145
                      have ox145 := IM.f9 hI129 e146
                      try simp only [e114, e115, e116, e117, e118, e119, ex126, e140, e142, e144, e146] at p0v128
                      try have q0v128 := congrArg Int32.toInt p0v128
                      try simp only [e114, e115, e116, e117, e118, e119, ex126, e140, e142, e144, e146] at p1v128
                      try have q1v128 := congrArg Int32.toInt p1v128
                      try simp only [e114, e115, e116, e117, e118, e119, ex126, e140, e142, e144, e146] at p2v128
                      try have q2v128 := congrArg Int32.toInt p2v128
                      try simp only [e114, e115, e116, e117, e118, e119, ex126, e140, e142, e144, e146] at p3v128
                      try have q3v128 := congrArg Int32.toInt p3v128
                      have hM40 : SMR I I129 r0_5 40 := SMR.tr ff90_2 (SMR.eq (CM.j0 S131 R_r0_5 (by decide)))
                      have hM41 : SMR I I129 r0_5 41 := SMR.tr ff90_3 (SMR.eq (CM.j0 S131 R_r0_5 (by decide)))
                      refine k_aload_n C rfl rfl rfl ?_
                      refine c_VI C (a_X12_detNow_e hI129 H_r0) rfl rfl rfl rfl rfl ⟨_, rfl, rfl, T_r0, Nat.le_of_ble_eq_true rfl⟩ rfl rfl (Nat.le_of_ble_eq_true rfl) (Nat.le_of_ble_eq_true rfl) (Nat.le_of_ble_eq_true rfl) ?_
                      rintro x147 _ _ ⟨o0x147, o1x147, p0x147, rfl, rfl⟩
                      have p0x147 := p0x147 r0_1 R_r0_1
                      have gx147 := rg x147
                      try simp only [e132, e133, e134, e135, e136, e137, e138, e140, e142, e144, e146] at p0x147
                      try have q0x147 := congrArg Int32.toInt p0x147
                      have hDT := fun h1 h2 h3 h4 => DTN.i p0x147 (by omega) h1 h2 h3 h4
                      refine b_if_ne C (t := 142) rfl rfl rfl (fun c148 => ?_) (fun c148 => ?_)
                      · skip
                        refine k_aload_n C rfl rfl rfl ?_
                        refine z_bipush C (z := 40) rfl rfl rfl (fun x149 ex149 => ?_)
                        refine z_bipush C (z := 42) rfl rfl rfl (fun x150 ex150 => ?_)
                        have q151 : x149.toNatClampNeg = 40 := nck (by omega)
                        have q152 : x150.toNatClampNeg = 42 := nck (by omega)
                        refine c_VV C (a_X12_mixes_e hI129 H_r0 (by omega) (by omega) (by omega) (by omega) (by first | omega | (simp only [q151, q152, e132, e133, e134, e135, e136, e137, e138, e140, e142, e144, e146] <;> omega))) rfl rfl rfl rfl rfl ⟨_, rfl, rfl, T_r0, Nat.le_of_ble_eq_true rfl⟩ rfl rfl (Nat.le_of_ble_eq_true rfl) (Nat.le_of_ble_eq_true rfl) (Nat.le_of_ble_eq_true rfl) ?_
                        rintro I154 L155 ⟨p0v153, p1v153, p2v153, p3v153, p4v153, hI154, S156⟩
                        have p0v153 := p0v153 r0_4 R_r0_4
                        have p1v153 := p1v153 r0_1 r0_4 r0_5 R_r0_1 R_r0_4 R_r0_5
                        have p2v153 := p2v153 r0_1 r0_4 r0_5 R_r0_1 R_r0_4 R_r0_5
                        have p3v153 := p3v153 r0_4 R_r0_4
                        have p4v153 := p4v153 r0_5 R_r0_5
                        try simp only [q151, q152] at p3v153
                        have F157 : ∀ r : Nat, r ≠ 42 → r ≠ 45 → I154 r0_4 r = I129 r0_4 r := fun r z0 z1 => p3v153 r (by first | exact z0 | exact z1) (by first | exact z0 | exact z1)
                        try simp only [q151, q152] at p4v153
                        have F158 : ∀ r : Nat, (r < 41 * 42 ∨ 41 * 42 + 41 ≤ r) → (r < 41 * 45 ∨ 41 * 45 + 41 ≤ r) → I154 r0_5 r = I129 r0_5 r := fun r z0 z1 => p4v153 r (by first | exact z0 | exact z1) (by first | exact z0 | exact z1)
                        have e159 := (p3v153 40 (by first | decide | exact ncne (by omega) (by omega) (by omega) | exact nckn (by omega) (by omega) | exact (nckn (by omega) (by omega)).symm) (by first | decide | exact ncne (by omega) (by omega) (by omega) | exact nckn (by omega) (by omega) | exact (nckn (by omega) (by omega)).symm)).trans e132
                        have e160 := (p3v153 41 (by first | decide | exact ncne (by omega) (by omega) (by omega) | exact nckn (by omega) (by omega) | exact (nckn (by omega) (by omega)).symm) (by first | decide | exact ncne (by omega) (by omega) (by omega) | exact nckn (by omega) (by omega) | exact (nckn (by omega) (by omega)).symm)).trans e133
                        have e161 := CM.j S156 R_r0_1 (by decide) e134
                        have e162 := CM.j S156 R_r0_25 (by decide) e135
                        have e163 := CM.j S156 R_r0_25 (by decide) e136
                        have e164 := CM.j S156 R_r0_25 (by decide) e137
                        have e165 := CM.j S156 R_r0_25 (by decide) e138
                        have e166 := CM.k S156 (by decide) e140
                        have e167 := CM.k S156 (by decide) e142
                        have e168 := CM.k S156 (by decide) e144
                        have e169 := CM.k S156 (by decide) e146
                        obtain ⟨x170, e171⟩ : ∃ x, I154 r0_4 42 = x := ⟨_, rfl⟩
                        have gx170 := rg x170
                        have ox170 := IM.dgR hI154 R_r0_4 e171
                        try simp only [q151, q152, e132, e133, e134, e135, e136, e137, e138, e140, e142, e144, e146, e171] at p0v153
                        try have q0v153 := congrArg Int32.toInt p0v153
                        try simp only [q151, q152, e132, e133, e134, e135, e136, e137, e138, e140, e142, e144, e146, e171] at p1v153
                        try have q1v153 := congrArg Int32.toInt p1v153
                        try simp only [q151, q152, e132, e133, e134, e135, e136, e137, e138, e140, e142, e144, e146, e171] at p2v153
                        try have q2v153 := congrArg Int32.toInt p2v153
                        have hMX := p2v153
                        have hN40 := SMR.cs hM40 (fun k hk => p4v153 _ (by omega) (by omega))
                        have hN41 := SMR.cs hM41 (fun k hk => p4v153 _ (by omega) (by omega))
                        refine k_aload_n C rfl rfl rfl ?_
                        refine z_bipush C (z := 41) rfl rfl rfl (fun x172 ex172 => ?_)
                        refine z_bipush C (z := 42) rfl rfl rfl (fun x173 ex173 => ?_)
                        have q174 : x172.toNatClampNeg = 41 := nck (by omega)
                        have q175 : x173.toNatClampNeg = 42 := nck (by omega)
                        refine c_VI C (a_X12_isLike_e hI154 H_r0 (by omega) (by omega) (by omega) (by omega)) rfl rfl rfl rfl rfl ⟨_, rfl, rfl, T_r0, Nat.le_of_ble_eq_true rfl⟩ rfl rfl (Nat.le_of_ble_eq_true rfl) (Nat.le_of_ble_eq_true rfl) (Nat.le_of_ble_eq_true rfl) ?_
                        rintro x176 _ _ ⟨o0x176, o1x176, p0x176, rfl, rfl⟩
                        have p0x176 := p0x176 r0_4 r0_5 R_r0_4 R_r0_5
                        have gx176 := rg x176
                        try simp only [q174, q175, e159, e160, e161, e162, e163, e164, e165, e166, e167, e168, e169, e171] at p0x176
                        try have q0x176 := congrArg Int32.toInt p0x176
                        have hLK := p0x176
                        refine b_if_ne C (t := 164) rfl rfl rfl (fun c177 => ?_) (fun c177 => ?_)
                        · skip
                          refine k_iload_n C rfl rfl rfl ?_
                          refine b_if_eq C (t := 189) rfl rfl rfl (fun c178 => ?_) (fun c178 => ?_)
                          · skip
                            refine z_iinc C (z := 1) (lw := fun x179 => [(2, .int x179), (0, .ref r0), (1, .int n1), (3, .int x19), (4, .int x23), (5, .int x32), (6, .int x56), (7, .int x79), (8, .int x107)]) rfl rfl rfl (Nat.le_of_ble_eq_true rfl) rfl ⟨by omega, by omega⟩ (fun _ => rfl) (fun x179 ex179 => ?_)
                            show V 192 [(2, .int x179), (0, .ref r0), (1, .int n1), (3, .int x19), (4, .int x23), (5, .int x32), (6, .int x56), (7, .int x79), (8, .int x107)] _ _ _ _
                            refine z_iinc C (z := 1) (lw := fun x180 => [(8, .int x180), (2, .int x179), (0, .ref r0), (1, .int n1), (3, .int x19), (4, .int x23), (5, .int x32), (6, .int x56), (7, .int x79)]) rfl rfl rfl (Nat.le_of_ble_eq_true rfl) rfl ⟨by omega, by omega⟩ (fun _ => rfl) (fun x180 ex180 => ?_)
                            show V 195 [(8, .int x180), (2, .int x179), (0, .ref r0), (1, .int n1), (3, .int x19), (4, .int x23), (5, .int x32), (6, .int x56), (7, .int x79)] _ _ _ _
                            refine k_goto C (pc2 := 90) rfl rfl ?_
                            refine k_sub S [(0, .ref r0), (1, .int n1), (2, .int x179), (3, .int x19), (4, .int x23), (5, .int x32), (6, .int x56), (7, .int x79), (8, .int x180)] (List.forall_mem_cons.mpr ⟨List.mem_of_getElem? (i := 2) rfl, List.forall_mem_cons.mpr ⟨List.mem_of_getElem? (i := 3) rfl, List.forall_mem_cons.mpr ⟨List.mem_of_getElem? (i := 1) rfl, List.forall_mem_cons.mpr ⟨List.mem_of_getElem? (i := 4) rfl, List.forall_mem_cons.mpr ⟨List.mem_of_getElem? (i := 5) rfl, List.forall_mem_cons.mpr ⟨List.mem_of_getElem? (i := 6) rfl, List.forall_mem_cons.mpr ⟨List.mem_of_getElem? (i := 7) rfl, List.forall_mem_cons.mpr ⟨List.mem_of_getElem? (i := 8) rfl, List.forall_mem_cons.mpr ⟨List.mem_of_getElem? (i := 0) rfl, fun _ h => nomatch h⟩⟩⟩⟩⟩⟩⟩⟩⟩) ?_
                            exact ihJ100 _ (MN.lt hmnn101 (by omega) (by omega)) I154 L155 x179 x180 rfl hI154 (CM.cons S110 (CM.cons S131 (CM.mono S156 (by decide) (by decide)) (by decide) (by decide)) (by decide) (by decide)) (fun r z0 z1 => ((F157 r z0 z1).trans ((congrFun (CM.j0 S131 R_r0_4 (by decide)) r).trans (F112 r z0 z1)))) (fun r z0 z1 => ((F158 r z0 z1).trans ((congrFun (CM.j0 S131 R_r0_5 (by decide)) r).trans (F113 r z0 z1)))) (by omega) (by omega) (by omega) (by omega) (by omega) (by first | exact TF.up (by omega) (by omega) | exact TF.of ff90_1 (fun E h8 h9 => by have h7 := hE2 E; have h6 := hr111 (by omega); omega) | exact TF.of ff90_1 (fun E h8 h9 => by have h7 := hDT (by omega) (by omega) (by omega) (by omega); omega) | exact TF.of ff90_1 (fun E h8 h9 => absurd (EQR.mix E hM40 hN41 hMX (by omega) (by rw [k0_r0_4_40]) (by omega) (by omega) (by rw [e160, k0_r0_4_41]) (by rw [e171]; omega) (by omega) (by omega) (by omega) (by omega)) (hLK.2 (by omega)))) (by first | exact hN40 | exact hM40 | exact ff90_2) (by first | exact hN41 | exact hM41 | exact ff90_3)
                          refine z_bipush C (z := 20) rfl rfl rfl (fun x181 ex181 => ?_)
                          refine k_iload C rfl rfl rfl ?_
                          refine z_imulL C (c := 20) rfl rfl (by omega) ⟨by omega, by omega⟩ (fun x182 ex182 => ?_)
                          refine k_iload C rfl rfl rfl ?_
                          refine z_iadd C rfl rfl ⟨by omega, by omega⟩ (fun x183 ex183 => ?_)
                          refine z_bipush C (z := 20) rfl rfl rfl (fun x184 ex184 => ?_)
                          refine z_imulR C (c := 20) rfl rfl (by omega) ⟨by omega, by omega⟩ (fun x185 ex185 => ?_)
                          refine k_iload C rfl rfl rfl ?_
                          refine z_iadd C rfl rfl ⟨by omega, by omega⟩ (fun x186 ex186 => ?_)
                          refine z_bipush C (z := 20) rfl rfl rfl (fun x187 ex187 => ?_)
                          refine z_imulR C (c := 20) rfl rfl (by omega) ⟨by omega, by omega⟩ (fun x188 ex188 => ?_)
                          refine k_iload C rfl rfl rfl ?_
                          refine z_iadd C rfl rfl ⟨by omega, by omega⟩ (fun x189 ex189 => ?_)
                          exact k_iret C rfl (Or.inl rfl) (Nat.le_of_ble_eq_true rfl) (Nat.le_of_ble_eq_true rfl) ⟨_, _, _, rfl, rfl, fun a1 a4 a5 h1 h4 h5 => by cases (R_r0_1.symm.trans h1); cases (R_r0_4.symm.trans h4); cases (R_r0_5.symm.trans h5); simp only [k0_r0_1_0]; exact TRP.r (by omega) (by omega), hI154, (CM.cons S7 (CM.cons S35 (CM.cons S59 (CM.cons S82 (CM.cons S110 (CM.cons S131 (CM.mono S156 (by decide) (by decide)) (by decide) (by decide)) (by decide) (by decide)) (by decide) (by decide)) (by decide) (by decide)) (by decide) (by decide)) (by decide) (by decide))⟩
                        refine k_goto C (pc2 := 192) rfl rfl ?_
                        refine z_iinc C (z := 1) (lw := fun x190 => [(8, .int x190), (0, .ref r0), (1, .int n1), (2, .int x104), (3, .int x19), (4, .int x23), (5, .int x32), (6, .int x56), (7, .int x79)]) rfl rfl rfl (Nat.le_of_ble_eq_true rfl) rfl ⟨by omega, by omega⟩ (fun _ => rfl) (fun x190 ex190 => ?_)
                        show V 195 [(8, .int x190), (0, .ref r0), (1, .int n1), (2, .int x104), (3, .int x19), (4, .int x23), (5, .int x32), (6, .int x56), (7, .int x79)] _ _ _ _
                        refine k_goto C (pc2 := 90) rfl rfl ?_
                        refine k_sub S [(0, .ref r0), (1, .int n1), (2, .int x104), (3, .int x19), (4, .int x23), (5, .int x32), (6, .int x56), (7, .int x79), (8, .int x190)] (List.forall_mem_cons.mpr ⟨List.mem_of_getElem? (i := 1) rfl, List.forall_mem_cons.mpr ⟨List.mem_of_getElem? (i := 2) rfl, List.forall_mem_cons.mpr ⟨List.mem_of_getElem? (i := 3) rfl, List.forall_mem_cons.mpr ⟨List.mem_of_getElem? (i := 4) rfl, List.forall_mem_cons.mpr ⟨List.mem_of_getElem? (i := 5) rfl, List.forall_mem_cons.mpr ⟨List.mem_of_getElem? (i := 6) rfl, List.forall_mem_cons.mpr ⟨List.mem_of_getElem? (i := 7) rfl, List.forall_mem_cons.mpr ⟨List.mem_of_getElem? (i := 8) rfl, List.forall_mem_cons.mpr ⟨List.mem_of_getElem? (i := 0) rfl, fun _ h => nomatch h⟩⟩⟩⟩⟩⟩⟩⟩⟩) ?_
                        exact ihJ100 _ (MN.lt hmnn101 (by omega) (by omega)) I154 L155 x104 x190 rfl hI154 (CM.cons S110 (CM.cons S131 (CM.mono S156 (by decide) (by decide)) (by decide) (by decide)) (by decide) (by decide)) (fun r z0 z1 => ((F157 r z0 z1).trans ((congrFun (CM.j0 S131 R_r0_4 (by decide)) r).trans (F112 r z0 z1)))) (fun r z0 z1 => ((F158 r z0 z1).trans ((congrFun (CM.j0 S131 R_r0_5 (by decide)) r).trans (F113 r z0 z1)))) (by omega) (by omega) (by omega) (by omega) (by omega) (by first | exact TF.up (by omega) (by omega) | exact TF.of ff90_1 (fun E h8 h9 => by have h7 := hE2 E; have h6 := hr111 (by omega); omega) | exact TF.of ff90_1 (fun E h8 h9 => by have h7 := hDT (by omega) (by omega) (by omega) (by omega); omega) | exact TF.of ff90_1 (fun E h8 h9 => absurd (EQR.mix E hM40 hN41 hMX (by omega) (by rw [k0_r0_4_40]) (by omega) (by omega) (by rw [e160, k0_r0_4_41]) (by rw [e171]; omega) (by omega) (by omega) (by omega) (by omega)) (hLK.2 (by omega)))) (by first | exact hN40 | exact hM40 | exact ff90_2) (by first | exact hN41 | exact hM41 | exact ff90_3)
                      refine k_goto C (pc2 := 192) rfl rfl ?_
                      refine z_iinc C (z := 1) (lw := fun x191 => [(8, .int x191), (0, .ref r0), (1, .int n1), (2, .int x104), (3, .int x19), (4, .int x23), (5, .int x32), (6, .int x56), (7, .int x79)]) rfl rfl rfl (Nat.le_of_ble_eq_true rfl) rfl ⟨by omega, by omega⟩ (fun _ => rfl) (fun x191 ex191 => ?_)
                      show V 195 [(8, .int x191), (0, .ref r0), (1, .int n1), (2, .int x104), (3, .int x19), (4, .int x23), (5, .int x32), (6, .int x56), (7, .int x79)] _ _ _ _
                      refine k_goto C (pc2 := 90) rfl rfl ?_
                      refine k_sub S [(0, .ref r0), (1, .int n1), (2, .int x104), (3, .int x19), (4, .int x23), (5, .int x32), (6, .int x56), (7, .int x79), (8, .int x191)] (List.forall_mem_cons.mpr ⟨List.mem_of_getElem? (i := 1) rfl, List.forall_mem_cons.mpr ⟨List.mem_of_getElem? (i := 2) rfl, List.forall_mem_cons.mpr ⟨List.mem_of_getElem? (i := 3) rfl, List.forall_mem_cons.mpr ⟨List.mem_of_getElem? (i := 4) rfl, List.forall_mem_cons.mpr ⟨List.mem_of_getElem? (i := 5) rfl, List.forall_mem_cons.mpr ⟨List.mem_of_getElem? (i := 6) rfl, List.forall_mem_cons.mpr ⟨List.mem_of_getElem? (i := 7) rfl, List.forall_mem_cons.mpr ⟨List.mem_of_getElem? (i := 8) rfl, List.forall_mem_cons.mpr ⟨List.mem_of_getElem? (i := 0) rfl, fun _ h => nomatch h⟩⟩⟩⟩⟩⟩⟩⟩⟩) ?_
                      exact ihJ100 _ (MN.lt hmnn101 (by omega) (by omega)) I129 L130 x104 x191 rfl hI129 (CM.cons S110 (CM.mono S131 (by decide) (by decide)) (by decide) (by decide)) (fun r z0 z1 => ((congrFun (CM.j0 S131 R_r0_4 (by decide)) r).trans (F112 r z0 z1))) (fun r z0 z1 => ((congrFun (CM.j0 S131 R_r0_5 (by decide)) r).trans (F113 r z0 z1))) (by omega) (by omega) (by omega) (by omega) (by omega) (by first | exact TF.up (by omega) (by omega) | exact TF.of ff90_1 (fun E h8 h9 => by have h7 := hE2 E; have h6 := hr111 (by omega); omega) | exact TF.of ff90_1 (fun E h8 h9 => by have h7 := hDT (by omega) (by omega) (by omega) (by omega); omega) | exact TF.of ff90_1 (fun E h8 h9 => absurd (EQR.mix E hM40 hN41 hMX (by omega) (by rw [k0_r0_4_40]) (by omega) (by omega) (by rw [e133, k0_r0_4_41]) (by rw [hUnknown]; omega) (by omega) (by omega) (by omega) (by omega)) (hLK.2 (by omega)))) (by first | exact hN40 | exact hM40 | exact ff90_2) (by first | exact hN41 | exact hM41 | exact ff90_3)
                    refine k_goto C (pc2 := 192) rfl rfl ?_
                    refine z_iinc C (z := 1) (lw := fun x192 => [(8, .int x192), (0, .ref r0), (1, .int n1), (2, .int x104), (3, .int x19), (4, .int x23), (5, .int x32), (6, .int x56), (7, .int x79)]) rfl rfl rfl (Nat.le_of_ble_eq_true rfl) rfl ⟨by omega, by omega⟩ (fun _ => rfl) (fun x192 ex192 => ?_)
                    show V 195 [(8, .int x192), (0, .ref r0), (1, .int n1), (2, .int x104), (3, .int x19), (4, .int x23), (5, .int x32), (6, .int x56), (7, .int x79)] _ _ _ _
                    refine k_goto C (pc2 := 90) rfl rfl ?_
                    refine k_sub S [(0, .ref r0), (1, .int n1), (2, .int x104), (3, .int x19), (4, .int x23), (5, .int x32), (6, .int x56), (7, .int x79), (8, .int x192)] (List.forall_mem_cons.mpr ⟨List.mem_of_getElem? (i := 1) rfl, List.forall_mem_cons.mpr ⟨List.mem_of_getElem? (i := 2) rfl, List.forall_mem_cons.mpr ⟨List.mem_of_getElem? (i := 3) rfl, List.forall_mem_cons.mpr ⟨List.mem_of_getElem? (i := 4) rfl, List.forall_mem_cons.mpr ⟨List.mem_of_getElem? (i := 5) rfl, List.forall_mem_cons.mpr ⟨List.mem_of_getElem? (i := 6) rfl, List.forall_mem_cons.mpr ⟨List.mem_of_getElem? (i := 7) rfl, List.forall_mem_cons.mpr ⟨List.mem_of_getElem? (i := 8) rfl, List.forall_mem_cons.mpr ⟨List.mem_of_getElem? (i := 0) rfl, fun _ h => nomatch h⟩⟩⟩⟩⟩⟩⟩⟩⟩) ?_
                    exact ihJ100 _ (MN.lt hmnn101 (by omega) (by omega)) I102 L103 x104 x192 rfl hI111 (CM.mono S110 (by decide) (by decide)) (fun r z0 z1 => (F112 r z0 z1)) (fun r z0 z1 => (F113 r z0 z1)) (by omega) (by omega) (by omega) (by omega) (by omega) (by first | exact TF.up (by omega) (by omega) | exact TF.of ff90_1 (fun E h8 h9 => by have h7 := hE2 E; have h6 := hr111 (by omega); omega) | exact TF.of ff90_1 (fun E h8 h9 => by have h7 := hDT (by omega) (by omega) (by omega) (by omega); omega) | exact TF.of ff90_1 (fun E h8 h9 => absurd (EQR.mix E hM40 hN41 hMX (by omega) (by rw [k0_r0_4_40]) (by omega) (by omega) (by rw [e115, k0_r0_4_41]) (by rw [hUnknown]; omega) (by omega) (by omega) (by omega) (by omega)) (hLK.2 (by omega)))) (by first | exact hN40 | exact hM40 | exact ff90_2) (by first | exact hN41 | exact hM41 | exact ff90_3)
                refine k_istore C (lw := [(8, .int x99), (0, .ref r0), (1, .int n1), (2, .int x76), (3, .int x19), (4, .int x23), (5, .int x32), (6, .int x56), (7, .int x79)]) rfl rfl (Nat.le_of_ble_eq_true rfl) rfl ?_
                refine k_sub S [(0, .ref r0), (1, .int n1), (2, .int x76), (3, .int x19), (4, .int x23), (5, .int x32), (6, .int x56), (7, .int x79), (8, .int x99)] (List.forall_mem_cons.mpr ⟨List.mem_of_getElem? (i := 1) rfl, List.forall_mem_cons.mpr ⟨List.mem_of_getElem? (i := 2) rfl, List.forall_mem_cons.mpr ⟨List.mem_of_getElem? (i := 3) rfl, List.forall_mem_cons.mpr ⟨List.mem_of_getElem? (i := 4) rfl, List.forall_mem_cons.mpr ⟨List.mem_of_getElem? (i := 5) rfl, List.forall_mem_cons.mpr ⟨List.mem_of_getElem? (i := 6) rfl, List.forall_mem_cons.mpr ⟨List.mem_of_getElem? (i := 7) rfl, List.forall_mem_cons.mpr ⟨List.mem_of_getElem? (i := 8) rfl, List.forall_mem_cons.mpr ⟨List.mem_of_getElem? (i := 0) rfl, fun _ h => nomatch h⟩⟩⟩⟩⟩⟩⟩⟩⟩) ?_
                exact J100 _ I74 L75 x76 x99 rfl hI83 CM.rf (fun r z0 z1 => rfl) (fun r z0 z1 => rfl) (by omega) (by omega) (by omega) (by omega) (by omega) (by exact TF.c ff58_1 (fun h9 => by omega)) (by exact ff58_2) (by exact ff58_3)
              refine k_goto C (pc2 := 198) rfl rfl ?_
              refine z_iinc C (z := 1) (lw := fun x193 => [(7, .int x193), (0, .ref r0), (1, .int n1), (2, .int x76), (3, .int x19), (4, .int x23), (5, .int x32), (6, .int x56)]) rfl rfl rfl (Nat.le_of_ble_eq_true rfl) rfl ⟨by omega, by omega⟩ (fun _ => rfl) (fun x193 ex193 => ?_)
              show V 201 [(7, .int x193), (0, .ref r0), (1, .int n1), (2, .int x76), (3, .int x19), (4, .int x23), (5, .int x32), (6, .int x56)] _ _ _ _
              refine k_goto C (pc2 := 58) rfl rfl ?_
              refine k_sub S [(0, .ref r0), (1, .int n1), (2, .int x76), (3, .int x19), (4, .int x23), (5, .int x32), (6, .int x56), (7, .int x193)] (List.forall_mem_cons.mpr ⟨List.mem_of_getElem? (i := 1) rfl, List.forall_mem_cons.mpr ⟨List.mem_of_getElem? (i := 2) rfl, List.forall_mem_cons.mpr ⟨List.mem_of_getElem? (i := 3) rfl, List.forall_mem_cons.mpr ⟨List.mem_of_getElem? (i := 4) rfl, List.forall_mem_cons.mpr ⟨List.mem_of_getElem? (i := 5) rfl, List.forall_mem_cons.mpr ⟨List.mem_of_getElem? (i := 6) rfl, List.forall_mem_cons.mpr ⟨List.mem_of_getElem? (i := 7) rfl, List.forall_mem_cons.mpr ⟨List.mem_of_getElem? (i := 0) rfl, fun _ h => nomatch h⟩⟩⟩⟩⟩⟩⟩⟩) ?_
              exact ihJ72 _ (MN.lt hmnn73 (by omega) (by omega)) I74 L75 x76 x193 rfl hI83 (CM.mono S82 (by decide) (by decide)) (fun r z0 z1 => (F84 r z0 z1)) (fun r z0 z1 => (F85 r z0 z1)) (by omega) (by omega) (by omega) (by omega) (by omega) (by first | exact TF.c ff90_1 (fun h9 => by omega) | exact TF.of ff58_1 (fun E h8 h9 => by have h7 := hE1 E; have h6 := hr79 (by omega); omega)) (by first | exact ff90_2 | exact ff58_2) (by first | exact ff90_3 | exact ff58_3)
          refine k_istore C (lw := [(7, .int x71), (0, .ref r0), (1, .int n1), (2, .int x53), (3, .int x19), (4, .int x23), (5, .int x32), (6, .int x56)]) rfl rfl (Nat.le_of_ble_eq_true rfl) rfl ?_
          refine k_sub S [(0, .ref r0), (1, .int n1), (2, .int x53), (3, .int x19), (4, .int x23), (5, .int x32), (6, .int x56), (7, .int x71)] (List.forall_mem_cons.mpr ⟨List.mem_of_getElem? (i := 1) rfl, List.forall_mem_cons.mpr ⟨List.mem_of_getElem? (i := 2) rfl, List.forall_mem_cons.mpr ⟨List.mem_of_getElem? (i := 3) rfl, List.forall_mem_cons.mpr ⟨List.mem_of_getElem? (i := 4) rfl, List.forall_mem_cons.mpr ⟨List.mem_of_getElem? (i := 5) rfl, List.forall_mem_cons.mpr ⟨List.mem_of_getElem? (i := 6) rfl, List.forall_mem_cons.mpr ⟨List.mem_of_getElem? (i := 7) rfl, List.forall_mem_cons.mpr ⟨List.mem_of_getElem? (i := 0) rfl, fun _ h => nomatch h⟩⟩⟩⟩⟩⟩⟩⟩) ?_
          exact J72 _ I51 L52 x53 x71 rfl hI60 CM.rf (fun r z0 z1 => rfl) (fun r z0 z1 => rfl) (by omega) (by omega) (by omega) (by omega) (by omega) (by exact TF.c ff46_1 (fun h9 => by omega)) (by exact ff46_2) (by exact ff46_3)
      refine k_istore C (lw := [(6, .int x48), (0, .ref r0), (1, .int n1), (2, .int x29), (3, .int x19), (4, .int x23), (5, .int x32)]) rfl rfl (Nat.le_of_ble_eq_true rfl) rfl ?_
      refine k_sub S [(0, .ref r0), (1, .int n1), (2, .int x29), (3, .int x19), (4, .int x23), (5, .int x32), (6, .int x48)] (List.forall_mem_cons.mpr ⟨List.mem_of_getElem? (i := 1) rfl, List.forall_mem_cons.mpr ⟨List.mem_of_getElem? (i := 2) rfl, List.forall_mem_cons.mpr ⟨List.mem_of_getElem? (i := 3) rfl, List.forall_mem_cons.mpr ⟨List.mem_of_getElem? (i := 4) rfl, List.forall_mem_cons.mpr ⟨List.mem_of_getElem? (i := 5) rfl, List.forall_mem_cons.mpr ⟨List.mem_of_getElem? (i := 6) rfl, List.forall_mem_cons.mpr ⟨List.mem_of_getElem? (i := 0) rfl, fun _ h => nomatch h⟩⟩⟩⟩⟩⟩⟩) ?_
      exact J49 _ I27 L28 x29 x48 rfl hI36 CM.rf (fun r z0 z1 => rfl) (fun r z0 z1 => rfl) (by omega) (by omega) (by omega) (by omega) (by omega) (by exact TF.c ff34_1 (fun h9 => by omega)) (by exact ff34_2) (by exact ff34_3)
  refine k_istore C (lw := [(5, .int x24), (4, .int x23), (3, .int x19), (2, .int x1), (0, .ref r0), (1, .int n1)]) rfl rfl (Nat.le_of_ble_eq_true rfl) rfl ?_
  refine k_sub S [(0, .ref r0), (1, .int n1), (2, .int x1), (3, .int x19), (4, .int x23), (5, .int x24)] (List.forall_mem_cons.mpr ⟨List.mem_of_getElem? (i := 4) rfl, List.forall_mem_cons.mpr ⟨List.mem_of_getElem? (i := 5) rfl, List.forall_mem_cons.mpr ⟨List.mem_of_getElem? (i := 3) rfl, List.forall_mem_cons.mpr ⟨List.mem_of_getElem? (i := 2) rfl, List.forall_mem_cons.mpr ⟨List.mem_of_getElem? (i := 1) rfl, List.forall_mem_cons.mpr ⟨List.mem_of_getElem? (i := 0) rfl, fun _ h => nomatch h⟩⟩⟩⟩⟩⟩) ?_
  exact J25 _ I5 L6 x1 x24 rfl hI5 CM.rf (fun r z0 z1 => rfl) (fun r z0 z1 => rfl) (by omega) (by omega) (by omega) (by omega) (by omega) (by exact TF.z (by omega)) (by exact SMR.eq (CM.j0 S7 R_r0_5 (by decide))) (by exact SMR.eq (CM.j0 S7 R_r0_5 (by decide)))

theorem a_X12_allTables_e {d : Nat} {T N : Nat → Nat} {I : IT} {L : LT} {R : RT} {A : Nat → Prop} {r0 : Nat} (hI : IM R r0 I) (H_r0 : (h_MD T N R A) r0) : Ex (d + 2) 276 [.ref r0] (T, N, I, L, R) 0 0 (pI T N R (fun x9 I9 L9 => (12240 ≤ x9.toInt) ∧ (x9.toInt ≤ 126000) ∧ (I = I9 ∧ L = L9))) := by
  refine ⟨_, rfl, Nat.le_of_ble_eq_true rfl, fun V C S => ?_⟩
  show V 0 [(0, .ref r0)] [] (T, N, I, L, R) 0 0
  obtain ⟨T_r0, A_r0, ⟨r0_1, R_r0_1, H_r0_1⟩, ⟨r0_2, R_r0_2, H_r0_2⟩, ⟨r0_4, R_r0_4, H_r0_4⟩, ⟨r0_5, R_r0_5, H_r0_5⟩, ⟨r0_10, R_r0_10, H_r0_10⟩, ⟨r0_18, R_r0_18, H_r0_18⟩, ⟨r0_20, R_r0_20, H_r0_20⟩, ⟨r0_21, R_r0_21, H_r0_21⟩, ⟨r0_22, R_r0_22, H_r0_22⟩, ⟨r0_23, R_r0_23, H_r0_23⟩, ⟨r0_25, R_r0_25, H_r0_25⟩, ⟨r0_26, R_r0_26, H_r0_26⟩, ⟨r0_27, R_r0_27, H_r0_27⟩, ⟨r0_28, R_r0_28, H_r0_28⟩, ⟨r0_34, R_r0_34, H_r0_34⟩, J_r0, Y_r0⟩ := id H_r0
  have G_r0 : mF T R r0 := ⟨J_r0, Y_r0, T_r0⟩
  refine k_aload_n C rfl rfl rfl ?_
  refine c_VI C (a_X12_p hI H_r0) rfl rfl rfl rfl rfl ⟨_, rfl, rfl, T_r0, Nat.le_of_ble_eq_true rfl⟩ rfl rfl (Nat.le_of_ble_eq_true rfl) (Nat.le_of_ble_eq_true rfl) (Nat.le_of_ble_eq_true rfl) ?_
  rintro x1 _ _ ⟨o0x1, o1x1, p0x1, rfl, rfl⟩
  have p0x1 := p0x1 r0_1 R_r0_1
  have gx1 := rg x1
  obtain ⟨x2, e3⟩ : ∃ x, I r0_1 0 = x := ⟨_, rfl⟩
  have gx2 := rg x2
  have ox2 := IM.pi hI R_r0_1 e3
  try simp only [e3] at p0x1
  try have q0x1 := congrArg Int32.toInt p0x1
  refine k_aload_n C rfl rfl rfl ?_
  refine c_VI C (a_X12_p hI H_r0) rfl rfl rfl rfl rfl ⟨_, rfl, rfl, T_r0, Nat.le_of_ble_eq_true rfl⟩ rfl rfl (Nat.le_of_ble_eq_true rfl) (Nat.le_of_ble_eq_true rfl) (Nat.le_of_ble_eq_true rfl) ?_
  rintro x4 _ _ ⟨o0x4, o1x4, p0x4, rfl, rfl⟩
  have p0x4 := p0x4 r0_1 R_r0_1
  have gx4 := rg x4
  try simp only [e3, e3] at p0x4
  try have q0x4 := congrArg Int32.toInt p0x4
  refine z_imulJ C (a := 19) (a' := 11) (b := 19) (b' := 11) (c := 361) (c' := 121) rfl rfl ⟨by omega, by omega⟩ ⟨by omega, by omega⟩ (by decide) (by decide) (by decide) (by decide) (by decide) (fun x5 ex5 => ?_)
  refine z_iconst C (z := 1) rfl rfl rfl (fun x6 ex6 => ?_)
  refine z_isub C rfl rfl ⟨by omega, by omega⟩ (fun x7 ex7 => ?_)
  refine k_aload_n C rfl rfl rfl ?_
  refine c_VI C (a_X12_p hI H_r0) rfl rfl rfl rfl rfl ⟨_, rfl, rfl, T_r0, Nat.le_of_ble_eq_true rfl⟩ rfl rfl (Nat.le_of_ble_eq_true rfl) (Nat.le_of_ble_eq_true rfl) (Nat.le_of_ble_eq_true rfl) ?_
  rintro x8 _ _ ⟨o0x8, o1x8, p0x8, rfl, rfl⟩
  have p0x8 := p0x8 r0_1 R_r0_1
  have gx8 := rg x8
  try simp only [e3, e3] at p0x8
  try have q0x8 := congrArg Int32.toInt p0x8
  refine k_aload_n C rfl rfl rfl ?_
  refine c_VI C (a_X12_p hI H_r0) rfl rfl rfl rfl rfl ⟨_, rfl, rfl, T_r0, Nat.le_of_ble_eq_true rfl⟩ rfl rfl (Nat.le_of_ble_eq_true rfl) (Nat.le_of_ble_eq_true rfl) (Nat.le_of_ble_eq_true rfl) ?_
  rintro x9 _ _ ⟨o0x9, o1x9, p0x9, rfl, rfl⟩
  have p0x9 := p0x9 r0_1 R_r0_1
  have gx9 := rg x9
  try simp only [e3, e3] at p0x9
  try have q0x9 := congrArg Int32.toInt p0x9
  refine z_imulJ C (a := 19) (a' := 11) (b := 19) (b' := 11) (c := 361) (c' := 121) rfl rfl ⟨by omega, by omega⟩ ⟨by omega, by omega⟩ (by decide) (by decide) (by decide) (by decide) (by decide) (fun x10 ex10 => ?_)
  refine k_aload_n C rfl rfl rfl ?_
  refine c_VI C (a_X12_p hI H_r0) rfl rfl rfl rfl rfl ⟨_, rfl, rfl, T_r0, Nat.le_of_ble_eq_true rfl⟩ rfl rfl (Nat.le_of_ble_eq_true rfl) (Nat.le_of_ble_eq_true rfl) (Nat.le_of_ble_eq_true rfl) ?_
  rintro x11 _ _ ⟨o0x11, o1x11, p0x11, rfl, rfl⟩
  have p0x11 := p0x11 r0_1 R_r0_1
  have gx11 := rg x11
  try simp only [e3, e3] at p0x11
  try have q0x11 := congrArg Int32.toInt p0x11
  refine z_isub C rfl rfl ⟨by omega, by omega⟩ (fun x12 ex12 => ?_)
  refine z_imulJ C (a := 360) (a' := 120) (b := 350) (b' := 102) (c := 126000) (c' := 12240) rfl rfl ⟨by omega, by omega⟩ ⟨by omega, by omega⟩ (by decide) (by decide) (by decide) (by decide) (by decide) (fun x13 ex13 => ?_)
  exact k_iret C rfl (Or.inl rfl) (Nat.le_of_ble_eq_true rfl) (Nat.le_of_ble_eq_true rfl) ⟨_, _, _, rfl, rfl, by omega, by omega, rfl, rfl⟩

theorem a_X12_sameOf {d : Nat} {T N : Nat → Nat} {I : IT} {L : LT} {R : RT} {A : Nat → Prop} {r0 : Nat} {n1 n2 : Int32} (hI : IM R r0 I) (H_r0 : (h_MD T N R A) r0) (b0_n1 : 0 ≤ n1.toInt) (b1_n1 : n1.toInt ≤ 15) (b0_n2 : 0 ≤ n2.toInt) (b1_n2 : n2.toInt ≤ 15) (hp0 : ∀ a1, R r0 1 = some a1 → n1.toInt < (I a1 1).toInt) : Ex (d + 7) 274 [.ref r0, .int n1, .int n2] (T, N, I, L, R) 0 0 (pI T N R (fun x9 I9 L9 => (n1.toInt = n2.toInt → 0 ≤ x9.toInt) ∧ (IM R r0 I9 ∧ CM A R r0 [6, 7, 8, 9] [4, 5, 25] I L I9 L9))) := by
  refine ⟨_, rfl, Nat.le_of_ble_eq_true rfl, fun V C S => ?_⟩
  show V 0 [(0, .ref r0), (1, .int n1), (2, .int n2)] [] (T, N, I, L, R) 0 0
  have gn1 := rg n1
  have gn2 := rg n2
  obtain ⟨T_r0, A_r0, ⟨r0_1, R_r0_1, H_r0_1⟩, ⟨r0_2, R_r0_2, H_r0_2⟩, ⟨r0_4, R_r0_4, H_r0_4⟩, ⟨r0_5, R_r0_5, H_r0_5⟩, ⟨r0_10, R_r0_10, H_r0_10⟩, ⟨r0_18, R_r0_18, H_r0_18⟩, ⟨r0_20, R_r0_20, H_r0_20⟩, ⟨r0_21, R_r0_21, H_r0_21⟩, ⟨r0_22, R_r0_22, H_r0_22⟩, ⟨r0_23, R_r0_23, H_r0_23⟩, ⟨r0_25, R_r0_25, H_r0_25⟩, ⟨r0_26, R_r0_26, H_r0_26⟩, ⟨r0_27, R_r0_27, H_r0_27⟩, ⟨r0_28, R_r0_28, H_r0_28⟩, ⟨r0_34, R_r0_34, H_r0_34⟩, J_r0, Y_r0⟩ := id H_r0
  have G_r0 : mF T R r0 := ⟨J_r0, Y_r0, T_r0⟩
  obtain ⟨w_r0_1_1, k0_r0_1_1⟩ : ∃ x, I r0_1 1 = x := ⟨_, rfl⟩
  have gw_r0_1_1 := rg w_r0_1_1
  have ow_r0_1_1 := IM.c1 hI R_r0_1 k0_r0_1_1
  obtain ⟨w_r0_1_0, k0_r0_1_0⟩ : ∃ x, I r0_1 0 = x := ⟨_, rfl⟩
  have gw_r0_1_0 := rg w_r0_1_0
  have ow_r0_1_0 := IM.pi hI R_r0_1 k0_r0_1_0
  obtain ⟨w_r0_1_E_6_10_n1_toNatClampNeg, k0_r0_1_E_6_10_n1_toNatClampNeg⟩ : ∃ x, I r0_1 (6 + 10 * n1.toNatClampNeg) = x := ⟨_, rfl⟩
  have gw_r0_1_E_6_10_n1_toNatClampNeg := rg w_r0_1_E_6_10_n1_toNatClampNeg
  obtain ⟨w_r0_1_E_6_10_n2_toNatClampNeg, k0_r0_1_E_6_10_n2_toNatClampNeg⟩ : ∃ x, I r0_1 (6 + 10 * n2.toNatClampNeg) = x := ⟨_, rfl⟩
  have gw_r0_1_E_6_10_n2_toNatClampNeg := rg w_r0_1_E_6_10_n2_toNatClampNeg
  have hp0 := hp0 r0_1 R_r0_1
  try simp only [k0_r0_1_1, k0_r0_1_0, k0_r0_1_E_6_10_n1_toNatClampNeg, k0_r0_1_E_6_10_n2_toNatClampNeg] at hp0
  refine k_aload_n C rfl rfl rfl ?_
  refine k_iload_n C rfl rfl rfl ?_
  refine c_VI C (a_X12_degreeOf hI H_r0 (by omega) (by omega)) rfl rfl rfl rfl rfl ⟨_, rfl, rfl, T_r0, Nat.le_of_ble_eq_true rfl⟩ rfl rfl (Nat.le_of_ble_eq_true rfl) (Nat.le_of_ble_eq_true rfl) (Nat.le_of_ble_eq_true rfl) ?_
  rintro x1 _ _ ⟨o0x1, o1x1, p0x1, rfl, rfl⟩
  have p0x1 := p0x1 r0_1 R_r0_1
  have gx1 := rg x1
  try simp only [k0_r0_1_1, k0_r0_1_0, k0_r0_1_E_6_10_n1_toNatClampNeg, k0_r0_1_E_6_10_n2_toNatClampNeg, k0_r0_1_E_6_10_n1_toNatClampNeg] at p0x1
  try have q0x1 := congrArg Int32.toInt p0x1
  refine k_aload_n C rfl rfl rfl ?_
  refine k_iload_n C rfl rfl rfl ?_
  refine c_VI C (a_X12_degreeOf hI H_r0 (by omega) (by omega)) rfl rfl rfl rfl rfl ⟨_, rfl, rfl, T_r0, Nat.le_of_ble_eq_true rfl⟩ rfl rfl (Nat.le_of_ble_eq_true rfl) (Nat.le_of_ble_eq_true rfl) (Nat.le_of_ble_eq_true rfl) ?_
  rintro x2 _ _ ⟨o0x2, o1x2, p0x2, rfl, rfl⟩
  have p0x2 := p0x2 r0_1 R_r0_1
  have gx2 := rg x2
  try simp only [k0_r0_1_1, k0_r0_1_0, k0_r0_1_E_6_10_n1_toNatClampNeg, k0_r0_1_E_6_10_n2_toNatClampNeg, k0_r0_1_E_6_10_n2_toNatClampNeg] at p0x2
  try have q0x2 := congrArg Int32.toInt p0x2
  refine b_icmp_eq C (t := 15) rfl rfl rfl (fun c3 => ?_) (fun c3 => ?_)
  · skip
    refine k_aload_n C rfl rfl rfl ?_
    refine z_bipush C (z := 40) rfl rfl rfl (fun x4 ex4 => ?_)
    refine k_iload_n C rfl rfl rfl ?_
    have q5 : x4.toNatClampNeg = 40 := nck (by omega)
    refine c_VV C (a_X12_takes_e hI H_r0 (by omega) (by omega) (by omega) (by omega)) rfl rfl rfl rfl rfl ⟨_, rfl, rfl, T_r0, Nat.le_of_ble_eq_true rfl⟩ rfl rfl (Nat.le_of_ble_eq_true rfl) (Nat.le_of_ble_eq_true rfl) (Nat.le_of_ble_eq_true rfl) ?_
    rintro I7 L8 ⟨p0v6, p1v6, p2v6, p3v6, p4v6, p5v6, hI7, S9⟩
    have p0v6 := p0v6 r0_4 R_r0_4
    have p1v6 := p1v6 r0_1 r0_4 R_r0_1 R_r0_4
    have p2v6 := p2v6 r0_1 r0_4 r0_5 R_r0_1 R_r0_4 R_r0_5
    have p3v6 := p3v6 r0_1 r0_4 r0_5 R_r0_1 R_r0_4 R_r0_5
    have p4v6 := p4v6 r0_4 R_r0_4
    have p5v6 := p5v6 r0_5 R_r0_5
    try simp only [q5] at p4v6
    try simp only [q5] at p5v6
    have e10 := CM.j S9 R_r0_1 (by decide) k0_r0_1_1
    have e11 := CM.j S9 R_r0_1 (by decide) k0_r0_1_0
    have e12 := CM.j S9 R_r0_1 (by decide) k0_r0_1_E_6_10_n1_toNatClampNeg
    have e13 := CM.j S9 R_r0_1 (by decide) k0_r0_1_E_6_10_n2_toNatClampNeg
    obtain ⟨x14, e15⟩ : ∃ x, I7 r0_4 40 = x := ⟨_, rfl⟩
    have gx14 := rg x14
    have ox14 := IM.dgR hI7 R_r0_4 e15
    try simp only [q5, k0_r0_1_1, k0_r0_1_0, k0_r0_1_E_6_10_n1_toNatClampNeg, k0_r0_1_E_6_10_n2_toNatClampNeg, e15] at p0v6
    try have q0v6 := congrArg Int32.toInt p0v6
    try simp only [q5, k0_r0_1_1, k0_r0_1_0, k0_r0_1_E_6_10_n1_toNatClampNeg, k0_r0_1_E_6_10_n2_toNatClampNeg, e15] at p1v6
    try have q1v6 := congrArg Int32.toInt p1v6
    try simp only [q5, k0_r0_1_1, k0_r0_1_0, k0_r0_1_E_6_10_n1_toNatClampNeg, k0_r0_1_E_6_10_n2_toNatClampNeg, e15] at p2v6
    try have q2v6 := congrArg Int32.toInt p2v6
    try simp only [q5, k0_r0_1_1, k0_r0_1_0, k0_r0_1_E_6_10_n1_toNatClampNeg, k0_r0_1_E_6_10_n2_toNatClampNeg, e15] at p3v6
    try have q3v6 := congrArg Int32.toInt p3v6
    have hT1 := p3v6
    have hQ1 := p2v6 (by omega)
    have hW1 := CM.j0 S9 R_r0_1 (by decide)
    refine k_aload_n C rfl rfl rfl ?_
    refine z_bipush C (z := 41) rfl rfl rfl (fun x16 ex16 => ?_)
    refine k_iload_n C rfl rfl rfl ?_
    have q17 : x16.toNatClampNeg = 41 := nck (by omega)
    refine c_VV C (a_X12_takes_e hI7 H_r0 (by omega) (by omega) (by omega) (by omega)) rfl rfl rfl rfl rfl ⟨_, rfl, rfl, T_r0, Nat.le_of_ble_eq_true rfl⟩ rfl rfl (Nat.le_of_ble_eq_true rfl) (Nat.le_of_ble_eq_true rfl) (Nat.le_of_ble_eq_true rfl) ?_
    rintro I19 L20 ⟨p0v18, p1v18, p2v18, p3v18, p4v18, p5v18, hI19, S21⟩
    have p0v18 := p0v18 r0_4 R_r0_4
    have p1v18 := p1v18 r0_1 r0_4 R_r0_1 R_r0_4
    have p2v18 := p2v18 r0_1 r0_4 r0_5 R_r0_1 R_r0_4 R_r0_5
    have p3v18 := p3v18 r0_1 r0_4 r0_5 R_r0_1 R_r0_4 R_r0_5
    have p4v18 := p4v18 r0_4 R_r0_4
    have p5v18 := p5v18 r0_5 R_r0_5
    try simp only [q17] at p4v18
    try simp only [q17] at p5v18
    have e22 := CM.j S21 R_r0_1 (by decide) e10
    have e23 := CM.j S21 R_r0_1 (by decide) e11
    have e24 := CM.j S21 R_r0_1 (by decide) e12
    have e25 := CM.j S21 R_r0_1 (by decide) e13
    have e26 := (p4v18 40 (by first | decide | exact ncne (by omega) (by omega) (by omega) | exact nckn (by omega) (by omega) | exact (nckn (by omega) (by omega)).symm)).trans e15
    obtain ⟨x27, e28⟩ : ∃ x, I19 r0_4 41 = x := ⟨_, rfl⟩
    have gx27 := rg x27
    have ox27 := IM.dgR hI19 R_r0_4 e28
    try simp only [q17, e10, e11, e12, e13, e15, e28] at p0v18
    try have q0v18 := congrArg Int32.toInt p0v18
    try simp only [q17, e10, e11, e12, e13, e15, e28] at p1v18
    try have q1v18 := congrArg Int32.toInt p1v18
    try simp only [q17, e10, e11, e12, e13, e15, e28] at p2v18
    try have q2v18 := congrArg Int32.toInt p2v18
    try simp only [q17, e10, e11, e12, e13, e15, e28] at p3v18
    try have q3v18 := congrArg Int32.toInt p3v18
    have hT2 := TKE.w p3v18 hW1
    have hT1 := TKE.sm hT1 (fun k hk => p5v18 _ (by omega)) (by omega)
    have hQ1 := QN.sm hQ1 (fun k hk => p5v18 _ (by omega)) (by omega)
    have hEQ := fun (z : n1.toInt = n2.toInt) => EQR.of hT1 hT2 (by rw [e26]) (by rw [e28]) (by rw [Int32.toInt_inj.mp z]) (by omega) hQ1
    refine k_aload_n C rfl rfl rfl ?_
    refine z_bipush C (z := 40) rfl rfl rfl (fun x29 ex29 => ?_)
    have q30 : x29.toNatClampNeg = 40 := nck (by omega)
    refine c_VI C (a_X12_isNought_e hI19 H_r0 (by omega) (by omega)) rfl rfl rfl rfl rfl ⟨_, rfl, rfl, T_r0, Nat.le_of_ble_eq_true rfl⟩ rfl rfl (Nat.le_of_ble_eq_true rfl) (Nat.le_of_ble_eq_true rfl) (Nat.le_of_ble_eq_true rfl) ?_
    rintro x31 _ _ ⟨o0x31, o1x31, p0x31, p1x31, rfl, rfl⟩
    have p0x31 := p0x31 r0_4 r0_5 R_r0_4 R_r0_5
    have p1x31 := p1x31 r0_4 r0_5 R_r0_4 R_r0_5
    have gx31 := rg x31
    try simp only [q30, e22, e23, e24, e25, e26, e28] at p0x31
    try have q0x31 := congrArg Int32.toInt p0x31
    try simp only [q30, e22, e23, e24, e25, e26, e28] at p1x31
    try have q1x31 := congrArg Int32.toInt p1x31
    have hN1 := p1x31
    refine k_aload_n C rfl rfl rfl ?_
    refine z_bipush C (z := 41) rfl rfl rfl (fun x32 ex32 => ?_)
    have q33 : x32.toNatClampNeg = 41 := nck (by omega)
    refine c_VI C (a_X12_isNought_e hI19 H_r0 (by omega) (by omega)) rfl rfl rfl rfl rfl ⟨_, rfl, rfl, T_r0, Nat.le_of_ble_eq_true rfl⟩ rfl rfl (Nat.le_of_ble_eq_true rfl) (Nat.le_of_ble_eq_true rfl) (Nat.le_of_ble_eq_true rfl) ?_
    rintro x34 _ _ ⟨o0x34, o1x34, p0x34, p1x34, rfl, rfl⟩
    have p0x34 := p0x34 r0_4 r0_5 R_r0_4 R_r0_5
    have p1x34 := p1x34 r0_4 r0_5 R_r0_4 R_r0_5
    have gx34 := rg x34
    try simp only [q33, e22, e23, e24, e25, e26, e28] at p0x34
    try have q0x34 := congrArg Int32.toInt p0x34
    try simp only [q33, e22, e23, e24, e25, e26, e28] at p1x34
    try have q1x34 := congrArg Int32.toInt p1x34
    have hN2 := p1x34
    refine b_icmp_eq C (t := 48) rfl rfl rfl (fun c35 => ?_) (fun c35 => ?_)
    · skip
      refine k_aload_n C rfl rfl rfl ?_
      refine z_iconst C (z := 1) rfl rfl rfl (fun x36 ex36 => ?_)
      have q37 : x36.toNatClampNeg = 1 := nck (by omega)
      refine c_VI C (a_X12_tried_e hI19 H_r0 (by omega) (by omega)) rfl rfl rfl rfl rfl ⟨_, rfl, rfl, T_r0, Nat.le_of_ble_eq_true rfl⟩ rfl rfl (Nat.le_of_ble_eq_true rfl) (Nat.le_of_ble_eq_true rfl) (Nat.le_of_ble_eq_true rfl) ?_
      rintro x38 I39 L40 ⟨p0x38, hI39, S41⟩
      have p0x38 := p0x38 r0_1 r0_4 r0_5 R_r0_1 R_r0_4 R_r0_5
      have e42 := CM.j S41 R_r0_1 (by decide) e22
      have e43 := CM.j S41 R_r0_1 (by decide) e23
      have e44 := CM.j S41 R_r0_1 (by decide) e24
      have e45 := CM.j S41 R_r0_1 (by decide) e25
      have gx38 := rg x38
      try simp only [q37, e22, e23, e24, e25, e26, e28] at p0x38
      try have q0x38 := congrArg Int32.toInt p0x38
      have hTR := p0x38
      exact k_iret C rfl (Or.inl rfl) (Nat.le_of_ble_eq_true rfl) (Nat.le_of_ble_eq_true rfl) ⟨_, _, _, rfl, rfl, by intro z; first | exact (hTR (hEQ z)).1 (by omega) | (exfalso; have h9 := IFF.c hN1 hN2 (EQR.nq (hEQ z)) (by omega) (by omega); omega), hI39, (CM.cons S9 (CM.cons S21 (CM.mono S41 (by decide) (by decide)) (by decide) (by decide)) (by decide) (by decide))⟩
    refine z_iconst C (z := -1) rfl rfl rfl (fun x48 ex48 => ?_)
    refine k_goto C (pc2 := 53) rfl rfl ?_
    exact k_iret C rfl (Or.inl rfl) (Nat.le_of_ble_eq_true rfl) (Nat.le_of_ble_eq_true rfl) ⟨_, _, _, rfl, rfl, by intro z; first | exact (hTR (hEQ z)).1 (by omega) | (exfalso; have h9 := IFF.c hN1 hN2 (EQR.nq (hEQ z)) (by omega) (by omega); omega), hI19, (CM.cons S9 (CM.mono S21 (by decide) (by decide)) (by decide) (by decide))⟩
  refine z_iconst C (z := -1) rfl rfl rfl (fun x49 ex49 => ?_)
  exact k_iret C rfl (Or.inl rfl) (Nat.le_of_ble_eq_true rfl) (Nat.le_of_ble_eq_true rfl) ⟨_, _, _, rfl, rfl, by intro z; exfalso; have h9 := Int32.toInt_inj.mp z; subst h9; have h8 := congrArg Int32.toInt (k0_r0_1_E_6_10_n1_toNatClampNeg.symm.trans k0_r0_1_E_6_10_n2_toNatClampNeg); omega, hI, CM.rf⟩

theorem a_X12_same {d : Nat} {T N : Nat → Nat} {I : IT} {L : LT} {R : RT} {A : Nat → Prop} {r0 : Nat} {n1 n2 : Int32} (hI : IM R r0 I) (H_r0 : (h_MD T N R A) r0) : Ex (d + 8) 275 [.ref r0, .int n1, .int n2] (T, N, I, L, R) 0 0 (pI T N R (fun x9 I9 L9 => (IM R r0 I9 ∧ CM A R r0 [0, 6, 7, 8, 9] [4, 5, 25] I L I9 L9))) := by
  refine ⟨_, rfl, Nat.le_of_ble_eq_true rfl, fun V C S => ?_⟩
  show V 0 [(0, .ref r0), (1, .int n1), (2, .int n2)] [] (T, N, I, L, R) 0 0
  have gn1 := rg n1
  have gn2 := rg n2
  obtain ⟨T_r0, A_r0, ⟨r0_1, R_r0_1, H_r0_1⟩, ⟨r0_2, R_r0_2, H_r0_2⟩, ⟨r0_4, R_r0_4, H_r0_4⟩, ⟨r0_5, R_r0_5, H_r0_5⟩, ⟨r0_10, R_r0_10, H_r0_10⟩, ⟨r0_18, R_r0_18, H_r0_18⟩, ⟨r0_20, R_r0_20, H_r0_20⟩, ⟨r0_21, R_r0_21, H_r0_21⟩, ⟨r0_22, R_r0_22, H_r0_22⟩, ⟨r0_23, R_r0_23, H_r0_23⟩, ⟨r0_25, R_r0_25, H_r0_25⟩, ⟨r0_26, R_r0_26, H_r0_26⟩, ⟨r0_27, R_r0_27, H_r0_27⟩, ⟨r0_28, R_r0_28, H_r0_28⟩, ⟨r0_34, R_r0_34, H_r0_34⟩, J_r0, Y_r0⟩ := id H_r0
  have G_r0 : mF T R r0 := ⟨J_r0, Y_r0, T_r0⟩
  obtain ⟨w_r0_1_1, k0_r0_1_1⟩ : ∃ x, I r0_1 1 = x := ⟨_, rfl⟩
  have gw_r0_1_1 := rg w_r0_1_1
  have ow_r0_1_1 := IM.c1 hI R_r0_1 k0_r0_1_1
  refine k_aload_n C rfl rfl rfl ?_
  refine z_iconst C (z := 0) rfl rfl rfl (fun x1 ex1 => ?_)
  refine z_pI C rfl rfl rfl T_r0 (Or.inr rfl) rfl (fun I2 uI2 => ?_)
  have hI2 : IM R r0 I2 := IM.fld hI G_r0 ⟨(fun h => absurd h (by decide)), (fun h => absurd h (by decide)), (fun h => absurd h (by decide)), (fun h => absurd h (by decide)), (fun h => absurd h (by decide))⟩ uI2
  have S3 : CM A R r0 [0] [] I L I2 L := CM.f G_r0 A_r0 uI2
  have e4 := u2_n uI2 (mF.ne G_r0 R_r0_1) k0_r0_1_1
  have e5 := u2_e uI2
  refine k_aload_n C rfl rfl rfl ?_
  refine k_aload_n C rfl rfl rfl ?_
  refine k_iload_n C rfl rfl rfl ?_
  refine c_VI C (a_X12_noForm hI2 H_r0) rfl rfl rfl rfl rfl ⟨_, rfl, rfl, T_r0, Nat.le_of_ble_eq_true rfl⟩ rfl rfl (Nat.le_of_ble_eq_true rfl) (Nat.le_of_ble_eq_true rfl) (Nat.le_of_ble_eq_true rfl) ?_
  rintro x6 _ _ ⟨o0x6, o1x6, p0x6, rfl, rfl⟩
  have p0x6 := p0x6 r0_1 R_r0_1
  have gx6 := rg x6
  try simp only [e4, e5, e4] at p0x6
  try have q0x6 := congrArg Int32.toInt p0x6
  refine b_if_ne C (t := 22) rfl rfl rfl (fun c7 => ?_) (fun c7 => ?_)
  · skip
    refine z_iconst C (z := 1) rfl rfl rfl (fun x8 ex8 => ?_)
    refine k_goto C (pc2 := 27) rfl rfl ?_
    refine z_iconst C (z := 1) rfl rfl rfl (fun x9 ex9 => ?_)
    have q10 : x8.toNatClampNeg = 1 := nck (by omega)
    have q11 : x9.toNatClampNeg = 1 := nck (by omega)
    refine c_VI C (a_X12_throwsIf hI2 H_r0 (by omega) (by omega)) rfl rfl rfl rfl rfl ⟨_, rfl, rfl, T_r0, Nat.le_of_ble_eq_true rfl⟩ rfl rfl (Nat.le_of_ble_eq_true rfl) (Nat.le_of_ble_eq_true rfl) (Nat.le_of_ble_eq_true rfl) ?_
    rintro x12 I13 L14 ⟨o0x12, o1x12, p0x12, hI13, S15⟩
    have e16 := CM.j S15 R_r0_1 (by decide) e4
    have gx12 := rg x12
    try simp only [q10, q11, e4, e5] at p0x12
    try have q0x12 := congrArg Int32.toInt p0x12
    refine b_if_eq C (t := 38) rfl rfl rfl (fun c18 => by exfalso; omega) (fun c18 => ?_)
    refine z_iconst C (z := 0) rfl rfl rfl (fun x19 ex19 => ?_)
    refine k_goto C (pc2 := 44) rfl rfl ?_
    exact k_iret C rfl (Or.inl rfl) (Nat.le_of_ble_eq_true rfl) (Nat.le_of_ble_eq_true rfl) ⟨_, _, _, rfl, rfl, hI13, (CM.cons S3 (CM.mono S15 (by decide) (by decide)) (by decide) (by decide))⟩
  refine k_aload_n C rfl rfl rfl ?_
  refine k_iload_n C rfl rfl rfl ?_
  refine c_VI C (a_X12_noForm hI2 H_r0) rfl rfl rfl rfl rfl ⟨_, rfl, rfl, T_r0, Nat.le_of_ble_eq_true rfl⟩ rfl rfl (Nat.le_of_ble_eq_true rfl) (Nat.le_of_ble_eq_true rfl) (Nat.le_of_ble_eq_true rfl) ?_
  rintro x20 _ _ ⟨o0x20, o1x20, p0x20, rfl, rfl⟩
  have p0x20 := p0x20 r0_1 R_r0_1
  have gx20 := rg x20
  try simp only [e4, e5, e4] at p0x20
  try have q0x20 := congrArg Int32.toInt p0x20
  refine b_if_eq C (t := 26) rfl rfl rfl (fun c21 => ?_) (fun c21 => ?_)
  · skip
    refine z_iconst C (z := 0) rfl rfl rfl (fun x22 ex22 => ?_)
    refine z_iconst C (z := 1) rfl rfl rfl (fun x23 ex23 => ?_)
    have q24 : x22.toNatClampNeg = 0 := nck (by omega)
    have q25 : x23.toNatClampNeg = 1 := nck (by omega)
    refine c_VI C (a_X12_throwsIf hI2 H_r0 (by omega) (by omega)) rfl rfl rfl rfl rfl ⟨_, rfl, rfl, T_r0, Nat.le_of_ble_eq_true rfl⟩ rfl rfl (Nat.le_of_ble_eq_true rfl) (Nat.le_of_ble_eq_true rfl) (Nat.le_of_ble_eq_true rfl) ?_
    rintro x26 I27 L28 ⟨o0x26, o1x26, p0x26, hI27, S29⟩
    have e30 := CM.j S29 R_r0_1 (by decide) e4
    have gx26 := rg x26
    try simp only [q24, q25, e4, e5] at p0x26
    try have q0x26 := congrArg Int32.toInt p0x26
    refine b_if_eq C (t := 38) rfl rfl rfl (fun c32 => ?_) (fun c32 => by exfalso; omega)
    refine k_aload_n C rfl rfl rfl ?_
    refine k_iload_n C rfl rfl rfl ?_
    refine k_iload_n C rfl rfl rfl ?_
    refine c_VI C (a_X12_sameOf hI27 H_r0 (by omega) (by omega) (by omega) (by omega) (fun a1 h1 => by cases (R_r0_1.symm.trans h1); first | omega | (simp only [e30] <;> omega))) rfl rfl rfl rfl rfl ⟨_, rfl, rfl, T_r0, Nat.le_of_ble_eq_true rfl⟩ rfl rfl (Nat.le_of_ble_eq_true rfl) (Nat.le_of_ble_eq_true rfl) (Nat.le_of_ble_eq_true rfl) ?_
    rintro x33 I34 L35 ⟨p0x33, hI34, S36⟩
    have e37 := CM.j S36 R_r0_1 (by decide) e30
    have gx33 := rg x33
    try simp only [e30] at p0x33
    try have q0x33 := congrArg Int32.toInt p0x33
    exact k_iret C rfl (Or.inl rfl) (Nat.le_of_ble_eq_true rfl) (Nat.le_of_ble_eq_true rfl) ⟨_, _, _, rfl, rfl, hI34, (CM.cons S3 (CM.cons S29 (CM.mono S36 (by decide) (by decide)) (by decide) (by decide)) (by decide) (by decide))⟩
  refine z_iconst C (z := 1) rfl rfl rfl (fun x38 ex38 => ?_)
  refine k_goto C (pc2 := 27) rfl rfl ?_
  refine z_iconst C (z := 1) rfl rfl rfl (fun x39 ex39 => ?_)
  have q40 : x38.toNatClampNeg = 1 := nck (by omega)
  have q41 : x39.toNatClampNeg = 1 := nck (by omega)
  refine c_VI C (a_X12_throwsIf hI2 H_r0 (by omega) (by omega)) rfl rfl rfl rfl rfl ⟨_, rfl, rfl, T_r0, Nat.le_of_ble_eq_true rfl⟩ rfl rfl (Nat.le_of_ble_eq_true rfl) (Nat.le_of_ble_eq_true rfl) (Nat.le_of_ble_eq_true rfl) ?_
  rintro x42 I43 L44 ⟨o0x42, o1x42, p0x42, hI43, S45⟩
  have e46 := CM.j S45 R_r0_1 (by decide) e4
  have gx42 := rg x42
  try simp only [q40, q41, e4, e5] at p0x42
  try have q0x42 := congrArg Int32.toInt p0x42
  refine b_if_eq C (t := 38) rfl rfl rfl (fun c48 => by exfalso; omega) (fun c48 => ?_)
  refine z_iconst C (z := 0) rfl rfl rfl (fun x49 ex49 => ?_)
  refine k_goto C (pc2 := 44) rfl rfl ?_
  exact k_iret C rfl (Or.inl rfl) (Nat.le_of_ble_eq_true rfl) (Nat.le_of_ble_eq_true rfl) ⟨_, _, _, rfl, rfl, hI43, (CM.cons S3 (CM.mono S45 (by decide) (by decide)) (by decide) (by decide))⟩

theorem a_X12_keeps {d : Nat} {T N : Nat → Nat} {I : IT} {L : LT} {R : RT} {A : Nat → Prop} {r0 : Nat} {n1 : Int32} (hI : IM R r0 I) (H_r0 : (h_MD T N R A) r0) (b0_n1 : 0 ≤ n1.toInt) (b1_n1 : n1.toInt ≤ 15) (hp0 : ∀ a1, R r0 1 = some a1 → n1.toInt < (I a1 1).toInt) : Ex (d + 7) 277 [.ref r0, .int n1] (T, N, I, L, R) 0 0 (pI T N R (fun x9 I9 L9 => (1 ≤ x9.toInt) ∧ (IM R r0 I9 ∧ CM A R r0 [6, 7, 8, 9] [4, 5, 25] I L I9 L9))) := by
  refine ⟨_, rfl, Nat.le_of_ble_eq_true rfl, fun V C S => ?_⟩
  show V 0 [(0, .ref r0), (1, .int n1)] [] (T, N, I, L, R) 0 0
  have gn1 := rg n1
  obtain ⟨T_r0, A_r0, ⟨r0_1, R_r0_1, H_r0_1⟩, ⟨r0_2, R_r0_2, H_r0_2⟩, ⟨r0_4, R_r0_4, H_r0_4⟩, ⟨r0_5, R_r0_5, H_r0_5⟩, ⟨r0_10, R_r0_10, H_r0_10⟩, ⟨r0_18, R_r0_18, H_r0_18⟩, ⟨r0_20, R_r0_20, H_r0_20⟩, ⟨r0_21, R_r0_21, H_r0_21⟩, ⟨r0_22, R_r0_22, H_r0_22⟩, ⟨r0_23, R_r0_23, H_r0_23⟩, ⟨r0_25, R_r0_25, H_r0_25⟩, ⟨r0_26, R_r0_26, H_r0_26⟩, ⟨r0_27, R_r0_27, H_r0_27⟩, ⟨r0_28, R_r0_28, H_r0_28⟩, ⟨r0_34, R_r0_34, H_r0_34⟩, J_r0, Y_r0⟩ := id H_r0
  have G_r0 : mF T R r0 := ⟨J_r0, Y_r0, T_r0⟩
  obtain ⟨w_r0_1_1, k0_r0_1_1⟩ : ∃ x, I r0_1 1 = x := ⟨_, rfl⟩
  have gw_r0_1_1 := rg w_r0_1_1
  have ow_r0_1_1 := IM.c1 hI R_r0_1 k0_r0_1_1
  obtain ⟨w_r0_1_0, k0_r0_1_0⟩ : ∃ x, I r0_1 0 = x := ⟨_, rfl⟩
  have gw_r0_1_0 := rg w_r0_1_0
  have ow_r0_1_0 := IM.pi hI R_r0_1 k0_r0_1_0
  obtain ⟨w_r0_1_E_6_10_n1_toNatClampNeg, k0_r0_1_E_6_10_n1_toNatClampNeg⟩ : ∃ x, I r0_1 (6 + 10 * n1.toNatClampNeg) = x := ⟨_, rfl⟩
  have gw_r0_1_E_6_10_n1_toNatClampNeg := rg w_r0_1_E_6_10_n1_toNatClampNeg
  have hp0 := hp0 r0_1 R_r0_1
  try simp only [k0_r0_1_1, k0_r0_1_0, k0_r0_1_E_6_10_n1_toNatClampNeg] at hp0
  refine k_aload_n C rfl rfl rfl ?_
  refine z_bipush C (z := 40) rfl rfl rfl (fun x1 ex1 => ?_)
  refine k_iload_n C rfl rfl rfl ?_
  have q2 : x1.toNatClampNeg = 40 := nck (by omega)
  refine c_VV C (a_X12_takes_e hI H_r0 (by omega) (by omega) (by omega) (by omega)) rfl rfl rfl rfl rfl ⟨_, rfl, rfl, T_r0, Nat.le_of_ble_eq_true rfl⟩ rfl rfl (Nat.le_of_ble_eq_true rfl) (Nat.le_of_ble_eq_true rfl) (Nat.le_of_ble_eq_true rfl) ?_
  rintro I4 L5 ⟨p0v3, p1v3, p2v3, p3v3, p4v3, p5v3, hI4, S6⟩
  have p0v3 := p0v3 r0_4 R_r0_4
  have p1v3 := p1v3 r0_1 r0_4 R_r0_1 R_r0_4
  have p2v3 := p2v3 r0_1 r0_4 r0_5 R_r0_1 R_r0_4 R_r0_5
  have p3v3 := p3v3 r0_1 r0_4 r0_5 R_r0_1 R_r0_4 R_r0_5
  have p4v3 := p4v3 r0_4 R_r0_4
  have p5v3 := p5v3 r0_5 R_r0_5
  try simp only [q2] at p4v3
  try simp only [q2] at p5v3
  have e7 := CM.j S6 R_r0_1 (by decide) k0_r0_1_1
  have e8 := CM.j S6 R_r0_1 (by decide) k0_r0_1_0
  have e9 := CM.j S6 R_r0_1 (by decide) k0_r0_1_E_6_10_n1_toNatClampNeg
  obtain ⟨x10, e11⟩ : ∃ x, I4 r0_4 40 = x := ⟨_, rfl⟩
  have gx10 := rg x10
  have ox10 := IM.dgR hI4 R_r0_4 e11
  try simp only [q2, k0_r0_1_1, k0_r0_1_0, k0_r0_1_E_6_10_n1_toNatClampNeg, e11] at p0v3
  try have q0v3 := congrArg Int32.toInt p0v3
  try simp only [q2, k0_r0_1_1, k0_r0_1_0, k0_r0_1_E_6_10_n1_toNatClampNeg, e11] at p1v3
  try have q1v3 := congrArg Int32.toInt p1v3
  try simp only [q2, k0_r0_1_1, k0_r0_1_0, k0_r0_1_E_6_10_n1_toNatClampNeg, e11] at p2v3
  try have q2v3 := congrArg Int32.toInt p2v3
  try simp only [q2, k0_r0_1_1, k0_r0_1_0, k0_r0_1_E_6_10_n1_toNatClampNeg, e11] at p3v3
  try have q3v3 := congrArg Int32.toInt p3v3
  have hT1 := p3v3
  have hQ1 := p2v3 (by omega)
  have hW1 := CM.j0 S6 R_r0_1 (by decide)
  refine k_aload_n C rfl rfl rfl ?_
  refine z_bipush C (z := 41) rfl rfl rfl (fun x12 ex12 => ?_)
  refine k_iload_n C rfl rfl rfl ?_
  have q13 : x12.toNatClampNeg = 41 := nck (by omega)
  refine c_VV C (a_X12_takes_e hI4 H_r0 (by omega) (by omega) (by omega) (by omega)) rfl rfl rfl rfl rfl ⟨_, rfl, rfl, T_r0, Nat.le_of_ble_eq_true rfl⟩ rfl rfl (Nat.le_of_ble_eq_true rfl) (Nat.le_of_ble_eq_true rfl) (Nat.le_of_ble_eq_true rfl) ?_
  rintro I15 L16 ⟨p0v14, p1v14, p2v14, p3v14, p4v14, p5v14, hI15, S17⟩
  have p0v14 := p0v14 r0_4 R_r0_4
  have p1v14 := p1v14 r0_1 r0_4 R_r0_1 R_r0_4
  have p2v14 := p2v14 r0_1 r0_4 r0_5 R_r0_1 R_r0_4 R_r0_5
  have p3v14 := p3v14 r0_1 r0_4 r0_5 R_r0_1 R_r0_4 R_r0_5
  have p4v14 := p4v14 r0_4 R_r0_4
  have p5v14 := p5v14 r0_5 R_r0_5
  try simp only [q13] at p4v14
  try simp only [q13] at p5v14
  have e18 := CM.j S17 R_r0_1 (by decide) e7
  have e19 := CM.j S17 R_r0_1 (by decide) e8
  have e20 := CM.j S17 R_r0_1 (by decide) e9
  have e21 := (p4v14 40 (by first | decide | exact ncne (by omega) (by omega) (by omega) | exact nckn (by omega) (by omega) | exact (nckn (by omega) (by omega)).symm)).trans e11
  obtain ⟨x22, e23⟩ : ∃ x, I15 r0_4 41 = x := ⟨_, rfl⟩
  have gx22 := rg x22
  have ox22 := IM.dgR hI15 R_r0_4 e23
  try simp only [q13, e7, e8, e9, e11, e23] at p0v14
  try have q0v14 := congrArg Int32.toInt p0v14
  try simp only [q13, e7, e8, e9, e11, e23] at p1v14
  try have q1v14 := congrArg Int32.toInt p1v14
  try simp only [q13, e7, e8, e9, e11, e23] at p2v14
  try have q2v14 := congrArg Int32.toInt p2v14
  try simp only [q13, e7, e8, e9, e11, e23] at p3v14
  try have q3v14 := congrArg Int32.toInt p3v14
  have hT2 := TKE.w p3v14 hW1
  have hT1 := TKE.sm hT1 (fun k hk => p5v14 _ (by omega)) (by omega)
  have hQ1 := QN.sm hQ1 (fun k hk => p5v14 _ (by omega)) (by omega)
  have hEQ := EQR.of hT1 hT2 (by rw [e21]) (by rw [e23]) rfl (by omega) hQ1
  refine k_aload_n C rfl rfl rfl ?_
  refine z_bipush C (z := 40) rfl rfl rfl (fun x24 ex24 => ?_)
  have q25 : x24.toNatClampNeg = 40 := nck (by omega)
  refine c_VI C (a_X12_isNought_e hI15 H_r0 (by omega) (by omega)) rfl rfl rfl rfl rfl ⟨_, rfl, rfl, T_r0, Nat.le_of_ble_eq_true rfl⟩ rfl rfl (Nat.le_of_ble_eq_true rfl) (Nat.le_of_ble_eq_true rfl) (Nat.le_of_ble_eq_true rfl) ?_
  rintro x26 _ _ ⟨o0x26, o1x26, p0x26, p1x26, rfl, rfl⟩
  have p0x26 := p0x26 r0_4 r0_5 R_r0_4 R_r0_5
  have p1x26 := p1x26 r0_4 r0_5 R_r0_4 R_r0_5
  have gx26 := rg x26
  try simp only [q25, e18, e19, e20, e21, e23] at p0x26
  try have q0x26 := congrArg Int32.toInt p0x26
  try simp only [q25, e18, e19, e20, e21, e23] at p1x26
  try have q1x26 := congrArg Int32.toInt p1x26
  refine b_if_ne C (t := 33) rfl rfl rfl (fun c27 => ?_) (fun c27 => ?_)
  · skip
    refine k_aload_n C rfl rfl rfl ?_
    refine c_VI C (a_X12_allTables_e hI15 H_r0) rfl rfl rfl rfl rfl ⟨_, rfl, rfl, T_r0, Nat.le_of_ble_eq_true rfl⟩ rfl rfl (Nat.le_of_ble_eq_true rfl) (Nat.le_of_ble_eq_true rfl) (Nat.le_of_ble_eq_true rfl) ?_
    rintro x28 _ _ ⟨o0x28, o1x28, rfl, rfl⟩
    have gx28 := rg x28
    refine k_goto C (pc2 := 45) rfl rfl ?_
    exact k_iret C rfl (Or.inl rfl) (Nat.le_of_ble_eq_true rfl) (Nat.le_of_ble_eq_true rfl) ⟨_, _, _, rfl, rfl, by first | omega | exact (hTR hEQ).2 (by omega), hI15, (CM.cons S6 (CM.mono S17 (by decide) (by decide)) (by decide) (by decide))⟩
  refine k_aload_n C rfl rfl rfl ?_
  refine g_R C rfl rfl rfl T_r0 rfl R_r0_4 ?_
  refine z_bipush C (z := 40) rfl rfl rfl (fun x29 ex29 => ?_)
  obtain ⟨T_r0_4, N_r0_4, A_r0_4⟩ := id H_r0_4
  refine a_I C rfl rfl T_r0_4 (by rw [N_r0_4]; exact vpi (by omega) (by omega)) ((congrArg (I15 r0_4) (nck (n := 40) (by omega))).trans e21) ?_
  refine b_if_ne C (t := 40) rfl rfl rfl (fun c30 => ?_) (fun c30 => ?_)
  · skip
    refine k_aload_n C rfl rfl rfl ?_
    refine z_iconst C (z := 0) rfl rfl rfl (fun x31 ex31 => ?_)
    have q32 : x31.toNatClampNeg = 0 := nck (by omega)
    refine c_VI C (a_X12_tried_e hI15 H_r0 (by omega) (by omega)) rfl rfl rfl rfl rfl ⟨_, rfl, rfl, T_r0, Nat.le_of_ble_eq_true rfl⟩ rfl rfl (Nat.le_of_ble_eq_true rfl) (Nat.le_of_ble_eq_true rfl) (Nat.le_of_ble_eq_true rfl) ?_
    rintro x33 I34 L35 ⟨p0x33, hI34, S36⟩
    have p0x33 := p0x33 r0_1 r0_4 r0_5 R_r0_1 R_r0_4 R_r0_5
    have e37 := CM.j S36 R_r0_1 (by decide) e18
    have e38 := CM.j S36 R_r0_1 (by decide) e19
    have e39 := CM.j S36 R_r0_1 (by decide) e20
    have gx33 := rg x33
    try simp only [q32, e18, e19, e20, e21, e23] at p0x33
    try have q0x33 := congrArg Int32.toInt p0x33
    have hTR := p0x33
    exact k_iret C rfl (Or.inl rfl) (Nat.le_of_ble_eq_true rfl) (Nat.le_of_ble_eq_true rfl) ⟨_, _, _, rfl, rfl, by first | omega | exact (hTR hEQ).2 (by omega), hI34, (CM.cons S6 (CM.cons S17 (CM.mono S36 (by decide) (by decide)) (by decide) (by decide)) (by decide) (by decide))⟩
  refine k_aload_n C rfl rfl rfl ?_
  refine c_VI C (a_X12_allTables_e hI15 H_r0) rfl rfl rfl rfl rfl ⟨_, rfl, rfl, T_r0, Nat.le_of_ble_eq_true rfl⟩ rfl rfl (Nat.le_of_ble_eq_true rfl) (Nat.le_of_ble_eq_true rfl) (Nat.le_of_ble_eq_true rfl) ?_
  rintro x42 _ _ ⟨o0x42, o1x42, rfl, rfl⟩
  have gx42 := rg x42
  refine k_goto C (pc2 := 45) rfl rfl ?_
  exact k_iret C rfl (Or.inl rfl) (Nat.le_of_ble_eq_true rfl) (Nat.le_of_ble_eq_true rfl) ⟨_, _, _, rfl, rfl, by first | omega | exact (hTR hEQ).2 (by omega), hI15, (CM.cons S6 (CM.mono S17 (by decide) (by decide)) (by decide) (by decide))⟩

theorem a_X12_keep {d : Nat} {T N : Nat → Nat} {I : IT} {L : LT} {R : RT} {A : Nat → Prop} {r0 : Nat} {n1 : Int32} (hI : IM R r0 I) (H_r0 : (h_MD T N R A) r0) : Ex (d + 8) 278 [.ref r0, .int n1] (T, N, I, L, R) 0 0 (pI T N R (fun x9 I9 L9 => (IM R r0 I9 ∧ CM A R r0 [0, 6, 7, 8, 9] [4, 5, 25] I L I9 L9))) := by
  refine ⟨_, rfl, Nat.le_of_ble_eq_true rfl, fun V C S => ?_⟩
  show V 0 [(0, .ref r0), (1, .int n1)] [] (T, N, I, L, R) 0 0
  have gn1 := rg n1
  obtain ⟨T_r0, A_r0, ⟨r0_1, R_r0_1, H_r0_1⟩, ⟨r0_2, R_r0_2, H_r0_2⟩, ⟨r0_4, R_r0_4, H_r0_4⟩, ⟨r0_5, R_r0_5, H_r0_5⟩, ⟨r0_10, R_r0_10, H_r0_10⟩, ⟨r0_18, R_r0_18, H_r0_18⟩, ⟨r0_20, R_r0_20, H_r0_20⟩, ⟨r0_21, R_r0_21, H_r0_21⟩, ⟨r0_22, R_r0_22, H_r0_22⟩, ⟨r0_23, R_r0_23, H_r0_23⟩, ⟨r0_25, R_r0_25, H_r0_25⟩, ⟨r0_26, R_r0_26, H_r0_26⟩, ⟨r0_27, R_r0_27, H_r0_27⟩, ⟨r0_28, R_r0_28, H_r0_28⟩, ⟨r0_34, R_r0_34, H_r0_34⟩, J_r0, Y_r0⟩ := id H_r0
  have G_r0 : mF T R r0 := ⟨J_r0, Y_r0, T_r0⟩
  obtain ⟨w_r0_1_1, k0_r0_1_1⟩ : ∃ x, I r0_1 1 = x := ⟨_, rfl⟩
  have gw_r0_1_1 := rg w_r0_1_1
  have ow_r0_1_1 := IM.c1 hI R_r0_1 k0_r0_1_1
  refine k_aload_n C rfl rfl rfl ?_
  refine z_iconst C (z := 0) rfl rfl rfl (fun x1 ex1 => ?_)
  refine z_pI C rfl rfl rfl T_r0 (Or.inr rfl) rfl (fun I2 uI2 => ?_)
  have hI2 : IM R r0 I2 := IM.fld hI G_r0 ⟨(fun h => absurd h (by decide)), (fun h => absurd h (by decide)), (fun h => absurd h (by decide)), (fun h => absurd h (by decide)), (fun h => absurd h (by decide))⟩ uI2
  have S3 : CM A R r0 [0] [] I L I2 L := CM.f G_r0 A_r0 uI2
  have e4 := u2_n uI2 (mF.ne G_r0 R_r0_1) k0_r0_1_1
  have e5 := u2_e uI2
  refine k_aload_n C rfl rfl rfl ?_
  refine k_aload_n C rfl rfl rfl ?_
  refine k_iload_n C rfl rfl rfl ?_
  refine c_VI C (a_X12_noForm hI2 H_r0) rfl rfl rfl rfl rfl ⟨_, rfl, rfl, T_r0, Nat.le_of_ble_eq_true rfl⟩ rfl rfl (Nat.le_of_ble_eq_true rfl) (Nat.le_of_ble_eq_true rfl) (Nat.le_of_ble_eq_true rfl) ?_
  rintro x6 _ _ ⟨o0x6, o1x6, p0x6, rfl, rfl⟩
  have p0x6 := p0x6 r0_1 R_r0_1
  have gx6 := rg x6
  try simp only [e4, e5, e4] at p0x6
  try have q0x6 := congrArg Int32.toInt p0x6
  refine z_iconst C (z := 1) rfl rfl rfl (fun x7 ex7 => ?_)
  have q8 : x7.toNatClampNeg = 1 := nck (by omega)
  refine c_VI C (a_X12_throwsIf hI2 H_r0 (by omega) (by omega)) rfl rfl rfl rfl rfl ⟨_, rfl, rfl, T_r0, Nat.le_of_ble_eq_true rfl⟩ rfl rfl (Nat.le_of_ble_eq_true rfl) (Nat.le_of_ble_eq_true rfl) (Nat.le_of_ble_eq_true rfl) ?_
  rintro x9 I10 L11 ⟨o0x9, o1x9, p0x9, hI10, S12⟩
  have e13 := CM.j S12 R_r0_1 (by decide) e4
  have gx9 := rg x9
  try simp only [q8, e4, e5] at p0x9
  try have q0x9 := congrArg Int32.toInt p0x9
  refine b_if_eq C (t := 22) rfl rfl rfl (fun c15 => ?_) (fun c15 => ?_)
  · skip
    refine k_aload_n C rfl rfl rfl ?_
    refine k_iload_n C rfl rfl rfl ?_
    refine c_VI C (a_X12_keeps hI10 H_r0 (by omega) (by omega) (fun a1 h1 => by cases (R_r0_1.symm.trans h1); first | omega | (simp only [e13] <;> omega))) rfl rfl rfl rfl rfl ⟨_, rfl, rfl, T_r0, Nat.le_of_ble_eq_true rfl⟩ rfl rfl (Nat.le_of_ble_eq_true rfl) (Nat.le_of_ble_eq_true rfl) (Nat.le_of_ble_eq_true rfl) ?_
    rintro x16 I17 L18 ⟨p0x16, hI17, S19⟩
    have e20 := CM.j S19 R_r0_1 (by decide) e13
    have gx16 := rg x16
    try simp only [e13] at p0x16
    try have q0x16 := congrArg Int32.toInt p0x16
    exact k_iret C rfl (Or.inl rfl) (Nat.le_of_ble_eq_true rfl) (Nat.le_of_ble_eq_true rfl) ⟨_, _, _, rfl, rfl, hI17, (CM.cons S3 (CM.cons S12 (CM.mono S19 (by decide) (by decide)) (by decide) (by decide)) (by decide) (by decide))⟩
  refine z_iconst C (z := 0) rfl rfl rfl (fun x21 ex21 => ?_)
  refine k_goto C (pc2 := 27) rfl rfl ?_
  exact k_iret C rfl (Or.inl rfl) (Nat.le_of_ble_eq_true rfl) (Nat.le_of_ble_eq_true rfl) ⟨_, _, _, rfl, rfl, hI10, (CM.cons S3 (CM.mono S12 (by decide) (by decide)) (by decide) (by decide))⟩

theorem a_X12_orbit {d : Nat} {T N : Nat → Nat} {I : IT} {L : LT} {R : RT} {A : Nat → Prop} {r0 : Nat} {n1 : Int32} (hI : IM R r0 I) (H_r0 : (h_MD T N R A) r0) : Ex (d + 8) 279 [.ref r0, .int n1] (T, N, I, L, R) 0 0 (pI T N R (fun x9 I9 L9 => (IM R r0 I9 ∧ CM A R r0 [0, 6, 7, 8, 9] [4, 5, 25] I L I9 L9))) := by
  refine ⟨_, rfl, Nat.le_of_ble_eq_true rfl, fun V C S => ?_⟩
  show V 0 [(0, .ref r0), (1, .int n1)] [] (T, N, I, L, R) 0 0
  have gn1 := rg n1
  obtain ⟨T_r0, A_r0, ⟨r0_1, R_r0_1, H_r0_1⟩, ⟨r0_2, R_r0_2, H_r0_2⟩, ⟨r0_4, R_r0_4, H_r0_4⟩, ⟨r0_5, R_r0_5, H_r0_5⟩, ⟨r0_10, R_r0_10, H_r0_10⟩, ⟨r0_18, R_r0_18, H_r0_18⟩, ⟨r0_20, R_r0_20, H_r0_20⟩, ⟨r0_21, R_r0_21, H_r0_21⟩, ⟨r0_22, R_r0_22, H_r0_22⟩, ⟨r0_23, R_r0_23, H_r0_23⟩, ⟨r0_25, R_r0_25, H_r0_25⟩, ⟨r0_26, R_r0_26, H_r0_26⟩, ⟨r0_27, R_r0_27, H_r0_27⟩, ⟨r0_28, R_r0_28, H_r0_28⟩, ⟨r0_34, R_r0_34, H_r0_34⟩, J_r0, Y_r0⟩ := id H_r0
  have G_r0 : mF T R r0 := ⟨J_r0, Y_r0, T_r0⟩
  obtain ⟨w_r0_1_1, k0_r0_1_1⟩ : ∃ x, I r0_1 1 = x := ⟨_, rfl⟩
  have gw_r0_1_1 := rg w_r0_1_1
  have ow_r0_1_1 := IM.c1 hI R_r0_1 k0_r0_1_1
  refine k_aload_n C rfl rfl rfl ?_
  refine z_iconst C (z := 0) rfl rfl rfl (fun x1 ex1 => ?_)
  refine z_pI C rfl rfl rfl T_r0 (Or.inr rfl) rfl (fun I2 uI2 => ?_)
  have hI2 : IM R r0 I2 := IM.fld hI G_r0 ⟨(fun h => absurd h (by decide)), (fun h => absurd h (by decide)), (fun h => absurd h (by decide)), (fun h => absurd h (by decide)), (fun h => absurd h (by decide))⟩ uI2
  have S3 : CM A R r0 [0] [] I L I2 L := CM.f G_r0 A_r0 uI2
  have e4 := u2_n uI2 (mF.ne G_r0 R_r0_1) k0_r0_1_1
  have e5 := u2_e uI2
  refine k_aload_n C rfl rfl rfl ?_
  refine k_aload_n C rfl rfl rfl ?_
  refine k_iload_n C rfl rfl rfl ?_
  refine c_VI C (a_X12_noForm hI2 H_r0) rfl rfl rfl rfl rfl ⟨_, rfl, rfl, T_r0, Nat.le_of_ble_eq_true rfl⟩ rfl rfl (Nat.le_of_ble_eq_true rfl) (Nat.le_of_ble_eq_true rfl) (Nat.le_of_ble_eq_true rfl) ?_
  rintro x6 _ _ ⟨o0x6, o1x6, p0x6, rfl, rfl⟩
  have p0x6 := p0x6 r0_1 R_r0_1
  have gx6 := rg x6
  try simp only [e4, e5, e4] at p0x6
  try have q0x6 := congrArg Int32.toInt p0x6
  refine z_iconst C (z := 1) rfl rfl rfl (fun x7 ex7 => ?_)
  have q8 : x7.toNatClampNeg = 1 := nck (by omega)
  refine c_VI C (a_X12_throwsIf hI2 H_r0 (by omega) (by omega)) rfl rfl rfl rfl rfl ⟨_, rfl, rfl, T_r0, Nat.le_of_ble_eq_true rfl⟩ rfl rfl (Nat.le_of_ble_eq_true rfl) (Nat.le_of_ble_eq_true rfl) (Nat.le_of_ble_eq_true rfl) ?_
  rintro x9 I10 L11 ⟨o0x9, o1x9, p0x9, hI10, S12⟩
  have e13 := CM.j S12 R_r0_1 (by decide) e4
  have gx9 := rg x9
  try simp only [q8, e4, e5] at p0x9
  try have q0x9 := congrArg Int32.toInt p0x9
  refine b_if_eq C (t := 22) rfl rfl rfl (fun c15 => ?_) (fun c15 => ?_)
  · skip
    refine k_aload_n C rfl rfl rfl ?_
    refine c_VI C (a_X12_allTables_e hI10 H_r0) rfl rfl rfl rfl rfl ⟨_, rfl, rfl, T_r0, Nat.le_of_ble_eq_true rfl⟩ rfl rfl (Nat.le_of_ble_eq_true rfl) (Nat.le_of_ble_eq_true rfl) (Nat.le_of_ble_eq_true rfl) ?_
    rintro x16 _ _ ⟨o0x16, o1x16, rfl, rfl⟩
    have gx16 := rg x16
    refine k_aload_n C rfl rfl rfl ?_
    refine k_iload_n C rfl rfl rfl ?_
    refine c_VI C (a_X12_keeps hI10 H_r0 (by omega) (by omega) (fun a1 h1 => by cases (R_r0_1.symm.trans h1); first | omega | (simp only [e13] <;> omega))) rfl rfl rfl rfl rfl ⟨_, rfl, rfl, T_r0, Nat.le_of_ble_eq_true rfl⟩ rfl rfl (Nat.le_of_ble_eq_true rfl) (Nat.le_of_ble_eq_true rfl) (Nat.le_of_ble_eq_true rfl) ?_
    rintro x17 I18 L19 ⟨p0x17, hI18, S20⟩
    have e21 := CM.j S20 R_r0_1 (by decide) e13
    have gx17 := rg x17
    try simp only [e13] at p0x17
    try have q0x17 := congrArg Int32.toInt p0x17
    refine zt_idiv C rfl rfl (by omega) (fun x22 => ?_)
    have gx22 := rg x22
    exact k_iret C rfl (Or.inl rfl) (Nat.le_of_ble_eq_true rfl) (Nat.le_of_ble_eq_true rfl) ⟨_, _, _, rfl, rfl, hI18, (CM.cons S3 (CM.cons S12 (CM.mono S20 (by decide) (by decide)) (by decide) (by decide)) (by decide) (by decide))⟩
  refine z_iconst C (z := 0) rfl rfl rfl (fun x23 ex23 => ?_)
  refine k_goto C (pc2 := 32) rfl rfl ?_
  exact k_iret C rfl (Or.inl rfl) (Nat.le_of_ble_eq_true rfl) (Nat.le_of_ble_eq_true rfl) ⟨_, _, _, rfl, rfl, hI10, (CM.cons S3 (CM.mono S12 (by decide) (by decide)) (by decide) (by decide))⟩

theorem a_X12_kind {d : Nat} {T N : Nat → Nat} {I : IT} {L : LT} {R : RT} {A : Nat → Prop} {r0 : Nat} {n1 : Int32} (hI : IM R r0 I) (H_r0 : (h_MD T N R A) r0) : Ex (d + 8) 280 [.ref r0, .int n1] (T, N, I, L, R) 0 0 (pI T N R (fun x9 I9 L9 => (IM R r0 I9 ∧ CM A R r0 [0, 6, 7, 8, 9] [4, 5, 25] I L I9 L9))) := by
  refine ⟨_, rfl, Nat.le_of_ble_eq_true rfl, fun V C S => ?_⟩
  show V 0 [(0, .ref r0), (1, .int n1)] [] (T, N, I, L, R) 0 0
  have gn1 := rg n1
  obtain ⟨T_r0, A_r0, ⟨r0_1, R_r0_1, H_r0_1⟩, ⟨r0_2, R_r0_2, H_r0_2⟩, ⟨r0_4, R_r0_4, H_r0_4⟩, ⟨r0_5, R_r0_5, H_r0_5⟩, ⟨r0_10, R_r0_10, H_r0_10⟩, ⟨r0_18, R_r0_18, H_r0_18⟩, ⟨r0_20, R_r0_20, H_r0_20⟩, ⟨r0_21, R_r0_21, H_r0_21⟩, ⟨r0_22, R_r0_22, H_r0_22⟩, ⟨r0_23, R_r0_23, H_r0_23⟩, ⟨r0_25, R_r0_25, H_r0_25⟩, ⟨r0_26, R_r0_26, H_r0_26⟩, ⟨r0_27, R_r0_27, H_r0_27⟩, ⟨r0_28, R_r0_28, H_r0_28⟩, ⟨r0_34, R_r0_34, H_r0_34⟩, J_r0, Y_r0⟩ := id H_r0
  have G_r0 : mF T R r0 := ⟨J_r0, Y_r0, T_r0⟩
  obtain ⟨w_r0_1_1, k0_r0_1_1⟩ : ∃ x, I r0_1 1 = x := ⟨_, rfl⟩
  have gw_r0_1_1 := rg w_r0_1_1
  have ow_r0_1_1 := IM.c1 hI R_r0_1 k0_r0_1_1
  refine k_aload_n C rfl rfl rfl ?_
  refine z_iconst C (z := 0) rfl rfl rfl (fun x1 ex1 => ?_)
  refine z_pI C rfl rfl rfl T_r0 (Or.inr rfl) rfl (fun I2 uI2 => ?_)
  have hI2 : IM R r0 I2 := IM.fld hI G_r0 ⟨(fun h => absurd h (by decide)), (fun h => absurd h (by decide)), (fun h => absurd h (by decide)), (fun h => absurd h (by decide)), (fun h => absurd h (by decide))⟩ uI2
  have S3 : CM A R r0 [0] [] I L I2 L := CM.f G_r0 A_r0 uI2
  have e4 := u2_n uI2 (mF.ne G_r0 R_r0_1) k0_r0_1_1
  have e5 := u2_e uI2
  refine k_aload_n C rfl rfl rfl ?_
  refine k_aload_n C rfl rfl rfl ?_
  refine k_iload_n C rfl rfl rfl ?_
  refine c_VI C (a_X12_noForm hI2 H_r0) rfl rfl rfl rfl rfl ⟨_, rfl, rfl, T_r0, Nat.le_of_ble_eq_true rfl⟩ rfl rfl (Nat.le_of_ble_eq_true rfl) (Nat.le_of_ble_eq_true rfl) (Nat.le_of_ble_eq_true rfl) ?_
  rintro x6 _ _ ⟨o0x6, o1x6, p0x6, rfl, rfl⟩
  have p0x6 := p0x6 r0_1 R_r0_1
  have gx6 := rg x6
  try simp only [e4, e5, e4] at p0x6
  try have q0x6 := congrArg Int32.toInt p0x6
  refine z_iconst C (z := 1) rfl rfl rfl (fun x7 ex7 => ?_)
  have q8 : x7.toNatClampNeg = 1 := nck (by omega)
  refine c_VI C (a_X12_throwsIf hI2 H_r0 (by omega) (by omega)) rfl rfl rfl rfl rfl ⟨_, rfl, rfl, T_r0, Nat.le_of_ble_eq_true rfl⟩ rfl rfl (Nat.le_of_ble_eq_true rfl) (Nat.le_of_ble_eq_true rfl) (Nat.le_of_ble_eq_true rfl) ?_
  rintro x9 I10 L11 ⟨o0x9, o1x9, p0x9, hI10, S12⟩
  have e13 := CM.j S12 R_r0_1 (by decide) e4
  have gx9 := rg x9
  try simp only [q8, e4, e5] at p0x9
  try have q0x9 := congrArg Int32.toInt p0x9
  refine b_if_eq C (t := 20) rfl rfl rfl (fun c15 => ?_) (fun c15 => ?_)
  · skip
    refine z_iconst C (z := 0) rfl rfl rfl (fun x16 ex16 => ?_)
    have J17 : ∀ (nn18 : Nat) (I19 : IT) (L20 : LT) (x21 : Int32), (MN (15 - x21.toInt) nn18) → (IM R r0 I19) → (CM A R r0 [6, 7, 8, 9] [4, 5, 25] I10 L11 I19 L20) → (0 ≤ x21.toInt) → (x21.toInt ≤ 15) → (x21.toInt ≤ n1.toInt) → V 22 [(0, .ref r0), (1, .int n1), (2, .int x21)] [] (T, N, I19, L20, R) 0 0 := by
      intro nn18
      induction nn18 using Nat.strongRecOn with
      | _ nn18 ihJ17 =>
        intro I19 L20 x21 hmnn18 hI25 S24 b22 b23 ff22_0
        have gx21 := rg x21
        have e26 := CM.j S24 R_r0_1 (by decide) e13
        refine k_aload_n C rfl rfl rfl ?_
        refine k_iload_n C rfl rfl rfl ?_
        refine k_iload_n C rfl rfl rfl ?_
        refine c_VI C (a_X12_sameOf hI25 H_r0 (by omega) (by omega) (by omega) (by omega) (fun a1 h1 => by cases (R_r0_1.symm.trans h1); first | omega | (simp only [e26] <;> omega))) rfl rfl rfl rfl rfl ⟨_, rfl, rfl, T_r0, Nat.le_of_ble_eq_true rfl⟩ rfl rfl (Nat.le_of_ble_eq_true rfl) (Nat.le_of_ble_eq_true rfl) (Nat.le_of_ble_eq_true rfl) ?_
        rintro x27 I28 L29 ⟨p0x27, hI28, S30⟩
        have e31 := CM.j S30 R_r0_1 (by decide) e26
        have gx27 := rg x27
        try simp only [e26] at p0x27
        try have q0x27 := congrArg Int32.toInt p0x27
        refine b_if_ge C (t := 37) rfl rfl rfl (fun c32 => ?_) (fun c32 => ?_)
        · skip
          refine k_iload_n C rfl rfl rfl ?_
          exact k_iret C rfl (Or.inl rfl) (Nat.le_of_ble_eq_true rfl) (Nat.le_of_ble_eq_true rfl) ⟨_, _, _, rfl, rfl, hI28, (CM.cons S3 (CM.cons S12 (CM.cons S24 (CM.mono S30 (by decide) (by decide)) (by decide) (by decide)) (by decide) (by decide)) (by decide) (by decide))⟩
        refine z_iinc C (z := 1) (lw := fun x33 => [(2, .int x33), (0, .ref r0), (1, .int n1)]) rfl rfl rfl (Nat.le_of_ble_eq_true rfl) rfl ⟨by omega, by omega⟩ (fun _ => rfl) (fun x33 ex33 => ?_)
        show V 34 [(2, .int x33), (0, .ref r0), (1, .int n1)] _ _ _ _
        refine k_goto C (pc2 := 22) rfl rfl ?_
        refine k_sub S [(0, .ref r0), (1, .int n1), (2, .int x33)] (List.forall_mem_cons.mpr ⟨List.mem_of_getElem? (i := 1) rfl, List.forall_mem_cons.mpr ⟨List.mem_of_getElem? (i := 2) rfl, List.forall_mem_cons.mpr ⟨List.mem_of_getElem? (i := 0) rfl, fun _ h => nomatch h⟩⟩⟩) ?_
        exact ihJ17 _ (MN.lt hmnn18 (by omega) (by omega)) I28 L29 x33 rfl hI28 (CM.cons S24 (CM.mono S30 (by decide) (by decide)) (by decide) (by decide)) (by omega) (by omega) (by omega)
    refine k_istore_n C (lw := [(2, .int x16), (0, .ref r0), (1, .int n1)]) rfl rfl (Nat.le_of_ble_eq_true rfl) rfl ?_
    refine k_sub S [(0, .ref r0), (1, .int n1), (2, .int x16)] (List.forall_mem_cons.mpr ⟨List.mem_of_getElem? (i := 1) rfl, List.forall_mem_cons.mpr ⟨List.mem_of_getElem? (i := 2) rfl, List.forall_mem_cons.mpr ⟨List.mem_of_getElem? (i := 0) rfl, fun _ h => nomatch h⟩⟩⟩) ?_
    exact J17 _ I10 L11 x16 rfl hI10 CM.rf (by omega) (by omega) (by omega)
  refine z_iconst C (z := 0) rfl rfl rfl (fun x34 ex34 => ?_)
  exact k_iret C rfl (Or.inl rfl) (Nat.le_of_ble_eq_true rfl) (Nat.le_of_ble_eq_true rfl) ⟨_, _, _, rfl, rfl, hI10, (CM.cons S3 (CM.mono S12 (by decide) (by decide)) (by decide) (by decide))⟩

