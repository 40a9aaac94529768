/-! on -/
set_option maxHeartbeats 8000000 in
theorem a_X12_isSum_x {d : Nat} {T N : Nat → Nat} {I : IT} {L : LT} {R : RT} {A : Nat → Prop} {r0 : Nat} {n1 : Int32} (hI : IM R r0 I) (H_r0 : (h_MD T N R A) r0) (b0_n1 : 1 ≤ n1.toInt) (b1_n1 : n1.toInt ≤ 3) (hp0 : ∀ a4, R r0 4 = some a4 → (I a4 40).toInt ≤ 8) (hp1 : ∀ a4, R r0 4 = some a4 → 1 ≤ (I a4 40).toInt) (hp2 : ∀ a1 a4 a5, R r0 1 = some a1 → R r0 4 = some a4 → R r0 5 = some a5 → RCN I a5 40 (I a1 0).toInt (I a4 40).toInt) (hp3 : ∀ a1 a4 a26, R r0 1 = some a1 → R r0 4 = some a4 → R r0 26 = some a26 → PWT (I a26) (I a1 0).toInt (I a4 40).toInt ((I a1 0).toInt + 1)) : Ex (d + 6) 286 [.ref r0, .int n1] (T, N, I, L, R) 0 0 (pI T N R (fun x9 I9 L9 => (0 ≤ x9.toInt) ∧ (x9.toInt ≤ 1) ∧ (∀ a1 a4 a5 a27 a28, R r0 1 = some a1 → R r0 4 = some a4 → R r0 5 = some a5 → R r0 27 = some a27 → R r0 28 = some a28 → x9.toInt = 1 → PWL (I a1 0).toInt (I a4 40).toInt (BNI (I a4 40).toInt) (RI I a5 40) n1.toNatClampNeg (NF I9 a27) (NF I9 a28)) ∧ (∀ a1 a4 a5, R r0 1 = some a1 → R r0 4 = some a4 → R r0 5 = some a5 → x9.toInt = 0 → ¬ EXN (I a1 0).toInt (I a4 40).toInt (BNI (I a4 40).toInt) (RI I a5 40) n1.toNatClampNeg) ∧ (∀ a4, R r0 4 = some a4 → ∀ r : Nat, r ≠ 42 → I9 a4 r = I a4 r) ∧ (∀ a5, R r0 5 = some a5 → ∀ r : Nat, (r < 41 * 42 ∨ 41 * 42 + 41 ≤ r) → I9 a5 r = I a5 r) ∧ (IM R r0 I9 ∧ CM A R r0 [] [4, 5, 27, 28] I L I9 L9))) := by
  refine ⟨_, rfl, Nat.le_of_ble_eq_true rfl, fun V C S => ?_⟩
  show V 0 [(0, .ref r0), (1, .int n1)] [] (T, N, I, L, R) 0 0
  have gn1 := rg n1
  obtain ⟨T_r0, A_r0, ⟨r0_1, R_r0_1, H_r0_1⟩, ⟨r0_2, R_r0_2, H_r0_2⟩, ⟨r0_4, R_r0_4, H_r0_4⟩, ⟨r0_5, R_r0_5, H_r0_5⟩, ⟨r0_10, R_r0_10, H_r0_10⟩, ⟨r0_18, R_r0_18, H_r0_18⟩, ⟨r0_20, R_r0_20, H_r0_20⟩, ⟨r0_21, R_r0_21, H_r0_21⟩, ⟨r0_22, R_r0_22, H_r0_22⟩, ⟨r0_23, R_r0_23, H_r0_23⟩, ⟨r0_25, R_r0_25, H_r0_25⟩, ⟨r0_26, R_r0_26, H_r0_26⟩, ⟨r0_27, R_r0_27, H_r0_27⟩, ⟨r0_28, R_r0_28, H_r0_28⟩, ⟨r0_34, R_r0_34, H_r0_34⟩, J_r0, Y_r0⟩ := id H_r0
  have G_r0 : mF T R r0 := ⟨J_r0, Y_r0, T_r0⟩
  obtain ⟨w_r0_4_40, k0_r0_4_40⟩ : ∃ x, I r0_4 40 = x := ⟨_, rfl⟩
  have gw_r0_4_40 := rg w_r0_4_40
  have ow_r0_4_40 := IM.dgR hI R_r0_4 k0_r0_4_40
  obtain ⟨w_r0_1_0, k0_r0_1_0⟩ : ∃ x, I r0_1 0 = x := ⟨_, rfl⟩
  have gw_r0_1_0 := rg w_r0_1_0
  have ow_r0_1_0 := IM.pi hI R_r0_1 k0_r0_1_0
  have hp0 := hp0 r0_4 R_r0_4
  have hp1 := hp1 r0_4 R_r0_4
  have hp2 := hp2 r0_1 r0_4 r0_5 R_r0_1 R_r0_4 R_r0_5
  have hp3 := hp3 r0_1 r0_4 r0_26 R_r0_1 R_r0_4 R_r0_26
  try simp only [k0_r0_4_40, k0_r0_1_0] at hp0
  try simp only [k0_r0_4_40, k0_r0_1_0] at hp1
  try simp only [k0_r0_4_40, k0_r0_1_0] at hp2
  try simp only [k0_r0_4_40, k0_r0_1_0] at hp3
  have hn1 := ncz (x := n1) (by omega)
  refine z_iconst C (z := 0) rfl rfl rfl (fun x1 ex1 => ?_)
  have J2 : ∀ (nn3 : Nat) (I4 : IT) (L5 : LT) (x6 : Int32), (MN (20 - x6.toInt) nn3) → (IM R r0 I4) → (CM A R r0 [] [4, 5, 27, 28] I L I4 L5) → (∀ r : Nat, r ≠ 42 → I4 r0_4 r = I r0_4 r) → (∀ r : Nat, (r < 41 * 42 ∨ 41 * 42 + 41 ≤ r) → I4 r0_5 r = I r0_5 r) → (0 ≤ x6.toInt) → (x6.toInt ≤ 20) → (NXS w_r0_1_0.toInt w_r0_4_40.toInt (BNI w_r0_4_40.toInt) (RI I r0_5 40) n1.toNatClampNeg (QA1 x6.toInt)) → (SMR I I4 r0_5 40) → (x6.toInt ≤ w_r0_1_0.toInt + 1) → V 2 [(0, .ref r0), (1, .int n1), (2, .int x6)] [] (T, N, I4, L5, R) 0 0 := by
    intro nn3
    induction nn3 using Nat.strongRecOn with
    | _ nn3 ihJ2 =>
      intro I4 L5 x6 hmnn3 hI10 S9 F11 F12 b7 b8 ff2_0 ff2_1 ff2_2
      have gx6 := rg x6
      have e13 := (F11 40 (by first | decide | exact ncne (by omega) (by omega) (by omega) | exact nckn (by omega) (by omega) | exact (nckn (by omega) (by omega)).symm)).trans k0_r0_4_40
      have e14 := CM.j S9 R_r0_1 (by decide) k0_r0_1_0
      refine k_iload_n C rfl rfl rfl ?_
      refine k_aload_n C rfl rfl rfl ?_
      refine c_VI C (a_X12_p hI10 H_r0) rfl rfl rfl rfl rfl ⟨_, rfl, rfl, T_r0, Nat.le_of_ble_eq_true rfl⟩ rfl rfl (Nat.le_of_ble_eq_true rfl) (Nat.le_of_ble_eq_true rfl) (Nat.le_of_ble_eq_true rfl) ?_
      rintro x15 _ _ ⟨o0x15, o1x15, p0x15, rfl, rfl⟩
      have p0x15 := p0x15 r0_1 R_r0_1
      have gx15 := rg x15
      try simp only [e13, e14, e14] at p0x15
      try have q0x15 := congrArg Int32.toInt p0x15
      refine b_icmp_gt C (t := 120) rfl rfl rfl (fun c16 => ?_) (fun c16 => ?_)
      · skip
        refine z_iconst C (z := 0) rfl rfl rfl (fun x17 ex17 => ?_)
        exact k_iret C rfl (Or.inr ⟨rfl, z01 (by omega) (by omega)⟩) (Nat.le_of_ble_eq_true rfl) (Nat.le_of_ble_eq_true rfl) ⟨_, _, _, rfl, rfl, by omega, by omega, fun a1 a4 a5 a27 a28 h1 h4 h5 h27 h28 => by cases (R_r0_1.symm.trans h1); cases (R_r0_4.symm.trans h4); cases (R_r0_5.symm.trans h5); cases (R_r0_27.symm.trans h27); cases (R_r0_28.symm.trans h28); intro h; exfalso; omega, fun a1 a4 a5 h1 h4 h5 => by cases (R_r0_1.symm.trans h1); cases (R_r0_4.symm.trans h4); cases (R_r0_5.symm.trans h5); intro _; simp only [k0_r0_4_40, k0_r0_1_0]; exact ff2_0.e (by omega) (by omega), fun a4 h4 => by cases (R_r0_4.symm.trans h4); exact (fun r z0 => (F11 r z0)), fun a5 h5 => by cases (R_r0_5.symm.trans h5); exact (fun r z0 => (F12 r z0)), hI10, (CM.mono S9 (by decide) (by decide))⟩
      refine k_aload_n C rfl rfl rfl ?_
      refine g_R C rfl rfl rfl T_r0 rfl R_r0_27 ?_
      refine z_iconst C (z := 0) rfl rfl rfl (fun x18 ex18 => ?_)
      refine k_iload_n C rfl rfl rfl ?_
      obtain ⟨T_r0_27, N_r0_27, A_r0_27⟩ := id H_r0_27
      refine z_sI C rfl rfl T_r0_27 N_r0_27 (by omega) (by omega) (fun I19 uI19 => ?_)
      have uI19 : I19 = u2 I4 r0_27 0 (x6) := by rw [uI19, nck (n := 0) (by omega)]
      have hI19 : IM R r0 I19 := IM.arr hI10 G_r0 R_r0_27 ⟨(fun h => absurd h (by decide)), (fun _ => ⟨by omega, by omega⟩), (fun h => absurd h (by decide))⟩ (fun h => absurd h (by decide)) uI19
      have S20 : CM A R r0 [] [27] I4 L5 I19 L5 := CM.a G_r0 R_r0_27 A_r0_27 uI19
      have e21 := u2_n uI19 (mF.nq G_r0 R_r0_4 R_r0_27 (by decide)) e13
      have e22 := u2_n uI19 (mF.nq G_r0 R_r0_1 R_r0_27 (by decide)) e14
      have e23 := u2_e uI19
      have h5a : SMR I I19 r0_5 40 := fun k hk => by (rw [CM.j0 S20 R_r0_5 (by decide)]; exact ff2_1 k hk)
      have h26a := (CM.j0 (W := []) (WA := [4, 5, 27, 28]) (CM.cons S9 (CM.mono S20 (by decide) (by decide)) (by decide) (by decide)) R_r0_26 (by decide))
      refine k_iload_n C rfl rfl rfl ?_
      refine z_iconst C (z := 1) rfl rfl rfl (fun x24 ex24 => ?_)
      refine b_icmp_ne C (t := 32) rfl rfl rfl (fun c25 => ?_) (fun c25 => ?_)
      · skip
        refine k_iload_n C rfl rfl rfl ?_
        refine z_iconst C (z := 1) rfl rfl rfl (fun x26 ex26 => ?_)
        refine z_iadd C rfl rfl ⟨by omega, by omega⟩ (fun x27 ex27 => ?_)
        have J28 : ∀ (nn29 : Nat) (I30 : IT) (L31 : LT) (x32 : Int32) (x39 : Int32), (MN (20 - x32.toInt) nn29) → (IM R r0 I30) → (CM A R r0 [] [4, 5, 27, 28] I19 L5 I30 L31) → (∀ r : Nat, r ≠ 42 → I30 r0_4 r = I19 r0_4 r) → (∀ r : Nat, (r < 41 * 42 ∨ 41 * 42 + 41 ≤ r) → I30 r0_5 r = I19 r0_5 r) → (1 ≤ x32.toInt) → (x32.toInt ≤ 20) → (I30 r0_27 0 = x39) → (0 ≤ x39.toInt) → (x39.toInt ≤ 19) → (NXS w_r0_1_0.toInt w_r0_4_40.toInt (BNI w_r0_4_40.toInt) (RI I r0_5 40) n1.toNatClampNeg (QB1 x6.toInt x32.toInt)) → (SMR I I30 r0_5 40) → (x39.toInt = x6.toInt) → (x6.toInt < x32.toInt ∧ x32.toInt ≤ w_r0_1_0.toInt + 1) → (2 ≤ n1.toInt) → V 36 [(0, .ref r0), (1, .int n1), (2, .int x6), (3, .int x32)] [] (T, N, I30, L31, R) 0 0 := by
          intro nn29
          induction nn29 using Nat.strongRecOn with
          | _ nn29 ihJ28 =>
            intro I30 L31 x32 x39 hmnn29 hI36 S35 F37 F38 b33 b34 e40 b41 b42 ff36_0 ff36_1 ff36_2 ff36_3 ff36_4
            have gx32 := rg x32
            have gx39 := rg x39
            have e43 := (F37 40 (by first | decide | exact ncne (by omega) (by omega) (by omega) | exact nckn (by omega) (by omega) | exact (nckn (by omega) (by omega)).symm)).trans e21
            have e44 := CM.j S35 R_r0_1 (by decide) e22
            refine k_iload_n C rfl rfl rfl ?_
            refine k_aload_n C rfl rfl rfl ?_
            refine c_VI C (a_X12_p hI36 H_r0) rfl rfl rfl rfl rfl ⟨_, rfl, rfl, T_r0, Nat.le_of_ble_eq_true rfl⟩ rfl rfl (Nat.le_of_ble_eq_true rfl) (Nat.le_of_ble_eq_true rfl) (Nat.le_of_ble_eq_true rfl) ?_
            rintro x45 _ _ ⟨o0x45, o1x45, p0x45, rfl, rfl⟩
            have p0x45 := p0x45 r0_1 R_r0_1
            have gx45 := rg x45
            try simp only [e43, e44, e40, e44] at p0x45
            try have q0x45 := congrArg Int32.toInt p0x45
            refine b_icmp_gt C (t := 114) rfl rfl rfl (fun c46 => ?_) (fun c46 => ?_)
            · skip
              refine z_iinc C (z := 1) (lw := fun x47 => [(2, .int x47), (0, .ref r0), (1, .int n1), (3, .int x32)]) rfl rfl rfl (Nat.le_of_ble_eq_true rfl) rfl ⟨by omega, by omega⟩ (fun _ => rfl) (fun x47 ex47 => ?_)
              show V 117 [(2, .int x47), (0, .ref r0), (1, .int n1), (3, .int x32)] _ _ _ _
              refine k_goto C (pc2 := 2) rfl rfl ?_
              refine k_sub S [(0, .ref r0), (1, .int n1), (2, .int x47)] (List.forall_mem_cons.mpr ⟨List.mem_of_getElem? (i := 1) rfl, List.forall_mem_cons.mpr ⟨List.mem_of_getElem? (i := 2) rfl, List.forall_mem_cons.mpr ⟨List.mem_of_getElem? (i := 0) rfl, fun _ h => nomatch h⟩⟩⟩) ?_
              exact ihJ2 _ (MN.lt hmnn3 (by omega) (by omega)) I30 L31 x47 rfl hI36 (CM.cons S9 (CM.cons S20 (CM.mono S35 (by decide) (by decide)) (by decide) (by decide)) (by decide) (by decide)) (fun r z0 => ((F37 r z0).trans ((congrFun (CM.j0 S20 R_r0_4 (by decide)) r).trans (F11 r z0)))) (fun r z0 => ((F38 r z0).trans ((congrFun (CM.j0 S20 R_r0_5 (by decide)) r).trans (F12 r z0)))) (by omega) (by omega) (by first | exact NXS.a ff2_0 ((hn24 (by omega)).cg hFe24 (fun i hi => rfl) (fun i hi => rfl) rfl |> NOF.n1 (by omega)) (by omega) (by show (I30 r0_27 0).toInt = _; rw [e40]; (try omega)) (by omega) | exact NXS.ba ff36_0 (by omega) (by omega) (by omega)) (by first | exact h5n24 | exact ff36_1) (by omega)
            refine k_aload_n C rfl rfl rfl ?_
            refine g_R C rfl rfl rfl T_r0 rfl R_r0_27 ?_
            refine z_iconst C (z := 1) rfl rfl rfl (fun x48 ex48 => ?_)
            refine k_iload_n C rfl rfl rfl ?_
            refine z_sI C rfl rfl T_r0_27 N_r0_27 (by omega) (by omega) (fun I49 uI49 => ?_)
            have uI49 : I49 = u2 I30 r0_27 1 (x32) := by rw [uI49, nck (n := 1) (by omega)]
            have hI49 : IM R r0 I49 := IM.arr hI36 G_r0 R_r0_27 ⟨(fun h => absurd h (by decide)), (fun _ => ⟨by omega, by omega⟩), (fun h => absurd h (by decide))⟩ (fun h => absurd h (by decide)) uI49
            have S50 : CM A R r0 [] [27] I30 L31 I49 L31 := CM.a G_r0 R_r0_27 A_r0_27 uI49
            have e51 := u2_n uI49 (mF.nq G_r0 R_r0_4 R_r0_27 (by decide)) e43
            have e52 := u2_n uI49 (mF.nq G_r0 R_r0_1 R_r0_27 (by decide)) e44
            have e53 := u2_j uI49 (by first | decide | exact ncne (by omega) (by omega) (by omega) | exact nckn (by omega) (by omega) | exact (nckn (by omega) (by omega)).symm) e40
            have e54 := u2_e uI49
            have h5c : SMR I I49 r0_5 40 := fun k hk => by (rw [CM.j0 S50 R_r0_5 (by decide)]; exact ff36_1 k hk)
            have h26c := (CM.j0 (W := []) (WA := [4, 5, 27, 28]) (CM.cons S9 (CM.cons S20 (CM.cons S35 (CM.mono S50 (by decide) (by decide)) (by decide) (by decide)) (by decide) (by decide)) (by decide) (by decide)) R_r0_26 (by decide))
            refine k_iload_n C rfl rfl rfl ?_
            refine z_iconst C (z := 2) rfl rfl rfl (fun x55 ex55 => ?_)
            refine b_icmp_ne C (t := 66) rfl rfl rfl (fun c56 => ?_) (fun c56 => ?_)
            · skip
              refine k_iload_n C rfl rfl rfl ?_
              refine z_iconst C (z := 1) rfl rfl rfl (fun x57 ex57 => ?_)
              refine z_iadd C rfl rfl ⟨by omega, by omega⟩ (fun x58 ex58 => ?_)
              have J59 : ∀ (nn60 : Nat) (I61 : IT) (L62 : LT) (x63 : Int32) (x70 : Int32) (x74 : Int32), (MN (20 - x63.toInt) nn60) → (IM R r0 I61) → (CM A R r0 [] [4, 5, 27, 28] I49 L31 I61 L62) → (∀ r : Nat, r ≠ 42 → I61 r0_4 r = I49 r0_4 r) → (∀ r : Nat, (r < 41 * 42 ∨ 41 * 42 + 41 ≤ r) → I61 r0_5 r = I49 r0_5 r) → (2 ≤ x63.toInt) → (x63.toInt ≤ 20) → (I61 r0_27 0 = x70) → (0 ≤ x70.toInt) → (x70.toInt ≤ 19) → (I61 r0_27 1 = x74) → (0 ≤ x74.toInt) → (x74.toInt ≤ 19) → (PPH n1.toInt (NXS w_r0_1_0.toInt w_r0_4_40.toInt (BNI w_r0_4_40.toInt) (RI I r0_5 40) n1.toNatClampNeg (QC1 x6.toInt x32.toInt x63.toInt)) (NXS w_r0_1_0.toInt w_r0_4_40.toInt (BNI w_r0_4_40.toInt) (RI I r0_5 40) n1.toNatClampNeg (QB1 x6.toInt (x32.toInt + 1)))) → (SMR I I61 r0_5 40) → (x70.toInt = x6.toInt) → (x74.toInt = x32.toInt) → (x32.toInt < x63.toInt ∧ x63.toInt ≤ w_r0_1_0.toInt + 1) → (2 ≤ n1.toInt) → V 71 [(0, .ref r0), (1, .int n1), (2, .int x6), (3, .int x32), (4, .int x63)] [] (T, N, I61, L62, R) 0 0 := by
                intro nn60
                induction nn60 using Nat.strongRecOn with
                | _ nn60 ihJ59 =>
                  intro I61 L62 x63 x70 x74 hmnn60 hI67 S66 F68 F69 b64 b65 e71 b72 b73 e75 b76 b77 ff71_0 ff71_1 ff71_2 ff71_3 ff71_4 ff71_5
                  have gx63 := rg x63
                  have gx70 := rg x70
                  have gx74 := rg x74
                  have e78 := (F68 40 (by first | decide | exact ncne (by omega) (by omega) (by omega) | exact nckn (by omega) (by omega) | exact (nckn (by omega) (by omega)).symm)).trans e51
                  have e79 := CM.j S66 R_r0_1 (by decide) e52
                  refine k_iload C rfl rfl rfl ?_
                  refine k_aload_n C rfl rfl rfl ?_
                  refine c_VI C (a_X12_p hI67 H_r0) rfl rfl rfl rfl rfl ⟨_, rfl, rfl, T_r0, Nat.le_of_ble_eq_true rfl⟩ rfl rfl (Nat.le_of_ble_eq_true rfl) (Nat.le_of_ble_eq_true rfl) (Nat.le_of_ble_eq_true rfl) ?_
                  rintro x80 _ _ ⟨o0x80, o1x80, p0x80, rfl, rfl⟩
                  have p0x80 := p0x80 r0_1 R_r0_1
                  have gx80 := rg x80
                  try simp only [e78, e79, e71, e75, e79] at p0x80
                  try have q0x80 := congrArg Int32.toInt p0x80
                  refine b_icmp_gt C (t := 108) rfl rfl rfl (fun c81 => ?_) (fun c81 => ?_)
                  · skip
                    refine z_iinc C (z := 1) (lw := fun x82 => [(3, .int x82), (0, .ref r0), (1, .int n1), (2, .int x6), (4, .int x63)]) rfl rfl rfl (Nat.le_of_ble_eq_true rfl) rfl ⟨by omega, by omega⟩ (fun _ => rfl) (fun x82 ex82 => ?_)
                    show V 111 [(3, .int x82), (0, .ref r0), (1, .int n1), (2, .int x6), (4, .int x63)] _ _ _ _
                    refine k_goto C (pc2 := 36) rfl rfl ?_
                    refine k_sub S [(0, .ref r0), (1, .int n1), (2, .int x6), (3, .int x82)] (List.forall_mem_cons.mpr ⟨List.mem_of_getElem? (i := 1) rfl, List.forall_mem_cons.mpr ⟨List.mem_of_getElem? (i := 2) rfl, List.forall_mem_cons.mpr ⟨List.mem_of_getElem? (i := 3) rfl, List.forall_mem_cons.mpr ⟨List.mem_of_getElem? (i := 0) rfl, fun _ h => nomatch h⟩⟩⟩⟩) ?_
                    exact ihJ28 _ (MN.lt hmnn29 (by omega) (by omega)) I61 L62 x82 x70 rfl hI67 (CM.cons S35 (CM.cons S50 (CM.mono S66 (by decide) (by decide)) (by decide) (by decide)) (by decide) (by decide)) (fun r z0 => ((F68 r z0).trans ((congrFun (CM.j0 S50 R_r0_4 (by decide)) r).trans (F37 r z0)))) (fun r z0 => ((F69 r z0).trans ((congrFun (CM.j0 S50 R_r0_5 (by decide)) r).trans (F38 r z0)))) (by omega) (by omega) e71 (by omega) (by omega) (by first | exact NXS.cb (ff71_0.1 (by omega)) (by omega) (by omega) (by omega) | exact NXS.bx (ff71_0.2 (by omega)) (by omega) | (exfalso; omega)) (by exact ff71_1) (by omega) (by omega) (by omega)
                  refine k_iload_n C rfl rfl rfl ?_
                  refine z_iconst C (z := 3) rfl rfl rfl (fun x83 ex83 => ?_)
                  refine b_icmp_ne C (t := 108) rfl rfl rfl (fun c84 => by exfalso; omega) (fun c84 => ?_)
                  refine k_aload_n C rfl rfl rfl ?_
                  refine g_R C rfl rfl rfl T_r0 rfl R_r0_27 ?_
                  refine z_iconst C (z := 2) rfl rfl rfl (fun x85 ex85 => ?_)
                  refine k_iload C rfl rfl rfl ?_
                  refine z_sI C rfl rfl T_r0_27 N_r0_27 (by omega) (by omega) (fun I86 uI86 => ?_)
                  have uI86 : I86 = u2 I61 r0_27 2 (x63) := by rw [uI86, nck (n := 2) (by omega)]
                  have hI86 : IM R r0 I86 := IM.arr hI67 G_r0 R_r0_27 ⟨(fun h => absurd h (by decide)), (fun _ => ⟨by omega, by omega⟩), (fun h => absurd h (by decide))⟩ (fun h => absurd h (by decide)) uI86
                  have S87 : CM A R r0 [] [27] I61 L62 I86 L62 := CM.a G_r0 R_r0_27 A_r0_27 uI86
                  have e88 := u2_n uI86 (mF.nq G_r0 R_r0_4 R_r0_27 (by decide)) e78
                  have e89 := u2_n uI86 (mF.nq G_r0 R_r0_1 R_r0_27 (by decide)) e79
                  have e90 := u2_j uI86 (by first | decide | exact ncne (by omega) (by omega) (by omega) | exact nckn (by omega) (by omega) | exact (nckn (by omega) (by omega)).symm) e71
                  have e91 := u2_j uI86 (by first | decide | exact ncne (by omega) (by omega) (by omega) | exact nckn (by omega) (by omega) | exact (nckn (by omega) (by omega)).symm) e75
                  have e92 := u2_e uI86
                  have h5d : SMR I I86 r0_5 40 := fun k hk => by (rw [CM.j0 S87 R_r0_5 (by decide)]; exact ff71_1 k hk)
                  have h26d := (CM.j0 (W := []) (WA := [4, 5, 27, 28]) (CM.cons S9 (CM.cons S20 (CM.cons S35 (CM.cons S50 (CM.cons S66 (CM.mono S87 (by decide) (by decide)) (by decide) (by decide)) (by decide) (by decide)) (by decide) (by decide)) (by decide) (by decide)) (by decide) (by decide)) R_r0_26 (by decide))
                  refine k_aload_n C rfl rfl rfl ?_
                  refine c_VI C (a_X12_isTriple_x hI86 H_r0 (fun a4 h4 => by cases (R_r0_4.symm.trans h4); (rw [e88]; omega)) (fun a4 h4 => by cases (R_r0_4.symm.trans h4); (rw [e88]; omega)) (fun a1 a4 a5 h1 h4 h5 => by cases (R_r0_1.symm.trans h1); cases (R_r0_4.symm.trans h4); cases (R_r0_5.symm.trans h5); (rw [e88, e89]; exact RCN.sm hp2 h5d rfl (by omega))) (fun a1 a4 a26 h1 h4 h26 => by cases (R_r0_1.symm.trans h1); cases (R_r0_4.symm.trans h4); cases (R_r0_26.symm.trans h26); (rw [e88, e89, h26d]; exact hp3)) (fun a1 a27 h1 h27 => by cases (R_r0_1.symm.trans h1); cases (R_r0_27.symm.trans h27); (rw [e89]; intro i hi; rcases (show i = 0 ∨ i = 1 ∨ i = 2 by omega) with e9 | e9 | e9 <;> rw [e9] <;> first | (show 0 ≤ (I86 r0_27 0).toInt ∧ (I86 r0_27 0).toInt ≤ _; rw [e90]; omega) | (show 0 ≤ (I86 r0_27 1).toInt ∧ (I86 r0_27 1).toInt ≤ _; rw [e91]; omega) | (show 0 ≤ (I86 r0_27 2).toInt ∧ (I86 r0_27 2).toInt ≤ _; rw [e92]; omega)))) rfl rfl rfl rfl rfl ⟨_, rfl, rfl, T_r0, Nat.le_of_ble_eq_true rfl⟩ rfl rfl (Nat.le_of_ble_eq_true rfl) (Nat.le_of_ble_eq_true rfl) (Nat.le_of_ble_eq_true rfl) ?_
                  rintro x93 I94 L95 ⟨o0x93, o1x93, p0x93, p1x93, p2x93, p3x93, hI94, S96⟩
                  have p0x93 := p0x93 r0_1 r0_4 r0_5 r0_27 r0_28 R_r0_1 R_r0_4 R_r0_5 R_r0_27 R_r0_28
                  have p1x93 := p1x93 r0_1 r0_4 r0_5 r0_27 r0_28 R_r0_1 R_r0_4 R_r0_5 R_r0_27 R_r0_28
                  have p2x93 := p2x93 r0_4 R_r0_4
                  have p3x93 := p3x93 r0_5 R_r0_5
                  have F97 : ∀ r : Nat, r ≠ 42 → I94 r0_4 r = I86 r0_4 r := fun r z0 => p2x93 r (by first | exact z0)
                  have F98 : ∀ r : Nat, (r < 41 * 42 ∨ 41 * 42 + 41 ≤ r) → I94 r0_5 r = I86 r0_5 r := fun r z0 => p3x93 r (by first | exact z0)
                  have e99 := (p2x93 40 (by first | decide | exact ncne (by omega) (by omega) (by omega) | exact nckn (by omega) (by omega) | exact (nckn (by omega) (by omega)).symm)).trans e88
                  have e100 := CM.j S96 R_r0_1 (by decide) e89
                  have e101 := CM.j S96 R_r0_27 (by decide) e90
                  have e102 := CM.j S96 R_r0_27 (by decide) e91
                  have e103 := CM.j S96 R_r0_27 (by decide) e92
                  have gx93 := rg x93
                  try simp only [e88, e89, e90, e91, e92] at p0x93
                  try have q0x93 := congrArg Int32.toInt p0x93
                  try simp only [e88, e89, e90, e91, e92] at p1x93
                  try have q1x93 := congrArg Int32.toInt p1x93
                  have hy94 := p0x93
                  have hn94 := p1x93
                  have h2794 := NF.e (CM.j0 S96 R_r0_27 (by decide))
                  (try rw [← h2794] at hy94)
                  (try rw [← h2794] at hn94)
                  have h5b94 := p3x93
                  have hFe94 : ∀ k : Nat, (k : Int) ≤ w_r0_4_40.toInt → RI _ r0_5 40 k = (RI I r0_5 40) k := fun k hk => RI.s h5d (by omega)
                  have h5n94 : SMR I I94 r0_5 40 := fun k hk => (h5b94 _ (by omega)).trans (h5d k hk)
                  refine b_if_eq C (t := 102) rfl rfl rfl (fun c104 => ?_) (fun c104 => ?_)
                  · skip
                    refine z_iinc C (z := 1) (lw := fun x105 => [(4, .int x105), (0, .ref r0), (1, .int n1), (2, .int x6), (3, .int x32)]) rfl rfl rfl (Nat.le_of_ble_eq_true rfl) rfl ⟨by omega, by omega⟩ (fun _ => rfl) (fun x105 ex105 => ?_)
                    show V 105 [(4, .int x105), (0, .ref r0), (1, .int n1), (2, .int x6), (3, .int x32)] _ _ _ _
                    refine k_goto C (pc2 := 71) rfl rfl ?_
                    refine k_sub S [(0, .ref r0), (1, .int n1), (2, .int x6), (3, .int x32), (4, .int x105)] (List.forall_mem_cons.mpr ⟨List.mem_of_getElem? (i := 1) rfl, List.forall_mem_cons.mpr ⟨List.mem_of_getElem? (i := 2) rfl, List.forall_mem_cons.mpr ⟨List.mem_of_getElem? (i := 3) rfl, List.forall_mem_cons.mpr ⟨List.mem_of_getElem? (i := 4) rfl, List.forall_mem_cons.mpr ⟨List.mem_of_getElem? (i := 0) rfl, fun _ h => nomatch h⟩⟩⟩⟩⟩) ?_
                    exact ihJ59 _ (MN.lt hmnn60 (by omega) (by omega)) I94 L95 x105 x70 x74 rfl hI94 (CM.cons S66 (CM.cons S87 (CM.mono S96 (by decide) (by decide)) (by decide) (by decide)) (by decide) (by decide)) (fun r z0 => ((F97 r z0).trans ((congrFun (CM.j0 S87 R_r0_4 (by decide)) r).trans (F68 r z0)))) (fun r z0 => ((F98 r z0).trans ((congrFun (CM.j0 S87 R_r0_5 (by decide)) r).trans (F69 r z0)))) (by omega) (by omega) e101 (by omega) (by omega) e102 (by omega) (by omega) (by exact PPH.z (fun h9 => NXS.c (ff71_0.1 h9) (((hn94 (by omega)).cg hFe94 (fun i hi => rfl) (fun i hi => rfl) rfl) |> NOF.n3 (by omega)) (by omega) (by show (I94 r0_27 0).toInt = _; rw [e101]; (try omega)) (by show (I94 r0_27 1).toInt = _; rw [e102]; (try omega)) (by show (I94 r0_27 2).toInt = _; rw [e103]; (try omega)) (by omega)) (fun h9 => by exfalso; omega)) (by exact h5n94) (by omega) (by omega) (by omega) (by omega)
                  refine z_iconst C (z := 1) rfl rfl rfl (fun x106 ex106 => ?_)
                  exact k_iret C rfl (Or.inr ⟨rfl, z01 (by omega) (by omega)⟩) (Nat.le_of_ble_eq_true rfl) (Nat.le_of_ble_eq_true rfl) ⟨_, _, _, rfl, rfl, by omega, by omega, fun a1 a4 a5 a27 a28 h1 h4 h5 h27 h28 => by cases (R_r0_1.symm.trans h1); cases (R_r0_4.symm.trans h4); cases (R_r0_5.symm.trans h5); cases (R_r0_27.symm.trans h27); cases (R_r0_28.symm.trans h28); intro _; simp only [k0_r0_4_40, k0_r0_1_0]; obtain ⟨h7, h8⟩ := hy94 (by omega); exact NXS.y3 (ff71_0.1 (by omega)) (by omega) (by show (I94 r0_27 0).toInt = _; rw [e101]; (try omega)) (by show (I94 r0_27 1).toInt = _; rw [e102]; (try omega)) (by show (I94 r0_27 2).toInt = _; rw [e103]; (try omega)) (by omega) (by omega) (fun i hi => h7 i (by omega)) ((h8.fc hFe94) |> SPF.n1 (by omega)), fun a1 a4 a5 h1 h4 h5 => by cases (R_r0_1.symm.trans h1); cases (R_r0_4.symm.trans h4); cases (R_r0_5.symm.trans h5); intro h; exfalso; omega, fun a4 h4 => by cases (R_r0_4.symm.trans h4); exact (fun r z0 => ((F97 r z0).trans ((congrFun (CM.j0 S87 R_r0_4 (by decide)) r).trans ((F68 r z0).trans ((congrFun (CM.j0 S50 R_r0_4 (by decide)) r).trans ((F37 r z0).trans ((congrFun (CM.j0 S20 R_r0_4 (by decide)) r).trans (F11 r z0)))))))), fun a5 h5 => by cases (R_r0_5.symm.trans h5); exact (fun r z0 => ((F98 r z0).trans ((congrFun (CM.j0 S87 R_r0_5 (by decide)) r).trans ((F69 r z0).trans ((congrFun (CM.j0 S50 R_r0_5 (by decide)) r).trans ((F38 r z0).trans ((congrFun (CM.j0 S20 R_r0_5 (by decide)) r).trans (F12 r z0)))))))), hI94, (CM.cons S9 (CM.cons S20 (CM.cons S35 (CM.cons S50 (CM.cons S66 (CM.cons S87 (CM.mono S96 (by decide) (by decide)) (by decide) (by decide)) (by decide) (by decide)) (by decide) (by decide)) (by decide) (by decide)) (by decide) (by decide)) (by decide) (by decide))⟩
              refine k_istore C (lw := [(4, .int x58), (0, .ref r0), (1, .int n1), (2, .int x6), (3, .int x32)]) rfl rfl (Nat.le_of_ble_eq_true rfl) rfl ?_
              refine k_sub S [(0, .ref r0), (1, .int n1), (2, .int x6), (3, .int x32), (4, .int x58)] (List.forall_mem_cons.mpr ⟨List.mem_of_getElem? (i := 1) rfl, List.forall_mem_cons.mpr ⟨List.mem_of_getElem? (i := 2) rfl, List.forall_mem_cons.mpr ⟨List.mem_of_getElem? (i := 3) rfl, List.forall_mem_cons.mpr ⟨List.mem_of_getElem? (i := 4) rfl, List.forall_mem_cons.mpr ⟨List.mem_of_getElem? (i := 0) rfl, fun _ h => nomatch h⟩⟩⟩⟩⟩) ?_
              exact J59 _ I49 L31 x58 x39 x32 rfl hI49 CM.rf (fun r z0 => rfl) (fun r z0 => rfl) (by omega) (by omega) e53 (by omega) (by omega) e54 (by omega) (by omega) (by first | exact PPH.z (fun h9 => NXS.bc ff36_0 (by omega) (by omega)) (fun h9 => NXS.b ff36_0 (((hn58 (by omega)).cg hFe58 (fun i hi => rfl) (fun i hi => rfl) rfl) |> NOF.n2 (by omega) (by omega)) (by omega) (by show (I49 r0_27 0).toInt = _; rw [e53]; (try omega)) (by show (I49 r0_27 1).toInt = _; rw [e54]; (try omega)) rfl) | exact PPH.z (fun h9 => NXS.bc ff36_0 (by omega) (by omega)) (fun h9 => by exfalso; omega)) (by first | exact h5n58 | exact h5c) (by omega) (by omega) (by omega) (by omega)
            refine k_aload_n C rfl rfl rfl ?_
            refine z_iconst C (z := 1) rfl rfl rfl (fun x107 ex107 => ?_)
            have q108 : x107.toNatClampNeg = 1 := nck (by omega)
            refine c_VI C (a_X12_isPair_x hI49 H_r0 (by omega) (by omega) (fun a4 h4 => by cases (R_r0_4.symm.trans h4); (rw [e51]; omega)) (fun a4 h4 => by cases (R_r0_4.symm.trans h4); (rw [e51]; omega)) (fun a1 a4 a5 h1 h4 h5 => by cases (R_r0_1.symm.trans h1); cases (R_r0_4.symm.trans h4); cases (R_r0_5.symm.trans h5); (rw [e51, e52]; exact RCN.sm hp2 h5c rfl (by omega))) (fun a1 a4 a26 h1 h4 h26 => by cases (R_r0_1.symm.trans h1); cases (R_r0_4.symm.trans h4); cases (R_r0_26.symm.trans h26); (rw [e51, e52, h26c]; exact hp3)) (fun a1 a27 h1 h27 => by cases (R_r0_1.symm.trans h1); cases (R_r0_27.symm.trans h27); (rw [e52]; intro i hi; rcases (show i = 0 ∨ i = 1 by omega) with e9 | e9 <;> rw [e9] <;> first | (show 0 ≤ (I49 r0_27 0).toInt ∧ (I49 r0_27 0).toInt ≤ _; rw [e53]; omega) | (show 0 ≤ (I49 r0_27 1).toInt ∧ (I49 r0_27 1).toInt ≤ _; rw [e54]; omega))) (fun a28 h28 => by cases (R_r0_28.symm.trans h28); (intro i hi; omega))) rfl rfl rfl rfl rfl ⟨_, rfl, rfl, T_r0, Nat.le_of_ble_eq_true rfl⟩ rfl rfl (Nat.le_of_ble_eq_true rfl) (Nat.le_of_ble_eq_true rfl) (Nat.le_of_ble_eq_true rfl) ?_
            rintro x109 I110 L111 ⟨o0x109, o1x109, p0x109, p1x109, p2x109, p3x109, p4x109, hI110, S112⟩
            have p0x109 := p0x109 r0_1 r0_4 r0_5 r0_27 r0_28 R_r0_1 R_r0_4 R_r0_5 R_r0_27 R_r0_28
            have p1x109 := p1x109 r0_1 r0_4 r0_5 r0_27 r0_28 R_r0_1 R_r0_4 R_r0_5 R_r0_27 R_r0_28
            have p2x109 := p2x109 r0_28 R_r0_28
            have p3x109 := p3x109 r0_4 R_r0_4
            have p4x109 := p4x109 r0_5 R_r0_5
            try simp only [q108] at p3x109
            have F113 : ∀ r : Nat, r ≠ 42 → I110 r0_4 r = I49 r0_4 r := fun r z0 => p3x109 r (by first | exact z0)
            try simp only [q108] at p4x109
            have F114 : ∀ r : Nat, (r < 41 * 42 ∨ 41 * 42 + 41 ≤ r) → I110 r0_5 r = I49 r0_5 r := fun r z0 => p4x109 r (by first | exact z0)
            have e115 := (p3x109 40 (by first | decide | exact ncne (by omega) (by omega) (by omega) | exact nckn (by omega) (by omega) | exact (nckn (by omega) (by omega)).symm)).trans e51
            have e116 := CM.j S112 R_r0_1 (by decide) e52
            have e117 := CM.j S112 R_r0_27 (by decide) e53
            have e118 := CM.j S112 R_r0_27 (by decide) e54
            have gx109 := rg x109
            try simp only [q108, e51, e52, e53, e54] at p0x109
            try have q0x109 := congrArg Int32.toInt p0x109
            try simp only [q108, e51, e52, e53, e54] at p1x109
            try have q1x109 := congrArg Int32.toInt p1x109
            try simp only [q108, e51, e52, e53, e54] at p2x109
            try have q2x109 := congrArg Int32.toInt p2x109
            have hy58 := p0x109
            have hn58 := p1x109
            have h2758 := NF.e (CM.j0 S112 R_r0_27 (by decide))
            (try rw [← h2758] at hy58)
            (try rw [← h2758] at hn58)
            have h5b58 := p4x109
            have hFe58 : ∀ k : Nat, (k : Int) ≤ w_r0_4_40.toInt → RI _ r0_5 40 k = (RI I r0_5 40) k := fun k hk => RI.s h5c (by omega)
            have h5n58 : SMR I I110 r0_5 40 := fun k hk => (h5b58 _ (by omega)).trans (h5c k hk)
            refine b_if_eq C (t := 66) rfl rfl rfl (fun c119 => ?_) (fun c119 => ?_)
            · skip
              refine k_iload_n C rfl rfl rfl ?_
              refine z_iconst C (z := 1) rfl rfl rfl (fun x120 ex120 => ?_)
              refine z_iadd C rfl rfl ⟨by omega, by omega⟩ (fun x121 ex121 => ?_)
              have J122 : ∀ (nn123 : Nat) (I124 : IT) (L125 : LT) (x126 : Int32) (x133 : Int32) (x137 : Int32), (MN (20 - x126.toInt) nn123) → (IM R r0 I124) → (CM A R r0 [] [4, 5, 27, 28] I110 L111 I124 L125) → (∀ r : Nat, r ≠ 42 → I124 r0_4 r = I110 r0_4 r) → (∀ r : Nat, (r < 41 * 42 ∨ 41 * 42 + 41 ≤ r) → I124 r0_5 r = I110 r0_5 r) → (2 ≤ x126.toInt) → (x126.toInt ≤ 20) → (I124 r0_27 0 = x133) → (0 ≤ x133.toInt) → (x133.toInt ≤ 19) → (I124 r0_27 1 = x137) → (0 ≤ x137.toInt) → (x137.toInt ≤ 19) → (PPH n1.toInt (NXS w_r0_1_0.toInt w_r0_4_40.toInt (BNI w_r0_4_40.toInt) (RI I r0_5 40) n1.toNatClampNeg (QC1 x6.toInt x32.toInt x126.toInt)) (NXS w_r0_1_0.toInt w_r0_4_40.toInt (BNI w_r0_4_40.toInt) (RI I r0_5 40) n1.toNatClampNeg (QB1 x6.toInt (x32.toInt + 1)))) → (SMR I I124 r0_5 40) → (x133.toInt = x6.toInt) → (x137.toInt = x32.toInt) → (x32.toInt < x126.toInt ∧ x126.toInt ≤ w_r0_1_0.toInt + 1) → (2 ≤ n1.toInt) → V 71 [(0, .ref r0), (1, .int n1), (2, .int x6), (3, .int x32), (4, .int x126)] [] (T, N, I124, L125, R) 0 0 := by
                intro nn123
                induction nn123 using Nat.strongRecOn with
                | _ nn123 ihJ122 =>
                  intro I124 L125 x126 x133 x137 hmnn123 hI130 S129 F131 F132 b127 b128 e134 b135 b136 e138 b139 b140 ff71_0 ff71_1 ff71_2 ff71_3 ff71_4 ff71_5
                  have gx126 := rg x126
                  have gx133 := rg x133
                  have gx137 := rg x137
                  have e141 := (F131 40 (by first | decide | exact ncne (by omega) (by omega) (by omega) | exact nckn (by omega) (by omega) | exact (nckn (by omega) (by omega)).symm)).trans e115
                  have e142 := CM.j S129 R_r0_1 (by decide) e116
                  refine k_iload C rfl rfl rfl ?_
                  refine k_aload_n C rfl rfl rfl ?_
                  refine c_VI C (a_X12_p hI130 H_r0) rfl rfl rfl rfl rfl ⟨_, rfl, rfl, T_r0, Nat.le_of_ble_eq_true rfl⟩ rfl rfl (Nat.le_of_ble_eq_true rfl) (Nat.le_of_ble_eq_true rfl) (Nat.le_of_ble_eq_true rfl) ?_
                  rintro x143 _ _ ⟨o0x143, o1x143, p0x143, rfl, rfl⟩
                  have p0x143 := p0x143 r0_1 R_r0_1
                  have gx143 := rg x143
                  try simp only [e141, e142, e134, e138, e142] at p0x143
                  try have q0x143 := congrArg Int32.toInt p0x143
                  refine b_icmp_gt C (t := 108) rfl rfl rfl (fun c144 => ?_) (fun c144 => ?_)
                  · skip
                    refine z_iinc C (z := 1) (lw := fun x145 => [(3, .int x145), (0, .ref r0), (1, .int n1), (2, .int x6), (4, .int x126)]) rfl rfl rfl (Nat.le_of_ble_eq_true rfl) rfl ⟨by omega, by omega⟩ (fun _ => rfl) (fun x145 ex145 => ?_)
                    show V 111 [(3, .int x145), (0, .ref r0), (1, .int n1), (2, .int x6), (4, .int x126)] _ _ _ _
                    refine k_goto C (pc2 := 36) rfl rfl ?_
                    refine k_sub S [(0, .ref r0), (1, .int n1), (2, .int x6), (3, .int x145)] (List.forall_mem_cons.mpr ⟨List.mem_of_getElem? (i := 1) rfl, List.forall_mem_cons.mpr ⟨List.mem_of_getElem? (i := 2) rfl, List.forall_mem_cons.mpr ⟨List.mem_of_getElem? (i := 3) rfl, List.forall_mem_cons.mpr ⟨List.mem_of_getElem? (i := 0) rfl, fun _ h => nomatch h⟩⟩⟩⟩) ?_
                    exact ihJ28 _ (MN.lt hmnn29 (by omega) (by omega)) I124 L125 x145 x133 rfl hI130 (CM.cons S35 (CM.cons S50 (CM.cons S112 (CM.mono S129 (by decide) (by decide)) (by decide) (by decide)) (by decide) (by decide)) (by decide) (by decide)) (fun r z0 => ((F131 r z0).trans ((F113 r z0).trans ((congrFun (CM.j0 S50 R_r0_4 (by decide)) r).trans (F37 r z0))))) (fun r z0 => ((F132 r z0).trans ((F114 r z0).trans ((congrFun (CM.j0 S50 R_r0_5 (by decide)) r).trans (F38 r z0))))) (by omega) (by omega) e134 (by omega) (by omega) (by first | exact NXS.cb (ff71_0.1 (by omega)) (by omega) (by omega) (by omega) | exact NXS.bx (ff71_0.2 (by omega)) (by omega) | (exfalso; omega)) (by exact ff71_1) (by omega) (by omega) (by omega)
                  refine k_iload_n C rfl rfl rfl ?_
                  refine z_iconst C (z := 3) rfl rfl rfl (fun x146 ex146 => ?_)
                  refine b_icmp_ne C (t := 108) rfl rfl rfl (fun c147 => ?_) (fun c147 => by exfalso; omega)
                  refine z_iinc C (z := 1) (lw := fun x148 => [(3, .int x148), (0, .ref r0), (1, .int n1), (2, .int x6), (4, .int x126)]) rfl rfl rfl (Nat.le_of_ble_eq_true rfl) rfl ⟨by omega, by omega⟩ (fun _ => rfl) (fun x148 ex148 => ?_)
                  show V 111 [(3, .int x148), (0, .ref r0), (1, .int n1), (2, .int x6), (4, .int x126)] _ _ _ _
                  refine k_goto C (pc2 := 36) rfl rfl ?_
                  refine k_sub S [(0, .ref r0), (1, .int n1), (2, .int x6), (3, .int x148)] (List.forall_mem_cons.mpr ⟨List.mem_of_getElem? (i := 1) rfl, List.forall_mem_cons.mpr ⟨List.mem_of_getElem? (i := 2) rfl, List.forall_mem_cons.mpr ⟨List.mem_of_getElem? (i := 3) rfl, List.forall_mem_cons.mpr ⟨List.mem_of_getElem? (i := 0) rfl, fun _ h => nomatch h⟩⟩⟩⟩) ?_
                  exact ihJ28 _ (MN.lt hmnn29 (by omega) (by omega)) I124 L125 x148 x133 rfl hI130 (CM.cons S35 (CM.cons S50 (CM.cons S112 (CM.mono S129 (by decide) (by decide)) (by decide) (by decide)) (by decide) (by decide)) (by decide) (by decide)) (fun r z0 => ((F131 r z0).trans ((F113 r z0).trans ((congrFun (CM.j0 S50 R_r0_4 (by decide)) r).trans (F37 r z0))))) (fun r z0 => ((F132 r z0).trans ((F114 r z0).trans ((congrFun (CM.j0 S50 R_r0_5 (by decide)) r).trans (F38 r z0))))) (by omega) (by omega) e134 (by omega) (by omega) (by first | exact NXS.cb (ff71_0.1 (by omega)) (by omega) (by omega) (by omega) | exact NXS.bx (ff71_0.2 (by omega)) (by omega) | (exfalso; omega)) (by exact ff71_1) (by omega) (by omega) (by omega)
              refine k_istore C (lw := [(4, .int x121), (0, .ref r0), (1, .int n1), (2, .int x6), (3, .int x32)]) rfl rfl (Nat.le_of_ble_eq_true rfl) rfl ?_
              refine k_sub S [(0, .ref r0), (1, .int n1), (2, .int x6), (3, .int x32), (4, .int x121)] (List.forall_mem_cons.mpr ⟨List.mem_of_getElem? (i := 1) rfl, List.forall_mem_cons.mpr ⟨List.mem_of_getElem? (i := 2) rfl, List.forall_mem_cons.mpr ⟨List.mem_of_getElem? (i := 3) rfl, List.forall_mem_cons.mpr ⟨List.mem_of_getElem? (i := 4) rfl, List.forall_mem_cons.mpr ⟨List.mem_of_getElem? (i := 0) rfl, fun _ h => nomatch h⟩⟩⟩⟩⟩) ?_
              exact J122 _ I110 L111 x121 x39 x32 rfl hI110 CM.rf (fun r z0 => rfl) (fun r z0 => rfl) (by omega) (by omega) e117 (by omega) (by omega) e118 (by omega) (by omega) (by first | exact PPH.z (fun h9 => NXS.bc ff36_0 (by omega) (by omega)) (fun h9 => NXS.b ff36_0 (((hn58 (by omega)).cg hFe58 (fun i hi => rfl) (fun i hi => rfl) rfl) |> NOF.n2 (by omega) (by omega)) (by omega) (by show (I110 r0_27 0).toInt = _; rw [e117]; (try omega)) (by show (I110 r0_27 1).toInt = _; rw [e118]; (try omega)) rfl) | exact PPH.z (fun h9 => NXS.bc ff36_0 (by omega) (by omega)) (fun h9 => by exfalso; omega)) (by first | exact h5n58 | exact h5c) (by omega) (by omega) (by omega) (by omega)
            refine z_iconst C (z := 1) rfl rfl rfl (fun x149 ex149 => ?_)
            exact k_iret C rfl (Or.inr ⟨rfl, z01 (by omega) (by omega)⟩) (Nat.le_of_ble_eq_true rfl) (Nat.le_of_ble_eq_true rfl) ⟨_, _, _, rfl, rfl, by omega, by omega, fun a1 a4 a5 a27 a28 h1 h4 h5 h27 h28 => by cases (R_r0_1.symm.trans h1); cases (R_r0_4.symm.trans h4); cases (R_r0_5.symm.trans h5); cases (R_r0_27.symm.trans h27); cases (R_r0_28.symm.trans h28); intro _; simp only [k0_r0_4_40, k0_r0_1_0]; obtain ⟨h7, h8⟩ := hy58 (by omega); exact NXS.y2 ff36_0 (by omega) (by show (I110 r0_27 0).toInt = _; rw [e117]; (try omega)) (by show (I110 r0_27 1).toInt = _; rw [e118]; (try omega)) (by omega) (by omega) (fun i hi => h7 i (by omega) (by omega)) ((h8.fc hFe58) |> SPF.n1 (by omega)), fun a1 a4 a5 h1 h4 h5 => by cases (R_r0_1.symm.trans h1); cases (R_r0_4.symm.trans h4); cases (R_r0_5.symm.trans h5); intro h; exfalso; omega, fun a4 h4 => by cases (R_r0_4.symm.trans h4); exact (fun r z0 => ((F113 r z0).trans ((congrFun (CM.j0 S50 R_r0_4 (by decide)) r).trans ((F37 r z0).trans ((congrFun (CM.j0 S20 R_r0_4 (by decide)) r).trans (F11 r z0)))))), fun a5 h5 => by cases (R_r0_5.symm.trans h5); exact (fun r z0 => ((F114 r z0).trans ((congrFun (CM.j0 S50 R_r0_5 (by decide)) r).trans ((F38 r z0).trans ((congrFun (CM.j0 S20 R_r0_5 (by decide)) r).trans (F12 r z0)))))), hI110, (CM.cons S9 (CM.cons S20 (CM.cons S35 (CM.cons S50 (CM.mono S112 (by decide) (by decide)) (by decide) (by decide)) (by decide) (by decide)) (by decide) (by decide)) (by decide) (by decide))⟩
        refine k_istore_n C (lw := [(3, .int x27), (0, .ref r0), (1, .int n1), (2, .int x6)]) rfl rfl (Nat.le_of_ble_eq_true rfl) rfl ?_
        refine k_sub S [(0, .ref r0), (1, .int n1), (2, .int x6), (3, .int x27)] (List.forall_mem_cons.mpr ⟨List.mem_of_getElem? (i := 1) rfl, List.forall_mem_cons.mpr ⟨List.mem_of_getElem? (i := 2) rfl, List.forall_mem_cons.mpr ⟨List.mem_of_getElem? (i := 3) rfl, List.forall_mem_cons.mpr ⟨List.mem_of_getElem? (i := 0) rfl, fun _ h => nomatch h⟩⟩⟩⟩) ?_
        exact J28 _ I19 L5 x27 x6 rfl hI19 CM.rf (fun r z0 => rfl) (fun r z0 => rfl) (by omega) (by omega) e23 (by omega) (by omega) (by exact NXS.ab ff2_0 (by omega) (by omega)) (by exact h5a) (by omega) (by omega) (by omega)
      refine k_aload_n C rfl rfl rfl ?_
      refine z_iconst C (z := 0) rfl rfl rfl (fun x150 ex150 => ?_)
      have q151 : x150.toNatClampNeg = 0 := nck (by omega)
      refine c_VI C (a_X12_isLast_x hI19 H_r0 (by omega) (by omega) (fun a4 h4 => by cases (R_r0_4.symm.trans h4); (rw [e21]; omega)) (fun a4 h4 => by cases (R_r0_4.symm.trans h4); (rw [e21]; omega)) (fun a1 a4 a5 h1 h4 h5 => by cases (R_r0_1.symm.trans h1); cases (R_r0_4.symm.trans h4); cases (R_r0_5.symm.trans h5); (rw [e21, e22]; exact RCN.sm hp2 h5a rfl (by omega))) (fun a1 a4 a26 h1 h4 h26 => by cases (R_r0_1.symm.trans h1); cases (R_r0_4.symm.trans h4); cases (R_r0_26.symm.trans h26); (rw [e21, e22, h26a]; exact hp3)) (fun a1 a27 h1 h27 => by cases (R_r0_1.symm.trans h1); cases (R_r0_27.symm.trans h27); (rw [e22]; intro i hi; rw [show i = 0 from by omega]; show 0 ≤ (I19 r0_27 0).toInt ∧ (I19 r0_27 0).toInt ≤ _; rw [e23]; omega)) (fun a28 h28 => by cases (R_r0_28.symm.trans h28); (intro i hi; omega))) rfl rfl rfl rfl rfl ⟨_, rfl, rfl, T_r0, Nat.le_of_ble_eq_true rfl⟩ rfl rfl (Nat.le_of_ble_eq_true rfl) (Nat.le_of_ble_eq_true rfl) (Nat.le_of_ble_eq_true rfl) ?_
      rintro x152 I153 L154 ⟨o0x152, o1x152, p0x152, p1x152, p2x152, p3x152, p4x152, hI153, S155⟩
      have p0x152 := p0x152 r0_1 r0_4 r0_5 r0_27 r0_28 R_r0_1 R_r0_4 R_r0_5 R_r0_27 R_r0_28
      have p1x152 := p1x152 r0_1 r0_4 r0_5 r0_27 r0_28 R_r0_1 R_r0_4 R_r0_5 R_r0_27 R_r0_28
      have p2x152 := p2x152 r0_28 R_r0_28
      have p3x152 := p3x152 r0_4 R_r0_4
      have p4x152 := p4x152 r0_5 R_r0_5
      try simp only [q151] at p3x152
      have F156 : ∀ r : Nat, r ≠ 42 → I153 r0_4 r = I19 r0_4 r := fun r z0 => p3x152 r (by first | exact z0)
      try simp only [q151] at p4x152
      have F157 : ∀ r : Nat, (r < 41 * 42 ∨ 41 * 42 + 41 ≤ r) → I153 r0_5 r = I19 r0_5 r := fun r z0 => p4x152 r (by first | exact z0)
      have e158 := (p3x152 40 (by first | decide | exact ncne (by omega) (by omega) (by omega) | exact nckn (by omega) (by omega) | exact (nckn (by omega) (by omega)).symm)).trans e21
      have e159 := CM.j S155 R_r0_1 (by decide) e22
      have e160 := CM.j S155 R_r0_27 (by decide) e23
      have gx152 := rg x152
      try simp only [q151, e21, e22, e23] at p0x152
      try have q0x152 := congrArg Int32.toInt p0x152
      try simp only [q151, e21, e22, e23] at p1x152
      try have q1x152 := congrArg Int32.toInt p1x152
      try simp only [q151, e21, e22, e23] at p2x152
      try have q2x152 := congrArg Int32.toInt p2x152
      have hy24 := p0x152
      have hn24 := p1x152
      have h2724 := NF.e (CM.j0 S155 R_r0_27 (by decide))
      (try rw [← h2724] at hy24)
      (try rw [← h2724] at hn24)
      have h5b24 := p4x152
      have hFe24 : ∀ k : Nat, (k : Int) ≤ w_r0_4_40.toInt → RI _ r0_5 40 k = (RI I r0_5 40) k := fun k hk => RI.s h5a (by omega)
      have h5n24 : SMR I I153 r0_5 40 := fun k hk => (h5b24 _ (by omega)).trans (h5a k hk)
      refine b_if_eq C (t := 114) rfl rfl rfl (fun c161 => ?_) (fun c161 => ?_)
      · skip
        refine z_iinc C (z := 1) (lw := fun x162 => [(2, .int x162), (0, .ref r0), (1, .int n1)]) rfl rfl rfl (Nat.le_of_ble_eq_true rfl) rfl ⟨by omega, by omega⟩ (fun _ => rfl) (fun x162 ex162 => ?_)
        show V 117 [(2, .int x162), (0, .ref r0), (1, .int n1)] _ _ _ _
        refine k_goto C (pc2 := 2) rfl rfl ?_
        refine k_sub S [(0, .ref r0), (1, .int n1), (2, .int x162)] (List.forall_mem_cons.mpr ⟨List.mem_of_getElem? (i := 1) rfl, List.forall_mem_cons.mpr ⟨List.mem_of_getElem? (i := 2) rfl, List.forall_mem_cons.mpr ⟨List.mem_of_getElem? (i := 0) rfl, fun _ h => nomatch h⟩⟩⟩) ?_
        exact ihJ2 _ (MN.lt hmnn3 (by omega) (by omega)) I153 L154 x162 rfl hI153 (CM.cons S9 (CM.cons S20 (CM.mono S155 (by decide) (by decide)) (by decide) (by decide)) (by decide) (by decide)) (fun r z0 => ((F156 r z0).trans ((congrFun (CM.j0 S20 R_r0_4 (by decide)) r).trans (F11 r z0)))) (fun r z0 => ((F157 r z0).trans ((congrFun (CM.j0 S20 R_r0_5 (by decide)) r).trans (F12 r z0)))) (by omega) (by omega) (by first | exact NXS.a ff2_0 ((hn24 (by omega)).cg hFe24 (fun i hi => rfl) (fun i hi => rfl) rfl |> NOF.n1 (by omega)) (by omega) (by show (I153 r0_27 0).toInt = _; rw [e160]; (try omega)) (by omega) | exact NXS.ba ff36_0 (by omega) (by omega) (by omega)) (by first | exact h5n24 | exact ff36_1) (by omega)
      refine z_iconst C (z := 1) rfl rfl rfl (fun x163 ex163 => ?_)
      exact k_iret C rfl (Or.inr ⟨rfl, z01 (by omega) (by omega)⟩) (Nat.le_of_ble_eq_true rfl) (Nat.le_of_ble_eq_true rfl) ⟨_, _, _, rfl, rfl, by omega, by omega, fun a1 a4 a5 a27 a28 h1 h4 h5 h27 h28 => by cases (R_r0_1.symm.trans h1); cases (R_r0_4.symm.trans h4); cases (R_r0_5.symm.trans h5); cases (R_r0_27.symm.trans h27); cases (R_r0_28.symm.trans h28); intro _; simp only [k0_r0_4_40, k0_r0_1_0]; obtain ⟨h7, h8⟩ := hy24 (by omega); exact NXS.y1 ff2_0 (by omega) (by show (I153 r0_27 0).toInt = _; rw [e160]; (try omega)) (by omega) (fun i hi => by rw [show i = 0 from by omega]; exact h7) ((h8.fc hFe24) |> SPF.n1 (by omega)), fun a1 a4 a5 h1 h4 h5 => by cases (R_r0_1.symm.trans h1); cases (R_r0_4.symm.trans h4); cases (R_r0_5.symm.trans h5); intro h; exfalso; omega, fun a4 h4 => by cases (R_r0_4.symm.trans h4); exact (fun r z0 => ((F156 r z0).trans ((congrFun (CM.j0 S20 R_r0_4 (by decide)) r).trans (F11 r z0)))), fun a5 h5 => by cases (R_r0_5.symm.trans h5); exact (fun r z0 => ((F157 r z0).trans ((congrFun (CM.j0 S20 R_r0_5 (by decide)) r).trans (F12 r z0)))), hI153, (CM.cons S9 (CM.cons S20 (CM.mono S155 (by decide) (by decide)) (by decide) (by decide)) (by decide) (by decide))⟩
  refine k_istore_n C (lw := [(2, .int x1), (0, .ref r0), (1, .int n1)]) rfl rfl (Nat.le_of_ble_eq_true rfl) rfl ?_
  refine k_sub S [(0, .ref r0), (1, .int n1), (2, .int x1)] (List.forall_mem_cons.mpr ⟨List.mem_of_getElem? (i := 1) rfl, List.forall_mem_cons.mpr ⟨List.mem_of_getElem? (i := 2) rfl, List.forall_mem_cons.mpr ⟨List.mem_of_getElem? (i := 0) rfl, fun _ h => nomatch h⟩⟩⟩) ?_
  exact J2 _ I L x1 rfl hI CM.rf (fun r z0 => rfl) (fun r z0 => rfl) (by omega) (by omega) (by exact NXS.z (by omega) (by omega)) (by exact fun k hk => rfl) (by omega)

