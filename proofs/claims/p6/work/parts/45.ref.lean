/-! the reference in any state: what lies in common -/
theorem a_X12_strips {d : Nat} {T N : Nat → Nat} {I : IT} {L : LT} {R : RT} {A : Nat → Prop} {r0 : Nat} {n1 : Int32} (hI : IM R r0 I) (H_r0 : (h_MD T N R A) r0) (b0_n1 : 40 ≤ n1.toInt) (b1_n1 : n1.toInt ≤ 41) (hp0 : ∀ a4 a5, R r0 4 = some a4 → R r0 5 = some a5 → NZ I a5 n1.toNatClampNeg (I a4 n1.toNatClampNeg).toInt) : Ex (d + 2) 288 [.ref r0, .int n1] (T, N, I, L, R) 0 0 (pI T N R (fun x9 I9 L9 => (∀ a4, R r0 4 = some a4 → (I9 a4 n1.toNatClampNeg).toInt = (I a4 n1.toNatClampNeg).toInt - x9.toInt) ∧ (∀ a4, R r0 4 = some a4 → 0 ≤ x9.toInt ∧ x9.toInt ≤ (I a4 n1.toNatClampNeg).toInt) ∧ (∀ a5, R r0 5 = some a5 → NE1 I a5 (41 * n1.toNatClampNeg + x9.toNatClampNeg)) ∧ (∀ a4 a5, R r0 4 = some a4 → R r0 5 = some a5 → STP I I9 a5 n1.toNatClampNeg x9.toInt (I a4 n1.toNatClampNeg).toInt) ∧ (∀ a4, R r0 4 = some a4 → ∀ r : Nat, r ≠ n1.toNatClampNeg → I9 a4 r = I a4 r) ∧ (∀ a5, R r0 5 = some a5 → ∀ r : Nat, (r < 41 * n1.toNatClampNeg ∨ 41 * n1.toNatClampNeg + 41 ≤ r) → I9 a5 r = I a5 r) ∧ (IM R r0 I9 ∧ CM A R r0 [] [4, 5] I L I9 L9))) := by
  refine ⟨_, rfl, Nat.le_of_ble_eq_true rfl, fun V C S => ?_⟩
  show V 0 [(0, .ref r0), (1, .int n1)] [] (T, N, I, L, R) 0 0
  have gn1 := rg n1
  obtain ⟨T_r0, A_r0, ⟨r0_1, R_r0_1, H_r0_1⟩, ⟨r0_2, R_r0_2, H_r0_2⟩, ⟨r0_4, R_r0_4, H_r0_4⟩, ⟨r0_5, R_r0_5, H_r0_5⟩, ⟨r0_10, R_r0_10, H_r0_10⟩, ⟨r0_18, R_r0_18, H_r0_18⟩, ⟨r0_20, R_r0_20, H_r0_20⟩, ⟨r0_21, R_r0_21, H_r0_21⟩, ⟨r0_22, R_r0_22, H_r0_22⟩, ⟨r0_23, R_r0_23, H_r0_23⟩, ⟨r0_25, R_r0_25, H_r0_25⟩, ⟨r0_26, R_r0_26, H_r0_26⟩, ⟨r0_27, R_r0_27, H_r0_27⟩, ⟨r0_28, R_r0_28, H_r0_28⟩, ⟨r0_34, R_r0_34, H_r0_34⟩, J_r0, Y_r0⟩ := id H_r0
  have G_r0 : mF T R r0 := ⟨J_r0, Y_r0, T_r0⟩
  obtain ⟨w_r0_4_n1, k0_r0_4_n1⟩ : ∃ x, I r0_4 n1.toNatClampNeg = x := ⟨_, rfl⟩
  have gw_r0_4_n1 := rg w_r0_4_n1
  have ow_r0_4_n1 := IM.dgR hI R_r0_4 k0_r0_4_n1
  have hp0 := hp0 r0_4 r0_5 R_r0_4 R_r0_5
  try simp only [k0_r0_4_n1] at hp0
  obtain ⟨K, hK1, hK2⟩ := hp0
  refine z_iconst C (z := 0) rfl rfl rfl (fun x1 ex1 => ?_)
  have J2 : ∀ (nn3 : Nat) (x4 : Int32), ((41 - x4.toInt).toNat = nn3) → (0 ≤ x4.toInt) → (x4.toInt ≤ 41) → (x4.toInt ≤ (K : Int)) → (AZ I r0_5 (41 * n1.toNatClampNeg) x4.toInt) → V 2 [(0, .ref r0), (1, .int n1), (2, .int x4)] [] (T, N, I, L, R) 0 0 := by
    intro nn3
    induction nn3 using Nat.strongRecOn with
    | _ nn3 ihJ2 =>
      intro x4 hmnn3 b5 b6 ff2_0 ff2_1
      have gx4 := rg x4
      refine k_aload_n C rfl rfl rfl ?_
      refine k_iload_n C rfl rfl rfl ?_
      refine k_iload_n C rfl rfl rfl ?_
      refine c_VI C (a_X12_of hI H_r0 (by omega) (by omega) (by omega) (by omega)) rfl rfl rfl rfl rfl ⟨_, rfl, rfl, T_r0, Nat.le_of_ble_eq_true rfl⟩ rfl rfl (Nat.le_of_ble_eq_true rfl) (Nat.le_of_ble_eq_true rfl) (Nat.le_of_ble_eq_true rfl) ?_
      rintro x7 _ _ ⟨o0x7, o1x7, p0x7, rfl, rfl⟩
      have p0x7 := p0x7 r0_5 R_r0_5
      have gx7 := rg x7
      try simp only [k0_r0_4_n1] at p0x7
      try have q0x7 := congrArg Int32.toInt p0x7
      have hO := p0x7
      refine b_if_ne C (t := 17) rfl rfl rfl (fun c8 => ?_) (fun c8 => ?_)
      · skip
        have hNE : NE1 I r0_5 (41 * n1.toNatClampNeg + x4.toNatClampNeg) := by (show (I r0_5 _).toInt ≠ 0); omega
        refine k_iload_n C rfl rfl rfl ?_
        have J9 : ∀ (nn10 : Nat) (I11 : IT) (L12 : LT) (x13 : Int32), ((41 - x13.toInt).toNat = nn10) → (IM R r0 I11) → (CM A R r0 [] [5] I L I11 L12) → (∀ r : Nat, (r < 41 * n1.toNatClampNeg ∨ 41 * n1.toNatClampNeg + 41 ≤ r) → I11 r0_5 r = I r0_5 r) → (0 ≤ x13.toInt) → (x13.toInt ≤ 41) → (x4.toInt ≤ x13.toInt) → (x13.toInt ≤ w_r0_4_n1.toInt + 1) → (STQ I I11 r0_5 n1.toNatClampNeg x4.toInt x13.toInt) → V 19 [(0, .ref r0), (1, .int n1), (2, .int x4), (3, .int x13)] [] (T, N, I11, L12, R) 0 0 := by
          intro nn10
          induction nn10 using Nat.strongRecOn with
          | _ nn10 ihJ9 =>
            intro I11 L12 x13 hmnn10 hI17 S16 F18 b14 b15 ff19_0 ff19_1 ff19_2
            have gx13 := rg x13
            have e19 := CM.j S16 R_r0_4 (by decide) k0_r0_4_n1
            refine k_iload_n C rfl rfl rfl ?_
            refine k_aload_n C rfl rfl rfl ?_
            refine g_R C rfl rfl rfl T_r0 rfl R_r0_4 ?_
            refine k_iload_n C rfl rfl rfl ?_
            obtain ⟨T_r0_4, N_r0_4, A_r0_4⟩ := id H_r0_4
            refine a_I C rfl rfl T_r0_4 (by rw [N_r0_4]; exact vpi (by omega) (by omega)) e19 ?_
            refine b_icmp_gt C (t := 49) rfl rfl rfl (fun c20 => ?_) (fun c20 => ?_)
            · skip
              refine k_aload_n C rfl rfl rfl ?_
              refine g_R C rfl rfl rfl T_r0 rfl R_r0_4 ?_
              refine k_iload_n C rfl rfl rfl ?_
              refine k_dup2 C rfl rfl rfl rfl ?_
              refine a_I C rfl rfl T_r0_4 (by rw [N_r0_4]; exact vpi (by omega) (by omega)) e19 ?_
              refine k_iload_n C rfl rfl rfl ?_
              refine z_isub C rfl rfl ⟨by omega, by omega⟩ (fun x21 ex21 => ?_)
              refine z_sI C rfl rfl T_r0_4 N_r0_4 (by omega) (by omega) (fun I22 uI22 => ?_)
              have hI22 : IM R r0 I22 := IM.arr hI17 G_r0 R_r0_4 ⟨(fun _ => ⟨by omega, by omega⟩), (fun h => absurd h (by decide)), (fun h => absurd h (by decide))⟩ (fun h => absurd h (by decide)) uI22
              have S23 : CM A R r0 [] [4] I11 L12 I22 L12 := CM.a G_r0 R_r0_4 A_r0_4 uI22
              have F24 : ∀ r : Nat, r ≠ n1.toNatClampNeg → I22 r0_4 r = I11 r0_4 r := fun r z0 => by rw [uI22]; first | exact u2_k z0
              have e26 := u2_e uI22
              refine k_iload_n C rfl rfl rfl ?_
              exact k_iret C rfl (Or.inl rfl) (Nat.le_of_ble_eq_true rfl) (Nat.le_of_ble_eq_true rfl) ⟨_, _, _, rfl, rfl, fun a4 h4 => by cases (R_r0_4.symm.trans h4); first | omega | (simp only [e26, k0_r0_4_n1] <;> omega), fun a4 h4 => by cases (R_r0_4.symm.trans h4); first | omega | (simp only [e26, k0_r0_4_n1] <;> omega), fun a5 h5 => by cases (R_r0_5.symm.trans h5); exact hNE, fun a4 a5 h4 h5 => by cases (R_r0_4.symm.trans h4); cases (R_r0_5.symm.trans h5); simp only [k0_r0_4_n1]; exact STQ.p ff19_2 (CM.j0 S23 R_r0_5 (by decide)) (by omega), fun a4 h4 => by cases (R_r0_4.symm.trans h4); exact (fun r z0 => ((F24 r z0).trans (congrFun (CM.j0 S16 R_r0_4 (by decide)) r))), fun a5 h5 => by cases (R_r0_5.symm.trans h5); exact (fun r z0 => ((congrFun (CM.j0 S23 R_r0_5 (by decide)) r).trans (F18 r z0))), hI22, (CM.cons S16 (CM.mono S23 (by decide) (by decide)) (by decide) (by decide))⟩
            refine k_aload_n C rfl rfl rfl ?_
            refine k_iload_n C rfl rfl rfl ?_
            refine k_iload_n C rfl rfl rfl ?_
            refine k_iload_n C rfl rfl rfl ?_
            refine z_isub C rfl rfl ⟨by omega, by omega⟩ (fun x27 ex27 => ?_)
            refine k_aload_n C rfl rfl rfl ?_
            refine k_iload_n C rfl rfl rfl ?_
            refine k_iload_n C rfl rfl rfl ?_
            refine c_VI C (a_X12_of hI17 H_r0 (by omega) (by omega) (by omega) (by omega)) rfl rfl rfl rfl rfl ⟨_, rfl, rfl, T_r0, Nat.le_of_ble_eq_true rfl⟩ rfl rfl (Nat.le_of_ble_eq_true rfl) (Nat.le_of_ble_eq_true rfl) (Nat.le_of_ble_eq_true rfl) ?_
            rintro x28 _ _ ⟨o0x28, o1x28, p0x28, rfl, rfl⟩
            have p0x28 := p0x28 r0_5 R_r0_5
            have gx28 := rg x28
            try simp only [e19] at p0x28
            try have q0x28 := congrArg Int32.toInt p0x28
            have hO2 := p0x28
            refine c_VV C (a_X12_put hI17 H_r0 (by omega) (by omega) (by omega) (by omega) (by omega) (by omega)) rfl rfl rfl rfl rfl ⟨_, rfl, rfl, T_r0, Nat.le_of_ble_eq_true rfl⟩ rfl rfl (Nat.le_of_ble_eq_true rfl) (Nat.le_of_ble_eq_true rfl) (Nat.le_of_ble_eq_true rfl) ?_
            rintro I30 L31 ⟨p0v29, p1v29, hI30, S32⟩
            have p0v29 := p0v29 r0_5 R_r0_5
            have p1v29 := p1v29 r0_5 R_r0_5
            have F33 : ∀ r : Nat, (r < 41 * n1.toNatClampNeg ∨ 41 * n1.toNatClampNeg + 41 ≤ r) → I30 r0_5 r = I11 r0_5 r := fun r z0 => p1v29 r (by first | exact z0)
            have e34 := CM.j S32 R_r0_4 (by decide) e19
            try simp only [e19] at p0v29
            try have q0v29 := congrArg Int32.toInt p0v29
            have hP := p0v29
            refine z_iinc C (z := 1) (lw := fun x35 => [(3, .int x35), (0, .ref r0), (1, .int n1), (2, .int x4)]) rfl rfl rfl (Nat.le_of_ble_eq_true rfl) rfl ⟨by omega, by omega⟩ (fun _ => rfl) (fun x35 ex35 => ?_)
            show V 46 [(3, .int x35), (0, .ref r0), (1, .int n1), (2, .int x4)] _ _ _ _
            refine k_goto C (pc2 := 19) rfl rfl ?_
            refine k_sub S [(0, .ref r0), (1, .int n1), (2, .int x4), (3, .int x35)] (List.forall_mem_cons.mpr ⟨List.mem_of_getElem? (i := 1) rfl, List.forall_mem_cons.mpr ⟨List.mem_of_getElem? (i := 2) rfl, List.forall_mem_cons.mpr ⟨List.mem_of_getElem? (i := 3) rfl, List.forall_mem_cons.mpr ⟨List.mem_of_getElem? (i := 0) rfl, fun _ h => nomatch h⟩⟩⟩⟩) ?_
            exact ihJ9 _ (by omega) I30 L31 x35 rfl hI30 (CM.cons S16 (CM.mono S32 (by decide) (by decide)) (by decide) (by decide)) (fun r z0 => ((F33 r z0).trans (F18 r z0))) (by omega) (by omega) (by omega) (by omega) (by exact STQ.s ff19_2 hO2 hP (by omega) (by omega) (by omega) (by omega))
        refine k_istore_n C (lw := [(3, .int x4), (0, .ref r0), (1, .int n1), (2, .int x4)]) rfl rfl (Nat.le_of_ble_eq_true rfl) rfl ?_
        refine k_sub S [(0, .ref r0), (1, .int n1), (2, .int x4), (3, .int x4)] (List.forall_mem_cons.mpr ⟨List.mem_of_getElem? (i := 1) rfl, List.forall_mem_cons.mpr ⟨List.mem_of_getElem? (i := 2) rfl, List.forall_mem_cons.mpr ⟨List.mem_of_getElem? (i := 3) rfl, List.forall_mem_cons.mpr ⟨List.mem_of_getElem? (i := 0) rfl, fun _ h => nomatch h⟩⟩⟩⟩) ?_
        exact J9 _ I L x4 rfl hI CM.rf (fun r z0 => rfl) (by omega) (by omega) (by omega) (by omega) (by exact STQ.z (by omega) rfl)
      refine z_iinc C (z := 1) (lw := fun x36 => [(2, .int x36), (0, .ref r0), (1, .int n1)]) rfl rfl rfl (Nat.le_of_ble_eq_true rfl) rfl ⟨by omega, by omega⟩ (fun _ => rfl) (fun x36 ex36 => ?_)
      show V 14 [(2, .int x36), (0, .ref r0), (1, .int n1)] _ _ _ _
      refine k_goto C (pc2 := 2) rfl rfl ?_
      refine k_sub S [(0, .ref r0), (1, .int n1), (2, .int x36)] (List.forall_mem_cons.mpr ⟨List.mem_of_getElem? (i := 1) rfl, List.forall_mem_cons.mpr ⟨List.mem_of_getElem? (i := 2) rfl, List.forall_mem_cons.mpr ⟨List.mem_of_getElem? (i := 0) rfl, fun _ h => nomatch h⟩⟩⟩) ?_
      exact ihJ2 _ (by omega) x36 rfl (by omega) (by omega) (by (have h9 : x4.toNatClampNeg ≠ K := by (intro q; have hK3 := hK2; rw [← q] at hK3; omega)); (have h8 := ncz (x := x4) (by omega)); omega) (by exact AZ.s ff2_1 (by omega) (by omega) (by omega))
  refine k_istore_n C (lw := [(2, .int x1), (0, .ref r0), (1, .int n1)]) rfl rfl (Nat.le_of_ble_eq_true rfl) rfl ?_
  refine k_sub S [(0, .ref r0), (1, .int n1), (2, .int x1)] (List.forall_mem_cons.mpr ⟨List.mem_of_getElem? (i := 1) rfl, List.forall_mem_cons.mpr ⟨List.mem_of_getElem? (i := 2) rfl, List.forall_mem_cons.mpr ⟨List.mem_of_getElem? (i := 0) rfl, fun _ h => nomatch h⟩⟩⟩) ?_
  exact J2 _ x1 rfl (by omega) (by omega) (by omega) (by exact AZ.z (by omega))

theorem a_X12_divides {d : Nat} {T N : Nat → Nat} {I : IT} {L : LT} {R : RT} {A : Nat → Prop} {r0 : Nat} {n1 n2 n3 : Int32} (hI : IM R r0 I) (H_r0 : (h_MD T N R A) r0) (b0_n1 : 40 ≤ n1.toInt) (b1_n1 : n1.toInt ≤ 40) (b0_n2 : 41 ≤ n2.toInt) (b1_n2 : n2.toInt ≤ 41) (b0_n3 : 43 ≤ n3.toInt) (b1_n3 : n3.toInt ≤ 43) (hp0 : ∀ a4, R r0 4 = some a4 → (I a4 41).toInt ≤ (I a4 40).toInt) (hp1 : ∀ a5, R r0 5 = some a5 → NE1 I a5 (41 * 41)) (hp2 : ∀ a1 a5, R r0 1 = some a1 → R r0 5 = some a5 → QN I a5 41 1 (I a1 0).toInt) (hp3 : ∀ a1 a4 a5, R r0 1 = some a1 → R r0 4 = some a4 → R r0 5 = some a5 → QN I a5 40 ((I a4 40).toInt + 1) (I a1 0).toInt) : Ex (d + 5) 289 [.ref r0, .int n1, .int n2, .int n3] (T, N, I, L, R) 0 0 (pV T N R (fun I9 L9 => (∀ a4 a5, R r0 4 = some a4 → R r0 5 = some a5 → AZ I9 a5 (41 * 40) ((I a4 40).toInt - (I a4 41).toInt + 1)) ∧ (∀ a1 a4 a5, R r0 1 = some a1 → R r0 4 = some a4 → R r0 5 = some a5 → QN I9 a5 40 ((I a4 40).toInt + 1) (I a1 0).toInt) ∧ (∀ a4, R r0 4 = some a4 → (I9 a4 43).toInt = (I a4 40).toInt - (I a4 41).toInt) ∧ (∀ a4, R r0 4 = some a4 → ∀ r : Nat, r ≠ 43 → I9 a4 r = I a4 r) ∧ (∀ a5, R r0 5 = some a5 → ∀ r : Nat, (r < 41 * 40 ∨ 41 * 40 + 41 ≤ r) → (r < 41 * 43 ∨ 41 * 43 + 41 ≤ r) → I9 a5 r = I a5 r) ∧ (IM R r0 I9 ∧ CM A R r0 [] [4, 5] I L I9 L9))) := by
  refine ⟨_, rfl, Nat.le_of_ble_eq_true rfl, fun V C S => ?_⟩
  show V 0 [(0, .ref r0), (1, .int n1), (2, .int n2), (3, .int n3)] [] (T, N, I, L, R) 0 0
  have gn1 := rg n1
  have gn2 := rg n2
  have gn3 := rg n3
  obtain ⟨T_r0, A_r0, ⟨r0_1, R_r0_1, H_r0_1⟩, ⟨r0_2, R_r0_2, H_r0_2⟩, ⟨r0_4, R_r0_4, H_r0_4⟩, ⟨r0_5, R_r0_5, H_r0_5⟩, ⟨r0_10, R_r0_10, H_r0_10⟩, ⟨r0_18, R_r0_18, H_r0_18⟩, ⟨r0_20, R_r0_20, H_r0_20⟩, ⟨r0_21, R_r0_21, H_r0_21⟩, ⟨r0_22, R_r0_22, H_r0_22⟩, ⟨r0_23, R_r0_23, H_r0_23⟩, ⟨r0_25, R_r0_25, H_r0_25⟩, ⟨r0_26, R_r0_26, H_r0_26⟩, ⟨r0_27, R_r0_27, H_r0_27⟩, ⟨r0_28, R_r0_28, H_r0_28⟩, ⟨r0_34, R_r0_34, H_r0_34⟩, J_r0, Y_r0⟩ := id H_r0
  have G_r0 : mF T R r0 := ⟨J_r0, Y_r0, T_r0⟩
  obtain ⟨w_r0_4_40, k0_r0_4_40⟩ : ∃ x, I r0_4 40 = x := ⟨_, rfl⟩
  have gw_r0_4_40 := rg w_r0_4_40
  have ow_r0_4_40 := IM.dgR hI R_r0_4 k0_r0_4_40
  obtain ⟨w_r0_4_41, k0_r0_4_41⟩ : ∃ x, I r0_4 41 = x := ⟨_, rfl⟩
  have gw_r0_4_41 := rg w_r0_4_41
  have ow_r0_4_41 := IM.dgR hI R_r0_4 k0_r0_4_41
  obtain ⟨w_r0_1_0, k0_r0_1_0⟩ : ∃ x, I r0_1 0 = x := ⟨_, rfl⟩
  have gw_r0_1_0 := rg w_r0_1_0
  have ow_r0_1_0 := IM.pi hI R_r0_1 k0_r0_1_0
  have hp0 := hp0 r0_4 R_r0_4
  have hp1 := hp1 r0_5 R_r0_5
  have hp2 := hp2 r0_1 r0_5 R_r0_1 R_r0_5
  have hp3 := hp3 r0_1 r0_4 r0_5 R_r0_1 R_r0_4 R_r0_5
  try simp only [k0_r0_4_40, k0_r0_4_41, k0_r0_1_0] at hp0
  try simp only [k0_r0_4_40, k0_r0_4_41, k0_r0_1_0] at hp1
  try simp only [k0_r0_4_40, k0_r0_4_41, k0_r0_1_0] at hp2
  try simp only [k0_r0_4_40, k0_r0_4_41, k0_r0_1_0] at hp3
  refine k_aload_n C rfl rfl rfl ?_
  refine k_aload_n C rfl rfl rfl ?_
  refine k_iload_n C rfl rfl rfl ?_
  refine z_iconst C (z := 0) rfl rfl rfl (fun x1 ex1 => ?_)
  have q2 : n2.toNatClampNeg = 41 := nck (by omega)
  have q3 : x1.toNatClampNeg = 0 := nck (by omega)
  refine c_VI C (a_X12_of hI H_r0 (by omega) (by omega) (by omega) (by omega)) rfl rfl rfl rfl rfl ⟨_, rfl, rfl, T_r0, Nat.le_of_ble_eq_true rfl⟩ rfl rfl (Nat.le_of_ble_eq_true rfl) (Nat.le_of_ble_eq_true rfl) (Nat.le_of_ble_eq_true rfl) ?_
  rintro x4 _ _ ⟨o0x4, o1x4, p0x4, rfl, rfl⟩
  have p0x4 := p0x4 r0_5 R_r0_5
  have gx4 := rg x4
  try simp only [q2, q3, k0_r0_4_40, k0_r0_4_41, k0_r0_1_0] at p0x4
  try have q0x4 := congrArg Int32.toInt p0x4
  have hO1 := p0x4
  refine c_VI C (a_X12_inverse hI H_r0 (by omega) (by omega)) rfl rfl rfl rfl rfl ⟨_, rfl, rfl, T_r0, Nat.le_of_ble_eq_true rfl⟩ rfl rfl (Nat.le_of_ble_eq_true rfl) (Nat.le_of_ble_eq_true rfl) (Nat.le_of_ble_eq_true rfl) ?_
  rintro x5 _ _ ⟨o0x5, o1x5, p0x5, rfl, rfl⟩
  have p0x5 := p0x5 r0_1 R_r0_1
  have gx5 := rg x5
  try simp only [k0_r0_4_40, k0_r0_4_41, k0_r0_1_0] at p0x5
  try have q0x5 := congrArg Int32.toInt p0x5
  have hI9 := p0x5
  obtain ⟨vl, hvl⟩ : ∃ z : Int, z = x5.toInt := ⟨_, rfl⟩
  refine k_istore C (lw := [(4, .int x5), (0, .ref r0), (1, .int n1), (2, .int n2), (3, .int n3)]) rfl rfl (Nat.le_of_ble_eq_true rfl) rfl ?_
  obtain ⟨vb, hvb⟩ : ∃ z : Int, z = (I r0_5 (41 * 41 + 0)).toInt := ⟨_, rfl⟩
  have hinv : (vb * vl) % w_r0_1_0.toInt = 1 := by (rw [hvb, hvl, ← hO1]; exact hI9 (by have h1 := hp2 0 (by omega); omega) (by have h1 := hp2 0 (by omega); omega) (by have h2 : (I r0_5 (41 * 41)).toInt ≠ 0 := hp1; have h3 : (I r0_5 (41 * 41 + 0)).toInt ≠ 0 := h2; omega))
  refine k_aload_n C rfl rfl rfl ?_
  refine k_iload_n C rfl rfl rfl ?_
  refine k_aload_n C rfl rfl rfl ?_
  refine g_R C rfl rfl rfl T_r0 rfl R_r0_4 ?_
  refine k_iload_n C rfl rfl rfl ?_
  obtain ⟨T_r0_4, N_r0_4, A_r0_4⟩ := id H_r0_4
  refine a_I C rfl rfl T_r0_4 (by rw [N_r0_4]; exact vpi (by omega) (by omega)) ((congrArg (I r0_4) (nck (n := 40) (by omega))).trans k0_r0_4_40) ?_
  refine k_aload_n C rfl rfl rfl ?_
  refine g_R C rfl rfl rfl T_r0 rfl R_r0_4 ?_
  refine k_iload_n C rfl rfl rfl ?_
  refine a_I C rfl rfl T_r0_4 (by rw [N_r0_4]; exact vpi (by omega) (by omega)) ((congrArg (I r0_4) (nck (n := 41) (by omega))).trans k0_r0_4_41) ?_
  refine z_isub C rfl rfl ⟨by omega, by omega⟩ (fun x6 ex6 => ?_)
  have q7 : n3.toNatClampNeg = 43 := nck (by omega)
  refine c_VV C (a_X12_clears hI H_r0 (by omega) (by omega) (by omega) (by omega)) rfl rfl rfl rfl rfl ⟨_, rfl, rfl, T_r0, Nat.le_of_ble_eq_true rfl⟩ rfl rfl (Nat.le_of_ble_eq_true rfl) (Nat.le_of_ble_eq_true rfl) (Nat.le_of_ble_eq_true rfl) ?_
  rintro I9 L10 ⟨p0v8, p1v8, p2v8, p3v8, hI9, S11⟩
  have p0v8 := p0v8 r0_4 R_r0_4
  have p1v8 := p1v8 r0_5 R_r0_5
  have p2v8 := p2v8 r0_4 R_r0_4
  have p3v8 := p3v8 r0_5 R_r0_5
  try simp only [q7] at p2v8
  have F12 : ∀ r : Nat, r ≠ 43 → I9 r0_4 r = I r0_4 r := fun r z0 => p2v8 r (by first | exact z0)
  try simp only [q7] at p3v8
  have F13 : ∀ r : Nat, (r < 41 * 40 ∨ 41 * 40 + 41 ≤ r) → (r < 41 * 43 ∨ 41 * 43 + 41 ≤ r) → I9 r0_5 r = I r0_5 r := fun r z0 z1 => p3v8 r (by first | exact z0 | exact z1)
  have e14 := (p2v8 40 (by first | decide | exact ncne (by omega) (by omega) (by omega) | exact nckn (by omega) (by omega) | exact (nckn (by omega) (by omega)).symm)).trans k0_r0_4_40
  have e15 := (p2v8 41 (by first | decide | exact ncne (by omega) (by omega) (by omega) | exact nckn (by omega) (by omega) | exact (nckn (by omega) (by omega)).symm)).trans k0_r0_4_41
  have e16 := CM.j S11 R_r0_1 (by decide) k0_r0_1_0
  obtain ⟨x17, e18⟩ : ∃ x, I9 r0_4 43 = x := ⟨_, rfl⟩
  have gx17 := rg x17
  have ox17 := IM.dgR hI9 R_r0_4 e18
  try simp only [q7, k0_r0_4_40, k0_r0_4_41, k0_r0_1_0, e18] at p0v8
  try have q0v8 := congrArg Int32.toInt p0v8
  try simp only [q7, k0_r0_4_40, k0_r0_4_41, k0_r0_1_0, e18] at p1v8
  try have q1v8 := congrArg Int32.toInt p1v8
  have hS40 : SMR I I9 r0_5 40 := fun k hk => p3v8 _ (by omega)
  have hS41 : SMR I I9 r0_5 41 := fun k hk => p3v8 _ (by omega)
  refine z_iconst C (z := 0) rfl rfl rfl (fun x19 ex19 => ?_)
  have J20 : ∀ (nn21 : Nat) (I22 : IT) (L23 : LT) (x24 : Int32), ((41 - x24.toInt).toNat = nn21) → (IM R r0 I22) → (CM A R r0 [] [5] I9 L10 I22 L23) → (∀ r : Nat, (r < 41 * 40 ∨ 41 * 40 + 41 ≤ r) → (r < 41 * 43 ∨ 41 * 43 + 41 ≤ r) → I22 r0_5 r = I9 r0_5 r) → (0 ≤ x24.toInt) → (x24.toInt ≤ 41) → (AZ I22 r0_5 (41 * 40) x24.toInt) → (QN I22 r0_5 40 (w_r0_4_40.toInt + 1) w_r0_1_0.toInt) → (SMR I I22 r0_5 41) → (x24.toInt ≤ w_r0_4_40.toInt - w_r0_4_41.toInt + 1) → V 33 [(0, .ref r0), (1, .int n1), (2, .int n2), (3, .int n3), (4, .int x5), (5, .int x24)] [] (T, N, I22, L23, R) 0 0 := by
    intro nn21
    induction nn21 using Nat.strongRecOn with
    | _ nn21 ihJ20 =>
      intro I22 L23 x24 hmnn21 hI28 S27 F29 b25 b26 ff33_0 ff33_1 ff33_2 ff33_3
      have gx24 := rg x24
      have e30 := CM.j S27 R_r0_4 (by decide) e14
      have e31 := CM.j S27 R_r0_4 (by decide) e15
      have e32 := CM.j S27 R_r0_1 (by decide) e16
      have e33 := CM.j S27 R_r0_4 (by decide) e18
      refine k_iload C rfl rfl rfl ?_
      refine k_aload_n C rfl rfl rfl ?_
      refine g_R C rfl rfl rfl T_r0 rfl R_r0_4 ?_
      refine k_iload_n C rfl rfl rfl ?_
      refine a_I C rfl rfl T_r0_4 (by rw [N_r0_4]; exact vpi (by omega) (by omega)) ((congrArg (I22 r0_4) (nck (n := 43) (by omega))).trans e33) ?_
      refine b_icmp_gt C (t := 131) rfl rfl rfl (fun c34 => ?_) (fun c34 => ?_)
      · skip
        exact k_vret C rfl rfl (Nat.le_of_ble_eq_true rfl) (Nat.le_of_ble_eq_true rfl) ⟨_, _, rfl, rfl, fun a4 a5 h4 h5 => by cases (R_r0_4.symm.trans h4); cases (R_r0_5.symm.trans h5); simp only [k0_r0_4_40, k0_r0_4_41]; exact AZ.le ff33_0 (by omega), fun a1 a4 a5 h1 h4 h5 => by cases (R_r0_1.symm.trans h1); cases (R_r0_4.symm.trans h4); cases (R_r0_5.symm.trans h5); simp only [k0_r0_4_40, k0_r0_1_0]; exact ff33_1, fun a4 h4 => by cases (R_r0_4.symm.trans h4); first | omega | (simp only [e30, e31, e32, e33, k0_r0_4_40, k0_r0_4_41, k0_r0_1_0] <;> omega), fun a4 h4 => by cases (R_r0_4.symm.trans h4); exact (fun r z0 => ((congrFun (CM.j0 S27 R_r0_4 (by decide)) r).trans (F12 r z0))), fun a5 h5 => by cases (R_r0_5.symm.trans h5); exact (fun r z0 z1 => ((F29 r z0 z1).trans (F13 r z0 z1))), hI28, (CM.cons S11 (CM.mono S27 (by decide) (by decide)) (by decide) (by decide))⟩
      refine k_aload_n C rfl rfl rfl ?_
      refine k_aload_n C rfl rfl rfl ?_
      refine k_iload_n C rfl rfl rfl ?_
      refine k_iload C rfl rfl rfl ?_
      have q35 : n1.toNatClampNeg = 40 := nck (by omega)
      refine c_VI C (a_X12_of hI28 H_r0 (by omega) (by omega) (by omega) (by omega)) rfl rfl rfl rfl rfl ⟨_, rfl, rfl, T_r0, Nat.le_of_ble_eq_true rfl⟩ rfl rfl (Nat.le_of_ble_eq_true rfl) (Nat.le_of_ble_eq_true rfl) (Nat.le_of_ble_eq_true rfl) ?_
      rintro x36 _ _ ⟨o0x36, o1x36, p0x36, rfl, rfl⟩
      have p0x36 := p0x36 r0_5 R_r0_5
      have gx36 := rg x36
      try simp only [q35, e30, e31, e32, e33] at p0x36
      try have q0x36 := congrArg Int32.toInt p0x36
      have hO2 := p0x36
      obtain ⟨va, hva⟩ : ∃ z : Int, z = x36.toInt := ⟨_, rfl⟩
      refine k_iload C rfl rfl rfl ?_
      refine c_VI C (a_X12_times hI28 H_r0 (by omega) (by omega) (by omega) (by omega)) rfl rfl rfl rfl rfl ⟨_, rfl, rfl, T_r0, Nat.le_of_ble_eq_true rfl⟩ rfl rfl (Nat.le_of_ble_eq_true rfl) (Nat.le_of_ble_eq_true rfl) (Nat.le_of_ble_eq_true rfl) ?_
      rintro x37 _ _ ⟨o0x37, o1x37, p0x37, p1x37, p2x37, p3x37, rfl, rfl⟩
      have p0x37 := p0x37 r0_1 R_r0_1
      have p2x37 := p2x37 r0_1 R_r0_1
      have p3x37 := p3x37 r0_1 R_r0_1
      have gx37 := rg x37
      try simp only [e30, e31, e32, e33] at p0x37
      try have q0x37 := congrArg Int32.toInt p0x37
      try simp only [e30, e31, e32, e33] at p1x37
      try have q1x37 := congrArg Int32.toInt p1x37
      try simp only [e30, e31, e32, e33] at p2x37
      try have q2x37 := congrArg Int32.toInt p2x37
      try simp only [e30, e31, e32, e33] at p3x37
      try have q3x37 := congrArg Int32.toInt p3x37
      have hT1 := p3x37
      refine k_istore C (lw := [(6, .int x37), (0, .ref r0), (1, .int n1), (2, .int n2), (3, .int n3), (4, .int x5), (5, .int x24)]) rfl rfl (Nat.le_of_ble_eq_true rfl) rfl ?_
      refine k_aload_n C rfl rfl rfl ?_
      refine k_iload_n C rfl rfl rfl ?_
      refine k_iload C rfl rfl rfl ?_
      refine k_iload C rfl rfl rfl ?_
      have q38 : n3.toNatClampNeg = 43 := nck (by omega)
      refine c_VV C (a_X12_put hI28 H_r0 (by omega) (by omega) (by omega) (by omega) (by omega) (by omega)) rfl rfl rfl rfl rfl ⟨_, rfl, rfl, T_r0, Nat.le_of_ble_eq_true rfl⟩ rfl rfl (Nat.le_of_ble_eq_true rfl) (Nat.le_of_ble_eq_true rfl) (Nat.le_of_ble_eq_true rfl) ?_
      rintro I40 L41 ⟨p0v39, p1v39, hI40, S42⟩
      have p0v39 := p0v39 r0_5 R_r0_5
      have p1v39 := p1v39 r0_5 R_r0_5
      try simp only [q38] at p1v39
      have F43 : ∀ r : Nat, (r < 41 * 40 ∨ 41 * 40 + 41 ≤ r) → (r < 41 * 43 ∨ 41 * 43 + 41 ≤ r) → I40 r0_5 r = I22 r0_5 r := fun r z0 z1 => p1v39 r (by first | exact z0 | exact z1)
      have e44 := CM.j S42 R_r0_4 (by decide) e30
      have e45 := CM.j S42 R_r0_4 (by decide) e31
      have e46 := CM.j S42 R_r0_1 (by decide) e32
      have e47 := CM.j S42 R_r0_4 (by decide) e33
      try simp only [q38, e30, e31, e32, e33] at p0v39
      try have q0v39 := congrArg Int32.toInt p0v39
      have hP1 := p0v39
      refine z_iconst C (z := 0) rfl rfl rfl (fun x48 ex48 => ?_)
      have J49 : ∀ (nn50 : Nat) (I51 : IT) (L52 : LT) (x53 : Int32), ((41 - x53.toInt).toNat = nn50) → (IM R r0 I51) → (CM A R r0 [] [5] I40 L41 I51 L52) → (∀ r : Nat, (r < 41 * 40 ∨ 41 * 40 + 41 ≤ r) → (r < 41 * 43 ∨ 41 * 43 + 41 ≤ r) → I51 r0_5 r = I40 r0_5 r) → (0 ≤ x53.toInt) → (x53.toInt ≤ 41) → (AZ I51 r0_5 (41 * 40) x24.toInt) → (QN I51 r0_5 40 (w_r0_4_40.toInt + 1) w_r0_1_0.toInt) → (SMR I I51 r0_5 41) → (ROWK I51 r0_5 (41 * 40 + x24.toNatClampNeg) x53.toInt va) → V 71 [(0, .ref r0), (1, .int n1), (2, .int n2), (3, .int n3), (4, .int x5), (5, .int x24), (6, .int x37), (7, .int x53)] [] (T, N, I51, L52, R) 0 0 := by
        intro nn50
        induction nn50 using Nat.strongRecOn with
        | _ nn50 ihJ49 =>
          intro I51 L52 x53 hmnn50 hI57 S56 F58 b54 b55 ff71_0 ff71_1 ff71_2 ff71_3
          have gx53 := rg x53
          have e59 := CM.j S56 R_r0_4 (by decide) e44
          have e60 := CM.j S56 R_r0_4 (by decide) e45
          have e61 := CM.j S56 R_r0_1 (by decide) e46
          have e62 := CM.j S56 R_r0_4 (by decide) e47
          refine k_iload C rfl rfl rfl ?_
          refine k_aload_n C rfl rfl rfl ?_
          refine g_R C rfl rfl rfl T_r0 rfl R_r0_4 ?_
          refine k_iload_n C rfl rfl rfl ?_
          refine a_I C rfl rfl T_r0_4 (by rw [N_r0_4]; exact vpi (by omega) (by omega)) ((congrArg (I51 r0_4) (nck (n := 41) (by omega))).trans e60) ?_
          refine b_icmp_gt C (t := 125) rfl rfl rfl (fun c63 => ?_) (fun c63 => ?_)
          · skip
            refine z_iinc C (z := 1) (lw := fun x64 => [(5, .int x64), (0, .ref r0), (1, .int n1), (2, .int n2), (3, .int n3), (4, .int x5), (6, .int x37), (7, .int x53)]) rfl rfl rfl (Nat.le_of_ble_eq_true rfl) rfl ⟨by omega, by omega⟩ (fun _ => rfl) (fun x64 ex64 => ?_)
            show V 128 [(5, .int x64), (0, .ref r0), (1, .int n1), (2, .int n2), (3, .int n3), (4, .int x5), (6, .int x37), (7, .int x53)] _ _ _ _
            refine k_goto C (pc2 := 33) rfl rfl ?_
            refine k_sub S [(0, .ref r0), (1, .int n1), (2, .int n2), (3, .int n3), (4, .int x5), (5, .int x64)] (List.forall_mem_cons.mpr ⟨List.mem_of_getElem? (i := 1) rfl, List.forall_mem_cons.mpr ⟨List.mem_of_getElem? (i := 2) rfl, List.forall_mem_cons.mpr ⟨List.mem_of_getElem? (i := 3) rfl, List.forall_mem_cons.mpr ⟨List.mem_of_getElem? (i := 4) rfl, List.forall_mem_cons.mpr ⟨List.mem_of_getElem? (i := 5) rfl, List.forall_mem_cons.mpr ⟨List.mem_of_getElem? (i := 0) rfl, fun _ h => nomatch h⟩⟩⟩⟩⟩⟩) ?_
            exact ihJ20 _ (by omega) I51 L52 x64 rfl hI57 (CM.cons S27 (CM.cons S42 (CM.mono S56 (by decide) (by decide)) (by decide) (by decide)) (by decide) (by decide)) (fun r z0 z1 => ((F58 r z0 z1).trans ((F43 r z0 z1).trans (F29 r z0 z1)))) (by omega) (by omega) (by exact AZ.row ff71_0 ff71_3 (by omega) (by omega) (by omega)) (by exact ff71_1) (by exact ff71_2) (by omega)
          refine k_aload_n C rfl rfl rfl ?_
          refine k_iload_n C rfl rfl rfl ?_
          refine k_iload C rfl rfl rfl ?_
          refine k_iload C rfl rfl rfl ?_
          refine z_iadd C rfl rfl ⟨by omega, by omega⟩ (fun x65 ex65 => ?_)
          refine k_aload_n C rfl rfl rfl ?_
          refine k_aload_n C rfl rfl rfl ?_
          refine k_iload_n C rfl rfl rfl ?_
          refine k_iload C rfl rfl rfl ?_
          refine k_iload C rfl rfl rfl ?_
          refine z_iadd C rfl rfl ⟨by omega, by omega⟩ (fun x66 ex66 => ?_)
          have q67 : n1.toNatClampNeg = 40 := nck (by omega)
          refine c_VI C (a_X12_of hI57 H_r0 (by omega) (by omega) (by omega) (by omega)) rfl rfl rfl rfl rfl ⟨_, rfl, rfl, T_r0, Nat.le_of_ble_eq_true rfl⟩ rfl rfl (Nat.le_of_ble_eq_true rfl) (Nat.le_of_ble_eq_true rfl) (Nat.le_of_ble_eq_true rfl) ?_
          rintro x68 _ _ ⟨o0x68, o1x68, p0x68, rfl, rfl⟩
          have p0x68 := p0x68 r0_5 R_r0_5
          have gx68 := rg x68
          try simp only [q67, e59, e60, e61, e62] at p0x68
          try have q0x68 := congrArg Int32.toInt p0x68
          have hO3 := p0x68
          refine k_aload_n C rfl rfl rfl ?_
          refine k_iload C rfl rfl rfl ?_
          refine k_aload_n C rfl rfl rfl ?_
          refine k_iload_n C rfl rfl rfl ?_
          refine k_iload C rfl rfl rfl ?_
          have q69 : n2.toNatClampNeg = 41 := nck (by omega)
          refine c_VI C (a_X12_of hI57 H_r0 (by omega) (by omega) (by omega) (by omega)) rfl rfl rfl rfl rfl ⟨_, rfl, rfl, T_r0, Nat.le_of_ble_eq_true rfl⟩ rfl rfl (Nat.le_of_ble_eq_true rfl) (Nat.le_of_ble_eq_true rfl) (Nat.le_of_ble_eq_true rfl) ?_
          rintro x70 _ _ ⟨o0x70, o1x70, p0x70, rfl, rfl⟩
          have p0x70 := p0x70 r0_5 R_r0_5
          have gx70 := rg x70
          try simp only [q69, e59, e60, e61, e62] at p0x70
          try have q0x70 := congrArg Int32.toInt p0x70
          have hO4 := p0x70
          refine c_VI C (a_X12_times hI57 H_r0 (by omega) (by omega) (by omega) (by omega)) rfl rfl rfl rfl rfl ⟨_, rfl, rfl, T_r0, Nat.le_of_ble_eq_true rfl⟩ rfl rfl (Nat.le_of_ble_eq_true rfl) (Nat.le_of_ble_eq_true rfl) (Nat.le_of_ble_eq_true rfl) ?_
          rintro x71 _ _ ⟨o0x71, o1x71, p0x71, p1x71, p2x71, p3x71, rfl, rfl⟩
          have p0x71 := p0x71 r0_1 R_r0_1
          have p2x71 := p2x71 r0_1 R_r0_1
          have p3x71 := p3x71 r0_1 R_r0_1
          have gx71 := rg x71
          try simp only [e59, e60, e61, e62] at p0x71
          try have q0x71 := congrArg Int32.toInt p0x71
          try simp only [e59, e60, e61, e62] at p1x71
          try have q1x71 := congrArg Int32.toInt p1x71
          try simp only [e59, e60, e61, e62] at p2x71
          try have q2x71 := congrArg Int32.toInt p2x71
          try simp only [e59, e60, e61, e62] at p3x71
          try have q3x71 := congrArg Int32.toInt p3x71
          have hT2 := p3x71
          refine c_VI C (a_X12_less hI57 H_r0 (by omega) (by omega) (by omega) (by omega)) rfl rfl rfl rfl rfl ⟨_, rfl, rfl, T_r0, Nat.le_of_ble_eq_true rfl⟩ rfl rfl (Nat.le_of_ble_eq_true rfl) (Nat.le_of_ble_eq_true rfl) (Nat.le_of_ble_eq_true rfl) ?_
          rintro x72 _ _ ⟨o0x72, o1x72, p0x72, p1x72, p2x72, p3x72, rfl, rfl⟩
          have p0x72 := p0x72 r0_1 R_r0_1
          have p2x72 := p2x72 r0_1 R_r0_1
          have p3x72 := p3x72 r0_1 R_r0_1
          have gx72 := rg x72
          try simp only [e59, e60, e61, e62] at p0x72
          try have q0x72 := congrArg Int32.toInt p0x72
          try simp only [e59, e60, e61, e62] at p1x72
          try have q1x72 := congrArg Int32.toInt p1x72
          try simp only [e59, e60, e61, e62] at p2x72
          try have q2x72 := congrArg Int32.toInt p2x72
          try simp only [e59, e60, e61, e62] at p3x72
          try have q3x72 := congrArg Int32.toInt p3x72
          have hx0 := fun (hi : x53.toInt = 0) => div0 (by omega) ff71_3 ff71_2 hi (by omega) (by omega) hO3 hO4 hvb hinv (by rw [hva, hvl]; exact hT1) hT2 p3x72
          have q73 : n1.toNatClampNeg = 40 := nck (by omega)
          refine c_VV C (a_X12_put hI57 H_r0 (by omega) (by omega) (by omega) (by omega) (by omega) (by omega)) rfl rfl rfl rfl rfl ⟨_, rfl, rfl, T_r0, Nat.le_of_ble_eq_true rfl⟩ rfl rfl (Nat.le_of_ble_eq_true rfl) (Nat.le_of_ble_eq_true rfl) (Nat.le_of_ble_eq_true rfl) ?_
          rintro I75 L76 ⟨p0v74, p1v74, hI75, S77⟩
          have p0v74 := p0v74 r0_5 R_r0_5
          have p1v74 := p1v74 r0_5 R_r0_5
          try simp only [q73] at p1v74
          have F78 : ∀ r : Nat, (r < 41 * 40 ∨ 41 * 40 + 41 ≤ r) → (r < 41 * 43 ∨ 41 * 43 + 41 ≤ r) → I75 r0_5 r = I51 r0_5 r := fun r z0 z1 => p1v74 r (by first | exact z0 | exact z1)
          have e79 := CM.j S77 R_r0_4 (by decide) e59
          have e80 := CM.j S77 R_r0_4 (by decide) e60
          have e81 := CM.j S77 R_r0_1 (by decide) e61
          have e82 := CM.j S77 R_r0_4 (by decide) e62
          try simp only [q73, e59, e60, e61, e62] at p0v74
          try have q0v74 := congrArg Int32.toInt p0v74
          have hP := p0v74
          refine z_iinc C (z := 1) (lw := fun x83 => [(7, .int x83), (0, .ref r0), (1, .int n1), (2, .int n2), (3, .int n3), (4, .int x5), (5, .int x24), (6, .int x37)]) rfl rfl rfl (Nat.le_of_ble_eq_true rfl) rfl ⟨by omega, by omega⟩ (fun _ => rfl) (fun x83 ex83 => ?_)
          show V 122 [(7, .int x83), (0, .ref r0), (1, .int n1), (2, .int n2), (3, .int n3), (4, .int x5), (5, .int x24), (6, .int x37)] _ _ _ _
          refine k_goto C (pc2 := 71) rfl rfl ?_
          refine k_sub S [(0, .ref r0), (1, .int n1), (2, .int n2), (3, .int n3), (4, .int x5), (5, .int x24), (6, .int x37), (7, .int x83)] (List.forall_mem_cons.mpr ⟨List.mem_of_getElem? (i := 1) rfl, List.forall_mem_cons.mpr ⟨List.mem_of_getElem? (i := 2) rfl, List.forall_mem_cons.mpr ⟨List.mem_of_getElem? (i := 3) rfl, List.forall_mem_cons.mpr ⟨List.mem_of_getElem? (i := 4) rfl, List.forall_mem_cons.mpr ⟨List.mem_of_getElem? (i := 5) rfl, List.forall_mem_cons.mpr ⟨List.mem_of_getElem? (i := 6) rfl, List.forall_mem_cons.mpr ⟨List.mem_of_getElem? (i := 7) rfl, List.forall_mem_cons.mpr ⟨List.mem_of_getElem? (i := 0) rfl, fun _ h => nomatch h⟩⟩⟩⟩⟩⟩⟩⟩) ?_
          exact ihJ49 _ (by omega) I75 L76 x83 rfl hI75 (CM.cons S56 (CM.mono S77 (by decide) (by decide)) (by decide) (by decide)) (fun r z0 z1 => ((F78 r z0 z1).trans (F58 r z0 z1))) (by omega) (by omega) (by exact AZ.put ff71_0 hP (by omega) (by omega)) (by exact QN.put ff71_1 hP (by omega) (by omega)) (by exact SMR.put ff71_2 hP (nclt (by omega) (by omega)) (by decide)) (by exact ROWK.s ff71_3 hP (by omega) hx0 (by omega) (by omega) (by omega))
      refine k_istore C (lw := [(7, .int x48), (6, .int x37), (0, .ref r0), (1, .int n1), (2, .int n2), (3, .int n3), (4, .int x5), (5, .int x24)]) rfl rfl (Nat.le_of_ble_eq_true rfl) rfl ?_
      refine k_sub S [(0, .ref r0), (1, .int n1), (2, .int n2), (3, .int n3), (4, .int x5), (5, .int x24), (6, .int x37), (7, .int x48)] (List.forall_mem_cons.mpr ⟨List.mem_of_getElem? (i := 2) rfl, List.forall_mem_cons.mpr ⟨List.mem_of_getElem? (i := 3) rfl, List.forall_mem_cons.mpr ⟨List.mem_of_getElem? (i := 4) rfl, List.forall_mem_cons.mpr ⟨List.mem_of_getElem? (i := 5) rfl, List.forall_mem_cons.mpr ⟨List.mem_of_getElem? (i := 6) rfl, List.forall_mem_cons.mpr ⟨List.mem_of_getElem? (i := 7) rfl, List.forall_mem_cons.mpr ⟨List.mem_of_getElem? (i := 1) rfl, List.forall_mem_cons.mpr ⟨List.mem_of_getElem? (i := 0) rfl, fun _ h => nomatch h⟩⟩⟩⟩⟩⟩⟩⟩) ?_
      exact J49 _ I40 L41 x48 rfl hI40 CM.rf (fun r z0 z1 => rfl) (by omega) (by omega) (by exact AZ.put43 ff33_0 hP1 (by omega)) (by exact QN.put ff33_1 hP1 (by omega) (by omega)) (by exact SMR.put ff33_2 hP1 (by have := ncz (x := x24) (by omega); omega) (by decide)) (by exact ROWK.z hP1 (by omega) (by omega) hO2 hva (by omega))
  refine k_istore C (lw := [(5, .int x19), (4, .int x5), (0, .ref r0), (1, .int n1), (2, .int n2), (3, .int n3)]) rfl rfl (Nat.le_of_ble_eq_true rfl) rfl ?_
  refine k_sub S [(0, .ref r0), (1, .int n1), (2, .int n2), (3, .int n3), (4, .int x5), (5, .int x19)] (List.forall_mem_cons.mpr ⟨List.mem_of_getElem? (i := 2) rfl, List.forall_mem_cons.mpr ⟨List.mem_of_getElem? (i := 3) rfl, List.forall_mem_cons.mpr ⟨List.mem_of_getElem? (i := 4) rfl, List.forall_mem_cons.mpr ⟨List.mem_of_getElem? (i := 5) rfl, List.forall_mem_cons.mpr ⟨List.mem_of_getElem? (i := 1) rfl, List.forall_mem_cons.mpr ⟨List.mem_of_getElem? (i := 0) rfl, fun _ h => nomatch h⟩⟩⟩⟩⟩⟩) ?_
  exact J20 _ I9 L10 x19 rfl hI9 CM.rf (fun r z0 z1 => rfl) (by omega) (by omega) (by exact AZ.z (by omega)) (by exact QN.smr hp3 hS40 (by omega)) (by exact hS41) (by omega)

