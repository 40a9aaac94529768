/-! on -/
set_option maxHeartbeats 4000000 in
theorem a_X12_raises_x {d : Nat} {T N : Nat → Nat} {I : IT} {L : LT} {R : RT} {A : Nat → Prop} {r0 : Nat} {n1 : Int32} (hI : IM R r0 I) (H_r0 : (h_MD T N R A) r0) (b0_n1 : 0 ≤ n1.toInt) (b1_n1 : n1.toInt ≤ 8) : Ex (d + 4) 282 [.ref r0, .int n1] (T, N, I, L, R) 0 0 (pV T N R (fun I9 L9 => (∀ a1 a26, R r0 1 = some a1 → R r0 26 = some a26 → PWT (I9 a26) (I a1 0).toInt n1.toInt ((I a1 0).toInt + 1)) ∧ (∀ a4, R r0 4 = some a4 → ∀ r : Nat, r ≠ 45 → I9 a4 r = I a4 r) ∧ (∀ a5, R r0 5 = some a5 → ∀ r : Nat, (r < 41 * 45 ∨ 41 * 45 + 41 ≤ r) → I9 a5 r = I a5 r) ∧ (IM R r0 I9 ∧ CM A R r0 [] [4, 5, 26] I L I9 L9))) := by
  refine ⟨_, rfl, Nat.le_of_ble_eq_true rfl, fun V C S => ?_⟩
  show V 0 [(0, .ref r0), (1, .int n1)] [] (T, N, I, L, R) 0 0
  have gn1 := rg n1
  obtain ⟨T_r0, A_r0, ⟨r0_1, R_r0_1, H_r0_1⟩, ⟨r0_2, R_r0_2, H_r0_2⟩, ⟨r0_4, R_r0_4, H_r0_4⟩, ⟨r0_5, R_r0_5, H_r0_5⟩, ⟨r0_10, R_r0_10, H_r0_10⟩, ⟨r0_18, R_r0_18, H_r0_18⟩, ⟨r0_20, R_r0_20, H_r0_20⟩, ⟨r0_21, R_r0_21, H_r0_21⟩, ⟨r0_22, R_r0_22, H_r0_22⟩, ⟨r0_23, R_r0_23, H_r0_23⟩, ⟨r0_25, R_r0_25, H_r0_25⟩, ⟨r0_26, R_r0_26, H_r0_26⟩, ⟨r0_27, R_r0_27, H_r0_27⟩, ⟨r0_28, R_r0_28, H_r0_28⟩, ⟨r0_34, R_r0_34, H_r0_34⟩, J_r0, Y_r0⟩ := id H_r0
  have G_r0 : mF T R r0 := ⟨J_r0, Y_r0, T_r0⟩
  obtain ⟨w_r0_1_0, k0_r0_1_0⟩ : ∃ x, I r0_1 0 = x := ⟨_, rfl⟩
  have gw_r0_1_0 := rg w_r0_1_0
  have ow_r0_1_0 := IM.pi hI R_r0_1 k0_r0_1_0
  have hPM : PRM w_r0_1_0.toInt := IM.p hI R_r0_1 k0_r0_1_0
  have hn1 := ncz (x := n1) (by omega)
  refine z_iconst C (z := 0) rfl rfl rfl (fun x1 ex1 => ?_)
  have J2 : ∀ (nn3 : Nat) (I4 : IT) (L5 : LT) (x6 : Int32), (MN (20 - x6.toInt) nn3) → (IM R r0 I4) → (CM A R r0 [] [4, 5, 26] I L I4 L5) → (∀ r : Nat, r ≠ 45 → I4 r0_4 r = I r0_4 r) → (∀ r : Nat, (r < 41 * 45 ∨ 41 * 45 + 41 ≤ r) → I4 r0_5 r = I r0_5 r) → (0 ≤ x6.toInt) → (x6.toInt ≤ 20) → (PWT (I4 r0_26) w_r0_1_0.toInt n1.toInt x6.toInt) → (x6.toInt ≤ w_r0_1_0.toInt + 1) → V 2 [(0, .ref r0), (1, .int n1), (2, .int x6)] [] (T, N, I4, L5, R) 0 0 := by
    intro nn3
    induction nn3 using Nat.strongRecOn with
    | _ nn3 ihJ2 =>
      intro I4 L5 x6 hmnn3 hI10 S9 F11 F12 b7 b8 ff2_0 ff2_1
      have gx6 := rg x6
      have e13 := CM.j S9 R_r0_1 (by decide) k0_r0_1_0
      refine k_iload_n C rfl rfl rfl ?_
      refine k_aload_n C rfl rfl rfl ?_
      refine c_VI C (a_X12_p hI10 H_r0) rfl rfl rfl rfl rfl ⟨_, rfl, rfl, T_r0, Nat.le_of_ble_eq_true rfl⟩ rfl rfl (Nat.le_of_ble_eq_true rfl) (Nat.le_of_ble_eq_true rfl) (Nat.le_of_ble_eq_true rfl) ?_
      rintro x14 _ _ ⟨o0x14, o1x14, p0x14, rfl, rfl⟩
      have p0x14 := p0x14 r0_1 R_r0_1
      have gx14 := rg x14
      try simp only [e13, e13] at p0x14
      try have q0x14 := congrArg Int32.toInt p0x14
      refine b_icmp_gt C (t := 112) rfl rfl rfl (fun c15 => ?_) (fun c15 => ?_)
      · skip
        exact k_vret C rfl rfl (Nat.le_of_ble_eq_true rfl) (Nat.le_of_ble_eq_true rfl) ⟨_, _, rfl, rfl, fun a1 a26 h1 h26 => by cases (R_r0_1.symm.trans h1); cases (R_r0_26.symm.trans h26); simp only [k0_r0_1_0]; exact fun s hs => ff2_0 s (by omega), fun a4 h4 => by cases (R_r0_4.symm.trans h4); exact (fun r z0 => (F11 r z0)), fun a5 h5 => by cases (R_r0_5.symm.trans h5); exact (fun r z0 => (F12 r z0)), hI10, (CM.mono S9 (by decide) (by decide))⟩
      obtain ⟨W9, eW9⟩ : ∃ f : Nat → Int32, I4 r0_26 = f := ⟨_, rfl⟩; have hPT := ff2_0; rw [eW9] at hPT; obtain ⟨t9, et9⟩ : ∃ t : Int32, t = x6 := ⟨_, rfl⟩; have et9i : t9.toInt = x6.toInt := (by rw [et9])
      refine k_aload_n C rfl rfl rfl ?_
      refine z_bipush C (z := 45) rfl rfl rfl (fun x16 ex16 => ?_)
      refine z_iconst C (z := 0) rfl rfl rfl (fun x17 ex17 => ?_)
      have q18 : x16.toNatClampNeg = 45 := nck (by omega)
      have q19 : x17.toNatClampNeg = 0 := nck (by omega)
      refine c_VV C (a_X12_clears hI10 H_r0 (by omega) (by omega) (by omega) (by omega)) rfl rfl rfl rfl rfl ⟨_, rfl, rfl, T_r0, Nat.le_of_ble_eq_true rfl⟩ rfl rfl (Nat.le_of_ble_eq_true rfl) (Nat.le_of_ble_eq_true rfl) (Nat.le_of_ble_eq_true rfl) ?_
      rintro I21 L22 ⟨p0v20, p1v20, p2v20, p3v20, hI21, S23⟩
      have p0v20 := p0v20 r0_4 R_r0_4
      have p1v20 := p1v20 r0_5 R_r0_5
      have p2v20 := p2v20 r0_4 R_r0_4
      have p3v20 := p3v20 r0_5 R_r0_5
      try simp only [q18, q19] at p2v20
      have F24 : ∀ r : Nat, r ≠ 45 → I21 r0_4 r = I4 r0_4 r := fun r z0 => p2v20 r (by first | exact z0)
      try simp only [q18, q19] at p3v20
      have F25 : ∀ r : Nat, (r < 41 * 45 ∨ 41 * 45 + 41 ≤ r) → I21 r0_5 r = I4 r0_5 r := fun r z0 => p3v20 r (by first | exact z0)
      have e26 := CM.j S23 R_r0_1 (by decide) e13
      obtain ⟨x27, e28⟩ : ∃ x, I21 r0_4 45 = x := ⟨_, rfl⟩
      have gx27 := rg x27
      have ox27 := IM.dgR hI21 R_r0_4 e28
      try simp only [q18, q19, e13, e28] at p0v20
      try have q0v20 := congrArg Int32.toInt p0v20
      try simp only [q18, q19, e13, e28] at p1v20
      try have q1v20 := congrArg Int32.toInt p1v20
      have hw14 := CM.j0 S23 R_r0_26 (by decide)
      refine k_aload_n C rfl rfl rfl ?_
      refine z_bipush C (z := 45) rfl rfl rfl (fun x29 ex29 => ?_)
      refine z_iconst C (z := 0) rfl rfl rfl (fun x30 ex30 => ?_)
      refine z_iconst C (z := 1) rfl rfl rfl (fun x31 ex31 => ?_)
      have q32 : x29.toNatClampNeg = 45 := nck (by omega)
      have q33 : x30.toNatClampNeg = 0 := nck (by omega)
      have q34 : x31.toNatClampNeg = 1 := nck (by omega)
      refine c_VV C (a_X12_put hI21 H_r0 (by omega) (by omega) (by omega) (by omega) (by omega) (by omega)) rfl rfl rfl rfl rfl ⟨_, rfl, rfl, T_r0, Nat.le_of_ble_eq_true rfl⟩ rfl rfl (Nat.le_of_ble_eq_true rfl) (Nat.le_of_ble_eq_true rfl) (Nat.le_of_ble_eq_true rfl) ?_
      rintro I36 L37 ⟨p0v35, p1v35, hI36, S38⟩
      have p0v35 := p0v35 r0_5 R_r0_5
      have p1v35 := p1v35 r0_5 R_r0_5
      try simp only [q32, q33, q34] at p1v35
      have F39 : ∀ r : Nat, (r < 41 * 45 ∨ 41 * 45 + 41 ≤ r) → I36 r0_5 r = I21 r0_5 r := fun r z0 => p1v35 r (by first | exact z0)
      have e40 := CM.j S38 R_r0_1 (by decide) e26
      have e41 := CM.j S38 R_r0_4 (by decide) e28
      try simp only [q32, q33, q34, e26, e28] at p0v35
      try have q0v35 := congrArg Int32.toInt p0v35
      have hw22 := CM.j0 S38 R_r0_26 (by decide); have hP22 := p0v35
      refine z_iconst C (z := 0) rfl rfl rfl (fun x42 ex42 => ?_)
      have J43 : ∀ (nn44 : Nat) (I45 : IT) (L46 : LT) (x47 : Int32) (x54 : Int32), (MN (8 - x47.toInt) nn44) → (IM R r0 I45) → (CM A R r0 [] [4, 5] I36 L37 I45 L46) → (∀ r : Nat, r ≠ 45 → I45 r0_4 r = I36 r0_4 r) → (∀ r : Nat, (r < 41 * 45 ∨ 41 * 45 + 41 ≤ r) → I45 r0_5 r = I36 r0_5 r) → (0 ≤ x47.toInt) → (x47.toInt ≤ 8) → (I45 r0_4 45 = x54) → (0 ≤ x54.toInt) → (x54.toInt ≤ 40) → (x54.toInt = x47.toInt) → (I45 r0_26 = W9) → (RWF I45 r0_5 45 x47.toInt (wdN w_r0_1_0.toInt (PWU w_r0_1_0.toInt x6.toInt) (PWY w_r0_1_0.toInt x6.toInt) x47.toNatClampNeg 0 (fun _ => 1))) → (x47.toInt ≤ n1.toInt) → V 27 [(0, .ref r0), (1, .int n1), (2, .int x6), (3, .int x47)] [] (T, N, I45, L46, R) 0 0 := by
        intro nn44
        induction nn44 using Nat.strongRecOn with
        | _ nn44 ihJ43 =>
          intro I45 L46 x47 x54 hmnn44 hI51 S50 F52 F53 b48 b49 e55 b56 b57 ff27_0 ff27_1 ff27_2 ff27_3
          have gx47 := rg x47
          have gx54 := rg x54
          have e58 := CM.j S50 R_r0_1 (by decide) e40
          refine k_iload_n C rfl rfl rfl ?_
          refine k_iload_n C rfl rfl rfl ?_
          refine b_icmp_ge C (t := 75) rfl rfl rfl (fun c59 => ?_) (fun c59 => ?_)
          · skip
            have hL27 : x47 = n1 := Int32.toInt_inj.mp (by omega)
            refine z_iconst C (z := 0) rfl rfl rfl (fun x60 ex60 => ?_)
            have J61 : ∀ (nn62 : Nat) (I63 : IT) (L64 : LT) (x65 : Int32), (MN (9 - x65.toInt) nn62) → (IM R r0 I63) → (CM A R r0 [] [26] I45 L46 I63 L64) → (0 ≤ x65.toInt) → (x65.toInt ≤ 9) → (PW2 (I63 r0_26) W9 x6.toNatClampNeg x65.toInt (wdN w_r0_1_0.toInt (PWU w_r0_1_0.toInt x6.toInt) (PWY w_r0_1_0.toInt x6.toInt) n1.toNatClampNeg 0 (fun _ => 1))) → (RWF I63 r0_5 45 n1.toInt (wdN w_r0_1_0.toInt (PWU w_r0_1_0.toInt x6.toInt) (PWY w_r0_1_0.toInt x6.toInt) n1.toNatClampNeg 0 (fun _ => 1))) → (x65.toInt ≤ n1.toInt + 1) → V 77 [(0, .ref r0), (1, .int n1), (2, .int x6), (3, .int x65)] [] (T, N, I63, L64, R) 0 0 := by
              intro nn62
              induction nn62 using Nat.strongRecOn with
              | _ nn62 ihJ61 =>
                intro I63 L64 x65 hmnn62 hI69 S68 b66 b67 ff77_0 ff77_1 ff77_2
                have gx65 := rg x65
                have e70 := CM.j S68 R_r0_1 (by decide) e58
                have e71 := CM.j S68 R_r0_4 (by decide) e55
                refine k_iload_n C rfl rfl rfl ?_
                refine k_iload_n C rfl rfl rfl ?_
                refine b_icmp_gt C (t := 106) rfl rfl rfl (fun c72 => ?_) (fun c72 => ?_)
                · skip
                  refine z_iinc C (z := 1) (lw := fun x73 => [(2, .int x73), (0, .ref r0), (1, .int n1), (3, .int x65)]) rfl rfl rfl (Nat.le_of_ble_eq_true rfl) rfl ⟨by omega, by omega⟩ (fun _ => rfl) (fun x73 ex73 => ?_)
                  show V 109 [(2, .int x73), (0, .ref r0), (1, .int n1), (3, .int x65)] _ _ _ _
                  refine k_goto C (pc2 := 2) rfl rfl ?_
                  refine k_sub S [(0, .ref r0), (1, .int n1), (2, .int x73)] (List.forall_mem_cons.mpr ⟨List.mem_of_getElem? (i := 1) rfl, List.forall_mem_cons.mpr ⟨List.mem_of_getElem? (i := 2) rfl, List.forall_mem_cons.mpr ⟨List.mem_of_getElem? (i := 0) rfl, fun _ h => nomatch h⟩⟩⟩) ?_
                  exact ihJ2 _ (MN.lt hmnn3 (by omega) (by omega)) I63 L64 x73 rfl hI69 (CM.cons S9 (CM.cons S23 (CM.cons S38 (CM.cons S50 (CM.mono S68 (by decide) (by decide)) (by decide) (by decide)) (by decide) (by decide)) (by decide) (by decide)) (by decide) (by decide)) (fun r z0 => ((congrFun (CM.j0 S68 R_r0_4 (by decide)) r).trans ((F52 r z0).trans ((congrFun (CM.j0 S38 R_r0_4 (by decide)) r).trans ((F24 r z0).trans (F11 r z0)))))) (fun r z0 => ((congrFun (CM.j0 S68 R_r0_5 (by decide)) r).trans ((F53 r z0).trans ((F39 r z0).trans ((F25 r z0).trans (F12 r z0)))))) (by omega) (by omega) (by exact PWT.s hPT ff77_0 rfl (by omega) hPM (by omega) (by omega) (by omega) (by omega)) (by omega)
                refine k_aload_n C rfl rfl rfl ?_
                refine g_R C rfl rfl rfl T_r0 rfl R_r0_26 ?_
                refine z_bipush C (z := 9) rfl rfl rfl (fun x74 ex74 => ?_)
                refine k_iload_n C rfl rfl rfl ?_
                refine z_imulL C (c := 9) rfl rfl (by omega) ⟨by omega, by omega⟩ (fun x75 ex75 => ?_)
                refine k_iload_n C rfl rfl rfl ?_
                refine z_iadd C rfl rfl ⟨by omega, by omega⟩ (fun x76 ex76 => ?_)
                refine k_aload_n C rfl rfl rfl ?_
                refine z_bipush C (z := 45) rfl rfl rfl (fun x77 ex77 => ?_)
                refine k_iload_n C rfl rfl rfl ?_
                have q78 : x77.toNatClampNeg = 45 := nck (by omega)
                refine c_VI C (a_X12_of hI69 H_r0 (by omega) (by omega) (by omega) (by omega)) rfl rfl rfl rfl rfl ⟨_, rfl, rfl, T_r0, Nat.le_of_ble_eq_true rfl⟩ rfl rfl (Nat.le_of_ble_eq_true rfl) (Nat.le_of_ble_eq_true rfl) (Nat.le_of_ble_eq_true rfl) ?_
                rintro x79 _ _ ⟨o0x79, o1x79, p0x79, rfl, rfl⟩
                have p0x79 := p0x79 r0_5 R_r0_5
                have gx79 := rg x79
                try simp only [q78, e70, e71] at p0x79
                try have q0x79 := congrArg Int32.toInt p0x79
                have ho96 := p0x79
                obtain ⟨T_r0_26, N_r0_26, A_r0_26⟩ := id H_r0_26
                refine z_sI C rfl rfl T_r0_26 N_r0_26 (by omega) (by omega) (fun I80 uI80 => ?_)
                have hI80 : IM R r0 I80 := IM.arr hI69 G_r0 R_r0_26 ⟨(fun h => absurd h (by decide)), (fun h => absurd h (by decide)), (fun _ => ⟨by omega, by omega⟩)⟩ (fun h => absurd h (by decide)) uI80
                have S81 : CM A R r0 [] [26] I63 L64 I80 L64 := CM.a G_r0 R_r0_26 A_r0_26 uI80
                have e82 := u2_n uI80 (mF.nq G_r0 R_r0_1 R_r0_26 (by decide)) e70
                have e83 := u2_n uI80 (mF.nq G_r0 R_r0_4 R_r0_26 (by decide)) e71
                have e84 := u2_e uI80
                have hu99 := uI80
                refine z_iinc C (z := 1) (lw := fun x85 => [(3, .int x85), (0, .ref r0), (1, .int n1), (2, .int x6)]) rfl rfl rfl (Nat.le_of_ble_eq_true rfl) rfl ⟨by omega, by omega⟩ (fun _ => rfl) (fun x85 ex85 => ?_)
                show V 103 [(3, .int x85), (0, .ref r0), (1, .int n1), (2, .int x6)] _ _ _ _
                refine k_goto C (pc2 := 77) rfl rfl ?_
                refine k_sub S [(0, .ref r0), (1, .int n1), (2, .int x6), (3, .int x85)] (List.forall_mem_cons.mpr ⟨List.mem_of_getElem? (i := 1) rfl, List.forall_mem_cons.mpr ⟨List.mem_of_getElem? (i := 2) rfl, List.forall_mem_cons.mpr ⟨List.mem_of_getElem? (i := 3) rfl, List.forall_mem_cons.mpr ⟨List.mem_of_getElem? (i := 0) rfl, fun _ h => nomatch h⟩⟩⟩⟩) ?_
                exact ihJ61 _ (MN.lt hmnn62 (by omega) (by omega)) I80 L64 x85 rfl hI80 (CM.cons S68 (CM.mono S81 (by decide) (by decide)) (by decide) (by decide)) (by omega) (by omega) (by exact PW2.s ff77_0 hu99 (by omega) (ho96.trans (ff77_1 _ (by have h9 := ncz (x := x65) (by omega); omega))) (by omega) (by omega) (by omega)) (by exact ff77_1.eqm (CM.j0 S81 R_r0_5 (by decide))) (by omega)
            refine k_istore_n C (lw := [(3, .int x60), (0, .ref r0), (1, .int n1), (2, .int x6)]) rfl rfl (Nat.le_of_ble_eq_true rfl) rfl ?_
            refine k_sub S [(0, .ref r0), (1, .int n1), (2, .int x6), (3, .int x60)] (List.forall_mem_cons.mpr ⟨List.mem_of_getElem? (i := 1) rfl, List.forall_mem_cons.mpr ⟨List.mem_of_getElem? (i := 2) rfl, List.forall_mem_cons.mpr ⟨List.mem_of_getElem? (i := 3) rfl, List.forall_mem_cons.mpr ⟨List.mem_of_getElem? (i := 0) rfl, fun _ h => nomatch h⟩⟩⟩⟩) ?_
            exact J61 _ I45 L46 x60 rfl hI51 CM.rf (by omega) (by omega) (by exact PW2.z ff27_1 (by omega)) (by have e9 := ff27_2; rw [hL27] at e9; exact e9.le (by omega)) (by omega)
          refine k_aload_n C rfl rfl rfl ?_
          refine z_bipush C (z := 45) rfl rfl rfl (fun x86 ex86 => ?_)
          refine k_iload_n C rfl rfl rfl ?_
          refine k_aload_n C rfl rfl rfl ?_
          refine c_VI C (a_X12_p hI51 H_r0) rfl rfl rfl rfl rfl ⟨_, rfl, rfl, T_r0, Nat.le_of_ble_eq_true rfl⟩ rfl rfl (Nat.le_of_ble_eq_true rfl) (Nat.le_of_ble_eq_true rfl) (Nat.le_of_ble_eq_true rfl) ?_
          rintro x87 _ _ ⟨o0x87, o1x87, p0x87, rfl, rfl⟩
          have p0x87 := p0x87 r0_1 R_r0_1
          have gx87 := rg x87
          try simp only [e58, e55, e58] at p0x87
          try have q0x87 := congrArg Int32.toInt p0x87
          refine b_icmp_ge C (t := 47) rfl rfl rfl (fun c88 => ?_) (fun c88 => ?_)
          · skip
            refine z_iconst C (z := 0) rfl rfl rfl (fun x89 ex89 => ?_)
            refine k_iload_n C rfl rfl rfl ?_
            refine k_aload_n C rfl rfl rfl ?_
            refine c_VI C (a_X12_p hI51 H_r0) rfl rfl rfl rfl rfl ⟨_, rfl, rfl, T_r0, Nat.le_of_ble_eq_true rfl⟩ rfl rfl (Nat.le_of_ble_eq_true rfl) (Nat.le_of_ble_eq_true rfl) (Nat.le_of_ble_eq_true rfl) ?_
            rintro x90 _ _ ⟨o0x90, o1x90, p0x90, rfl, rfl⟩
            have p0x90 := p0x90 r0_1 R_r0_1
            have gx90 := rg x90
            try simp only [e58, e55, e58] at p0x90
            try have q0x90 := congrArg Int32.toInt p0x90
            refine b_icmp_ge C (t := 65) rfl rfl rfl (fun c91 => ?_) (fun c91 => ?_)
            · skip
              refine z_iconst C (z := 1) rfl rfl rfl (fun x92 ex92 => ?_)
              have hu66 : x89.toInt = PWU w_r0_1_0.toInt x6.toInt ∨ (x6.toInt < w_r0_1_0.toInt ∧ w_r0_1_0.toInt ≤ x6.toInt) := (by unfold PWU; exact (Classical.em (x6.toInt < w_r0_1_0.toInt)).elim (fun c9 => by ((rw [if_pos c9]; omega))) (fun c9 => by ((rw [if_neg c9]; omega)))); have hv66 : x92.toInt = PWY w_r0_1_0.toInt x6.toInt ∨ (x6.toInt < w_r0_1_0.toInt ∧ w_r0_1_0.toInt ≤ x6.toInt) := (by unfold PWY; exact (Classical.em (x6.toInt < w_r0_1_0.toInt)).elim (fun c9 => by ((rw [if_pos c9]; first | (have h8 : x92.toInt = (0 - x6.toInt + w_r0_1_0.toInt).tmod w_r0_1_0.toInt := hls59; exact Or.inl h8) | (right; omega)))) (fun c9 => by ((rw [if_neg c9]; omega))))
              have q93 : x86.toNatClampNeg = 45 := nck (by omega)
              have q94 : x89.toNatClampNeg = 0 := nck (by omega)
              have q95 : x92.toNatClampNeg = 1 := nck (by omega)
              refine c_VV C (a_X12_widens_e hI51 H_r0 (by omega) (by omega) (by omega) (by omega) (by omega) (by omega) (fun a4 h4 => by cases (R_r0_4.symm.trans h4); first | omega | (simp only [q93, q94, q95, e58, e55, and_true, true_and, or_true, true_or, and_false, false_and, or_false, false_or] <;> omega))) rfl rfl rfl rfl rfl ⟨_, rfl, rfl, T_r0, Nat.le_of_ble_eq_true rfl⟩ rfl rfl (Nat.le_of_ble_eq_true rfl) (Nat.le_of_ble_eq_true rfl) (Nat.le_of_ble_eq_true rfl) ?_
              rintro I97 L98 ⟨p0v96, p1v96, p2v96, p3v96, hI97, S99⟩
              have p0v96 := p0v96 r0_4 R_r0_4
              have p1v96 := p1v96 r0_1 r0_4 r0_5 R_r0_1 R_r0_4 R_r0_5
              have p2v96 := p2v96 r0_4 R_r0_4
              have p3v96 := p3v96 r0_5 R_r0_5
              try simp only [q93, q94, q95] at p2v96
              have F100 : ∀ r : Nat, r ≠ 45 → I97 r0_4 r = I45 r0_4 r := fun r z0 => p2v96 r (by first | exact z0)
              try simp only [q93, q94, q95] at p3v96
              have F101 : ∀ r : Nat, (r < 41 * 45 ∨ 41 * 45 + 41 ≤ r) → I97 r0_5 r = I45 r0_5 r := fun r z0 => p3v96 r (by first | exact z0)
              have e102 := CM.j S99 R_r0_1 (by decide) e58
              obtain ⟨x104, e105⟩ : ∃ x, I97 r0_4 45 = x := ⟨_, rfl⟩
              have gx104 := rg x104
              have ox104 := IM.dgR hI97 R_r0_4 e105
              try simp only [q93, q94, q95, e58, e55, e105] at p0v96
              try have q0v96 := congrArg Int32.toInt p0v96
              try simp only [q93, q94, q95, e58, e55, e105] at p1v96
              try have q1v96 := congrArg Int32.toInt p1v96
              have hw66 := p1v96; have hx66 := CM.j0 S99 R_r0_26 (by decide)
              refine z_iinc C (z := 1) (lw := fun x106 => [(3, .int x106), (0, .ref r0), (1, .int n1), (2, .int x6)]) rfl rfl rfl (Nat.le_of_ble_eq_true rfl) rfl ⟨by omega, by omega⟩ (fun _ => rfl) (fun x106 ex106 => ?_)
              show V 72 [(3, .int x106), (0, .ref r0), (1, .int n1), (2, .int x6)] _ _ _ _
              refine k_goto C (pc2 := 27) rfl rfl ?_
              refine k_sub S [(0, .ref r0), (1, .int n1), (2, .int x6), (3, .int x106)] (List.forall_mem_cons.mpr ⟨List.mem_of_getElem? (i := 1) rfl, List.forall_mem_cons.mpr ⟨List.mem_of_getElem? (i := 2) rfl, List.forall_mem_cons.mpr ⟨List.mem_of_getElem? (i := 3) rfl, List.forall_mem_cons.mpr ⟨List.mem_of_getElem? (i := 0) rfl, fun _ h => nomatch h⟩⟩⟩⟩) ?_
              exact ihJ43 _ (MN.lt hmnn44 (by omega) (by omega)) I97 L98 x106 x104 rfl hI97 (CM.cons S50 (CM.mono S99 (by decide) (by decide)) (by decide) (by decide)) (fun r z0 => ((F100 r z0).trans (F52 r z0))) (fun r z0 => ((F101 r z0).trans (F53 r z0))) (by omega) (by omega) e105 (by omega) (by omega) (by omega) (by exact hx66.trans ff27_1) (by rw [ncs (x := x106) (k := x47) (by omega) (by omega)]; have hu67 := hu66.resolve_right (by omega); have hv67 := hv66.resolve_right (by omega); rw [hu67, hv67] at hw66; exact (RWF.wd ff27_2 hw66 (by omega) (by have h9 := ncz (x := x47) (by omega); omega)).cg rfl (by omega)) (by omega)
            refine k_aload_n C rfl rfl rfl ?_
            refine z_iconst C (z := 0) rfl rfl rfl (fun x107 ex107 => ?_)
            refine k_iload_n C rfl rfl rfl ?_
            have hz59 : x107.toInt = 0 := (by omega)
            have q108 : x107.toNatClampNeg = 0 := nck (by omega)
            refine c_VI C (a_X12_less hI51 H_r0 (by omega) (by omega) (by omega) (by omega)) rfl rfl rfl rfl rfl ⟨_, rfl, rfl, T_r0, Nat.le_of_ble_eq_true rfl⟩ rfl rfl (Nat.le_of_ble_eq_true rfl) (Nat.le_of_ble_eq_true rfl) (Nat.le_of_ble_eq_true rfl) ?_
            rintro x109 _ _ ⟨o0x109, o1x109, p0x109, p1x109, p2x109, p3x109, rfl, rfl⟩
            have p0x109 := p0x109 r0_1 R_r0_1
            have p2x109 := p2x109 r0_1 R_r0_1
            have p3x109 := p3x109 r0_1 R_r0_1
            have gx109 := rg x109
            try simp only [q108, e58, e55] at p0x109
            try have q0x109 := congrArg Int32.toInt p0x109
            try simp only [q108, e58, e55] at p1x109
            try have q1x109 := congrArg Int32.toInt p1x109
            try simp only [q108, e58, e55] at p2x109
            try have q2x109 := congrArg Int32.toInt p2x109
            try simp only [q108, e58, e55] at p3x109
            try have q3x109 := congrArg Int32.toInt p3x109
            have hls59 := p3x109; unfold LSD at hls59; (try rw [hz59] at hls59)
            refine k_goto C (pc2 := 66) rfl rfl ?_
            have hu66 : x89.toInt = PWU w_r0_1_0.toInt x6.toInt ∨ (x6.toInt < w_r0_1_0.toInt ∧ w_r0_1_0.toInt ≤ x6.toInt) := (by unfold PWU; exact (Classical.em (x6.toInt < w_r0_1_0.toInt)).elim (fun c9 => by ((rw [if_pos c9]; omega))) (fun c9 => by ((rw [if_neg c9]; omega)))); have hv66 : x109.toInt = PWY w_r0_1_0.toInt x6.toInt ∨ (x6.toInt < w_r0_1_0.toInt ∧ w_r0_1_0.toInt ≤ x6.toInt) := (by unfold PWY; exact (Classical.em (x6.toInt < w_r0_1_0.toInt)).elim (fun c9 => by ((rw [if_pos c9]; first | (have h8 : x109.toInt = (0 - x6.toInt + w_r0_1_0.toInt).tmod w_r0_1_0.toInt := hls59; exact Or.inl h8) | (right; omega)))) (fun c9 => by ((rw [if_neg c9]; omega))))
            have q110 : x86.toNatClampNeg = 45 := nck (by omega)
            have q111 : x89.toNatClampNeg = 0 := nck (by omega)
            refine c_VV C (a_X12_widens_e hI51 H_r0 (by omega) (by omega) (by omega) (by omega) (by omega) (by omega) (fun a4 h4 => by cases (R_r0_4.symm.trans h4); first | omega | (simp only [q110, q111, e58, e55, and_true, true_and, or_true, true_or, and_false, false_and, or_false, false_or] <;> omega))) rfl rfl rfl rfl rfl ⟨_, rfl, rfl, T_r0, Nat.le_of_ble_eq_true rfl⟩ rfl rfl (Nat.le_of_ble_eq_true rfl) (Nat.le_of_ble_eq_true rfl) (Nat.le_of_ble_eq_true rfl) ?_
            rintro I113 L114 ⟨p0v112, p1v112, p2v112, p3v112, hI113, S115⟩
            have p0v112 := p0v112 r0_4 R_r0_4
            have p1v112 := p1v112 r0_1 r0_4 r0_5 R_r0_1 R_r0_4 R_r0_5
            have p2v112 := p2v112 r0_4 R_r0_4
            have p3v112 := p3v112 r0_5 R_r0_5
            try simp only [q110, q111] at p2v112
            have F116 : ∀ r : Nat, r ≠ 45 → I113 r0_4 r = I45 r0_4 r := fun r z0 => p2v112 r (by first | exact z0)
            try simp only [q110, q111] at p3v112
            have F117 : ∀ r : Nat, (r < 41 * 45 ∨ 41 * 45 + 41 ≤ r) → I113 r0_5 r = I45 r0_5 r := fun r z0 => p3v112 r (by first | exact z0)
            have e118 := CM.j S115 R_r0_1 (by decide) e58
            obtain ⟨x120, e121⟩ : ∃ x, I113 r0_4 45 = x := ⟨_, rfl⟩
            have gx120 := rg x120
            have ox120 := IM.dgR hI113 R_r0_4 e121
            try simp only [q110, q111, e58, e55, e121] at p0v112
            try have q0v112 := congrArg Int32.toInt p0v112
            try simp only [q110, q111, e58, e55, e121] at p1v112
            try have q1v112 := congrArg Int32.toInt p1v112
            have hw66 := p1v112; have hx66 := CM.j0 S115 R_r0_26 (by decide)
            refine z_iinc C (z := 1) (lw := fun x122 => [(3, .int x122), (0, .ref r0), (1, .int n1), (2, .int x6)]) rfl rfl rfl (Nat.le_of_ble_eq_true rfl) rfl ⟨by omega, by omega⟩ (fun _ => rfl) (fun x122 ex122 => ?_)
            show V 72 [(3, .int x122), (0, .ref r0), (1, .int n1), (2, .int x6)] _ _ _ _
            refine k_goto C (pc2 := 27) rfl rfl ?_
            refine k_sub S [(0, .ref r0), (1, .int n1), (2, .int x6), (3, .int x122)] (List.forall_mem_cons.mpr ⟨List.mem_of_getElem? (i := 1) rfl, List.forall_mem_cons.mpr ⟨List.mem_of_getElem? (i := 2) rfl, List.forall_mem_cons.mpr ⟨List.mem_of_getElem? (i := 3) rfl, List.forall_mem_cons.mpr ⟨List.mem_of_getElem? (i := 0) rfl, fun _ h => nomatch h⟩⟩⟩⟩) ?_
            exact ihJ43 _ (MN.lt hmnn44 (by omega) (by omega)) I113 L114 x122 x120 rfl hI113 (CM.cons S50 (CM.mono S115 (by decide) (by decide)) (by decide) (by decide)) (fun r z0 => ((F116 r z0).trans (F52 r z0))) (fun r z0 => ((F117 r z0).trans (F53 r z0))) (by omega) (by omega) e121 (by omega) (by omega) (by omega) (by exact hx66.trans ff27_1) (by rw [ncs (x := x122) (k := x47) (by omega) (by omega)]; have hu67 := hu66.resolve_right (by omega); have hv67 := hv66.resolve_right (by omega); rw [hu67, hv67] at hw66; exact (RWF.wd ff27_2 hw66 (by omega) (by have h9 := ncz (x := x47) (by omega); omega)).cg rfl (by omega)) (by omega)
          refine z_iconst C (z := 1) rfl rfl rfl (fun x123 ex123 => ?_)
          refine k_goto C (pc2 := 48) rfl rfl ?_
          refine k_iload_n C rfl rfl rfl ?_
          refine k_aload_n C rfl rfl rfl ?_
          refine c_VI C (a_X12_p hI51 H_r0) rfl rfl rfl rfl rfl ⟨_, rfl, rfl, T_r0, Nat.le_of_ble_eq_true rfl⟩ rfl rfl (Nat.le_of_ble_eq_true rfl) (Nat.le_of_ble_eq_true rfl) (Nat.le_of_ble_eq_true rfl) ?_
          rintro x124 _ _ ⟨o0x124, o1x124, p0x124, rfl, rfl⟩
          have p0x124 := p0x124 r0_1 R_r0_1
          have gx124 := rg x124
          try simp only [e58, e55, e58] at p0x124
          try have q0x124 := congrArg Int32.toInt p0x124
          refine b_icmp_ge C (t := 65) rfl rfl rfl (fun c125 => ?_) (fun c125 => ?_)
          · skip
            refine z_iconst C (z := 1) rfl rfl rfl (fun x126 ex126 => ?_)
            have hu66 : x123.toInt = PWU w_r0_1_0.toInt x6.toInt ∨ (x6.toInt < w_r0_1_0.toInt ∧ w_r0_1_0.toInt ≤ x6.toInt) := (by unfold PWU; exact (Classical.em (x6.toInt < w_r0_1_0.toInt)).elim (fun c9 => by ((rw [if_pos c9]; omega))) (fun c9 => by ((rw [if_neg c9]; omega)))); have hv66 : x126.toInt = PWY w_r0_1_0.toInt x6.toInt ∨ (x6.toInt < w_r0_1_0.toInt ∧ w_r0_1_0.toInt ≤ x6.toInt) := (by unfold PWY; exact (Classical.em (x6.toInt < w_r0_1_0.toInt)).elim (fun c9 => by ((rw [if_pos c9]; first | (have h8 : x126.toInt = (0 - x6.toInt + w_r0_1_0.toInt).tmod w_r0_1_0.toInt := hls59; exact Or.inl h8) | (right; omega)))) (fun c9 => by ((rw [if_neg c9]; omega))))
            have q127 : x86.toNatClampNeg = 45 := nck (by omega)
            have q128 : x123.toNatClampNeg = 1 := nck (by omega)
            have q129 : x126.toNatClampNeg = 1 := nck (by omega)
            refine c_VV C (a_X12_widens_e hI51 H_r0 (by omega) (by omega) (by omega) (by omega) (by omega) (by omega) (fun a4 h4 => by cases (R_r0_4.symm.trans h4); first | omega | (simp only [q127, q128, q129, e58, e55, and_true, true_and, or_true, true_or, and_false, false_and, or_false, false_or] <;> omega))) rfl rfl rfl rfl rfl ⟨_, rfl, rfl, T_r0, Nat.le_of_ble_eq_true rfl⟩ rfl rfl (Nat.le_of_ble_eq_true rfl) (Nat.le_of_ble_eq_true rfl) (Nat.le_of_ble_eq_true rfl) ?_
            rintro I131 L132 ⟨p0v130, p1v130, p2v130, p3v130, hI131, S133⟩
            have p0v130 := p0v130 r0_4 R_r0_4
            have p1v130 := p1v130 r0_1 r0_4 r0_5 R_r0_1 R_r0_4 R_r0_5
            have p2v130 := p2v130 r0_4 R_r0_4
            have p3v130 := p3v130 r0_5 R_r0_5
            try simp only [q127, q128, q129] at p2v130
            have F134 : ∀ r : Nat, r ≠ 45 → I131 r0_4 r = I45 r0_4 r := fun r z0 => p2v130 r (by first | exact z0)
            try simp only [q127, q128, q129] at p3v130
            have F135 : ∀ r : Nat, (r < 41 * 45 ∨ 41 * 45 + 41 ≤ r) → I131 r0_5 r = I45 r0_5 r := fun r z0 => p3v130 r (by first | exact z0)
            have e136 := CM.j S133 R_r0_1 (by decide) e58
            obtain ⟨x138, e139⟩ : ∃ x, I131 r0_4 45 = x := ⟨_, rfl⟩
            have gx138 := rg x138
            have ox138 := IM.dgR hI131 R_r0_4 e139
            try simp only [q127, q128, q129, e58, e55, e139] at p0v130
            try have q0v130 := congrArg Int32.toInt p0v130
            try simp only [q127, q128, q129, e58, e55, e139] at p1v130
            try have q1v130 := congrArg Int32.toInt p1v130
            have hw66 := p1v130; have hx66 := CM.j0 S133 R_r0_26 (by decide)
            refine z_iinc C (z := 1) (lw := fun x140 => [(3, .int x140), (0, .ref r0), (1, .int n1), (2, .int x6)]) rfl rfl rfl (Nat.le_of_ble_eq_true rfl) rfl ⟨by omega, by omega⟩ (fun _ => rfl) (fun x140 ex140 => ?_)
            show V 72 [(3, .int x140), (0, .ref r0), (1, .int n1), (2, .int x6)] _ _ _ _
            refine k_goto C (pc2 := 27) rfl rfl ?_
            refine k_sub S [(0, .ref r0), (1, .int n1), (2, .int x6), (3, .int x140)] (List.forall_mem_cons.mpr ⟨List.mem_of_getElem? (i := 1) rfl, List.forall_mem_cons.mpr ⟨List.mem_of_getElem? (i := 2) rfl, List.forall_mem_cons.mpr ⟨List.mem_of_getElem? (i := 3) rfl, List.forall_mem_cons.mpr ⟨List.mem_of_getElem? (i := 0) rfl, fun _ h => nomatch h⟩⟩⟩⟩) ?_
            exact ihJ43 _ (MN.lt hmnn44 (by omega) (by omega)) I131 L132 x140 x138 rfl hI131 (CM.cons S50 (CM.mono S133 (by decide) (by decide)) (by decide) (by decide)) (fun r z0 => ((F134 r z0).trans (F52 r z0))) (fun r z0 => ((F135 r z0).trans (F53 r z0))) (by omega) (by omega) e139 (by omega) (by omega) (by omega) (by exact hx66.trans ff27_1) (by rw [ncs (x := x140) (k := x47) (by omega) (by omega)]; have hu67 := hu66.resolve_right (by omega); have hv67 := hv66.resolve_right (by omega); rw [hu67, hv67] at hw66; exact (RWF.wd ff27_2 hw66 (by omega) (by have h9 := ncz (x := x47) (by omega); omega)).cg rfl (by omega)) (by omega)
          refine k_aload_n C rfl rfl rfl ?_
          refine z_iconst C (z := 0) rfl rfl rfl (fun x141 ex141 => ?_)
          refine k_iload_n C rfl rfl rfl ?_
          have hz59 : x141.toInt = 0 := (by omega)
          have q142 : x141.toNatClampNeg = 0 := nck (by omega)
          refine c_VI C (a_X12_less hI51 H_r0 (by omega) (by omega) (by omega) (by omega)) rfl rfl rfl rfl rfl ⟨_, rfl, rfl, T_r0, Nat.le_of_ble_eq_true rfl⟩ rfl rfl (Nat.le_of_ble_eq_true rfl) (Nat.le_of_ble_eq_true rfl) (Nat.le_of_ble_eq_true rfl) ?_
          rintro x143 _ _ ⟨o0x143, o1x143, p0x143, p1x143, p2x143, p3x143, rfl, rfl⟩
          have p0x143 := p0x143 r0_1 R_r0_1
          have p2x143 := p2x143 r0_1 R_r0_1
          have p3x143 := p3x143 r0_1 R_r0_1
          have gx143 := rg x143
          try simp only [q142, e58, e55] at p0x143
          try have q0x143 := congrArg Int32.toInt p0x143
          try simp only [q142, e58, e55] at p1x143
          try have q1x143 := congrArg Int32.toInt p1x143
          try simp only [q142, e58, e55] at p2x143
          try have q2x143 := congrArg Int32.toInt p2x143
          try simp only [q142, e58, e55] at p3x143
          try have q3x143 := congrArg Int32.toInt p3x143
          have hls59 := p3x143; unfold LSD at hls59; (try rw [hz59] at hls59)
          refine k_goto C (pc2 := 66) rfl rfl ?_
          have hu66 : x123.toInt = PWU w_r0_1_0.toInt x6.toInt ∨ (x6.toInt < w_r0_1_0.toInt ∧ w_r0_1_0.toInt ≤ x6.toInt) := (by unfold PWU; exact (Classical.em (x6.toInt < w_r0_1_0.toInt)).elim (fun c9 => by ((rw [if_pos c9]; omega))) (fun c9 => by ((rw [if_neg c9]; omega)))); have hv66 : x143.toInt = PWY w_r0_1_0.toInt x6.toInt ∨ (x6.toInt < w_r0_1_0.toInt ∧ w_r0_1_0.toInt ≤ x6.toInt) := (by unfold PWY; exact (Classical.em (x6.toInt < w_r0_1_0.toInt)).elim (fun c9 => by ((rw [if_pos c9]; first | (have h8 : x143.toInt = (0 - x6.toInt + w_r0_1_0.toInt).tmod w_r0_1_0.toInt := hls59; exact Or.inl h8) | (right; omega)))) (fun c9 => by ((rw [if_neg c9]; omega))))
          have q144 : x86.toNatClampNeg = 45 := nck (by omega)
          have q145 : x123.toNatClampNeg = 1 := nck (by omega)
          refine c_VV C (a_X12_widens_e hI51 H_r0 (by omega) (by omega) (by omega) (by omega) (by omega) (by omega) (fun a4 h4 => by cases (R_r0_4.symm.trans h4); first | omega | (simp only [q144, q145, e58, e55, and_true, true_and, or_true, true_or, and_false, false_and, or_false, false_or] <;> omega))) rfl rfl rfl rfl rfl ⟨_, rfl, rfl, T_r0, Nat.le_of_ble_eq_true rfl⟩ rfl rfl (Nat.le_of_ble_eq_true rfl) (Nat.le_of_ble_eq_true rfl) (Nat.le_of_ble_eq_true rfl) ?_
          rintro I147 L148 ⟨p0v146, p1v146, p2v146, p3v146, hI147, S149⟩
          have p0v146 := p0v146 r0_4 R_r0_4
          have p1v146 := p1v146 r0_1 r0_4 r0_5 R_r0_1 R_r0_4 R_r0_5
          have p2v146 := p2v146 r0_4 R_r0_4
          have p3v146 := p3v146 r0_5 R_r0_5
          try simp only [q144, q145] at p2v146
          have F150 : ∀ r : Nat, r ≠ 45 → I147 r0_4 r = I45 r0_4 r := fun r z0 => p2v146 r (by first | exact z0)
          try simp only [q144, q145] at p3v146
          have F151 : ∀ r : Nat, (r < 41 * 45 ∨ 41 * 45 + 41 ≤ r) → I147 r0_5 r = I45 r0_5 r := fun r z0 => p3v146 r (by first | exact z0)
          have e152 := CM.j S149 R_r0_1 (by decide) e58
          obtain ⟨x154, e155⟩ : ∃ x, I147 r0_4 45 = x := ⟨_, rfl⟩
          have gx154 := rg x154
          have ox154 := IM.dgR hI147 R_r0_4 e155
          try simp only [q144, q145, e58, e55, e155] at p0v146
          try have q0v146 := congrArg Int32.toInt p0v146
          try simp only [q144, q145, e58, e55, e155] at p1v146
          try have q1v146 := congrArg Int32.toInt p1v146
          have hw66 := p1v146; have hx66 := CM.j0 S149 R_r0_26 (by decide)
          refine z_iinc C (z := 1) (lw := fun x156 => [(3, .int x156), (0, .ref r0), (1, .int n1), (2, .int x6)]) rfl rfl rfl (Nat.le_of_ble_eq_true rfl) rfl ⟨by omega, by omega⟩ (fun _ => rfl) (fun x156 ex156 => ?_)
          show V 72 [(3, .int x156), (0, .ref r0), (1, .int n1), (2, .int x6)] _ _ _ _
          refine k_goto C (pc2 := 27) rfl rfl ?_
          refine k_sub S [(0, .ref r0), (1, .int n1), (2, .int x6), (3, .int x156)] (List.forall_mem_cons.mpr ⟨List.mem_of_getElem? (i := 1) rfl, List.forall_mem_cons.mpr ⟨List.mem_of_getElem? (i := 2) rfl, List.forall_mem_cons.mpr ⟨List.mem_of_getElem? (i := 3) rfl, List.forall_mem_cons.mpr ⟨List.mem_of_getElem? (i := 0) rfl, fun _ h => nomatch h⟩⟩⟩⟩) ?_
          exact ihJ43 _ (MN.lt hmnn44 (by omega) (by omega)) I147 L148 x156 x154 rfl hI147 (CM.cons S50 (CM.mono S149 (by decide) (by decide)) (by decide) (by decide)) (fun r z0 => ((F150 r z0).trans (F52 r z0))) (fun r z0 => ((F151 r z0).trans (F53 r z0))) (by omega) (by omega) e155 (by omega) (by omega) (by omega) (by exact hx66.trans ff27_1) (by rw [ncs (x := x156) (k := x47) (by omega) (by omega)]; have hu67 := hu66.resolve_right (by omega); have hv67 := hv66.resolve_right (by omega); rw [hu67, hv67] at hw66; exact (RWF.wd ff27_2 hw66 (by omega) (by have h9 := ncz (x := x47) (by omega); omega)).cg rfl (by omega)) (by omega)
      refine k_istore_n C (lw := [(3, .int x42), (0, .ref r0), (1, .int n1), (2, .int x6)]) rfl rfl (Nat.le_of_ble_eq_true rfl) rfl ?_
      refine k_sub S [(0, .ref r0), (1, .int n1), (2, .int x6), (3, .int x42)] (List.forall_mem_cons.mpr ⟨List.mem_of_getElem? (i := 1) rfl, List.forall_mem_cons.mpr ⟨List.mem_of_getElem? (i := 2) rfl, List.forall_mem_cons.mpr ⟨List.mem_of_getElem? (i := 3) rfl, List.forall_mem_cons.mpr ⟨List.mem_of_getElem? (i := 0) rfl, fun _ h => nomatch h⟩⟩⟩⟩) ?_
      exact J43 _ I36 L37 x42 x27 rfl hI36 CM.rf (fun r z0 => rfl) (fun r z0 => rfl) (by omega) (by omega) e41 (by omega) (by omega) (by omega) (by exact hw22.trans (hw14.trans eW9)) (by rw [ncz0 (x := x42) (by omega)]; exact fun j hj => by (have e9 : j = 0 := by omega); subst e9; exact (RI.w hP22).trans (by show _ = (1 : Int); omega)) (by omega)
  refine k_istore_n C (lw := [(2, .int x1), (0, .ref r0), (1, .int n1)]) rfl rfl (Nat.le_of_ble_eq_true rfl) rfl ?_
  refine k_sub S [(0, .ref r0), (1, .int n1), (2, .int x1)] (List.forall_mem_cons.mpr ⟨List.mem_of_getElem? (i := 1) rfl, List.forall_mem_cons.mpr ⟨List.mem_of_getElem? (i := 2) rfl, List.forall_mem_cons.mpr ⟨List.mem_of_getElem? (i := 0) rfl, fun _ h => nomatch h⟩⟩⟩) ?_
  exact J2 _ I L x1 rfl hI CM.rf (fun r z0 => rfl) (fun r z0 => rfl) (by omega) (by omega) (by exact PWT.z (by omega)) (by omega)

