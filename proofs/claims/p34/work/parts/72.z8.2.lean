/-! on -/
set_option maxHeartbeats 8000000 in
theorem a_X12_isLast_x {d : Nat} {T N : Nat → Nat} {I : IT} {L : LT} {R : RT} {A : Nat → Prop} {r0 : Nat} {n1 : Int32} (hI : IM R r0 I) (H_r0 : (h_MD T N R A) r0) (b0_n1 : 0 ≤ n1.toInt) (b1_n1 : n1.toInt ≤ 2) (hp0 : ∀ a4, R r0 4 = some a4 → (I a4 40).toInt ≤ 8) (hp1 : ∀ a4, R r0 4 = some a4 → 1 ≤ (I a4 40).toInt) (hp2 : ∀ a1 a4 a5, R r0 1 = some a1 → R r0 4 = some a4 → R r0 5 = some a5 → RCN I a5 40 (I a1 0).toInt (I a4 40).toInt) (hp3 : ∀ a1 a4 a26, R r0 1 = some a1 → R r0 4 = some a4 → R r0 26 = some a26 → PWT (I a26) (I a1 0).toInt (I a4 40).toInt ((I a1 0).toInt + 1)) (hp4 : ∀ a1 a27, R r0 1 = some a1 → R r0 27 = some a27 → ∀ i : Nat, (i : Int) ≤ n1.toInt → 0 ≤ NF I a27 i ∧ NF I a27 i ≤ (I a1 0).toInt) (hp5 : ∀ a28, R r0 28 = some a28 → ∀ i : Nat, (i : Int) < n1.toInt → 0 ≤ NF I a28 i) : Ex (d + 3) 283 [.ref r0, .int n1] (T, N, I, L, R) 0 0 (pI T N R (fun x9 I9 L9 => (0 ≤ x9.toInt) ∧ (x9.toInt ≤ 1) ∧ (∀ a1 a4 a5 a27 a28, R r0 1 = some a1 → R r0 4 = some a4 → R r0 5 = some a5 → R r0 27 = some a27 → R r0 28 = some a28 → x9.toInt = 1 → (0 < NF I9 a28 n1.toNatClampNeg ∧ NF I9 a28 n1.toNatClampNeg < (I a1 0).toInt) ∧ SPF (I a1 0).toInt (I a4 40).toInt (BNI (I a4 40).toInt) (RI I a5 40) (n1.toNatClampNeg + 1) (NF I a27) (NF I9 a28)) ∧ (∀ a1 a4 a5 a27 a28, R r0 1 = some a1 → R r0 4 = some a4 → R r0 5 = some a5 → R r0 27 = some a27 → R r0 28 = some a28 → x9.toInt = 0 → NOF (I a1 0).toInt (I a4 40).toInt (BNI (I a4 40).toInt) (RI I a5 40) (n1.toNatClampNeg + 1) (NF I a27) (NF I a28) n1.toNatClampNeg) ∧ (∀ a28, R r0 28 = some a28 → ∀ r : Nat, (r : Int) < n1.toInt → I9 a28 r = I a28 r) ∧ (∀ a4, R r0 4 = some a4 → ∀ r : Nat, r ≠ 42 → I9 a4 r = I a4 r) ∧ (∀ a5, R r0 5 = some a5 → ∀ r : Nat, (r < 41 * 42 ∨ 41 * 42 + 41 ≤ r) → I9 a5 r = I a5 r) ∧ (IM R r0 I9 ∧ CM A R r0 [] [4, 5, 28] I L I9 L9))) := by
  refine ⟨_, rfl, Nat.le_of_ble_eq_true rfl, fun V C S => ?_⟩
  show V 0 [(0, .ref r0), (1, .int n1)] [] (T, N, I, L, R) 0 0
  have gn1 := rg n1
  obtain ⟨T_r0, A_r0, ⟨r0_1, R_r0_1, H_r0_1⟩, ⟨r0_2, R_r0_2, H_r0_2⟩, ⟨r0_4, R_r0_4, H_r0_4⟩, ⟨r0_5, R_r0_5, H_r0_5⟩, ⟨r0_10, R_r0_10, H_r0_10⟩, ⟨r0_18, R_r0_18, H_r0_18⟩, ⟨r0_20, R_r0_20, H_r0_20⟩, ⟨r0_21, R_r0_21, H_r0_21⟩, ⟨r0_22, R_r0_22, H_r0_22⟩, ⟨r0_23, R_r0_23, H_r0_23⟩, ⟨r0_25, R_r0_25, H_r0_25⟩, ⟨r0_26, R_r0_26, H_r0_26⟩, ⟨r0_27, R_r0_27, H_r0_27⟩, ⟨r0_28, R_r0_28, H_r0_28⟩, ⟨r0_34, R_r0_34, H_r0_34⟩, J_r0, Y_r0⟩ := id H_r0
  have G_r0 : mF T R r0 := ⟨J_r0, Y_r0, T_r0⟩
  obtain ⟨w_r0_4_40, k0_r0_4_40⟩ : ∃ x, I r0_4 40 = x := ⟨_, rfl⟩
  have gw_r0_4_40 := rg w_r0_4_40
  have ow_r0_4_40 := IM.dgR hI R_r0_4 k0_r0_4_40
  obtain ⟨w_r0_1_0, k0_r0_1_0⟩ : ∃ x, I r0_1 0 = x := ⟨_, rfl⟩
  have gw_r0_1_0 := rg w_r0_1_0
  have ow_r0_1_0 := IM.pi hI R_r0_1 k0_r0_1_0
  have hp0 := hp0 r0_4 R_r0_4
  have hp1 := hp1 r0_4 R_r0_4
  have hp2 := hp2 r0_1 r0_4 r0_5 R_r0_1 R_r0_4 R_r0_5
  have hp3 := hp3 r0_1 r0_4 r0_26 R_r0_1 R_r0_4 R_r0_26
  have hp4 := hp4 r0_1 r0_27 R_r0_1 R_r0_27
  have hp5 := hp5 r0_28 R_r0_28
  try simp only [k0_r0_4_40, k0_r0_1_0] at hp0
  try simp only [k0_r0_4_40, k0_r0_1_0] at hp1
  try simp only [k0_r0_4_40, k0_r0_1_0] at hp2
  try simp only [k0_r0_4_40, k0_r0_1_0] at hp3
  try simp only [k0_r0_4_40, k0_r0_1_0] at hp4
  try simp only [k0_r0_4_40, k0_r0_1_0] at hp5
  have hn1 := ncz (x := n1) (by omega)
  have hPM : PRM w_r0_1_0.toInt := IM.p hI R_r0_1 k0_r0_1_0
  refine k_aload_n C rfl rfl rfl ?_
  refine g_R C rfl rfl rfl T_r0 rfl R_r0_27 ?_
  refine k_iload_n C rfl rfl rfl ?_
  obtain ⟨T_r0_27, N_r0_27, A_r0_27⟩ := id H_r0_27
  refine z_aI C rfl rfl T_r0_27 N_r0_27 (by omega) (by omega) (fun x1 ex1 => ?_)
  have gx1 := rg x1
  have ox1 := IM.spR hI R_r0_27 ex1
  have hr5 := ex1
  obtain ⟨t9, et9⟩ : ∃ t : Int32, t = x1 := ⟨_, rfl⟩
  have et9i : t9.toInt = x1.toInt := (by rw [et9])
  have ht9 : t9.toInt = NF I r0_27 n1.toNatClampNeg := (by rw [et9, ← hr5]; rfl)
  have hbt9 := hp4 n1.toNatClampNeg (by omega)
  have hgt := PWT.g hp3 (s := t9) (by rw [ht9]; exact hbt9.1) (by rw [ht9]; exact Int.lt_add_one_of_le hbt9.2)
  refine k_istore_n C (lw := [(2, .int x1), (0, .ref r0), (1, .int n1)]) rfl rfl (Nat.le_of_ble_eq_true rfl) rfl ?_
  refine k_aload_n C rfl rfl rfl ?_
  refine z_bipush C (z := 40) rfl rfl rfl (fun x2 ex2 => ?_)
  refine z_bipush C (z := 42) rfl rfl rfl (fun x3 ex3 => ?_)
  have q4 : x2.toNatClampNeg = 40 := nck (by omega)
  have q5 : x3.toNatClampNeg = 42 := nck (by omega)
  refine c_VV C (a_X12_copies hI H_r0 (by omega) (by omega) (by omega) (by omega) (by first | omega | (simp only [q4, q5, k0_r0_4_40, k0_r0_1_0, ex1, and_true, true_and, or_true, true_or, and_false, false_and, or_false, false_or] <;> omega))) rfl rfl rfl rfl rfl ⟨_, rfl, rfl, T_r0, Nat.le_of_ble_eq_true rfl⟩ rfl rfl (Nat.le_of_ble_eq_true rfl) (Nat.le_of_ble_eq_true rfl) (Nat.le_of_ble_eq_true rfl) ?_
  rintro I7 L8 ⟨p0v6, p1v6, p2v6, p3v6, hI7, S9⟩
  have p0v6 := p0v6 r0_4 R_r0_4
  have p1v6 := p1v6 r0_4 r0_5 R_r0_4 R_r0_5
  have p2v6 := p2v6 r0_4 R_r0_4
  have p3v6 := p3v6 r0_5 R_r0_5
  try simp only [q4, q5] at p2v6
  have F10 : ∀ r : Nat, r ≠ 42 → I7 r0_4 r = I r0_4 r := fun r z0 => p2v6 r (by first | exact z0)
  try simp only [q4, q5] at p3v6
  have F11 : ∀ r : Nat, (r < 41 * 42 ∨ 41 * 42 + 41 ≤ r) → I7 r0_5 r = I r0_5 r := fun r z0 => p3v6 r (by first | exact z0)
  have e12 := (p2v6 40 (by first | decide | exact ncne (by omega) (by omega) (by omega) | exact nckn (by omega) (by omega) | exact (nckn (by omega) (by omega)).symm)).trans k0_r0_4_40
  have e13 := CM.j S9 R_r0_1 (by decide) k0_r0_1_0
  have e14 := CM.j S9 R_r0_27 (by decide) ex1
  obtain ⟨x15, e16⟩ : ∃ x, I7 r0_4 42 = x := ⟨_, rfl⟩
  have gx15 := rg x15
  have ox15 := IM.dgR hI7 R_r0_4 e16
  try simp only [q4, q5, k0_r0_4_40, k0_r0_1_0, ex1, e16] at p0v6
  try have q0v6 := congrArg Int32.toInt p0v6
  try simp only [q4, q5, k0_r0_4_40, k0_r0_1_0, ex1, e16] at p1v6
  try have q1v6 := congrArg Int32.toInt p1v6
  have hcp := p1v6
  refine z_iconst C (z := 0) rfl rfl rfl (fun x17 ex17 => ?_)
  have J18 : ∀ (nn19 : Nat) (I20 : IT) (L21 : LT) (x22 : Int32), (MN (2 - x22.toInt) nn19) → (IM R r0 I20) → (CM A R r0 [] [5] I7 L8 I20 L21) → (∀ r : Nat, (r < 41 * 42 ∨ 41 * 42 + 41 ≤ r) → I20 r0_5 r = I7 r0_5 r) → (0 ≤ x22.toInt) → (x22.toInt ≤ 2) → (RLS I20 r0_5 w_r0_1_0.toInt w_r0_4_40.toInt (RI I r0_5 40) (NF I r0_27) (NF I r0_28) x22.toNatClampNeg x22.toNatClampNeg 0) → (x22.toInt ≤ n1.toInt) → V 17 [(0, .ref r0), (1, .int n1), (2, .int x1), (3, .int x22)] [] (T, N, I20, L21, R) 0 0 := by
    intro nn19
    induction nn19 using Nat.strongRecOn with
    | _ nn19 ihJ18 =>
      intro I20 L21 x22 hmnn19 hI26 S25 F27 b23 b24 ff17_0 ff17_1
      have gx22 := rg x22
      have e28 := CM.j S25 R_r0_4 (by decide) e12
      have e29 := CM.j S25 R_r0_1 (by decide) e13
      have e30 := CM.j S25 R_r0_27 (by decide) e14
      have e31 := CM.j S25 R_r0_4 (by decide) e16
      refine k_iload_n C rfl rfl rfl ?_
      refine k_iload_n C rfl rfl rfl ?_
      refine b_icmp_ge C (t := 91) rfl rfl rfl (fun c32 => ?_) (fun c32 => ?_)
      · skip
        have hkn : x22.toNatClampNeg = n1.toNatClampNeg := nct (by omega)
        have hRL := ff17_0
        rw [hkn] at hRL
        refine k_iload_n C rfl rfl rfl ?_
        refine k_aload_n C rfl rfl rfl ?_
        refine c_VI C (a_X12_p hI26 H_r0) rfl rfl rfl rfl rfl ⟨_, rfl, rfl, T_r0, Nat.le_of_ble_eq_true rfl⟩ rfl rfl (Nat.le_of_ble_eq_true rfl) (Nat.le_of_ble_eq_true rfl) (Nat.le_of_ble_eq_true rfl) ?_
        rintro x33 _ _ ⟨o0x33, o1x33, p0x33, rfl, rfl⟩
        have p0x33 := p0x33 r0_1 R_r0_1
        have gx33 := rg x33
        try simp only [e28, e29, e30, e31, e29] at p0x33
        try have q0x33 := congrArg Int32.toInt p0x33
        refine b_icmp_ge C (t := 109) rfl rfl rfl (fun c34 => ?_) (fun c34 => ?_)
        · skip
          refine k_aload_n C rfl rfl rfl ?_
          refine z_bipush C (z := 42) rfl rfl rfl (fun x35 ex35 => ?_)
          refine k_aload_n C rfl rfl rfl ?_
          refine g_R C rfl rfl rfl T_r0 rfl R_r0_4 ?_
          refine z_bipush C (z := 42) rfl rfl rfl (fun x36 ex36 => ?_)
          obtain ⟨T_r0_4, N_r0_4, A_r0_4⟩ := id H_r0_4
          refine a_I C rfl rfl T_r0_4 (by rw [N_r0_4]; exact vpi (by omega) (by omega)) ((congrArg (I20 r0_4) (nck (n := 42) (by omega))).trans e31) ?_
          have q37 : x35.toNatClampNeg = 42 := nck (by omega)
          refine c_VI C (a_X12_of hI26 H_r0 (by omega) (by omega) (by omega) (by omega)) rfl rfl rfl rfl rfl ⟨_, rfl, rfl, T_r0, Nat.le_of_ble_eq_true rfl⟩ rfl rfl (Nat.le_of_ble_eq_true rfl) (Nat.le_of_ble_eq_true rfl) (Nat.le_of_ble_eq_true rfl) ?_
          rintro x38 _ _ ⟨o0x38, o1x38, p0x38, rfl, rfl⟩
          have p0x38 := p0x38 r0_5 R_r0_5
          have gx38 := rg x38
          try simp only [q37, e28, e29, e30, e31] at p0x38
          try have q0x38 := congrArg Int32.toInt p0x38
          have hy := p0x38
          obtain ⟨m0, em0⟩ : ∃ m : Nat, m = x15.toNatClampNeg := ⟨_, rfl⟩
          have hy0 : x38.toInt = RI I20 r0_5 42 m0 := (by rw [em0]; exact hy)
          have hm0i : (m0 : Int) = w_r0_4_40.toInt := (by rw [em0]; have h9 := ncz (x := x15) (by omega); omega)
          have hm0 : (m0 : Int) ≤ w_r0_4_40.toInt := (by omega)
          have h10 : BNI w_r0_4_40.toInt m0 * PTV w_r0_1_0.toInt t9.toInt (w_r0_4_40.toInt + 1) m0 = 1 := (by rw [BNI.o1 hm0i (by omega), PTV.b1 (by omega) (by omega), Int.mul_one])
          refine k_istore_n C (lw := [(3, .int x38), (0, .ref r0), (1, .int n1), (2, .int x1)]) rfl rfl (Nat.le_of_ble_eq_true rfl) rfl ?_
          refine k_aload_n C rfl rfl rfl ?_
          refine g_R C rfl rfl rfl T_r0 rfl R_r0_28 ?_
          refine k_iload_n C rfl rfl rfl ?_
          refine k_iload_n C rfl rfl rfl ?_
          have ew28 := (CM.j0 (W := []) (WA := [4, 5]) (CM.cons S9 (CM.mono S25 (by decide) (by decide)) (by decide) (by decide)) R_r0_28 (by decide))
          obtain ⟨y9, ey9⟩ : ∃ y : Int32, y = x38 := ⟨_, rfl⟩
          have ey9i : y9.toInt = x38.toInt := (by rw [ey9])
          obtain ⟨R9, eR9⟩ : ∃ f : Nat → Int, RI I20 r0_5 42 = f := ⟨_, rfl⟩
          have hR : ∀ m : Nat, (m : Int) ≤ w_r0_4_40.toInt → 0 ≤ R9 m ∧ R9 m < w_r0_1_0.toInt ∧ PmE w_r0_1_0.toInt (R9 m) ((RI I r0_5 40) m - BNI w_r0_4_40.toInt m * SPS w_r0_1_0.toInt (w_r0_4_40.toInt + 1) (NF I r0_27) (NF I r0_28) n1.toNatClampNeg m) := fun m hm => by (have h9 := hRL m hm; rw [if_neg (by omega), eR9] at h9; exact h9)
          have hyR : y9.toInt = R9 m0 := (by rw [ey9]; exact hy0.trans (congrFun eR9 m0))
          have hby := hR m0 hm0
          rw [← hyR] at hby
          obtain ⟨T_r0_28, N_r0_28, A_r0_28⟩ := id H_r0_28
          refine z_sI C rfl rfl T_r0_28 N_r0_28 (by omega) (by omega) (fun I39 uI39 => ?_)
          have hI39 : IM R r0 I39 := IM.arr hI26 G_r0 R_r0_28 ⟨(fun h => absurd h (by decide)), (fun h => absurd h (by decide)), (fun _ => ⟨by omega, by omega⟩)⟩ (fun h => absurd h (by decide)) uI39
          have S40 : CM A R r0 [] [28] I20 L21 I39 L21 := CM.a G_r0 R_r0_28 A_r0_28 uI39
          have e41 := u2_n uI39 (mF.nq G_r0 R_r0_4 R_r0_28 (by decide)) e28
          have e42 := u2_n uI39 (mF.nq G_r0 R_r0_1 R_r0_28 (by decide)) e29
          have e43 := u2_n uI39 (mF.nq G_r0 R_r0_27 R_r0_28 (by decide)) e30
          have e44 := u2_n uI39 (mF.nq G_r0 R_r0_4 R_r0_28 (by decide)) e31
          have e45 := u2_e uI39
          have hu129 := uI39
          have h5 := CM.j0 S40 R_r0_5 (by decide)
          have h5R : RI I39 r0_5 42 = R9 := funext fun j => by (show (I39 r0_5 _).toInt = _; rw [h5]; exact congrFun eR9 j)
          refine k_iload_n C rfl rfl rfl ?_
          refine b_if_eq C (t := 138) rfl rfl rfl (fun c46 => ?_) (fun c46 => ?_)
          · skip
            refine z_iconst C (z := 0) rfl rfl rfl (fun x47 ex47 => ?_)
            refine k_istore C (lw := [(4, .int x47), (3, .int x38), (0, .ref r0), (1, .int n1), (2, .int x1)]) rfl rfl (Nat.le_of_ble_eq_true rfl) rfl ?_
            refine z_iconst C (z := 0) rfl rfl rfl (fun x48 ex48 => ?_)
            have J49 : ∀ (nn50 : Nat) (x51 : Int32) (x54 : Int32), (MN (41 - x54.toInt) nn50) → (0 ≤ x51.toInt) → (x51.toInt ≤ 1) → (0 ≤ x54.toInt) → (x54.toInt ≤ 41) → (ILQ x51.toInt y9.toInt w_r0_1_0.toInt w_r0_4_40.toInt R9 (fun m => (I r0_26 (9 * t9.toNatClampNeg + m)).toInt) x54.toInt) → (x54.toInt ≤ w_r0_4_40.toInt + 1) → V 144 [(0, .ref r0), (2, .int x1), (3, .int x38), (4, .int x51), (5, .int x54)] [] (T, N, I39, L21, R) 0 0 := by
              intro nn50
              induction nn50 using Nat.strongRecOn with
              | _ nn50 ihJ49 =>
                intro x51 x54 hmnn50 b52 b53 b55 b56 ff144_0 ff144_1
                have gx51 := rg x51
                have gx54 := rg x54
                refine k_iload C rfl rfl rfl ?_
                refine k_aload_n C rfl rfl rfl ?_
                refine g_R C rfl rfl rfl T_r0 rfl R_r0_4 ?_
                refine z_bipush C (z := 42) rfl rfl rfl (fun x57 ex57 => ?_)
                refine a_I C rfl rfl T_r0_4 (by rw [N_r0_4]; exact vpi (by omega) (by omega)) ((congrArg (I39 r0_4) (nck (n := 42) (by omega))).trans e44) ?_
                refine b_icmp_gt C (t := 197) rfl rfl rfl (fun c58 => ?_) (fun c58 => ?_)
                · skip
                  refine k_iload C rfl rfl rfl ?_
                  exact k_iret C rfl (Or.inr ⟨rfl, z01 (by omega) (by omega)⟩) (Nat.le_of_ble_eq_true rfl) (Nat.le_of_ble_eq_true rfl) ⟨_, _, _, rfl, rfl, by omega, by omega, fun a1 a4 a5 a27 a28 h1 h4 h5 h27 h28 => by cases (R_r0_1.symm.trans h1); cases (R_r0_4.symm.trans h4); cases (R_r0_5.symm.trans h5); cases (R_r0_27.symm.trans h27); cases (R_r0_28.symm.trans h28); intro hx; simp only [k0_r0_4_40, k0_r0_1_0]; exact ILQ.y ff144_0 hx (by omega) (fun m hm => (hR m hm).2.2) hgt ht9 (fun i hi => by show (_ : Int32).toInt = (_ : Int32).toInt; rw [hu129, u2_k (by omega), ew28]) (by show (_ : Int32).toInt = _; rw [hu129, u2_s, ey9]) ⟨hby.1, hby.2.1⟩, fun a1 a4 a5 a27 a28 h1 h4 h5 h27 h28 => by cases (R_r0_1.symm.trans h1); cases (R_r0_4.symm.trans h4); cases (R_r0_5.symm.trans h5); cases (R_r0_27.symm.trans h27); cases (R_r0_28.symm.trans h28); intro hx; simp only [k0_r0_4_40, k0_r0_1_0]; exact ILQ.n ff144_0 hx hR hgt ht9 hyR hm0 h10 (by omega), fun a28 h28 => by cases (R_r0_28.symm.trans h28); intro r hr; rw [hu129, u2_k (by omega), ew28], fun a4 h4 => by cases (R_r0_4.symm.trans h4); exact (fun r z0 => ((congrFun (CM.j0 S40 R_r0_4 (by decide)) r).trans ((congrFun (CM.j0 S25 R_r0_4 (by decide)) r).trans (F10 r z0)))), fun a5 h5 => by cases (R_r0_5.symm.trans h5); exact (fun r z0 => ((congrFun (CM.j0 S40 R_r0_5 (by decide)) r).trans ((F27 r z0).trans (F11 r z0)))), hI39, (CM.cons S9 (CM.cons S25 (CM.mono S40 (by decide) (by decide)) (by decide) (by decide)) (by decide) (by decide))⟩
                refine k_iload C rfl rfl rfl ?_
                refine b_if_eq C (t := 197) rfl rfl rfl (fun c59 => ?_) (fun c59 => ?_)
                · skip
                  refine k_iload C rfl rfl rfl ?_
                  exact k_iret C rfl (Or.inr ⟨rfl, z01 (by omega) (by omega)⟩) (Nat.le_of_ble_eq_true rfl) (Nat.le_of_ble_eq_true rfl) ⟨_, _, _, rfl, rfl, by omega, by omega, fun a1 a4 a5 a27 a28 h1 h4 h5 h27 h28 => by cases (R_r0_1.symm.trans h1); cases (R_r0_4.symm.trans h4); cases (R_r0_5.symm.trans h5); cases (R_r0_27.symm.trans h27); cases (R_r0_28.symm.trans h28); intro hx; simp only [k0_r0_4_40, k0_r0_1_0]; exact ILQ.y ff144_0 hx (by omega) (fun m hm => (hR m hm).2.2) hgt ht9 (fun i hi => by show (_ : Int32).toInt = (_ : Int32).toInt; rw [hu129, u2_k (by omega), ew28]) (by show (_ : Int32).toInt = _; rw [hu129, u2_s, ey9]) ⟨hby.1, hby.2.1⟩, fun a1 a4 a5 a27 a28 h1 h4 h5 h27 h28 => by cases (R_r0_1.symm.trans h1); cases (R_r0_4.symm.trans h4); cases (R_r0_5.symm.trans h5); cases (R_r0_27.symm.trans h27); cases (R_r0_28.symm.trans h28); intro hx; simp only [k0_r0_4_40, k0_r0_1_0]; exact ILQ.n ff144_0 hx hR hgt ht9 hyR hm0 h10 (by omega), fun a28 h28 => by cases (R_r0_28.symm.trans h28); intro r hr; rw [hu129, u2_k (by omega), ew28], fun a4 h4 => by cases (R_r0_4.symm.trans h4); exact (fun r z0 => ((congrFun (CM.j0 S40 R_r0_4 (by decide)) r).trans ((congrFun (CM.j0 S25 R_r0_4 (by decide)) r).trans (F10 r z0)))), fun a5 h5 => by cases (R_r0_5.symm.trans h5); exact (fun r z0 => ((congrFun (CM.j0 S40 R_r0_5 (by decide)) r).trans ((F27 r z0).trans (F11 r z0)))), hI39, (CM.cons S9 (CM.cons S25 (CM.mono S40 (by decide) (by decide)) (by decide) (by decide)) (by decide) (by decide))⟩
                refine k_aload_n C rfl rfl rfl ?_
                refine z_bipush C (z := 42) rfl rfl rfl (fun x60 ex60 => ?_)
                refine k_iload C rfl rfl rfl ?_
                have q61 : x60.toNatClampNeg = 42 := nck (by omega)
                refine c_VI C (a_X12_of hI39 H_r0 (by omega) (by omega) (by omega) (by omega)) rfl rfl rfl rfl rfl ⟨_, rfl, rfl, T_r0, Nat.le_of_ble_eq_true rfl⟩ rfl rfl (Nat.le_of_ble_eq_true rfl) (Nat.le_of_ble_eq_true rfl) (Nat.le_of_ble_eq_true rfl) ?_
                rintro x62 _ _ ⟨o0x62, o1x62, p0x62, rfl, rfl⟩
                have p0x62 := p0x62 r0_5 R_r0_5
                have gx62 := rg x62
                try simp only [q61, e41, e42, e43, e44, e45] at p0x62
                try have q0x62 := congrArg Int32.toInt p0x62
                have ho166 := (show x62.toInt = RI I39 r0_5 42 x54.toNatClampNeg from p0x62).trans (congrFun h5R _)
                refine k_aload_n C rfl rfl rfl ?_
                refine k_iload_n C rfl rfl rfl ?_
                refine k_aload_n C rfl rfl rfl ?_
                refine k_iload_n C rfl rfl rfl ?_
                refine k_iload C rfl rfl rfl ?_
                refine c_VI C (a_X12_powerAt_x hI39 H_r0 (by omega) (by omega) (by omega) (by omega)) rfl rfl rfl rfl rfl ⟨_, rfl, rfl, T_r0, Nat.le_of_ble_eq_true rfl⟩ rfl rfl (Nat.le_of_ble_eq_true rfl) (Nat.le_of_ble_eq_true rfl) (Nat.le_of_ble_eq_true rfl) ?_
                rintro x63 _ _ ⟨o0x63, o1x63, p0x63, rfl, rfl⟩
                have p0x63 := p0x63 r0_26 R_r0_26
                have gx63 := rg x63
                try simp only [e41, e42, e43, e44, e45] at p0x63
                try have q0x63 := congrArg Int32.toInt p0x63
                have hw175 := p0x63
                (try rw [(CM.j0 (W := []) (WA := [4, 5, 28]) (CM.cons S9 (CM.cons S25 (CM.mono S40 (by decide) (by decide)) (by decide) (by decide)) (by decide) (by decide)) R_r0_26 (by decide))] at hw175)
                have q64 : x38.toNatClampNeg = 0 := nck (by omega)
                refine c_VI C (a_X12_times hI39 H_r0 (by omega) (by omega) (by omega) (by omega)) rfl rfl rfl rfl rfl ⟨_, rfl, rfl, T_r0, Nat.le_of_ble_eq_true rfl⟩ rfl rfl (Nat.le_of_ble_eq_true rfl) (Nat.le_of_ble_eq_true rfl) (Nat.le_of_ble_eq_true rfl) ?_
                rintro x65 _ _ ⟨o0x65, o1x65, p0x65, p1x65, p2x65, p3x65, rfl, rfl⟩
                have p0x65 := p0x65 r0_1 R_r0_1
                have p2x65 := p2x65 r0_1 R_r0_1
                have p3x65 := p3x65 r0_1 R_r0_1
                have gx65 := rg x65
                try simp only [q64, e41, e42, e43, e44, e45] at p0x65
                try have q0x65 := congrArg Int32.toInt p0x65
                try simp only [q64, e41, e42, e43, e44, e45] at p1x65
                try have q1x65 := congrArg Int32.toInt p1x65
                try simp only [q64, e41, e42, e43, e44, e45] at p2x65
                try have q2x65 := congrArg Int32.toInt p2x65
                try simp only [q64, e41, e42, e43, e44, e45] at p3x65
                try have q3x65 := congrArg Int32.toInt p3x65
                have hm178 := p3x65
                refine b_icmp_ne C (t := 188) rfl rfl rfl (fun c66 => ?_) (fun c66 => ?_)
                · skip
                  refine z_iconst C (z := 0) rfl rfl rfl (fun x67 ex67 => ?_)
                  refine k_istore C (lw := [(4, .int x67), (0, .ref r0), (2, .int x1), (3, .int x38), (5, .int x54)]) rfl rfl (Nat.le_of_ble_eq_true rfl) rfl ?_
                  refine z_iinc C (z := 1) (lw := fun x68 => [(5, .int x68), (4, .int x67), (0, .ref r0), (2, .int x1), (3, .int x38)]) rfl rfl rfl (Nat.le_of_ble_eq_true rfl) rfl ⟨by omega, by omega⟩ (fun _ => rfl) (fun x68 ex68 => ?_)
                  show V 194 [(5, .int x68), (4, .int x67), (0, .ref r0), (2, .int x1), (3, .int x38)] _ _ _ _
                  refine k_goto C (pc2 := 144) rfl rfl ?_
                  refine k_sub S [(0, .ref r0), (2, .int x1), (3, .int x38), (4, .int x67), (5, .int x68)] (List.forall_mem_cons.mpr ⟨List.mem_of_getElem? (i := 2) rfl, List.forall_mem_cons.mpr ⟨List.mem_of_getElem? (i := 3) rfl, List.forall_mem_cons.mpr ⟨List.mem_of_getElem? (i := 4) rfl, List.forall_mem_cons.mpr ⟨List.mem_of_getElem? (i := 1) rfl, List.forall_mem_cons.mpr ⟨List.mem_of_getElem? (i := 0) rfl, fun _ h => nomatch h⟩⟩⟩⟩⟩) ?_
                  exact ihJ49 _ (MN.lt hmnn50 (by omega) (by omega)) x67 x68 rfl (by omega) (by omega) (by omega) (by omega) (by exact ILQ.s ff144_0 (by omega) (by omega) ho166 (by rw [hw175, et9]) (by rw [ey9]; exact hm178) (by omega) (by omega) (by omega) (by omega)) (by omega)
                refine z_iconst C (z := 1) rfl rfl rfl (fun x69 ex69 => ?_)
                refine k_goto C (pc2 := 189) rfl rfl ?_
                refine k_istore C (lw := [(4, .int x69), (0, .ref r0), (2, .int x1), (3, .int x38), (5, .int x54)]) rfl rfl (Nat.le_of_ble_eq_true rfl) rfl ?_
                refine z_iinc C (z := 1) (lw := fun x70 => [(5, .int x70), (4, .int x69), (0, .ref r0), (2, .int x1), (3, .int x38)]) rfl rfl rfl (Nat.le_of_ble_eq_true rfl) rfl ⟨by omega, by omega⟩ (fun _ => rfl) (fun x70 ex70 => ?_)
                show V 194 [(5, .int x70), (4, .int x69), (0, .ref r0), (2, .int x1), (3, .int x38)] _ _ _ _
                refine k_goto C (pc2 := 144) rfl rfl ?_
                refine k_sub S [(0, .ref r0), (2, .int x1), (3, .int x38), (4, .int x69), (5, .int x70)] (List.forall_mem_cons.mpr ⟨List.mem_of_getElem? (i := 2) rfl, List.forall_mem_cons.mpr ⟨List.mem_of_getElem? (i := 3) rfl, List.forall_mem_cons.mpr ⟨List.mem_of_getElem? (i := 4) rfl, List.forall_mem_cons.mpr ⟨List.mem_of_getElem? (i := 1) rfl, List.forall_mem_cons.mpr ⟨List.mem_of_getElem? (i := 0) rfl, fun _ h => nomatch h⟩⟩⟩⟩⟩) ?_
                exact ihJ49 _ (MN.lt hmnn50 (by omega) (by omega)) x69 x70 rfl (by omega) (by omega) (by omega) (by omega) (by exact ILQ.s ff144_0 (by omega) (by omega) ho166 (by rw [hw175, et9]) (by rw [ey9]; exact hm178) (by omega) (by omega) (by omega) (by omega)) (by omega)
            refine k_istore C (lw := [(5, .int x48), (4, .int x47), (3, .int x38), (0, .ref r0), (1, .int n1), (2, .int x1)]) rfl rfl (Nat.le_of_ble_eq_true rfl) rfl ?_
            refine k_sub S [(0, .ref r0), (2, .int x1), (3, .int x38), (4, .int x47), (5, .int x48)] (List.forall_mem_cons.mpr ⟨List.mem_of_getElem? (i := 3) rfl, List.forall_mem_cons.mpr ⟨List.mem_of_getElem? (i := 5) rfl, List.forall_mem_cons.mpr ⟨List.mem_of_getElem? (i := 2) rfl, List.forall_mem_cons.mpr ⟨List.mem_of_getElem? (i := 1) rfl, List.forall_mem_cons.mpr ⟨List.mem_of_getElem? (i := 0) rfl, fun _ h => nomatch h⟩⟩⟩⟩⟩) ?_
            exact J49 _ x47 x48 rfl (by omega) (by omega) (by omega) (by omega) (by exact ILQ.z (by omega) (by omega)) (by omega)
          refine z_iconst C (z := 1) rfl rfl rfl (fun x71 ex71 => ?_)
          refine k_goto C (pc2 := 139) rfl rfl ?_
          refine k_istore C (lw := [(4, .int x71), (3, .int x38), (0, .ref r0), (1, .int n1), (2, .int x1)]) rfl rfl (Nat.le_of_ble_eq_true rfl) rfl ?_
          refine z_iconst C (z := 0) rfl rfl rfl (fun x72 ex72 => ?_)
          have J73 : ∀ (nn74 : Nat) (x75 : Int32) (x78 : Int32), (MN (41 - x78.toInt) nn74) → (0 ≤ x75.toInt) → (x75.toInt ≤ 1) → (0 ≤ x78.toInt) → (x78.toInt ≤ 41) → (ILQ x75.toInt y9.toInt w_r0_1_0.toInt w_r0_4_40.toInt R9 (fun m => (I r0_26 (9 * t9.toNatClampNeg + m)).toInt) x78.toInt) → (x78.toInt ≤ w_r0_4_40.toInt + 1) → V 144 [(0, .ref r0), (2, .int x1), (3, .int x38), (4, .int x75), (5, .int x78)] [] (T, N, I39, L21, R) 0 0 := by
            intro nn74
            induction nn74 using Nat.strongRecOn with
            | _ nn74 ihJ73 =>
              intro x75 x78 hmnn74 b76 b77 b79 b80 ff144_0 ff144_1
              have gx75 := rg x75
              have gx78 := rg x78
              refine k_iload C rfl rfl rfl ?_
              refine k_aload_n C rfl rfl rfl ?_
              refine g_R C rfl rfl rfl T_r0 rfl R_r0_4 ?_
              refine z_bipush C (z := 42) rfl rfl rfl (fun x81 ex81 => ?_)
              refine a_I C rfl rfl T_r0_4 (by rw [N_r0_4]; exact vpi (by omega) (by omega)) ((congrArg (I39 r0_4) (nck (n := 42) (by omega))).trans e44) ?_
              refine b_icmp_gt C (t := 197) rfl rfl rfl (fun c82 => ?_) (fun c82 => ?_)
              · skip
                refine k_iload C rfl rfl rfl ?_
                exact k_iret C rfl (Or.inr ⟨rfl, z01 (by omega) (by omega)⟩) (Nat.le_of_ble_eq_true rfl) (Nat.le_of_ble_eq_true rfl) ⟨_, _, _, rfl, rfl, by omega, by omega, fun a1 a4 a5 a27 a28 h1 h4 h5 h27 h28 => by cases (R_r0_1.symm.trans h1); cases (R_r0_4.symm.trans h4); cases (R_r0_5.symm.trans h5); cases (R_r0_27.symm.trans h27); cases (R_r0_28.symm.trans h28); intro hx; simp only [k0_r0_4_40, k0_r0_1_0]; exact ILQ.y ff144_0 hx (by omega) (fun m hm => (hR m hm).2.2) hgt ht9 (fun i hi => by show (_ : Int32).toInt = (_ : Int32).toInt; rw [hu129, u2_k (by omega), ew28]) (by show (_ : Int32).toInt = _; rw [hu129, u2_s, ey9]) ⟨hby.1, hby.2.1⟩, fun a1 a4 a5 a27 a28 h1 h4 h5 h27 h28 => by cases (R_r0_1.symm.trans h1); cases (R_r0_4.symm.trans h4); cases (R_r0_5.symm.trans h5); cases (R_r0_27.symm.trans h27); cases (R_r0_28.symm.trans h28); intro hx; simp only [k0_r0_4_40, k0_r0_1_0]; exact ILQ.n ff144_0 hx hR hgt ht9 hyR hm0 h10 (by omega), fun a28 h28 => by cases (R_r0_28.symm.trans h28); intro r hr; rw [hu129, u2_k (by omega), ew28], fun a4 h4 => by cases (R_r0_4.symm.trans h4); exact (fun r z0 => ((congrFun (CM.j0 S40 R_r0_4 (by decide)) r).trans ((congrFun (CM.j0 S25 R_r0_4 (by decide)) r).trans (F10 r z0)))), fun a5 h5 => by cases (R_r0_5.symm.trans h5); exact (fun r z0 => ((congrFun (CM.j0 S40 R_r0_5 (by decide)) r).trans ((F27 r z0).trans (F11 r z0)))), hI39, (CM.cons S9 (CM.cons S25 (CM.mono S40 (by decide) (by decide)) (by decide) (by decide)) (by decide) (by decide))⟩
              refine k_iload C rfl rfl rfl ?_
              refine b_if_eq C (t := 197) rfl rfl rfl (fun c83 => ?_) (fun c83 => ?_)
              · skip
                refine k_iload C rfl rfl rfl ?_
                exact k_iret C rfl (Or.inr ⟨rfl, z01 (by omega) (by omega)⟩) (Nat.le_of_ble_eq_true rfl) (Nat.le_of_ble_eq_true rfl) ⟨_, _, _, rfl, rfl, by omega, by omega, fun a1 a4 a5 a27 a28 h1 h4 h5 h27 h28 => by cases (R_r0_1.symm.trans h1); cases (R_r0_4.symm.trans h4); cases (R_r0_5.symm.trans h5); cases (R_r0_27.symm.trans h27); cases (R_r0_28.symm.trans h28); intro hx; simp only [k0_r0_4_40, k0_r0_1_0]; exact ILQ.y ff144_0 hx (by omega) (fun m hm => (hR m hm).2.2) hgt ht9 (fun i hi => by show (_ : Int32).toInt = (_ : Int32).toInt; rw [hu129, u2_k (by omega), ew28]) (by show (_ : Int32).toInt = _; rw [hu129, u2_s, ey9]) ⟨hby.1, hby.2.1⟩, fun a1 a4 a5 a27 a28 h1 h4 h5 h27 h28 => by cases (R_r0_1.symm.trans h1); cases (R_r0_4.symm.trans h4); cases (R_r0_5.symm.trans h5); cases (R_r0_27.symm.trans h27); cases (R_r0_28.symm.trans h28); intro hx; simp only [k0_r0_4_40, k0_r0_1_0]; exact ILQ.n ff144_0 hx hR hgt ht9 hyR hm0 h10 (by omega), fun a28 h28 => by cases (R_r0_28.symm.trans h28); intro r hr; rw [hu129, u2_k (by omega), ew28], fun a4 h4 => by cases (R_r0_4.symm.trans h4); exact (fun r z0 => ((congrFun (CM.j0 S40 R_r0_4 (by decide)) r).trans ((congrFun (CM.j0 S25 R_r0_4 (by decide)) r).trans (F10 r z0)))), fun a5 h5 => by cases (R_r0_5.symm.trans h5); exact (fun r z0 => ((congrFun (CM.j0 S40 R_r0_5 (by decide)) r).trans ((F27 r z0).trans (F11 r z0)))), hI39, (CM.cons S9 (CM.cons S25 (CM.mono S40 (by decide) (by decide)) (by decide) (by decide)) (by decide) (by decide))⟩
              refine k_aload_n C rfl rfl rfl ?_
              refine z_bipush C (z := 42) rfl rfl rfl (fun x84 ex84 => ?_)
              refine k_iload C rfl rfl rfl ?_
              have q85 : x84.toNatClampNeg = 42 := nck (by omega)
              refine c_VI C (a_X12_of hI39 H_r0 (by omega) (by omega) (by omega) (by omega)) rfl rfl rfl rfl rfl ⟨_, rfl, rfl, T_r0, Nat.le_of_ble_eq_true rfl⟩ rfl rfl (Nat.le_of_ble_eq_true rfl) (Nat.le_of_ble_eq_true rfl) (Nat.le_of_ble_eq_true rfl) ?_
              rintro x86 _ _ ⟨o0x86, o1x86, p0x86, rfl, rfl⟩
              have p0x86 := p0x86 r0_5 R_r0_5
              have gx86 := rg x86
              try simp only [q85, e41, e42, e43, e44, e45] at p0x86
              try have q0x86 := congrArg Int32.toInt p0x86
              have ho166 := (show x86.toInt = RI I39 r0_5 42 x78.toNatClampNeg from p0x86).trans (congrFun h5R _)
              refine k_aload_n C rfl rfl rfl ?_
              refine k_iload_n C rfl rfl rfl ?_
              refine k_aload_n C rfl rfl rfl ?_
              refine k_iload_n C rfl rfl rfl ?_
              refine k_iload C rfl rfl rfl ?_
              refine c_VI C (a_X12_powerAt_x hI39 H_r0 (by omega) (by omega) (by omega) (by omega)) rfl rfl rfl rfl rfl ⟨_, rfl, rfl, T_r0, Nat.le_of_ble_eq_true rfl⟩ rfl rfl (Nat.le_of_ble_eq_true rfl) (Nat.le_of_ble_eq_true rfl) (Nat.le_of_ble_eq_true rfl) ?_
              rintro x87 _ _ ⟨o0x87, o1x87, p0x87, rfl, rfl⟩
              have p0x87 := p0x87 r0_26 R_r0_26
              have gx87 := rg x87
              try simp only [e41, e42, e43, e44, e45] at p0x87
              try have q0x87 := congrArg Int32.toInt p0x87
              have hw175 := p0x87
              (try rw [(CM.j0 (W := []) (WA := [4, 5, 28]) (CM.cons S9 (CM.cons S25 (CM.mono S40 (by decide) (by decide)) (by decide) (by decide)) (by decide) (by decide)) R_r0_26 (by decide))] at hw175)
              refine c_VI C (a_X12_times hI39 H_r0 (by omega) (by omega) (by omega) (by omega)) rfl rfl rfl rfl rfl ⟨_, rfl, rfl, T_r0, Nat.le_of_ble_eq_true rfl⟩ rfl rfl (Nat.le_of_ble_eq_true rfl) (Nat.le_of_ble_eq_true rfl) (Nat.le_of_ble_eq_true rfl) ?_
              rintro x88 _ _ ⟨o0x88, o1x88, p0x88, p1x88, p2x88, p3x88, rfl, rfl⟩
              have p0x88 := p0x88 r0_1 R_r0_1
              have p2x88 := p2x88 r0_1 R_r0_1
              have p3x88 := p3x88 r0_1 R_r0_1
              have gx88 := rg x88
              try simp only [e41, e42, e43, e44, e45] at p0x88
              try have q0x88 := congrArg Int32.toInt p0x88
              try simp only [e41, e42, e43, e44, e45] at p1x88
              try have q1x88 := congrArg Int32.toInt p1x88
              try simp only [e41, e42, e43, e44, e45] at p2x88
              try have q2x88 := congrArg Int32.toInt p2x88
              try simp only [e41, e42, e43, e44, e45] at p3x88
              try have q3x88 := congrArg Int32.toInt p3x88
              have hm178 := p3x88
              refine b_icmp_ne C (t := 188) rfl rfl rfl (fun c89 => ?_) (fun c89 => ?_)
              · skip
                refine z_iconst C (z := 0) rfl rfl rfl (fun x90 ex90 => ?_)
                refine k_istore C (lw := [(4, .int x90), (0, .ref r0), (2, .int x1), (3, .int x38), (5, .int x78)]) rfl rfl (Nat.le_of_ble_eq_true rfl) rfl ?_
                refine z_iinc C (z := 1) (lw := fun x91 => [(5, .int x91), (4, .int x90), (0, .ref r0), (2, .int x1), (3, .int x38)]) rfl rfl rfl (Nat.le_of_ble_eq_true rfl) rfl ⟨by omega, by omega⟩ (fun _ => rfl) (fun x91 ex91 => ?_)
                show V 194 [(5, .int x91), (4, .int x90), (0, .ref r0), (2, .int x1), (3, .int x38)] _ _ _ _
                refine k_goto C (pc2 := 144) rfl rfl ?_
                refine k_sub S [(0, .ref r0), (2, .int x1), (3, .int x38), (4, .int x90), (5, .int x91)] (List.forall_mem_cons.mpr ⟨List.mem_of_getElem? (i := 2) rfl, List.forall_mem_cons.mpr ⟨List.mem_of_getElem? (i := 3) rfl, List.forall_mem_cons.mpr ⟨List.mem_of_getElem? (i := 4) rfl, List.forall_mem_cons.mpr ⟨List.mem_of_getElem? (i := 1) rfl, List.forall_mem_cons.mpr ⟨List.mem_of_getElem? (i := 0) rfl, fun _ h => nomatch h⟩⟩⟩⟩⟩) ?_
                exact ihJ73 _ (MN.lt hmnn74 (by omega) (by omega)) x90 x91 rfl (by omega) (by omega) (by omega) (by omega) (by exact ILQ.s ff144_0 (by omega) (by omega) ho166 (by rw [hw175, et9]) (by rw [ey9]; exact hm178) (by omega) (by omega) (by omega) (by omega)) (by omega)
              refine z_iconst C (z := 1) rfl rfl rfl (fun x92 ex92 => ?_)
              refine k_goto C (pc2 := 189) rfl rfl ?_
              refine k_istore C (lw := [(4, .int x92), (0, .ref r0), (2, .int x1), (3, .int x38), (5, .int x78)]) rfl rfl (Nat.le_of_ble_eq_true rfl) rfl ?_
              refine z_iinc C (z := 1) (lw := fun x93 => [(5, .int x93), (4, .int x92), (0, .ref r0), (2, .int x1), (3, .int x38)]) rfl rfl rfl (Nat.le_of_ble_eq_true rfl) rfl ⟨by omega, by omega⟩ (fun _ => rfl) (fun x93 ex93 => ?_)
              show V 194 [(5, .int x93), (4, .int x92), (0, .ref r0), (2, .int x1), (3, .int x38)] _ _ _ _
              refine k_goto C (pc2 := 144) rfl rfl ?_
              refine k_sub S [(0, .ref r0), (2, .int x1), (3, .int x38), (4, .int x92), (5, .int x93)] (List.forall_mem_cons.mpr ⟨List.mem_of_getElem? (i := 2) rfl, List.forall_mem_cons.mpr ⟨List.mem_of_getElem? (i := 3) rfl, List.forall_mem_cons.mpr ⟨List.mem_of_getElem? (i := 4) rfl, List.forall_mem_cons.mpr ⟨List.mem_of_getElem? (i := 1) rfl, List.forall_mem_cons.mpr ⟨List.mem_of_getElem? (i := 0) rfl, fun _ h => nomatch h⟩⟩⟩⟩⟩) ?_
              exact ihJ73 _ (MN.lt hmnn74 (by omega) (by omega)) x92 x93 rfl (by omega) (by omega) (by omega) (by omega) (by exact ILQ.s ff144_0 (by omega) (by omega) ho166 (by rw [hw175, et9]) (by rw [ey9]; exact hm178) (by omega) (by omega) (by omega) (by omega)) (by omega)
          refine k_istore C (lw := [(5, .int x72), (4, .int x71), (3, .int x38), (0, .ref r0), (1, .int n1), (2, .int x1)]) rfl rfl (Nat.le_of_ble_eq_true rfl) rfl ?_
          refine k_sub S [(0, .ref r0), (2, .int x1), (3, .int x38), (4, .int x71), (5, .int x72)] (List.forall_mem_cons.mpr ⟨List.mem_of_getElem? (i := 3) rfl, List.forall_mem_cons.mpr ⟨List.mem_of_getElem? (i := 5) rfl, List.forall_mem_cons.mpr ⟨List.mem_of_getElem? (i := 2) rfl, List.forall_mem_cons.mpr ⟨List.mem_of_getElem? (i := 1) rfl, List.forall_mem_cons.mpr ⟨List.mem_of_getElem? (i := 0) rfl, fun _ h => nomatch h⟩⟩⟩⟩⟩) ?_
          exact J73 _ x71 x72 rfl (by omega) (by omega) (by omega) (by omega) (by exact ILQ.z (by omega) (by omega)) (by omega)
        refine k_aload_n C rfl rfl rfl ?_
        refine z_bipush C (z := 42) rfl rfl rfl (fun x94 ex94 => ?_)
        refine z_iconst C (z := 0) rfl rfl rfl (fun x95 ex95 => ?_)
        have q96 : x94.toNatClampNeg = 42 := nck (by omega)
        have q97 : x95.toNatClampNeg = 0 := nck (by omega)
        refine c_VI C (a_X12_of hI26 H_r0 (by omega) (by omega) (by omega) (by omega)) rfl rfl rfl rfl rfl ⟨_, rfl, rfl, T_r0, Nat.le_of_ble_eq_true rfl⟩ rfl rfl (Nat.le_of_ble_eq_true rfl) (Nat.le_of_ble_eq_true rfl) (Nat.le_of_ble_eq_true rfl) ?_
        rintro x98 _ _ ⟨o0x98, o1x98, p0x98, rfl, rfl⟩
        have p0x98 := p0x98 r0_5 R_r0_5
        have gx98 := rg x98
        try simp only [q96, q97, e28, e29, e30, e31] at p0x98
        try have q0x98 := congrArg Int32.toInt p0x98
        have hy := p0x98
        obtain ⟨m0, em0⟩ : ∃ m : Nat, m = 0 := ⟨_, rfl⟩
        have hy0 : x98.toInt = RI I20 r0_5 42 m0 := (by rw [em0]; exact hy)
        have hm0 : (m0 : Int) ≤ w_r0_4_40.toInt := (by omega)
        have h10 : BNI w_r0_4_40.toInt m0 * PTV w_r0_1_0.toInt t9.toInt (w_r0_4_40.toInt + 1) m0 = 1 := (by rw [em0, PTV.a1 (by omega), Int.mul_one]; rfl)
        refine k_goto C (pc2 := 122) rfl rfl ?_
        refine k_istore_n C (lw := [(3, .int x98), (0, .ref r0), (1, .int n1), (2, .int x1)]) rfl rfl (Nat.le_of_ble_eq_true rfl) rfl ?_
        refine k_aload_n C rfl rfl rfl ?_
        refine g_R C rfl rfl rfl T_r0 rfl R_r0_28 ?_
        refine k_iload_n C rfl rfl rfl ?_
        refine k_iload_n C rfl rfl rfl ?_
        have ew28 := (CM.j0 (W := []) (WA := [4, 5]) (CM.cons S9 (CM.mono S25 (by decide) (by decide)) (by decide) (by decide)) R_r0_28 (by decide))
        obtain ⟨y9, ey9⟩ : ∃ y : Int32, y = x98 := ⟨_, rfl⟩
        have ey9i : y9.toInt = x98.toInt := (by rw [ey9])
        obtain ⟨R9, eR9⟩ : ∃ f : Nat → Int, RI I20 r0_5 42 = f := ⟨_, rfl⟩
        have hR : ∀ m : Nat, (m : Int) ≤ w_r0_4_40.toInt → 0 ≤ R9 m ∧ R9 m < w_r0_1_0.toInt ∧ PmE w_r0_1_0.toInt (R9 m) ((RI I r0_5 40) m - BNI w_r0_4_40.toInt m * SPS w_r0_1_0.toInt (w_r0_4_40.toInt + 1) (NF I r0_27) (NF I r0_28) n1.toNatClampNeg m) := fun m hm => by (have h9 := hRL m hm; rw [if_neg (by omega), eR9] at h9; exact h9)
        have hyR : y9.toInt = R9 m0 := (by rw [ey9]; exact hy0.trans (congrFun eR9 m0))
        have hby := hR m0 hm0
        rw [← hyR] at hby
        obtain ⟨T_r0_28, N_r0_28, A_r0_28⟩ := id H_r0_28
        refine z_sI C rfl rfl T_r0_28 N_r0_28 (by omega) (by omega) (fun I99 uI99 => ?_)
        have hI99 : IM R r0 I99 := IM.arr hI26 G_r0 R_r0_28 ⟨(fun h => absurd h (by decide)), (fun h => absurd h (by decide)), (fun _ => ⟨by omega, by omega⟩)⟩ (fun h => absurd h (by decide)) uI99
        have S100 : CM A R r0 [] [28] I20 L21 I99 L21 := CM.a G_r0 R_r0_28 A_r0_28 uI99
        have e101 := u2_n uI99 (mF.nq G_r0 R_r0_4 R_r0_28 (by decide)) e28
        have e102 := u2_n uI99 (mF.nq G_r0 R_r0_1 R_r0_28 (by decide)) e29
        have e103 := u2_n uI99 (mF.nq G_r0 R_r0_27 R_r0_28 (by decide)) e30
        have e104 := u2_n uI99 (mF.nq G_r0 R_r0_4 R_r0_28 (by decide)) e31
        have e105 := u2_e uI99
        have hu129 := uI99
        have h5 := CM.j0 S100 R_r0_5 (by decide)
        have h5R : RI I99 r0_5 42 = R9 := funext fun j => by (show (I99 r0_5 _).toInt = _; rw [h5]; exact congrFun eR9 j)
        refine k_iload_n C rfl rfl rfl ?_
        refine b_if_eq C (t := 138) rfl rfl rfl (fun c106 => ?_) (fun c106 => ?_)
        · skip
          refine z_iconst C (z := 0) rfl rfl rfl (fun x107 ex107 => ?_)
          refine k_istore C (lw := [(4, .int x107), (3, .int x98), (0, .ref r0), (1, .int n1), (2, .int x1)]) rfl rfl (Nat.le_of_ble_eq_true rfl) rfl ?_
          refine z_iconst C (z := 0) rfl rfl rfl (fun x108 ex108 => ?_)
          have J109 : ∀ (nn110 : Nat) (x111 : Int32) (x114 : Int32), (MN (41 - x114.toInt) nn110) → (0 ≤ x111.toInt) → (x111.toInt ≤ 1) → (0 ≤ x114.toInt) → (x114.toInt ≤ 41) → (ILQ x111.toInt y9.toInt w_r0_1_0.toInt w_r0_4_40.toInt R9 (fun m => (I r0_26 (9 * t9.toNatClampNeg + m)).toInt) x114.toInt) → (x114.toInt ≤ w_r0_4_40.toInt + 1) → V 144 [(0, .ref r0), (2, .int x1), (3, .int x98), (4, .int x111), (5, .int x114)] [] (T, N, I99, L21, R) 0 0 := by
            intro nn110
            induction nn110 using Nat.strongRecOn with
            | _ nn110 ihJ109 =>
              intro x111 x114 hmnn110 b112 b113 b115 b116 ff144_0 ff144_1
              have gx111 := rg x111
              have gx114 := rg x114
              refine k_iload C rfl rfl rfl ?_
              refine k_aload_n C rfl rfl rfl ?_
              refine g_R C rfl rfl rfl T_r0 rfl R_r0_4 ?_
              refine z_bipush C (z := 42) rfl rfl rfl (fun x117 ex117 => ?_)
              obtain ⟨T_r0_4, N_r0_4, A_r0_4⟩ := id H_r0_4
              refine a_I C rfl rfl T_r0_4 (by rw [N_r0_4]; exact vpi (by omega) (by omega)) ((congrArg (I99 r0_4) (nck (n := 42) (by omega))).trans e104) ?_
              refine b_icmp_gt C (t := 197) rfl rfl rfl (fun c118 => ?_) (fun c118 => ?_)
              · skip
                refine k_iload C rfl rfl rfl ?_
                exact k_iret C rfl (Or.inr ⟨rfl, z01 (by omega) (by omega)⟩) (Nat.le_of_ble_eq_true rfl) (Nat.le_of_ble_eq_true rfl) ⟨_, _, _, rfl, rfl, by omega, by omega, fun a1 a4 a5 a27 a28 h1 h4 h5 h27 h28 => by cases (R_r0_1.symm.trans h1); cases (R_r0_4.symm.trans h4); cases (R_r0_5.symm.trans h5); cases (R_r0_27.symm.trans h27); cases (R_r0_28.symm.trans h28); intro hx; simp only [k0_r0_4_40, k0_r0_1_0]; exact ILQ.y ff144_0 hx (by omega) (fun m hm => (hR m hm).2.2) hgt ht9 (fun i hi => by show (_ : Int32).toInt = (_ : Int32).toInt; rw [hu129, u2_k (by omega), ew28]) (by show (_ : Int32).toInt = _; rw [hu129, u2_s, ey9]) ⟨hby.1, hby.2.1⟩, fun a1 a4 a5 a27 a28 h1 h4 h5 h27 h28 => by cases (R_r0_1.symm.trans h1); cases (R_r0_4.symm.trans h4); cases (R_r0_5.symm.trans h5); cases (R_r0_27.symm.trans h27); cases (R_r0_28.symm.trans h28); intro hx; simp only [k0_r0_4_40, k0_r0_1_0]; exact ILQ.n ff144_0 hx hR hgt ht9 hyR hm0 h10 (by omega), fun a28 h28 => by cases (R_r0_28.symm.trans h28); intro r hr; rw [hu129, u2_k (by omega), ew28], fun a4 h4 => by cases (R_r0_4.symm.trans h4); exact (fun r z0 => ((congrFun (CM.j0 S100 R_r0_4 (by decide)) r).trans ((congrFun (CM.j0 S25 R_r0_4 (by decide)) r).trans (F10 r z0)))), fun a5 h5 => by cases (R_r0_5.symm.trans h5); exact (fun r z0 => ((congrFun (CM.j0 S100 R_r0_5 (by decide)) r).trans ((F27 r z0).trans (F11 r z0)))), hI99, (CM.cons S9 (CM.cons S25 (CM.mono S100 (by decide) (by decide)) (by decide) (by decide)) (by decide) (by decide))⟩
              refine k_iload C rfl rfl rfl ?_
              refine b_if_eq C (t := 197) rfl rfl rfl (fun c119 => ?_) (fun c119 => ?_)
              · skip
                refine k_iload C rfl rfl rfl ?_
                exact k_iret C rfl (Or.inr ⟨rfl, z01 (by omega) (by omega)⟩) (Nat.le_of_ble_eq_true rfl) (Nat.le_of_ble_eq_true rfl) ⟨_, _, _, rfl, rfl, by omega, by omega, fun a1 a4 a5 a27 a28 h1 h4 h5 h27 h28 => by cases (R_r0_1.symm.trans h1); cases (R_r0_4.symm.trans h4); cases (R_r0_5.symm.trans h5); cases (R_r0_27.symm.trans h27); cases (R_r0_28.symm.trans h28); intro hx; simp only [k0_r0_4_40, k0_r0_1_0]; exact ILQ.y ff144_0 hx (by omega) (fun m hm => (hR m hm).2.2) hgt ht9 (fun i hi => by show (_ : Int32).toInt = (_ : Int32).toInt; rw [hu129, u2_k (by omega), ew28]) (by show (_ : Int32).toInt = _; rw [hu129, u2_s, ey9]) ⟨hby.1, hby.2.1⟩, fun a1 a4 a5 a27 a28 h1 h4 h5 h27 h28 => by cases (R_r0_1.symm.trans h1); cases (R_r0_4.symm.trans h4); cases (R_r0_5.symm.trans h5); cases (R_r0_27.symm.trans h27); cases (R_r0_28.symm.trans h28); intro hx; simp only [k0_r0_4_40, k0_r0_1_0]; exact ILQ.n ff144_0 hx hR hgt ht9 hyR hm0 h10 (by omega), fun a28 h28 => by cases (R_r0_28.symm.trans h28); intro r hr; rw [hu129, u2_k (by omega), ew28], fun a4 h4 => by cases (R_r0_4.symm.trans h4); exact (fun r z0 => ((congrFun (CM.j0 S100 R_r0_4 (by decide)) r).trans ((congrFun (CM.j0 S25 R_r0_4 (by decide)) r).trans (F10 r z0)))), fun a5 h5 => by cases (R_r0_5.symm.trans h5); exact (fun r z0 => ((congrFun (CM.j0 S100 R_r0_5 (by decide)) r).trans ((F27 r z0).trans (F11 r z0)))), hI99, (CM.cons S9 (CM.cons S25 (CM.mono S100 (by decide) (by decide)) (by decide) (by decide)) (by decide) (by decide))⟩
              refine k_aload_n C rfl rfl rfl ?_
              refine z_bipush C (z := 42) rfl rfl rfl (fun x120 ex120 => ?_)
              refine k_iload C rfl rfl rfl ?_
              have q121 : x120.toNatClampNeg = 42 := nck (by omega)
              refine c_VI C (a_X12_of hI99 H_r0 (by omega) (by omega) (by omega) (by omega)) rfl rfl rfl rfl rfl ⟨_, rfl, rfl, T_r0, Nat.le_of_ble_eq_true rfl⟩ rfl rfl (Nat.le_of_ble_eq_true rfl) (Nat.le_of_ble_eq_true rfl) (Nat.le_of_ble_eq_true rfl) ?_
              rintro x122 _ _ ⟨o0x122, o1x122, p0x122, rfl, rfl⟩
              have p0x122 := p0x122 r0_5 R_r0_5
              have gx122 := rg x122
              try simp only [q121, e101, e102, e103, e104, e105] at p0x122
              try have q0x122 := congrArg Int32.toInt p0x122
              have ho166 := (show x122.toInt = RI I99 r0_5 42 x114.toNatClampNeg from p0x122).trans (congrFun h5R _)
              refine k_aload_n C rfl rfl rfl ?_
              refine k_iload_n C rfl rfl rfl ?_
              refine k_aload_n C rfl rfl rfl ?_
              refine k_iload_n C rfl rfl rfl ?_
              refine k_iload C rfl rfl rfl ?_
              refine c_VI C (a_X12_powerAt_x hI99 H_r0 (by omega) (by omega) (by omega) (by omega)) rfl rfl rfl rfl rfl ⟨_, rfl, rfl, T_r0, Nat.le_of_ble_eq_true rfl⟩ rfl rfl (Nat.le_of_ble_eq_true rfl) (Nat.le_of_ble_eq_true rfl) (Nat.le_of_ble_eq_true rfl) ?_
              rintro x123 _ _ ⟨o0x123, o1x123, p0x123, rfl, rfl⟩
              have p0x123 := p0x123 r0_26 R_r0_26
              have gx123 := rg x123
              try simp only [e101, e102, e103, e104, e105] at p0x123
              try have q0x123 := congrArg Int32.toInt p0x123
              have hw175 := p0x123
              (try rw [(CM.j0 (W := []) (WA := [4, 5, 28]) (CM.cons S9 (CM.cons S25 (CM.mono S100 (by decide) (by decide)) (by decide) (by decide)) (by decide) (by decide)) R_r0_26 (by decide))] at hw175)
              have q124 : x98.toNatClampNeg = 0 := nck (by omega)
              refine c_VI C (a_X12_times hI99 H_r0 (by omega) (by omega) (by omega) (by omega)) rfl rfl rfl rfl rfl ⟨_, rfl, rfl, T_r0, Nat.le_of_ble_eq_true rfl⟩ rfl rfl (Nat.le_of_ble_eq_true rfl) (Nat.le_of_ble_eq_true rfl) (Nat.le_of_ble_eq_true rfl) ?_
              rintro x125 _ _ ⟨o0x125, o1x125, p0x125, p1x125, p2x125, p3x125, rfl, rfl⟩
              have p0x125 := p0x125 r0_1 R_r0_1
              have p2x125 := p2x125 r0_1 R_r0_1
              have p3x125 := p3x125 r0_1 R_r0_1
              have gx125 := rg x125
              try simp only [q124, e101, e102, e103, e104, e105] at p0x125
              try have q0x125 := congrArg Int32.toInt p0x125
              try simp only [q124, e101, e102, e103, e104, e105] at p1x125
              try have q1x125 := congrArg Int32.toInt p1x125
              try simp only [q124, e101, e102, e103, e104, e105] at p2x125
              try have q2x125 := congrArg Int32.toInt p2x125
              try simp only [q124, e101, e102, e103, e104, e105] at p3x125
              try have q3x125 := congrArg Int32.toInt p3x125
              have hm178 := p3x125
              refine b_icmp_ne C (t := 188) rfl rfl rfl (fun c126 => ?_) (fun c126 => ?_)
              · skip
                refine z_iconst C (z := 0) rfl rfl rfl (fun x127 ex127 => ?_)
                refine k_istore C (lw := [(4, .int x127), (0, .ref r0), (2, .int x1), (3, .int x98), (5, .int x114)]) rfl rfl (Nat.le_of_ble_eq_true rfl) rfl ?_
                refine z_iinc C (z := 1) (lw := fun x128 => [(5, .int x128), (4, .int x127), (0, .ref r0), (2, .int x1), (3, .int x98)]) rfl rfl rfl (Nat.le_of_ble_eq_true rfl) rfl ⟨by omega, by omega⟩ (fun _ => rfl) (fun x128 ex128 => ?_)
                show V 194 [(5, .int x128), (4, .int x127), (0, .ref r0), (2, .int x1), (3, .int x98)] _ _ _ _
                refine k_goto C (pc2 := 144) rfl rfl ?_
                refine k_sub S [(0, .ref r0), (2, .int x1), (3, .int x98), (4, .int x127), (5, .int x128)] (List.forall_mem_cons.mpr ⟨List.mem_of_getElem? (i := 2) rfl, List.forall_mem_cons.mpr ⟨List.mem_of_getElem? (i := 3) rfl, List.forall_mem_cons.mpr ⟨List.mem_of_getElem? (i := 4) rfl, List.forall_mem_cons.mpr ⟨List.mem_of_getElem? (i := 1) rfl, List.forall_mem_cons.mpr ⟨List.mem_of_getElem? (i := 0) rfl, fun _ h => nomatch h⟩⟩⟩⟩⟩) ?_
                exact ihJ109 _ (MN.lt hmnn110 (by omega) (by omega)) x127 x128 rfl (by omega) (by omega) (by omega) (by omega) (by exact ILQ.s ff144_0 (by omega) (by omega) ho166 (by rw [hw175, et9]) (by rw [ey9]; exact hm178) (by omega) (by omega) (by omega) (by omega)) (by omega)
              refine z_iconst C (z := 1) rfl rfl rfl (fun x129 ex129 => ?_)
              refine k_goto C (pc2 := 189) rfl rfl ?_
              refine k_istore C (lw := [(4, .int x129), (0, .ref r0), (2, .int x1), (3, .int x98), (5, .int x114)]) rfl rfl (Nat.le_of_ble_eq_true rfl) rfl ?_
              refine z_iinc C (z := 1) (lw := fun x130 => [(5, .int x130), (4, .int x129), (0, .ref r0), (2, .int x1), (3, .int x98)]) rfl rfl rfl (Nat.le_of_ble_eq_true rfl) rfl ⟨by omega, by omega⟩ (fun _ => rfl) (fun x130 ex130 => ?_)
              show V 194 [(5, .int x130), (4, .int x129), (0, .ref r0), (2, .int x1), (3, .int x98)] _ _ _ _
              refine k_goto C (pc2 := 144) rfl rfl ?_
              refine k_sub S [(0, .ref r0), (2, .int x1), (3, .int x98), (4, .int x129), (5, .int x130)] (List.forall_mem_cons.mpr ⟨List.mem_of_getElem? (i := 2) rfl, List.forall_mem_cons.mpr ⟨List.mem_of_getElem? (i := 3) rfl, List.forall_mem_cons.mpr ⟨List.mem_of_getElem? (i := 4) rfl, List.forall_mem_cons.mpr ⟨List.mem_of_getElem? (i := 1) rfl, List.forall_mem_cons.mpr ⟨List.mem_of_getElem? (i := 0) rfl, fun _ h => nomatch h⟩⟩⟩⟩⟩) ?_
              exact ihJ109 _ (MN.lt hmnn110 (by omega) (by omega)) x129 x130 rfl (by omega) (by omega) (by omega) (by omega) (by exact ILQ.s ff144_0 (by omega) (by omega) ho166 (by rw [hw175, et9]) (by rw [ey9]; exact hm178) (by omega) (by omega) (by omega) (by omega)) (by omega)
          refine k_istore C (lw := [(5, .int x108), (4, .int x107), (3, .int x98), (0, .ref r0), (1, .int n1), (2, .int x1)]) rfl rfl (Nat.le_of_ble_eq_true rfl) rfl ?_
          refine k_sub S [(0, .ref r0), (2, .int x1), (3, .int x98), (4, .int x107), (5, .int x108)] (List.forall_mem_cons.mpr ⟨List.mem_of_getElem? (i := 3) rfl, List.forall_mem_cons.mpr ⟨List.mem_of_getElem? (i := 5) rfl, List.forall_mem_cons.mpr ⟨List.mem_of_getElem? (i := 2) rfl, List.forall_mem_cons.mpr ⟨List.mem_of_getElem? (i := 1) rfl, List.forall_mem_cons.mpr ⟨List.mem_of_getElem? (i := 0) rfl, fun _ h => nomatch h⟩⟩⟩⟩⟩) ?_
          exact J109 _ x107 x108 rfl (by omega) (by omega) (by omega) (by omega) (by exact ILQ.z (by omega) (by omega)) (by omega)
        refine z_iconst C (z := 1) rfl rfl rfl (fun x131 ex131 => ?_)
        refine k_goto C (pc2 := 139) rfl rfl ?_
        refine k_istore C (lw := [(4, .int x131), (3, .int x98), (0, .ref r0), (1, .int n1), (2, .int x1)]) rfl rfl (Nat.le_of_ble_eq_true rfl) rfl ?_
        refine z_iconst C (z := 0) rfl rfl rfl (fun x132 ex132 => ?_)
        have J133 : ∀ (nn134 : Nat) (x135 : Int32) (x138 : Int32), (MN (41 - x138.toInt) nn134) → (0 ≤ x135.toInt) → (x135.toInt ≤ 1) → (0 ≤ x138.toInt) → (x138.toInt ≤ 41) → (ILQ x135.toInt y9.toInt w_r0_1_0.toInt w_r0_4_40.toInt R9 (fun m => (I r0_26 (9 * t9.toNatClampNeg + m)).toInt) x138.toInt) → (x138.toInt ≤ w_r0_4_40.toInt + 1) → V 144 [(0, .ref r0), (2, .int x1), (3, .int x98), (4, .int x135), (5, .int x138)] [] (T, N, I99, L21, R) 0 0 := by
          intro nn134
          induction nn134 using Nat.strongRecOn with
          | _ nn134 ihJ133 =>
            intro x135 x138 hmnn134 b136 b137 b139 b140 ff144_0 ff144_1
            have gx135 := rg x135
            have gx138 := rg x138
            refine k_iload C rfl rfl rfl ?_
            refine k_aload_n C rfl rfl rfl ?_
            refine g_R C rfl rfl rfl T_r0 rfl R_r0_4 ?_
            refine z_bipush C (z := 42) rfl rfl rfl (fun x141 ex141 => ?_)
            obtain ⟨T_r0_4, N_r0_4, A_r0_4⟩ := id H_r0_4
            refine a_I C rfl rfl T_r0_4 (by rw [N_r0_4]; exact vpi (by omega) (by omega)) ((congrArg (I99 r0_4) (nck (n := 42) (by omega))).trans e104) ?_
            refine b_icmp_gt C (t := 197) rfl rfl rfl (fun c142 => ?_) (fun c142 => ?_)
            · skip
              refine k_iload C rfl rfl rfl ?_
              exact k_iret C rfl (Or.inr ⟨rfl, z01 (by omega) (by omega)⟩) (Nat.le_of_ble_eq_true rfl) (Nat.le_of_ble_eq_true rfl) ⟨_, _, _, rfl, rfl, by omega, by omega, fun a1 a4 a5 a27 a28 h1 h4 h5 h27 h28 => by cases (R_r0_1.symm.trans h1); cases (R_r0_4.symm.trans h4); cases (R_r0_5.symm.trans h5); cases (R_r0_27.symm.trans h27); cases (R_r0_28.symm.trans h28); intro hx; simp only [k0_r0_4_40, k0_r0_1_0]; exact ILQ.y ff144_0 hx (by omega) (fun m hm => (hR m hm).2.2) hgt ht9 (fun i hi => by show (_ : Int32).toInt = (_ : Int32).toInt; rw [hu129, u2_k (by omega), ew28]) (by show (_ : Int32).toInt = _; rw [hu129, u2_s, ey9]) ⟨hby.1, hby.2.1⟩, fun a1 a4 a5 a27 a28 h1 h4 h5 h27 h28 => by cases (R_r0_1.symm.trans h1); cases (R_r0_4.symm.trans h4); cases (R_r0_5.symm.trans h5); cases (R_r0_27.symm.trans h27); cases (R_r0_28.symm.trans h28); intro hx; simp only [k0_r0_4_40, k0_r0_1_0]; exact ILQ.n ff144_0 hx hR hgt ht9 hyR hm0 h10 (by omega), fun a28 h28 => by cases (R_r0_28.symm.trans h28); intro r hr; rw [hu129, u2_k (by omega), ew28], fun a4 h4 => by cases (R_r0_4.symm.trans h4); exact (fun r z0 => ((congrFun (CM.j0 S100 R_r0_4 (by decide)) r).trans ((congrFun (CM.j0 S25 R_r0_4 (by decide)) r).trans (F10 r z0)))), fun a5 h5 => by cases (R_r0_5.symm.trans h5); exact (fun r z0 => ((congrFun (CM.j0 S100 R_r0_5 (by decide)) r).trans ((F27 r z0).trans (F11 r z0)))), hI99, (CM.cons S9 (CM.cons S25 (CM.mono S100 (by decide) (by decide)) (by decide) (by decide)) (by decide) (by decide))⟩
            refine k_iload C rfl rfl rfl ?_
            refine b_if_eq C (t := 197) rfl rfl rfl (fun c143 => ?_) (fun c143 => ?_)
            · skip
              refine k_iload C rfl rfl rfl ?_
              exact k_iret C rfl (Or.inr ⟨rfl, z01 (by omega) (by omega)⟩) (Nat.le_of_ble_eq_true rfl) (Nat.le_of_ble_eq_true rfl) ⟨_, _, _, rfl, rfl, by omega, by omega, fun a1 a4 a5 a27 a28 h1 h4 h5 h27 h28 => by cases (R_r0_1.symm.trans h1); cases (R_r0_4.symm.trans h4); cases (R_r0_5.symm.trans h5); cases (R_r0_27.symm.trans h27); cases (R_r0_28.symm.trans h28); intro hx; simp only [k0_r0_4_40, k0_r0_1_0]; exact ILQ.y ff144_0 hx (by omega) (fun m hm => (hR m hm).2.2) hgt ht9 (fun i hi => by show (_ : Int32).toInt = (_ : Int32).toInt; rw [hu129, u2_k (by omega), ew28]) (by show (_ : Int32).toInt = _; rw [hu129, u2_s, ey9]) ⟨hby.1, hby.2.1⟩, fun a1 a4 a5 a27 a28 h1 h4 h5 h27 h28 => by cases (R_r0_1.symm.trans h1); cases (R_r0_4.symm.trans h4); cases (R_r0_5.symm.trans h5); cases (R_r0_27.symm.trans h27); cases (R_r0_28.symm.trans h28); intro hx; simp only [k0_r0_4_40, k0_r0_1_0]; exact ILQ.n ff144_0 hx hR hgt ht9 hyR hm0 h10 (by omega), fun a28 h28 => by cases (R_r0_28.symm.trans h28); intro r hr; rw [hu129, u2_k (by omega), ew28], fun a4 h4 => by cases (R_r0_4.symm.trans h4); exact (fun r z0 => ((congrFun (CM.j0 S100 R_r0_4 (by decide)) r).trans ((congrFun (CM.j0 S25 R_r0_4 (by decide)) r).trans (F10 r z0)))), fun a5 h5 => by cases (R_r0_5.symm.trans h5); exact (fun r z0 => ((congrFun (CM.j0 S100 R_r0_5 (by decide)) r).trans ((F27 r z0).trans (F11 r z0)))), hI99, (CM.cons S9 (CM.cons S25 (CM.mono S100 (by decide) (by decide)) (by decide) (by decide)) (by decide) (by decide))⟩
            refine k_aload_n C rfl rfl rfl ?_
            refine z_bipush C (z := 42) rfl rfl rfl (fun x144 ex144 => ?_)
            refine k_iload C rfl rfl rfl ?_
            have q145 : x144.toNatClampNeg = 42 := nck (by omega)
            refine c_VI C (a_X12_of hI99 H_r0 (by omega) (by omega) (by omega) (by omega)) rfl rfl rfl rfl rfl ⟨_, rfl, rfl, T_r0, Nat.le_of_ble_eq_true rfl⟩ rfl rfl (Nat.le_of_ble_eq_true rfl) (Nat.le_of_ble_eq_true rfl) (Nat.le_of_ble_eq_true rfl) ?_
            rintro x146 _ _ ⟨o0x146, o1x146, p0x146, rfl, rfl⟩
            have p0x146 := p0x146 r0_5 R_r0_5
            have gx146 := rg x146
            try simp only [q145, e101, e102, e103, e104, e105] at p0x146
            try have q0x146 := congrArg Int32.toInt p0x146
            have ho166 := (show x146.toInt = RI I99 r0_5 42 x138.toNatClampNeg from p0x146).trans (congrFun h5R _)
            refine k_aload_n C rfl rfl rfl ?_
            refine k_iload_n C rfl rfl rfl ?_
            refine k_aload_n C rfl rfl rfl ?_
            refine k_iload_n C rfl rfl rfl ?_
            refine k_iload C rfl rfl rfl ?_
            refine c_VI C (a_X12_powerAt_x hI99 H_r0 (by omega) (by omega) (by omega) (by omega)) rfl rfl rfl rfl rfl ⟨_, rfl, rfl, T_r0, Nat.le_of_ble_eq_true rfl⟩ rfl rfl (Nat.le_of_ble_eq_true rfl) (Nat.le_of_ble_eq_true rfl) (Nat.le_of_ble_eq_true rfl) ?_
            rintro x147 _ _ ⟨o0x147, o1x147, p0x147, rfl, rfl⟩
            have p0x147 := p0x147 r0_26 R_r0_26
            have gx147 := rg x147
            try simp only [e101, e102, e103, e104, e105] at p0x147
            try have q0x147 := congrArg Int32.toInt p0x147
            have hw175 := p0x147
            (try rw [(CM.j0 (W := []) (WA := [4, 5, 28]) (CM.cons S9 (CM.cons S25 (CM.mono S100 (by decide) (by decide)) (by decide) (by decide)) (by decide) (by decide)) R_r0_26 (by decide))] at hw175)
            refine c_VI C (a_X12_times hI99 H_r0 (by omega) (by omega) (by omega) (by omega)) rfl rfl rfl rfl rfl ⟨_, rfl, rfl, T_r0, Nat.le_of_ble_eq_true rfl⟩ rfl rfl (Nat.le_of_ble_eq_true rfl) (Nat.le_of_ble_eq_true rfl) (Nat.le_of_ble_eq_true rfl) ?_
            rintro x148 _ _ ⟨o0x148, o1x148, p0x148, p1x148, p2x148, p3x148, rfl, rfl⟩
            have p0x148 := p0x148 r0_1 R_r0_1
            have p2x148 := p2x148 r0_1 R_r0_1
            have p3x148 := p3x148 r0_1 R_r0_1
            have gx148 := rg x148
            try simp only [e101, e102, e103, e104, e105] at p0x148
            try have q0x148 := congrArg Int32.toInt p0x148
            try simp only [e101, e102, e103, e104, e105] at p1x148
            try have q1x148 := congrArg Int32.toInt p1x148
            try simp only [e101, e102, e103, e104, e105] at p2x148
            try have q2x148 := congrArg Int32.toInt p2x148
            try simp only [e101, e102, e103, e104, e105] at p3x148
            try have q3x148 := congrArg Int32.toInt p3x148
            have hm178 := p3x148
            refine b_icmp_ne C (t := 188) rfl rfl rfl (fun c149 => ?_) (fun c149 => ?_)
            · skip
              refine z_iconst C (z := 0) rfl rfl rfl (fun x150 ex150 => ?_)
              refine k_istore C (lw := [(4, .int x150), (0, .ref r0), (2, .int x1), (3, .int x98), (5, .int x138)]) rfl rfl (Nat.le_of_ble_eq_true rfl) rfl ?_
              refine z_iinc C (z := 1) (lw := fun x151 => [(5, .int x151), (4, .int x150), (0, .ref r0), (2, .int x1), (3, .int x98)]) rfl rfl rfl (Nat.le_of_ble_eq_true rfl) rfl ⟨by omega, by omega⟩ (fun _ => rfl) (fun x151 ex151 => ?_)
              show V 194 [(5, .int x151), (4, .int x150), (0, .ref r0), (2, .int x1), (3, .int x98)] _ _ _ _
              refine k_goto C (pc2 := 144) rfl rfl ?_
              refine k_sub S [(0, .ref r0), (2, .int x1), (3, .int x98), (4, .int x150), (5, .int x151)] (List.forall_mem_cons.mpr ⟨List.mem_of_getElem? (i := 2) rfl, List.forall_mem_cons.mpr ⟨List.mem_of_getElem? (i := 3) rfl, List.forall_mem_cons.mpr ⟨List.mem_of_getElem? (i := 4) rfl, List.forall_mem_cons.mpr ⟨List.mem_of_getElem? (i := 1) rfl, List.forall_mem_cons.mpr ⟨List.mem_of_getElem? (i := 0) rfl, fun _ h => nomatch h⟩⟩⟩⟩⟩) ?_
              exact ihJ133 _ (MN.lt hmnn134 (by omega) (by omega)) x150 x151 rfl (by omega) (by omega) (by omega) (by omega) (by exact ILQ.s ff144_0 (by omega) (by omega) ho166 (by rw [hw175, et9]) (by rw [ey9]; exact hm178) (by omega) (by omega) (by omega) (by omega)) (by omega)
            refine z_iconst C (z := 1) rfl rfl rfl (fun x152 ex152 => ?_)
            refine k_goto C (pc2 := 189) rfl rfl ?_
            refine k_istore C (lw := [(4, .int x152), (0, .ref r0), (2, .int x1), (3, .int x98), (5, .int x138)]) rfl rfl (Nat.le_of_ble_eq_true rfl) rfl ?_
            refine z_iinc C (z := 1) (lw := fun x153 => [(5, .int x153), (4, .int x152), (0, .ref r0), (2, .int x1), (3, .int x98)]) rfl rfl rfl (Nat.le_of_ble_eq_true rfl) rfl ⟨by omega, by omega⟩ (fun _ => rfl) (fun x153 ex153 => ?_)
            show V 194 [(5, .int x153), (4, .int x152), (0, .ref r0), (2, .int x1), (3, .int x98)] _ _ _ _
            refine k_goto C (pc2 := 144) rfl rfl ?_
            refine k_sub S [(0, .ref r0), (2, .int x1), (3, .int x98), (4, .int x152), (5, .int x153)] (List.forall_mem_cons.mpr ⟨List.mem_of_getElem? (i := 2) rfl, List.forall_mem_cons.mpr ⟨List.mem_of_getElem? (i := 3) rfl, List.forall_mem_cons.mpr ⟨List.mem_of_getElem? (i := 4) rfl, List.forall_mem_cons.mpr ⟨List.mem_of_getElem? (i := 1) rfl, List.forall_mem_cons.mpr ⟨List.mem_of_getElem? (i := 0) rfl, fun _ h => nomatch h⟩⟩⟩⟩⟩) ?_
            exact ihJ133 _ (MN.lt hmnn134 (by omega) (by omega)) x152 x153 rfl (by omega) (by omega) (by omega) (by omega) (by exact ILQ.s ff144_0 (by omega) (by omega) ho166 (by rw [hw175, et9]) (by rw [ey9]; exact hm178) (by omega) (by omega) (by omega) (by omega)) (by omega)
        refine k_istore C (lw := [(5, .int x132), (4, .int x131), (3, .int x98), (0, .ref r0), (1, .int n1), (2, .int x1)]) rfl rfl (Nat.le_of_ble_eq_true rfl) rfl ?_
        refine k_sub S [(0, .ref r0), (2, .int x1), (3, .int x98), (4, .int x131), (5, .int x132)] (List.forall_mem_cons.mpr ⟨List.mem_of_getElem? (i := 3) rfl, List.forall_mem_cons.mpr ⟨List.mem_of_getElem? (i := 5) rfl, List.forall_mem_cons.mpr ⟨List.mem_of_getElem? (i := 2) rfl, List.forall_mem_cons.mpr ⟨List.mem_of_getElem? (i := 1) rfl, List.forall_mem_cons.mpr ⟨List.mem_of_getElem? (i := 0) rfl, fun _ h => nomatch h⟩⟩⟩⟩⟩) ?_
        exact J133 _ x131 x132 rfl (by omega) (by omega) (by omega) (by omega) (by exact ILQ.z (by omega) (by omega)) (by omega)
      refine z_iconst C (z := 0) rfl rfl rfl (fun x154 ex154 => ?_)
      have J155 : ∀ (nn156 : Nat) (I157 : IT) (L158 : LT) (x159 : Int32), (MN (41 - x159.toInt) nn156) → (IM R r0 I157) → (CM A R r0 [] [5] I20 L21 I157 L158) → (∀ r : Nat, (r < 41 * 42 ∨ 41 * 42 + 41 ≤ r) → I157 r0_5 r = I20 r0_5 r) → (0 ≤ x159.toInt) → (x159.toInt ≤ 41) → (RLS I157 r0_5 w_r0_1_0.toInt w_r0_4_40.toInt (RI I r0_5 40) (NF I r0_27) (NF I r0_28) x22.toNatClampNeg (x22.toNatClampNeg + 1) x159.toInt) → (x159.toInt ≤ w_r0_4_40.toInt + 1) → V 25 [(0, .ref r0), (1, .int n1), (2, .int x1), (3, .int x22), (4, .int x159)] [] (T, N, I157, L158, R) 0 0 := by
        intro nn156
        induction nn156 using Nat.strongRecOn with
        | _ nn156 ihJ155 =>
          intro I157 L158 x159 hmnn156 hI163 S162 F164 b160 b161 ff25_0 ff25_1
          have gx159 := rg x159
          have e165 := CM.j S162 R_r0_4 (by decide) e28
          have e166 := CM.j S162 R_r0_1 (by decide) e29
          have e167 := CM.j S162 R_r0_27 (by decide) e30
          have e168 := CM.j S162 R_r0_4 (by decide) e31
          refine k_iload C rfl rfl rfl ?_
          refine k_aload_n C rfl rfl rfl ?_
          refine g_R C rfl rfl rfl T_r0 rfl R_r0_4 ?_
          refine z_bipush C (z := 42) rfl rfl rfl (fun x169 ex169 => ?_)
          obtain ⟨T_r0_4, N_r0_4, A_r0_4⟩ := id H_r0_4
          refine a_I C rfl rfl T_r0_4 (by rw [N_r0_4]; exact vpi (by omega) (by omega)) ((congrArg (I157 r0_4) (nck (n := 42) (by omega))).trans e168) ?_
          refine b_icmp_gt C (t := 85) rfl rfl rfl (fun c170 => ?_) (fun c170 => ?_)
          · skip
            refine z_iinc C (z := 1) (lw := fun x171 => [(3, .int x171), (0, .ref r0), (1, .int n1), (2, .int x1), (4, .int x159)]) rfl rfl rfl (Nat.le_of_ble_eq_true rfl) rfl ⟨by omega, by omega⟩ (fun _ => rfl) (fun x171 ex171 => ?_)
            show V 88 [(3, .int x171), (0, .ref r0), (1, .int n1), (2, .int x1), (4, .int x159)] _ _ _ _
            refine k_goto C (pc2 := 17) rfl rfl ?_
            refine k_sub S [(0, .ref r0), (1, .int n1), (2, .int x1), (3, .int x171)] (List.forall_mem_cons.mpr ⟨List.mem_of_getElem? (i := 1) rfl, List.forall_mem_cons.mpr ⟨List.mem_of_getElem? (i := 2) rfl, List.forall_mem_cons.mpr ⟨List.mem_of_getElem? (i := 3) rfl, List.forall_mem_cons.mpr ⟨List.mem_of_getElem? (i := 0) rfl, fun _ h => nomatch h⟩⟩⟩⟩) ?_
            exact ihJ18 _ (MN.lt hmnn19 (by omega) (by omega)) I157 L158 x171 rfl hI163 (CM.cons S25 (CM.mono S162 (by decide) (by decide)) (by decide) (by decide)) (fun r z0 => ((F164 r z0).trans (F27 r z0))) (by omega) (by omega) (by exact RLS.o ff25_0 (by omega) (ncs (by omega) (by omega))) (by omega)
          refine k_aload_n C rfl rfl rfl ?_
          refine z_bipush C (z := 42) rfl rfl rfl (fun x172 ex172 => ?_)
          refine k_iload C rfl rfl rfl ?_
          refine k_aload_n C rfl rfl rfl ?_
          refine k_aload_n C rfl rfl rfl ?_
          refine z_bipush C (z := 42) rfl rfl rfl (fun x173 ex173 => ?_)
          refine k_iload C rfl rfl rfl ?_
          have q174 : x173.toNatClampNeg = 42 := nck (by omega)
          refine c_VI C (a_X12_of hI163 H_r0 (by omega) (by omega) (by omega) (by omega)) rfl rfl rfl rfl rfl ⟨_, rfl, rfl, T_r0, Nat.le_of_ble_eq_true rfl⟩ rfl rfl (Nat.le_of_ble_eq_true rfl) (Nat.le_of_ble_eq_true rfl) (Nat.le_of_ble_eq_true rfl) ?_
          rintro x175 _ _ ⟨o0x175, o1x175, p0x175, rfl, rfl⟩
          have p0x175 := p0x175 r0_5 R_r0_5
          have gx175 := rg x175
          try simp only [q174, e165, e166, e167, e168] at p0x175
          try have q0x175 := congrArg Int32.toInt p0x175
          have ho48 := p0x175
          refine k_aload_n C rfl rfl rfl ?_
          refine k_aload_n C rfl rfl rfl ?_
          refine g_R C rfl rfl rfl T_r0 rfl R_r0_28 ?_
          refine k_iload_n C rfl rfl rfl ?_
          obtain ⟨T_r0_28, N_r0_28, A_r0_28⟩ := id H_r0_28
          refine z_aI C rfl rfl T_r0_28 N_r0_28 (by omega) (by omega) (fun x176 ex176 => ?_)
          have gx176 := rg x176
          have ox176 := IM.faR hI163 R_r0_28 ex176
          have hr57 := ex176
          have hq57 := (CM.j0 (W := []) (WA := [4, 5]) (CM.cons S9 (CM.cons S25 (CM.mono S162 (by decide) (by decide)) (by decide) (by decide)) (by decide) (by decide)) R_r0_28 (by decide))
          have hc57 : x176.toInt = NF I r0_28 x22.toNatClampNeg := (by rw [← hr57, hq57]; rfl)
          have hb57 : 0 ≤ x176.toInt := (by rw [hc57]; exact hp5 _ (by have h9 := ncz (x := x22) (by omega); omega))
          refine k_aload_n C rfl rfl rfl ?_
          refine k_aload_n C rfl rfl rfl ?_
          refine g_R C rfl rfl rfl T_r0 rfl R_r0_27 ?_
          refine k_iload_n C rfl rfl rfl ?_
          refine z_aI C rfl rfl T_r0_27 N_r0_27 (by omega) (by omega) (fun x177 ex177 => ?_)
          have gx177 := rg x177
          have ox177 := IM.spR hI163 R_r0_27 ex177
          have hr64 := ex177
          have hq64 := (CM.j0 (W := []) (WA := [4, 5]) (CM.cons S9 (CM.cons S25 (CM.mono S162 (by decide) (by decide)) (by decide) (by decide)) (by decide) (by decide)) R_r0_27 (by decide))
          have hc64 : x177.toInt = NF I r0_27 x22.toNatClampNeg := (by rw [← hr64, hq64]; rfl)
          have hb64 := hp4 x22.toNatClampNeg (by have h9 := ncz (x := x22) (by omega); omega)
          have hg64 := PWT.g hp3 (s := x177) (by rw [hc64]; exact hb64.1) (by rw [hc64]; exact Int.lt_add_one_of_le hb64.2)
          refine k_iload C rfl rfl rfl ?_
          refine c_VI C (a_X12_powerAt_x hI163 H_r0 (by omega) (by omega) (by omega) (by omega)) rfl rfl rfl rfl rfl ⟨_, rfl, rfl, T_r0, Nat.le_of_ble_eq_true rfl⟩ rfl rfl (Nat.le_of_ble_eq_true rfl) (Nat.le_of_ble_eq_true rfl) (Nat.le_of_ble_eq_true rfl) ?_
          rintro x178 _ _ ⟨o0x178, o1x178, p0x178, rfl, rfl⟩
          have p0x178 := p0x178 r0_26 R_r0_26
          have gx178 := rg x178
          try simp only [e165, e166, e167, e168, ex176, ex177] at p0x178
          try have q0x178 := congrArg Int32.toInt p0x178
          have hw67 := p0x178
          (try rw [(CM.j0 (W := []) (WA := [4, 5]) (CM.cons S9 (CM.cons S25 (CM.mono S162 (by decide) (by decide)) (by decide) (by decide)) (by decide) (by decide)) R_r0_26 (by decide))] at hw67)
          refine c_VI C (a_X12_times hI163 H_r0 (by omega) (by omega) (by omega) (by omega)) rfl rfl rfl rfl rfl ⟨_, rfl, rfl, T_r0, Nat.le_of_ble_eq_true rfl⟩ rfl rfl (Nat.le_of_ble_eq_true rfl) (Nat.le_of_ble_eq_true rfl) (Nat.le_of_ble_eq_true rfl) ?_
          rintro x179 _ _ ⟨o0x179, o1x179, p0x179, p1x179, p2x179, p3x179, rfl, rfl⟩
          have p0x179 := p0x179 r0_1 R_r0_1
          have p2x179 := p2x179 r0_1 R_r0_1
          have p3x179 := p3x179 r0_1 R_r0_1
          have gx179 := rg x179
          try simp only [e165, e166, e167, e168, ex176, ex177] at p0x179
          try have q0x179 := congrArg Int32.toInt p0x179
          try simp only [e165, e166, e167, e168, ex176, ex177] at p1x179
          try have q1x179 := congrArg Int32.toInt p1x179
          try simp only [e165, e166, e167, e168, ex176, ex177] at p2x179
          try have q2x179 := congrArg Int32.toInt p2x179
          try simp only [e165, e166, e167, e168, ex176, ex177] at p3x179
          try have q3x179 := congrArg Int32.toInt p3x179
          have hm70 := p3x179
          refine c_VI C (a_X12_less hI163 H_r0 (by omega) (by omega) (by omega) (by omega)) rfl rfl rfl rfl rfl ⟨_, rfl, rfl, T_r0, Nat.le_of_ble_eq_true rfl⟩ rfl rfl (Nat.le_of_ble_eq_true rfl) (Nat.le_of_ble_eq_true rfl) (Nat.le_of_ble_eq_true rfl) ?_
          rintro x180 _ _ ⟨o0x180, o1x180, p0x180, p1x180, p2x180, p3x180, rfl, rfl⟩
          have p0x180 := p0x180 r0_1 R_r0_1
          have p2x180 := p2x180 r0_1 R_r0_1
          have p3x180 := p3x180 r0_1 R_r0_1
          have gx180 := rg x180
          try simp only [e165, e166, e167, e168, ex176, ex177] at p0x180
          try have q0x180 := congrArg Int32.toInt p0x180
          try simp only [e165, e166, e167, e168, ex176, ex177] at p1x180
          try have q1x180 := congrArg Int32.toInt p1x180
          try simp only [e165, e166, e167, e168, ex176, ex177] at p2x180
          try have q2x180 := congrArg Int32.toInt p2x180
          try simp only [e165, e166, e167, e168, ex176, ex177] at p3x180
          try have q3x180 := congrArg Int32.toInt p3x180
          have hl73 := p3x180
          have q181 : x172.toNatClampNeg = 42 := nck (by omega)
          refine c_VV C (a_X12_put hI163 H_r0 (by omega) (by omega) (by omega) (by omega) (by omega) (by omega)) rfl rfl rfl rfl rfl ⟨_, rfl, rfl, T_r0, Nat.le_of_ble_eq_true rfl⟩ rfl rfl (Nat.le_of_ble_eq_true rfl) (Nat.le_of_ble_eq_true rfl) (Nat.le_of_ble_eq_true rfl) ?_
          rintro I183 L184 ⟨p0v182, p1v182, hI183, S185⟩
          have p0v182 := p0v182 r0_5 R_r0_5
          have p1v182 := p1v182 r0_5 R_r0_5
          try simp only [q181] at p1v182
          have F186 : ∀ r : Nat, (r < 41 * 42 ∨ 41 * 42 + 41 ≤ r) → I183 r0_5 r = I157 r0_5 r := fun r z0 => p1v182 r (by first | exact z0)
          have e187 := CM.j S185 R_r0_4 (by decide) e165
          have e188 := CM.j S185 R_r0_1 (by decide) e166
          have e189 := CM.j S185 R_r0_27 (by decide) e167
          have e190 := CM.j S185 R_r0_4 (by decide) e168
          have e191 := CM.j S185 R_r0_28 (by decide) ex176
          have e192 := CM.j S185 R_r0_27 (by decide) ex177
          try simp only [q181, e165, e166, e167, e168, ex176, ex177] at p0v182
          try have q0v182 := congrArg Int32.toInt p0v182
          have hP76 := p0v182
          refine z_iinc C (z := 1) (lw := fun x193 => [(4, .int x193), (0, .ref r0), (1, .int n1), (2, .int x1), (3, .int x22)]) rfl rfl rfl (Nat.le_of_ble_eq_true rfl) rfl ⟨by omega, by omega⟩ (fun _ => rfl) (fun x193 ex193 => ?_)
          show V 82 [(4, .int x193), (0, .ref r0), (1, .int n1), (2, .int x1), (3, .int x22)] _ _ _ _
          refine k_goto C (pc2 := 25) rfl rfl ?_
          refine k_sub S [(0, .ref r0), (1, .int n1), (2, .int x1), (3, .int x22), (4, .int x193)] (List.forall_mem_cons.mpr ⟨List.mem_of_getElem? (i := 1) rfl, List.forall_mem_cons.mpr ⟨List.mem_of_getElem? (i := 2) rfl, List.forall_mem_cons.mpr ⟨List.mem_of_getElem? (i := 3) rfl, List.forall_mem_cons.mpr ⟨List.mem_of_getElem? (i := 4) rfl, List.forall_mem_cons.mpr ⟨List.mem_of_getElem? (i := 0) rfl, fun _ h => nomatch h⟩⟩⟩⟩⟩) ?_
          exact ihJ155 _ (MN.lt hmnn156 (by omega) (by omega)) I183 L184 x193 rfl hI183 (CM.cons S162 (CM.mono S185 (by decide) (by decide)) (by decide) (by decide)) (fun r z0 => ((F186 r z0).trans (F164 r z0))) (by omega) (by omega) (by exact RLS.s ff25_0 rfl ho48 hc57 hb57 (by rw [hw67, ← hc64]; exact hg64 _ (by have h9 := ncz (x := x159) (by omega); omega)) hm70 hl73 hP76 (by omega) (by omega) (by omega) (by omega)) (by omega)
      refine k_istore C (lw := [(4, .int x154), (0, .ref r0), (1, .int n1), (2, .int x1), (3, .int x22)]) rfl rfl (Nat.le_of_ble_eq_true rfl) rfl ?_
      refine k_sub S [(0, .ref r0), (1, .int n1), (2, .int x1), (3, .int x22), (4, .int x154)] (List.forall_mem_cons.mpr ⟨List.mem_of_getElem? (i := 1) rfl, List.forall_mem_cons.mpr ⟨List.mem_of_getElem? (i := 2) rfl, List.forall_mem_cons.mpr ⟨List.mem_of_getElem? (i := 3) rfl, List.forall_mem_cons.mpr ⟨List.mem_of_getElem? (i := 4) rfl, List.forall_mem_cons.mpr ⟨List.mem_of_getElem? (i := 0) rfl, fun _ h => nomatch h⟩⟩⟩⟩⟩) ?_
      exact J155 _ I20 L21 x154 rfl hI26 CM.rf (fun r z0 => rfl) (by omega) (by omega) (by exact RLS.i ff17_0 (by omega)) (by omega)
  refine k_istore_n C (lw := [(3, .int x17), (2, .int x1), (0, .ref r0), (1, .int n1)]) rfl rfl (Nat.le_of_ble_eq_true rfl) rfl ?_
  refine k_sub S [(0, .ref r0), (1, .int n1), (2, .int x1), (3, .int x17)] (List.forall_mem_cons.mpr ⟨List.mem_of_getElem? (i := 2) rfl, List.forall_mem_cons.mpr ⟨List.mem_of_getElem? (i := 3) rfl, List.forall_mem_cons.mpr ⟨List.mem_of_getElem? (i := 1) rfl, List.forall_mem_cons.mpr ⟨List.mem_of_getElem? (i := 0) rfl, fun _ h => nomatch h⟩⟩⟩⟩) ?_
  exact J18 _ I7 L8 x17 rfl hI7 CM.rf (fun r z0 => rfl) (by omega) (by omega) (by exact RLS.z hcp (by omega) hp2 (ncz0 (by omega))) (by omega)

