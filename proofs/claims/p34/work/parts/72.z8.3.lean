/-! on -/
set_option maxHeartbeats 4000000 in
theorem a_X12_isPair_x {d : Nat} {T N : Nat → Nat} {I : IT} {L : LT} {R : RT} {A : Nat → Prop} {r0 : Nat} {n1 : Int32} (hI : IM R r0 I) (H_r0 : (h_MD T N R A) r0) (b0_n1 : 1 ≤ n1.toInt) (b1_n1 : n1.toInt ≤ 2) (hp0 : ∀ a4, R r0 4 = some a4 → (I a4 40).toInt ≤ 8) (hp1 : ∀ a4, R r0 4 = some a4 → 1 ≤ (I a4 40).toInt) (hp2 : ∀ a1 a4 a5, R r0 1 = some a1 → R r0 4 = some a4 → R r0 5 = some a5 → RCN I a5 40 (I a1 0).toInt (I a4 40).toInt) (hp3 : ∀ a1 a4 a26, R r0 1 = some a1 → R r0 4 = some a4 → R r0 26 = some a26 → PWT (I a26) (I a1 0).toInt (I a4 40).toInt ((I a1 0).toInt + 1)) (hp4 : ∀ a1 a27, R r0 1 = some a1 → R r0 27 = some a27 → ∀ i : Nat, (i : Int) ≤ n1.toInt → 0 ≤ NF I a27 i ∧ NF I a27 i ≤ (I a1 0).toInt) (hp5 : ∀ a28, R r0 28 = some a28 → ∀ i : Nat, (i : Int) < n1.toInt - 1 → 0 ≤ NF I a28 i) : Ex (d + 4) 284 [.ref r0, .int n1] (T, N, I, L, R) 0 0 (pI T N R (fun x9 I9 L9 => (0 ≤ x9.toInt) ∧ (x9.toInt ≤ 1) ∧ (∀ a1 a4 a5 a27 a28, R r0 1 = some a1 → R r0 4 = some a4 → R r0 5 = some a5 → R r0 27 = some a27 → R r0 28 = some a28 → x9.toInt = 1 → (∀ i : Nat, n1.toInt - 1 ≤ (i : Int) → (i : Int) ≤ n1.toInt → 0 < NF I9 a28 i ∧ NF I9 a28 i < (I a1 0).toInt) ∧ SPF (I a1 0).toInt (I a4 40).toInt (BNI (I a4 40).toInt) (RI I a5 40) (n1.toNatClampNeg + 1) (NF I a27) (NF I9 a28)) ∧ (∀ a1 a4 a5 a27 a28, R r0 1 = some a1 → R r0 4 = some a4 → R r0 5 = some a5 → R r0 27 = some a27 → R r0 28 = some a28 → x9.toInt = 0 → NOF (I a1 0).toInt (I a4 40).toInt (BNI (I a4 40).toInt) (RI I a5 40) (n1.toNatClampNeg + 1) (NF I a27) (NF I a28) (n1.toInt - 1).toNat) ∧ (∀ a28, R r0 28 = some a28 → ∀ r : Nat, (r : Int) < n1.toInt - 1 → I9 a28 r = I a28 r) ∧ (∀ a4, R r0 4 = some a4 → ∀ r : Nat, r ≠ 42 → I9 a4 r = I a4 r) ∧ (∀ a5, R r0 5 = some a5 → ∀ r : Nat, (r < 41 * 42 ∨ 41 * 42 + 41 ≤ r) → I9 a5 r = I a5 r) ∧ (IM R r0 I9 ∧ CM A R r0 [] [4, 5, 28] I L I9 L9))) := by
  refine ⟨_, rfl, Nat.le_of_ble_eq_true rfl, fun V C S => ?_⟩
  show V 0 [(0, .ref r0), (1, .int n1)] [] (T, N, I, L, R) 0 0
  have gn1 := rg n1
  obtain ⟨T_r0, A_r0, ⟨r0_1, R_r0_1, H_r0_1⟩, ⟨r0_2, R_r0_2, H_r0_2⟩, ⟨r0_4, R_r0_4, H_r0_4⟩, ⟨r0_5, R_r0_5, H_r0_5⟩, ⟨r0_10, R_r0_10, H_r0_10⟩, ⟨r0_18, R_r0_18, H_r0_18⟩, ⟨r0_20, R_r0_20, H_r0_20⟩, ⟨r0_21, R_r0_21, H_r0_21⟩, ⟨r0_22, R_r0_22, H_r0_22⟩, ⟨r0_23, R_r0_23, H_r0_23⟩, ⟨r0_25, R_r0_25, H_r0_25⟩, ⟨r0_26, R_r0_26, H_r0_26⟩, ⟨r0_27, R_r0_27, H_r0_27⟩, ⟨r0_28, R_r0_28, H_r0_28⟩, ⟨r0_34, R_r0_34, H_r0_34⟩, J_r0, Y_r0⟩ := id H_r0
  have G_r0 : mF T R r0 := ⟨J_r0, Y_r0, T_r0⟩
  obtain ⟨w_r0_4_40, k0_r0_4_40⟩ : ∃ x, I r0_4 40 = x := ⟨_, rfl⟩
  have gw_r0_4_40 := rg w_r0_4_40
  have ow_r0_4_40 := IM.dgR hI R_r0_4 k0_r0_4_40
  obtain ⟨w_r0_1_0, k0_r0_1_0⟩ : ∃ x, I r0_1 0 = x := ⟨_, rfl⟩
  have gw_r0_1_0 := rg w_r0_1_0
  have ow_r0_1_0 := IM.pi hI R_r0_1 k0_r0_1_0
  have hp0 := hp0 r0_4 R_r0_4
  have hp1 := hp1 r0_4 R_r0_4
  have hp2 := hp2 r0_1 r0_4 r0_5 R_r0_1 R_r0_4 R_r0_5
  have hp3 := hp3 r0_1 r0_4 r0_26 R_r0_1 R_r0_4 R_r0_26
  have hp4 := hp4 r0_1 r0_27 R_r0_1 R_r0_27
  have hp5 := hp5 r0_28 R_r0_28
  try simp only [k0_r0_4_40, k0_r0_1_0] at hp0
  try simp only [k0_r0_4_40, k0_r0_1_0] at hp1
  try simp only [k0_r0_4_40, k0_r0_1_0] at hp2
  try simp only [k0_r0_4_40, k0_r0_1_0] at hp3
  try simp only [k0_r0_4_40, k0_r0_1_0] at hp4
  try simp only [k0_r0_4_40, k0_r0_1_0] at hp5
  have hn1 := ncz (x := n1) (by omega)
  refine z_iconst C (z := 1) rfl rfl rfl (fun x1 ex1 => ?_)
  have J2 : ∀ (nn3 : Nat) (I4 : IT) (L5 : LT) (x6 : Int32), (MN (19 - x6.toInt) nn3) → (IM R r0 I4) → (CM A R r0 [] [4, 5, 28] I L I4 L5) → (∀ r : Nat, r ≠ 42 → I4 r0_4 r = I r0_4 r) → (∀ r : Nat, (r < 41 * 42 ∨ 41 * 42 + 41 ≤ r) → I4 r0_5 r = I r0_5 r) → (1 ≤ x6.toInt) → (x6.toInt ≤ 19) → (NOV w_r0_1_0.toInt w_r0_4_40.toInt (BNI w_r0_4_40.toInt) (RI I r0_5 40) (n1.toNatClampNeg + 1) (NF I r0_27) (NF I r0_28) (n1.toInt - 1).toNat x6.toInt) → (∀ r : Nat, (r : Int) < n1.toInt - 1 → I4 r0_28 r = I r0_28 r) → (SMR I I4 r0_5 40) → (1 ≤ x6.toInt ∧ x6.toInt ≤ w_r0_1_0.toInt) → V 2 [(0, .ref r0), (1, .int n1), (2, .int x6)] [] (T, N, I4, L5, R) 0 0 := by
    intro nn3
    induction nn3 using Nat.strongRecOn with
    | _ nn3 ihJ2 =>
      intro I4 L5 x6 hmnn3 hI10 S9 F11 F12 b7 b8 ff2_0 ff2_1 ff2_2 ff2_3
      have gx6 := rg x6
      have e13 := (F11 40 (by first | decide | exact ncne (by omega) (by omega) (by omega) | exact nckn (by omega) (by omega) | exact (nckn (by omega) (by omega)).symm)).trans k0_r0_4_40
      have e14 := CM.j S9 R_r0_1 (by decide) k0_r0_1_0
      refine k_iload_n C rfl rfl rfl ?_
      refine k_aload_n C rfl rfl rfl ?_
      refine c_VI C (a_X12_p hI10 H_r0) rfl rfl rfl rfl rfl ⟨_, rfl, rfl, T_r0, Nat.le_of_ble_eq_true rfl⟩ rfl rfl (Nat.le_of_ble_eq_true rfl) (Nat.le_of_ble_eq_true rfl) (Nat.le_of_ble_eq_true rfl) ?_
      rintro x15 _ _ ⟨o0x15, o1x15, p0x15, rfl, rfl⟩
      have p0x15 := p0x15 r0_1 R_r0_1
      have gx15 := rg x15
      try simp only [e13, e14, e14] at p0x15
      try have q0x15 := congrArg Int32.toInt p0x15
      refine b_icmp_ge C (t := 35) rfl rfl rfl (fun c16 => ?_) (fun c16 => ?_)
      · skip
        refine z_iconst C (z := 0) rfl rfl rfl (fun x17 ex17 => ?_)
        exact k_iret C rfl (Or.inr ⟨rfl, z01 (by omega) (by omega)⟩) (Nat.le_of_ble_eq_true rfl) (Nat.le_of_ble_eq_true rfl) ⟨_, _, _, rfl, rfl, by omega, by omega, fun a1 a4 a5 a27 a28 h1 h4 h5 h27 h28 => by cases (R_r0_1.symm.trans h1); cases (R_r0_4.symm.trans h4); cases (R_r0_5.symm.trans h5); cases (R_r0_27.symm.trans h27); cases (R_r0_28.symm.trans h28); intro h; exfalso; omega, fun a1 a4 a5 a27 a28 h1 h4 h5 h27 h28 => by cases (R_r0_1.symm.trans h1); cases (R_r0_4.symm.trans h4); cases (R_r0_5.symm.trans h5); cases (R_r0_27.symm.trans h27); cases (R_r0_28.symm.trans h28); intro _; simp only [k0_r0_4_40, k0_r0_1_0]; exact ff2_0.e (by omega) (by omega), fun a28 h28 => by cases (R_r0_28.symm.trans h28); exact ff2_1, fun a4 h4 => by cases (R_r0_4.symm.trans h4); exact (fun r z0 => (F11 r z0)), fun a5 h5 => by cases (R_r0_5.symm.trans h5); exact (fun r z0 => (F12 r z0)), hI10, (CM.mono S9 (by decide) (by decide))⟩
      refine k_aload_n C rfl rfl rfl ?_
      refine g_R C rfl rfl rfl T_r0 rfl R_r0_28 ?_
      refine k_iload_n C rfl rfl rfl ?_
      refine z_iconst C (z := 1) rfl rfl rfl (fun x18 ex18 => ?_)
      refine z_isub C rfl rfl ⟨by omega, by omega⟩ (fun x19 ex19 => ?_)
      refine k_iload_n C rfl rfl rfl ?_
      obtain ⟨j18, ej18⟩ : ∃ j : Int32, j = x19 := ⟨_, rfl⟩
      have ej18i : j18.toInt = x19.toInt := (by rw [ej18])
      obtain ⟨T_r0_28, N_r0_28, A_r0_28⟩ := id H_r0_28
      refine z_sI C rfl rfl T_r0_28 N_r0_28 (by omega) (by omega) (fun I20 uI20 => ?_)
      have hI20 : IM R r0 I20 := IM.arr hI10 G_r0 R_r0_28 ⟨(fun h => absurd h (by decide)), (fun h => absurd h (by decide)), (fun _ => ⟨by omega, by omega⟩)⟩ (fun h => absurd h (by decide)) uI20
      have S21 : CM A R r0 [] [28] I4 L5 I20 L5 := CM.a G_r0 R_r0_28 A_r0_28 uI20
      have e22 := u2_n uI20 (mF.nq G_r0 R_r0_4 R_r0_28 (by decide)) e13
      have e23 := u2_n uI20 (mF.nq G_r0 R_r0_1 R_r0_28 (by decide)) e14
      have e24 := u2_e uI20
      have hu18 := uI20
      (try rw [← ej18] at hu18)
      have ew26 := (CM.j0 (W := []) (WA := [4, 5, 28]) (CM.cons S9 (CM.mono S21 (by decide) (by decide)) (by decide) (by decide)) R_r0_26 (by decide))
      have ew27 := (CM.j0 (W := []) (WA := [4, 5, 28]) (CM.cons S9 (CM.mono S21 (by decide) (by decide)) (by decide) (by decide)) R_r0_27 (by decide))
      have hf18 : NF I20 r0_28 (n1.toInt - 1).toNat = x6.toInt := (by show (I20 r0_28 _).toInt = _; rw [hu18, show (n1.toInt - 1).toNat = j18.toNatClampNeg from by have h9 := ncz (x := j18) (by omega); omega, u2_s])
      have hl18 : ∀ i : Nat, (i : Int) < n1.toInt - 1 → NF I20 r0_28 i = NF I r0_28 i := fun i hi => by (show (I20 r0_28 _).toInt = (_ : Int32).toInt; have h9 := ncz (x := j18) (by omega); rw [hu18, u2_k (by omega), ff2_1 i (by omega)])
      have h5a : SMR I I20 r0_5 40 := fun k hk => by (rw [CM.j0 S21 R_r0_5 (by decide)]; exact ff2_2 k hk)
      obtain ⟨C9, eC9⟩ : ∃ f : Nat → Int, NF I20 r0_28 = f := ⟨_, rfl⟩
      rw [eC9] at hf18 hl18
      refine k_aload_n C rfl rfl rfl ?_
      refine k_iload_n C rfl rfl rfl ?_
      refine c_VI C (a_X12_isLast_x hI20 H_r0 (by omega) (by omega) (fun a4 h4 => by cases (R_r0_4.symm.trans h4); (rw [e22]; omega)) (fun a4 h4 => by cases (R_r0_4.symm.trans h4); (rw [e22]; omega)) (fun a1 a4 a5 h1 h4 h5 => by cases (R_r0_1.symm.trans h1); cases (R_r0_4.symm.trans h4); cases (R_r0_5.symm.trans h5); (rw [e22, e23]; exact RCN.sm hp2 h5a rfl (by omega))) (fun a1 a4 a26 h1 h4 h26 => by cases (R_r0_1.symm.trans h1); cases (R_r0_4.symm.trans h4); cases (R_r0_26.symm.trans h26); (rw [e22, e23, ew26]; exact hp3)) (fun a1 a27 h1 h27 => by cases (R_r0_1.symm.trans h1); cases (R_r0_27.symm.trans h27); (rw [e23]; intro i hi; rw [NF.e ew27]; exact hp4 i hi)) (fun a28 h28 => by cases (R_r0_28.symm.trans h28); (intro i hi; rw [eC9]; exact (Classical.em (i = (n1.toInt - 1).toNat)).elim (fun c9 => by ((rw [c9, hf18]; omega))) (fun c9 => by ((rw [hl18 i (by omega)]; exact hp5 i (by omega))))))) rfl rfl rfl rfl rfl ⟨_, rfl, rfl, T_r0, Nat.le_of_ble_eq_true rfl⟩ rfl rfl (Nat.le_of_ble_eq_true rfl) (Nat.le_of_ble_eq_true rfl) (Nat.le_of_ble_eq_true rfl) ?_
      rintro x25 I26 L27 ⟨o0x25, o1x25, p0x25, p1x25, p2x25, p3x25, p4x25, hI26, S28⟩
      have p0x25 := p0x25 r0_1 r0_4 r0_5 r0_27 r0_28 R_r0_1 R_r0_4 R_r0_5 R_r0_27 R_r0_28
      have p1x25 := p1x25 r0_1 r0_4 r0_5 r0_27 r0_28 R_r0_1 R_r0_4 R_r0_5 R_r0_27 R_r0_28
      have p2x25 := p2x25 r0_28 R_r0_28
      have p3x25 := p3x25 r0_4 R_r0_4
      have p4x25 := p4x25 r0_5 R_r0_5
      have F29 : ∀ r : Nat, r ≠ 42 → I26 r0_4 r = I20 r0_4 r := fun r z0 => p3x25 r (by first | exact z0)
      have F30 : ∀ r : Nat, (r < 41 * 42 ∨ 41 * 42 + 41 ≤ r) → I26 r0_5 r = I20 r0_5 r := fun r z0 => p4x25 r (by first | exact z0)
      have e31 := (p3x25 40 (by first | decide | exact ncne (by omega) (by omega) (by omega) | exact nckn (by omega) (by omega) | exact (nckn (by omega) (by omega)).symm)).trans e22
      have e32 := CM.j S28 R_r0_1 (by decide) e23
      have gx25 := rg x25
      try simp only [e22, e23, e24] at p0x25
      try have q0x25 := congrArg Int32.toInt p0x25
      try simp only [e22, e23, e24] at p1x25
      try have q1x25 := congrArg Int32.toInt p1x25
      try simp only [e22, e23, e24] at p2x25
      try have q2x25 := congrArg Int32.toInt p2x25
      have hy21 := p0x25
      have hn21 := p1x25
      have hl21 := p2x25
      (try simp only [eC9, NF.e ew27] at hy21)
      (try simp only [eC9, NF.e ew27] at hn21)
      have h5b := p4x25
      have hFe : ∀ k : Nat, (k : Int) ≤ w_r0_4_40.toInt → RI _ r0_5 40 k = (RI I r0_5 40) k := fun k hk => RI.s h5a (by omega)
      refine b_if_eq C (t := 29) rfl rfl rfl (fun c34 => ?_) (fun c34 => ?_)
      · skip
        refine z_iinc C (z := 1) (lw := fun x35 => [(2, .int x35), (0, .ref r0), (1, .int n1)]) rfl rfl rfl (Nat.le_of_ble_eq_true rfl) rfl ⟨by omega, by omega⟩ (fun _ => rfl) (fun x35 ex35 => ?_)
        show V 32 [(2, .int x35), (0, .ref r0), (1, .int n1)] _ _ _ _
        refine k_goto C (pc2 := 2) rfl rfl ?_
        refine k_sub S [(0, .ref r0), (1, .int n1), (2, .int x35)] (List.forall_mem_cons.mpr ⟨List.mem_of_getElem? (i := 1) rfl, List.forall_mem_cons.mpr ⟨List.mem_of_getElem? (i := 2) rfl, List.forall_mem_cons.mpr ⟨List.mem_of_getElem? (i := 0) rfl, fun _ h => nomatch h⟩⟩⟩) ?_
        exact ihJ2 _ (MN.lt hmnn3 (by omega) (by omega)) I26 L27 x35 rfl hI26 (CM.cons S9 (CM.cons S21 (CM.mono S28 (by decide) (by decide)) (by decide) (by decide)) (by decide) (by decide)) (fun r z0 => ((F29 r z0).trans ((congrFun (CM.j0 S21 R_r0_4 (by decide)) r).trans (F11 r z0)))) (fun r z0 => ((F30 r z0).trans ((congrFun (CM.j0 S21 R_r0_5 (by decide)) r).trans (F12 r z0)))) (by omega) (by omega) (by exact NOV.s ff2_0 ((hn21 (by omega)).cg hFe (fun i hi => rfl) (fun i hi => rfl) rfl) (by omega) (fun i hi => hl18 i (by omega)) hf18 (by omega)) (by intro r hr; rw [hl21 r (by omega)]; have h9 := hl18 r hr; rw [← eC9] at h9; exact Int32.toInt_inj.mp h9) (by exact fun k hk => (h5b _ (by omega)).trans (h5a k hk)) (by omega)
      refine z_iconst C (z := 1) rfl rfl rfl (fun x36 ex36 => ?_)
      exact k_iret C rfl (Or.inr ⟨rfl, z01 (by omega) (by omega)⟩) (Nat.le_of_ble_eq_true rfl) (Nat.le_of_ble_eq_true rfl) ⟨_, _, _, rfl, rfl, by omega, by omega, fun a1 a4 a5 a27 a28 h1 h4 h5 h27 h28 => by cases (R_r0_1.symm.trans h1); cases (R_r0_4.symm.trans h4); cases (R_r0_5.symm.trans h5); cases (R_r0_27.symm.trans h27); cases (R_r0_28.symm.trans h28); intro _; simp only [k0_r0_4_40, k0_r0_1_0]; obtain ⟨h7, h8⟩ := hy21 (by omega); refine ⟨fun i h1 h2 => ?_, h8.fc hFe⟩; exact (Classical.em (i = n1.toNatClampNeg)).elim (fun c9 => by ((rw [c9]; exact h7))) (fun c9 => by ((have h6 : NF I26 r0_28 i = C9 i := (by rw [← eC9]; exact congrArg Int32.toInt (hl21 i (by omega))); rw [h6, show i = (n1.toInt - 1).toNat from by omega, hf18]; omega))), fun a1 a4 a5 a27 a28 h1 h4 h5 h27 h28 => by cases (R_r0_1.symm.trans h1); cases (R_r0_4.symm.trans h4); cases (R_r0_5.symm.trans h5); cases (R_r0_27.symm.trans h27); cases (R_r0_28.symm.trans h28); intro h; exfalso; omega, fun a28 h28 => by cases (R_r0_28.symm.trans h28); intro r hr; rw [hl21 r (by omega)]; have h9 := hl18 r hr; rw [← eC9] at h9; exact Int32.toInt_inj.mp h9, fun a4 h4 => by cases (R_r0_4.symm.trans h4); exact (fun r z0 => ((F29 r z0).trans ((congrFun (CM.j0 S21 R_r0_4 (by decide)) r).trans (F11 r z0)))), fun a5 h5 => by cases (R_r0_5.symm.trans h5); exact (fun r z0 => ((F30 r z0).trans ((congrFun (CM.j0 S21 R_r0_5 (by decide)) r).trans (F12 r z0)))), hI26, (CM.cons S9 (CM.cons S21 (CM.mono S28 (by decide) (by decide)) (by decide) (by decide)) (by decide) (by decide))⟩
  refine k_istore_n C (lw := [(2, .int x1), (0, .ref r0), (1, .int n1)]) rfl rfl (Nat.le_of_ble_eq_true rfl) rfl ?_
  refine k_sub S [(0, .ref r0), (1, .int n1), (2, .int x1)] (List.forall_mem_cons.mpr ⟨List.mem_of_getElem? (i := 1) rfl, List.forall_mem_cons.mpr ⟨List.mem_of_getElem? (i := 2) rfl, List.forall_mem_cons.mpr ⟨List.mem_of_getElem? (i := 0) rfl, fun _ h => nomatch h⟩⟩⟩) ?_
  exact J2 _ I L x1 rfl hI CM.rf (fun r z0 => rfl) (fun r z0 => rfl) (by omega) (by omega) (by exact NOV.z (by omega) (by omega)) (by intro r hr; rfl) (by exact fun k hk => rfl) (by omega)

set_option maxHeartbeats 4000000 in
theorem a_X12_isTriple_x {d : Nat} {T N : Nat → Nat} {I : IT} {L : LT} {R : RT} {A : Nat → Prop} {r0 : Nat} (hI : IM R r0 I) (H_r0 : (h_MD T N R A) r0) (hp0 : ∀ a4, R r0 4 = some a4 → (I a4 40).toInt ≤ 8) (hp1 : ∀ a4, R r0 4 = some a4 → 1 ≤ (I a4 40).toInt) (hp2 : ∀ a1 a4 a5, R r0 1 = some a1 → R r0 4 = some a4 → R r0 5 = some a5 → RCN I a5 40 (I a1 0).toInt (I a4 40).toInt) (hp3 : ∀ a1 a4 a26, R r0 1 = some a1 → R r0 4 = some a4 → R r0 26 = some a26 → PWT (I a26) (I a1 0).toInt (I a4 40).toInt ((I a1 0).toInt + 1)) (hp4 : ∀ a1 a27, R r0 1 = some a1 → R r0 27 = some a27 → ∀ i : Nat, (i : Int) ≤ 2 → 0 ≤ NF I a27 i ∧ NF I a27 i ≤ (I a1 0).toInt) : Ex (d + 5) 285 [.ref r0] (T, N, I, L, R) 0 0 (pI T N R (fun x9 I9 L9 => (0 ≤ x9.toInt) ∧ (x9.toInt ≤ 1) ∧ (∀ a1 a4 a5 a27 a28, R r0 1 = some a1 → R r0 4 = some a4 → R r0 5 = some a5 → R r0 27 = some a27 → R r0 28 = some a28 → x9.toInt = 1 → NZS (I a1 0).toInt 3 (NF I9 a28) ∧ SPF (I a1 0).toInt (I a4 40).toInt (BNI (I a4 40).toInt) (RI I a5 40) 3 (NF I a27) (NF I9 a28)) ∧ (∀ a1 a4 a5 a27 a28, R r0 1 = some a1 → R r0 4 = some a4 → R r0 5 = some a5 → R r0 27 = some a27 → R r0 28 = some a28 → x9.toInt = 0 → NOF (I a1 0).toInt (I a4 40).toInt (BNI (I a4 40).toInt) (RI I a5 40) 3 (NF I a27) (NF I a28) 0) ∧ (∀ a4, R r0 4 = some a4 → ∀ r : Nat, r ≠ 42 → I9 a4 r = I a4 r) ∧ (∀ a5, R r0 5 = some a5 → ∀ r : Nat, (r < 41 * 42 ∨ 41 * 42 + 41 ≤ r) → I9 a5 r = I a5 r) ∧ (IM R r0 I9 ∧ CM A R r0 [] [4, 5, 28] I L I9 L9))) := by
  refine ⟨_, rfl, Nat.le_of_ble_eq_true rfl, fun V C S => ?_⟩
  show V 0 [(0, .ref r0)] [] (T, N, I, L, R) 0 0
  obtain ⟨T_r0, A_r0, ⟨r0_1, R_r0_1, H_r0_1⟩, ⟨r0_2, R_r0_2, H_r0_2⟩, ⟨r0_4, R_r0_4, H_r0_4⟩, ⟨r0_5, R_r0_5, H_r0_5⟩, ⟨r0_10, R_r0_10, H_r0_10⟩, ⟨r0_18, R_r0_18, H_r0_18⟩, ⟨r0_20, R_r0_20, H_r0_20⟩, ⟨r0_21, R_r0_21, H_r0_21⟩, ⟨r0_22, R_r0_22, H_r0_22⟩, ⟨r0_23, R_r0_23, H_r0_23⟩, ⟨r0_25, R_r0_25, H_r0_25⟩, ⟨r0_26, R_r0_26, H_r0_26⟩, ⟨r0_27, R_r0_27, H_r0_27⟩, ⟨r0_28, R_r0_28, H_r0_28⟩, ⟨r0_34, R_r0_34, H_r0_34⟩, J_r0, Y_r0⟩ := id H_r0
  have G_r0 : mF T R r0 := ⟨J_r0, Y_r0, T_r0⟩
  obtain ⟨w_r0_4_40, k0_r0_4_40⟩ : ∃ x, I r0_4 40 = x := ⟨_, rfl⟩
  have gw_r0_4_40 := rg w_r0_4_40
  have ow_r0_4_40 := IM.dgR hI R_r0_4 k0_r0_4_40
  obtain ⟨w_r0_1_0, k0_r0_1_0⟩ : ∃ x, I r0_1 0 = x := ⟨_, rfl⟩
  have gw_r0_1_0 := rg w_r0_1_0
  have ow_r0_1_0 := IM.pi hI R_r0_1 k0_r0_1_0
  have hp0 := hp0 r0_4 R_r0_4
  have hp1 := hp1 r0_4 R_r0_4
  have hp2 := hp2 r0_1 r0_4 r0_5 R_r0_1 R_r0_4 R_r0_5
  have hp3 := hp3 r0_1 r0_4 r0_26 R_r0_1 R_r0_4 R_r0_26
  have hp4 := hp4 r0_1 r0_27 R_r0_1 R_r0_27
  try simp only [k0_r0_4_40, k0_r0_1_0] at hp0
  try simp only [k0_r0_4_40, k0_r0_1_0] at hp1
  try simp only [k0_r0_4_40, k0_r0_1_0] at hp2
  try simp only [k0_r0_4_40, k0_r0_1_0] at hp3
  try simp only [k0_r0_4_40, k0_r0_1_0] at hp4
  refine z_iconst C (z := 1) rfl rfl rfl (fun x1 ex1 => ?_)
  have J2 : ∀ (nn3 : Nat) (I4 : IT) (L5 : LT) (x6 : Int32), (MN (19 - x6.toInt) nn3) → (IM R r0 I4) → (CM A R r0 [] [4, 5, 28] I L I4 L5) → (∀ r : Nat, r ≠ 42 → I4 r0_4 r = I r0_4 r) → (∀ r : Nat, (r < 41 * 42 ∨ 41 * 42 + 41 ≤ r) → I4 r0_5 r = I r0_5 r) → (1 ≤ x6.toInt) → (x6.toInt ≤ 19) → (NOV w_r0_1_0.toInt w_r0_4_40.toInt (BNI w_r0_4_40.toInt) (RI I r0_5 40) 3 (NF I r0_27) (NF I r0_28) 0 x6.toInt) → (SMR I I4 r0_5 40) → (1 ≤ x6.toInt ∧ x6.toInt ≤ w_r0_1_0.toInt) → V 2 [(0, .ref r0), (1, .int x6)] [] (T, N, I4, L5, R) 0 0 := by
    intro nn3
    induction nn3 using Nat.strongRecOn with
    | _ nn3 ihJ2 =>
      intro I4 L5 x6 hmnn3 hI10 S9 F11 F12 b7 b8 ff2_0 ff2_1 ff2_2
      have gx6 := rg x6
      have e13 := (F11 40 (by first | decide | exact ncne (by omega) (by omega) (by omega) | exact nckn (by omega) (by omega) | exact (nckn (by omega) (by omega)).symm)).trans k0_r0_4_40
      have e14 := CM.j S9 R_r0_1 (by decide) k0_r0_1_0
      refine k_iload_n C rfl rfl rfl ?_
      refine k_aload_n C rfl rfl rfl ?_
      refine c_VI C (a_X12_p hI10 H_r0) rfl rfl rfl rfl rfl ⟨_, rfl, rfl, T_r0, Nat.le_of_ble_eq_true rfl⟩ rfl rfl (Nat.le_of_ble_eq_true rfl) (Nat.le_of_ble_eq_true rfl) (Nat.le_of_ble_eq_true rfl) ?_
      rintro x15 _ _ ⟨o0x15, o1x15, p0x15, rfl, rfl⟩
      have p0x15 := p0x15 r0_1 R_r0_1
      have gx15 := rg x15
      try simp only [e13, e14, e14] at p0x15
      try have q0x15 := congrArg Int32.toInt p0x15
      refine b_icmp_ge C (t := 33) rfl rfl rfl (fun c16 => ?_) (fun c16 => ?_)
      · skip
        refine z_iconst C (z := 0) rfl rfl rfl (fun x17 ex17 => ?_)
        exact k_iret C rfl (Or.inr ⟨rfl, z01 (by omega) (by omega)⟩) (Nat.le_of_ble_eq_true rfl) (Nat.le_of_ble_eq_true rfl) ⟨_, _, _, rfl, rfl, by omega, by omega, fun a1 a4 a5 a27 a28 h1 h4 h5 h27 h28 => by cases (R_r0_1.symm.trans h1); cases (R_r0_4.symm.trans h4); cases (R_r0_5.symm.trans h5); cases (R_r0_27.symm.trans h27); cases (R_r0_28.symm.trans h28); intro h; exfalso; omega, fun a1 a4 a5 a27 a28 h1 h4 h5 h27 h28 => by cases (R_r0_1.symm.trans h1); cases (R_r0_4.symm.trans h4); cases (R_r0_5.symm.trans h5); cases (R_r0_27.symm.trans h27); cases (R_r0_28.symm.trans h28); intro _; simp only [k0_r0_4_40, k0_r0_1_0]; exact ff2_0.e (by omega) (by omega), fun a4 h4 => by cases (R_r0_4.symm.trans h4); exact (fun r z0 => (F11 r z0)), fun a5 h5 => by cases (R_r0_5.symm.trans h5); exact (fun r z0 => (F12 r z0)), hI10, (CM.mono S9 (by decide) (by decide))⟩
      refine k_aload_n C rfl rfl rfl ?_
      refine g_R C rfl rfl rfl T_r0 rfl R_r0_28 ?_
      refine z_iconst C (z := 0) rfl rfl rfl (fun x18 ex18 => ?_)
      refine k_iload_n C rfl rfl rfl ?_
      obtain ⟨j16, ej16⟩ : ∃ j : Int32, j = x18 := ⟨_, rfl⟩
      have ej16i : j16.toInt = x18.toInt := (by rw [ej16])
      obtain ⟨T_r0_28, N_r0_28, A_r0_28⟩ := id H_r0_28
      refine z_sI C rfl rfl T_r0_28 N_r0_28 (by omega) (by omega) (fun I19 uI19 => ?_)
      have uI19 : I19 = u2 I4 r0_28 0 (x6) := by rw [uI19, nck (n := 0) (by omega)]
      have hI19 : IM R r0 I19 := IM.arr hI10 G_r0 R_r0_28 ⟨(fun h => absurd h (by decide)), (fun h => absurd h (by decide)), (fun _ => ⟨by omega, by omega⟩)⟩ (fun h => absurd h (by decide)) uI19
      have S20 : CM A R r0 [] [28] I4 L5 I19 L5 := CM.a G_r0 R_r0_28 A_r0_28 uI19
      have e21 := u2_n uI19 (mF.nq G_r0 R_r0_4 R_r0_28 (by decide)) e13
      have e22 := u2_n uI19 (mF.nq G_r0 R_r0_1 R_r0_28 (by decide)) e14
      have e23 := u2_e uI19
      have hu16 := uI19
      (try rw [← ej16] at hu16)
      have ew26 := (CM.j0 (W := []) (WA := [4, 5, 28]) (CM.cons S9 (CM.mono S20 (by decide) (by decide)) (by decide) (by decide)) R_r0_26 (by decide))
      have ew27 := (CM.j0 (W := []) (WA := [4, 5, 28]) (CM.cons S9 (CM.mono S20 (by decide) (by decide)) (by decide) (by decide)) R_r0_27 (by decide))
      have hf16 : NF I19 r0_28 0 = x6.toInt := (by show (I19 r0_28 _).toInt = _; rw [hu16, show (0 : Nat) = j16.toNatClampNeg from (ncz0 (by omega)).symm, u2_s])
      have h5a : SMR I I19 r0_5 40 := fun k hk => by (rw [CM.j0 S20 R_r0_5 (by decide)]; exact ff2_1 k hk)
      obtain ⟨C9, eC9⟩ : ∃ f : Nat → Int, NF I19 r0_28 = f := ⟨_, rfl⟩
      rw [eC9] at hf16
      refine k_aload_n C rfl rfl rfl ?_
      refine z_iconst C (z := 2) rfl rfl rfl (fun x24 ex24 => ?_)
      have q25 : x24.toNatClampNeg = 2 := nck (by omega)
      refine c_VI C (a_X12_isPair_x hI19 H_r0 (by omega) (by omega) (fun a4 h4 => by cases (R_r0_4.symm.trans h4); (rw [e21]; omega)) (fun a4 h4 => by cases (R_r0_4.symm.trans h4); (rw [e21]; omega)) (fun a1 a4 a5 h1 h4 h5 => by cases (R_r0_1.symm.trans h1); cases (R_r0_4.symm.trans h4); cases (R_r0_5.symm.trans h5); (rw [e21, e22]; exact RCN.sm hp2 h5a rfl (by omega))) (fun a1 a4 a26 h1 h4 h26 => by cases (R_r0_1.symm.trans h1); cases (R_r0_4.symm.trans h4); cases (R_r0_26.symm.trans h26); (rw [e21, e22, ew26]; exact hp3)) (fun a1 a27 h1 h27 => by cases (R_r0_1.symm.trans h1); cases (R_r0_27.symm.trans h27); (rw [e22]; intro i hi; rw [NF.e ew27]; exact hp4 i (by omega))) (fun a28 h28 => by cases (R_r0_28.symm.trans h28); (intro i hi; rw [eC9, show i = 0 from by omega, hf16]; omega))) rfl rfl rfl rfl rfl ⟨_, rfl, rfl, T_r0, Nat.le_of_ble_eq_true rfl⟩ rfl rfl (Nat.le_of_ble_eq_true rfl) (Nat.le_of_ble_eq_true rfl) (Nat.le_of_ble_eq_true rfl) ?_
      rintro x26 I27 L28 ⟨o0x26, o1x26, p0x26, p1x26, p2x26, p3x26, p4x26, hI27, S29⟩
      have p0x26 := p0x26 r0_1 r0_4 r0_5 r0_27 r0_28 R_r0_1 R_r0_4 R_r0_5 R_r0_27 R_r0_28
      have p1x26 := p1x26 r0_1 r0_4 r0_5 r0_27 r0_28 R_r0_1 R_r0_4 R_r0_5 R_r0_27 R_r0_28
      have p2x26 := p2x26 r0_28 R_r0_28
      have p3x26 := p3x26 r0_4 R_r0_4
      have p4x26 := p4x26 r0_5 R_r0_5
      try simp only [q25] at p3x26
      have F30 : ∀ r : Nat, r ≠ 42 → I27 r0_4 r = I19 r0_4 r := fun r z0 => p3x26 r (by first | exact z0)
      try simp only [q25] at p4x26
      have F31 : ∀ r : Nat, (r < 41 * 42 ∨ 41 * 42 + 41 ≤ r) → I27 r0_5 r = I19 r0_5 r := fun r z0 => p4x26 r (by first | exact z0)
      have e32 := (p3x26 40 (by first | decide | exact ncne (by omega) (by omega) (by omega) | exact nckn (by omega) (by omega) | exact (nckn (by omega) (by omega)).symm)).trans e21
      have e33 := CM.j S29 R_r0_1 (by decide) e22
      have gx26 := rg x26
      try simp only [q25, e21, e22, e23] at p0x26
      try have q0x26 := congrArg Int32.toInt p0x26
      try simp only [q25, e21, e22, e23] at p1x26
      try have q1x26 := congrArg Int32.toInt p1x26
      try simp only [q25, e21, e22, e23] at p2x26
      try have q2x26 := congrArg Int32.toInt p2x26
      have hy19 := p0x26
      have hn19 := p1x26
      have hl19 := p2x26
      (try simp only [eC9, NF.e ew27] at hy19)
      (try simp only [eC9, NF.e ew27] at hn19)
      have h5b := p4x26
      have hFe : ∀ k : Nat, (k : Int) ≤ w_r0_4_40.toInt → RI _ r0_5 40 k = (RI I r0_5 40) k := fun k hk => RI.s h5a (by omega)
      refine b_if_eq C (t := 27) rfl rfl rfl (fun c35 => ?_) (fun c35 => ?_)
      · skip
        refine z_iinc C (z := 1) (lw := fun x36 => [(1, .int x36), (0, .ref r0)]) rfl rfl rfl (Nat.le_of_ble_eq_true rfl) rfl ⟨by omega, by omega⟩ (fun _ => rfl) (fun x36 ex36 => ?_)
        show V 30 [(1, .int x36), (0, .ref r0)] _ _ _ _
        refine k_goto C (pc2 := 2) rfl rfl ?_
        refine k_sub S [(0, .ref r0), (1, .int x36)] (List.forall_mem_cons.mpr ⟨List.mem_of_getElem? (i := 1) rfl, List.forall_mem_cons.mpr ⟨List.mem_of_getElem? (i := 0) rfl, fun _ h => nomatch h⟩⟩) ?_
        exact ihJ2 _ (MN.lt hmnn3 (by omega) (by omega)) I27 L28 x36 rfl hI27 (CM.cons S9 (CM.cons S20 (CM.mono S29 (by decide) (by decide)) (by decide) (by decide)) (by decide) (by decide)) (fun r z0 => ((F30 r z0).trans ((congrFun (CM.j0 S20 R_r0_4 (by decide)) r).trans (F11 r z0)))) (fun r z0 => ((F31 r z0).trans ((congrFun (CM.j0 S20 R_r0_5 (by decide)) r).trans (F12 r z0)))) (by omega) (by omega) (by exact NOV.s (m1 := 1) ff2_0 ((hn19 (by omega)).cg hFe (fun i hi => rfl) (fun i hi => rfl) (by omega)) rfl (fun i hi => absurd hi (Nat.not_lt_zero i)) hf16 (by omega)) (by exact fun k hk => (h5b _ (by omega)).trans (h5a k hk)) (by omega)
      refine z_iconst C (z := 1) rfl rfl rfl (fun x37 ex37 => ?_)
      exact k_iret C rfl (Or.inr ⟨rfl, z01 (by omega) (by omega)⟩) (Nat.le_of_ble_eq_true rfl) (Nat.le_of_ble_eq_true rfl) ⟨_, _, _, rfl, rfl, by omega, by omega, fun a1 a4 a5 a27 a28 h1 h4 h5 h27 h28 => by cases (R_r0_1.symm.trans h1); cases (R_r0_4.symm.trans h4); cases (R_r0_5.symm.trans h5); cases (R_r0_27.symm.trans h27); cases (R_r0_28.symm.trans h28); intro _; simp only [k0_r0_4_40, k0_r0_1_0]; obtain ⟨h7, h8⟩ := hy19 (by omega); refine ⟨fun i hi => ?_, h8.fc hFe⟩; exact (Classical.em (i = 0)).elim (fun c9 => by ((have h6 : NF I27 r0_28 i = C9 i := (by rw [← eC9]; exact congrArg Int32.toInt (hl19 i (by omega))); rw [h6, c9, hf16]; omega))) (fun c9 => by (exact h7 i (by omega) (by omega))), fun a1 a4 a5 a27 a28 h1 h4 h5 h27 h28 => by cases (R_r0_1.symm.trans h1); cases (R_r0_4.symm.trans h4); cases (R_r0_5.symm.trans h5); cases (R_r0_27.symm.trans h27); cases (R_r0_28.symm.trans h28); intro h; exfalso; omega, fun a4 h4 => by cases (R_r0_4.symm.trans h4); exact (fun r z0 => ((F30 r z0).trans ((congrFun (CM.j0 S20 R_r0_4 (by decide)) r).trans (F11 r z0)))), fun a5 h5 => by cases (R_r0_5.symm.trans h5); exact (fun r z0 => ((F31 r z0).trans ((congrFun (CM.j0 S20 R_r0_5 (by decide)) r).trans (F12 r z0)))), hI27, (CM.cons S9 (CM.cons S20 (CM.mono S29 (by decide) (by decide)) (by decide) (by decide)) (by decide) (by decide))⟩
  refine k_istore_n C (lw := [(1, .int x1), (0, .ref r0)]) rfl rfl (Nat.le_of_ble_eq_true rfl) rfl ?_
  refine k_sub S [(0, .ref r0), (1, .int x1)] (List.forall_mem_cons.mpr ⟨List.mem_of_getElem? (i := 1) rfl, List.forall_mem_cons.mpr ⟨List.mem_of_getElem? (i := 0) rfl, fun _ h => nomatch h⟩⟩) ?_
  exact J2 _ I L x1 rfl hI CM.rf (fun r z0 => rfl) (fun r z0 => rfl) (by omega) (by omega) (by exact NOV.z (by omega) (by omega)) (by exact fun k hk => rfl) (by omega)

