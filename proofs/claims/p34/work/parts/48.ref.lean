/-! the reference in any state: what is told, acts -/
def FRM (I : IT) (w f : Nat) (k D p : Int) : Prop := (I w (6 + 10 * f)).toInt = D ∧ ∀ i : Nat, (i : Int) < k → -p < (I w (6 + 10 * f + 1 + i)).toInt ∧ (I w (6 + 10 * f + 1 + i)).toInt < p
theorem FRM.z {I I' : IT} {w : Nat} {j x f k : Int32} {D p : Int} (e : I' = u2 I w j.toNatClampNeg x) (hf : 0 ≤ f.toInt) (hj : j.toInt = 6 + 10 * f.toInt) (hx : x.toInt = D) (hk : k.toInt = 0) : FRM I' w f.toNatClampNeg k.toInt D p := by
  subst e
  have f1 := ncz hf
  have j1 := ncz (x := j) (by omega)
  refine ⟨?_, fun i hi => by omega⟩
  rw [show 6 + 10 * f.toNatClampNeg = j.toNatClampNeg from by omega, u2_s]; exact hx
theorem FRM.s {I I' : IT} {w : Nat} {j x f k k' : Int32} {D p : Int} (h : FRM I w f.toNatClampNeg k.toInt D p) (e : I' = u2 I w j.toNatClampNeg x) (hf : 0 ≤ f.toInt) (h0 : 0 ≤ k.toInt) (h8 : k.toInt ≤ 8) (hj : j.toInt = 6 + 10 * f.toInt + 1 + k.toInt) (hk : k'.toInt = k.toInt + 1) (h1 : -p < x.toInt) (h2 : x.toInt < p) : FRM I' w f.toNatClampNeg k'.toInt D p := by
  subst e
  have f1 := ncz hf
  have k1 := ncz h0
  have j1 := ncz (x := j) (by omega)
  refine ⟨by rw [u2_k (by omega)]; exact h.1, fun i hi => ?_⟩
  by_cases q : 6 + 10 * f.toNatClampNeg + 1 + i = j.toNatClampNeg
  · rw [q, u2_s]; exact ⟨h1, h2⟩
  · rw [u2_k q]; exact h.2 i (by omega)
theorem FRM.e {I : IT} {w f : Nat} {k D p q : Int} (h : FRM I w f k D p) (i : Nat) (hi : (i : Int) ≤ (I w (6 + 10 * f)).toInt) (hk : D < k) (e : q = p) : -q < (I w (6 + 10 * f + 1 + i)).toInt ∧ (I w (6 + 10 * f + 1 + i)).toInt < q := by
  rw [h.1] at hi; rw [e]; exact h.2 i (by omega)
theorem a_X12_turnsBack {d : Nat} {T N : Nat → Nat} {I : IT} {L : LT} {R : RT} {A : Nat → Prop} {r0 : Nat} (hI : IM R r0 I) (H_r0 : (h_MD T N R A) r0) : Ex (d + 5) 237 [.ref r0] (T, N, I, L, R) 0 0 (pV T N R (fun I9 L9 => (IM R r0 I9 ∧ CM A R r0 [6, 7, 8, 9] [] I L I9 L9))) := by
  refine ⟨_, rfl, Nat.le_of_ble_eq_true rfl, fun V C S => ?_⟩
  show V 0 [(0, .ref r0)] [] (T, N, I, L, R) 0 0
  obtain ⟨T_r0, A_r0, ⟨r0_1, R_r0_1, H_r0_1⟩, ⟨r0_2, R_r0_2, H_r0_2⟩, ⟨r0_4, R_r0_4, H_r0_4⟩, ⟨r0_5, R_r0_5, H_r0_5⟩, ⟨r0_10, R_r0_10, H_r0_10⟩, ⟨r0_18, R_r0_18, H_r0_18⟩, ⟨r0_20, R_r0_20, H_r0_20⟩, ⟨r0_21, R_r0_21, H_r0_21⟩, ⟨r0_22, R_r0_22, H_r0_22⟩, ⟨r0_23, R_r0_23, H_r0_23⟩, ⟨r0_25, R_r0_25, H_r0_25⟩, ⟨r0_26, R_r0_26, H_r0_26⟩, ⟨r0_27, R_r0_27, H_r0_27⟩, ⟨r0_28, R_r0_28, H_r0_28⟩, ⟨r0_34, R_r0_34, H_r0_34⟩, J_r0, Y_r0⟩ := id H_r0
  have G_r0 : mF T R r0 := ⟨J_r0, Y_r0, T_r0⟩
  refine k_aload_n C rfl rfl rfl ?_
  refine k_aload_n C rfl rfl rfl ?_
  refine c_VI C (a_X12_detNow hI H_r0) rfl rfl rfl rfl rfl ⟨_, rfl, rfl, T_r0, Nat.le_of_ble_eq_true rfl⟩ rfl rfl (Nat.le_of_ble_eq_true rfl) (Nat.le_of_ble_eq_true rfl) (Nat.le_of_ble_eq_true rfl) ?_
  rintro x1 _ _ ⟨o0x1, o1x1, rfl, rfl⟩
  have gx1 := rg x1
  obtain ⟨x2, e3⟩ : ∃ x, I r0_1 0 = x := ⟨_, rfl⟩
  have gx2 := rg x2
  have ox2 := IM.pi hI R_r0_1 e3
  refine c_VI C (a_X12_inverse hI H_r0 (by omega) (by omega)) rfl rfl rfl rfl rfl ⟨_, rfl, rfl, T_r0, Nat.le_of_ble_eq_true rfl⟩ rfl rfl (Nat.le_of_ble_eq_true rfl) (Nat.le_of_ble_eq_true rfl) (Nat.le_of_ble_eq_true rfl) ?_
  rintro x4 _ _ ⟨o0x4, o1x4, p0x4, rfl, rfl⟩
  have p0x4 := p0x4 r0_1 R_r0_1
  have gx4 := rg x4
  try simp only [e3] at p0x4
  try have q0x4 := congrArg Int32.toInt p0x4
  refine k_istore_n C (lw := [(1, .int x4), (0, .ref r0)]) rfl rfl (Nat.le_of_ble_eq_true rfl) rfl ?_
  refine k_aload_n C rfl rfl rfl ?_
  refine k_aload_n C rfl rfl rfl ?_
  refine k_aload_n C rfl rfl rfl ?_
  refine z_gI C rfl rfl rfl T_r0 rfl (fun x5 ex5 => ?_)
  have gx5 := rg x5
  have ox5 := IM.f9 hI ex5
  refine k_iload_n C rfl rfl rfl ?_
  refine c_VI C (a_X12_times hI H_r0 (by omega) (by omega) (by omega) (by omega)) rfl rfl rfl rfl rfl ⟨_, rfl, rfl, T_r0, Nat.le_of_ble_eq_true rfl⟩ rfl rfl (Nat.le_of_ble_eq_true rfl) (Nat.le_of_ble_eq_true rfl) (Nat.le_of_ble_eq_true rfl) ?_
  rintro x6 _ _ ⟨o0x6, o1x6, p0x6, p1x6, p2x6, p3x6, rfl, rfl⟩
  have p0x6 := p0x6 r0_1 R_r0_1
  have p2x6 := p2x6 r0_1 R_r0_1
  have p3x6 := p3x6 r0_1 R_r0_1
  have gx6 := rg x6
  try simp only [e3, ex5] at p0x6
  try have q0x6 := congrArg Int32.toInt p0x6
  try simp only [e3, ex5] at p1x6
  try have q1x6 := congrArg Int32.toInt p1x6
  try simp only [e3, ex5] at p2x6
  try have q2x6 := congrArg Int32.toInt p2x6
  try simp only [e3, ex5] at p3x6
  try have q3x6 := congrArg Int32.toInt p3x6
  refine k_aload_n C rfl rfl rfl ?_
  refine k_aload_n C rfl rfl rfl ?_
  refine z_iconst C (z := 0) rfl rfl rfl (fun x7 ex7 => ?_)
  refine k_aload_n C rfl rfl rfl ?_
  refine z_gI C rfl rfl rfl T_r0 rfl (fun x8 ex8 => ?_)
  have gx8 := rg x8
  have ox8 := IM.f7 hI ex8
  have q9 : x7.toNatClampNeg = 0 := nck (by omega)
  refine c_VI C (a_X12_less hI H_r0 (by omega) (by omega) (by omega) (by omega)) rfl rfl rfl rfl rfl ⟨_, rfl, rfl, T_r0, Nat.le_of_ble_eq_true rfl⟩ rfl rfl (Nat.le_of_ble_eq_true rfl) (Nat.le_of_ble_eq_true rfl) (Nat.le_of_ble_eq_true rfl) ?_
  rintro x10 _ _ ⟨o0x10, o1x10, p0x10, p1x10, p2x10, p3x10, rfl, rfl⟩
  have p0x10 := p0x10 r0_1 R_r0_1
  have p2x10 := p2x10 r0_1 R_r0_1
  have p3x10 := p3x10 r0_1 R_r0_1
  have gx10 := rg x10
  try simp only [q9, e3, ex5, ex8] at p0x10
  try have q0x10 := congrArg Int32.toInt p0x10
  try simp only [q9, e3, ex5, ex8] at p1x10
  try have q1x10 := congrArg Int32.toInt p1x10
  try simp only [q9, e3, ex5, ex8] at p2x10
  try have q2x10 := congrArg Int32.toInt p2x10
  try simp only [q9, e3, ex5, ex8] at p3x10
  try have q3x10 := congrArg Int32.toInt p3x10
  refine k_iload_n C rfl rfl rfl ?_
  refine c_VI C (a_X12_times hI H_r0 (by omega) (by omega) (by omega) (by omega)) rfl rfl rfl rfl rfl ⟨_, rfl, rfl, T_r0, Nat.le_of_ble_eq_true rfl⟩ rfl rfl (Nat.le_of_ble_eq_true rfl) (Nat.le_of_ble_eq_true rfl) (Nat.le_of_ble_eq_true rfl) ?_
  rintro x11 _ _ ⟨o0x11, o1x11, p0x11, p1x11, p2x11, p3x11, rfl, rfl⟩
  have p0x11 := p0x11 r0_1 R_r0_1
  have p2x11 := p2x11 r0_1 R_r0_1
  have p3x11 := p3x11 r0_1 R_r0_1
  have gx11 := rg x11
  try simp only [e3, ex5, ex8] at p0x11
  try have q0x11 := congrArg Int32.toInt p0x11
  try simp only [e3, ex5, ex8] at p1x11
  try have q1x11 := congrArg Int32.toInt p1x11
  try simp only [e3, ex5, ex8] at p2x11
  try have q2x11 := congrArg Int32.toInt p2x11
  try simp only [e3, ex5, ex8] at p3x11
  try have q3x11 := congrArg Int32.toInt p3x11
  refine k_aload_n C rfl rfl rfl ?_
  refine k_aload_n C rfl rfl rfl ?_
  refine z_iconst C (z := 0) rfl rfl rfl (fun x12 ex12 => ?_)
  refine k_aload_n C rfl rfl rfl ?_
  refine z_gI C rfl rfl rfl T_r0 rfl (fun x13 ex13 => ?_)
  have gx13 := rg x13
  have ox13 := IM.f8 hI ex13
  have q14 : x12.toNatClampNeg = 0 := nck (by omega)
  refine c_VI C (a_X12_less hI H_r0 (by omega) (by omega) (by omega) (by omega)) rfl rfl rfl rfl rfl ⟨_, rfl, rfl, T_r0, Nat.le_of_ble_eq_true rfl⟩ rfl rfl (Nat.le_of_ble_eq_true rfl) (Nat.le_of_ble_eq_true rfl) (Nat.le_of_ble_eq_true rfl) ?_
  rintro x15 _ _ ⟨o0x15, o1x15, p0x15, p1x15, p2x15, p3x15, rfl, rfl⟩
  have p0x15 := p0x15 r0_1 R_r0_1
  have p2x15 := p2x15 r0_1 R_r0_1
  have p3x15 := p3x15 r0_1 R_r0_1
  have gx15 := rg x15
  try simp only [q14, e3, ex5, ex8, ex13] at p0x15
  try have q0x15 := congrArg Int32.toInt p0x15
  try simp only [q14, e3, ex5, ex8, ex13] at p1x15
  try have q1x15 := congrArg Int32.toInt p1x15
  try simp only [q14, e3, ex5, ex8, ex13] at p2x15
  try have q2x15 := congrArg Int32.toInt p2x15
  try simp only [q14, e3, ex5, ex8, ex13] at p3x15
  try have q3x15 := congrArg Int32.toInt p3x15
  refine k_iload_n C rfl rfl rfl ?_
  refine c_VI C (a_X12_times hI H_r0 (by omega) (by omega) (by omega) (by omega)) rfl rfl rfl rfl rfl ⟨_, rfl, rfl, T_r0, Nat.le_of_ble_eq_true rfl⟩ rfl rfl (Nat.le_of_ble_eq_true rfl) (Nat.le_of_ble_eq_true rfl) (Nat.le_of_ble_eq_true rfl) ?_
  rintro x16 _ _ ⟨o0x16, o1x16, p0x16, p1x16, p2x16, p3x16, rfl, rfl⟩
  have p0x16 := p0x16 r0_1 R_r0_1
  have p2x16 := p2x16 r0_1 R_r0_1
  have p3x16 := p3x16 r0_1 R_r0_1
  have gx16 := rg x16
  try simp only [e3, ex5, ex8, ex13] at p0x16
  try have q0x16 := congrArg Int32.toInt p0x16
  try simp only [e3, ex5, ex8, ex13] at p1x16
  try have q1x16 := congrArg Int32.toInt p1x16
  try simp only [e3, ex5, ex8, ex13] at p2x16
  try have q2x16 := congrArg Int32.toInt p2x16
  try simp only [e3, ex5, ex8, ex13] at p3x16
  try have q3x16 := congrArg Int32.toInt p3x16
  refine k_aload_n C rfl rfl rfl ?_
  refine k_aload_n C rfl rfl rfl ?_
  refine z_gI C rfl rfl rfl T_r0 rfl (fun x17 ex17 => ?_)
  have gx17 := rg x17
  have ox17 := IM.f6 hI ex17
  refine k_iload_n C rfl rfl rfl ?_
  refine c_VI C (a_X12_times hI H_r0 (by omega) (by omega) (by omega) (by omega)) rfl rfl rfl rfl rfl ⟨_, rfl, rfl, T_r0, Nat.le_of_ble_eq_true rfl⟩ rfl rfl (Nat.le_of_ble_eq_true rfl) (Nat.le_of_ble_eq_true rfl) (Nat.le_of_ble_eq_true rfl) ?_
  rintro x18 _ _ ⟨o0x18, o1x18, p0x18, p1x18, p2x18, p3x18, rfl, rfl⟩
  have p0x18 := p0x18 r0_1 R_r0_1
  have p2x18 := p2x18 r0_1 R_r0_1
  have p3x18 := p3x18 r0_1 R_r0_1
  have gx18 := rg x18
  try simp only [e3, ex5, ex8, ex13, ex17] at p0x18
  try have q0x18 := congrArg Int32.toInt p0x18
  try simp only [e3, ex5, ex8, ex13, ex17] at p1x18
  try have q1x18 := congrArg Int32.toInt p1x18
  try simp only [e3, ex5, ex8, ex13, ex17] at p2x18
  try have q2x18 := congrArg Int32.toInt p2x18
  try simp only [e3, ex5, ex8, ex13, ex17] at p3x18
  try have q3x18 := congrArg Int32.toInt p3x18
  refine c_VV C (a_X12_takesTable hI H_r0 (by omega) (by omega) (by omega) (by omega) (by omega) (by omega) (by omega) (by omega)) rfl rfl rfl rfl rfl ⟨_, rfl, rfl, T_r0, Nat.le_of_ble_eq_true rfl⟩ rfl rfl (Nat.le_of_ble_eq_true rfl) (Nat.le_of_ble_eq_true rfl) (Nat.le_of_ble_eq_true rfl) ?_
  rintro I20 L21 ⟨hI20, S22⟩
  have e23 := CM.j S22 R_r0_1 (by decide) e3
  exact k_vret C rfl rfl (Nat.le_of_ble_eq_true rfl) (Nat.le_of_ble_eq_true rfl) ⟨_, _, rfl, rfl, hI20, (CM.mono S22 (by decide) (by decide))⟩

theorem a_X12_lays {d : Nat} {T N : Nat → Nat} {I : IT} {L : LT} {R : RT} {A : Nat → Prop} {r0 : Nat} (hI : IM R r0 I) (H_r0 : (h_MD T N R A) r0) (hp0 : ∀ a1, R r0 1 = some a1 → (I a1 2).toInt ≤ 7) : Ex (d + 1) 234 [.ref r0] (T, N, I, L, R) 0 0 (pI T N R (fun x9 I9 L9 => (-1 ≤ x9.toInt) ∧ (x9.toInt ≤ 7) ∧ (∀ a1, R r0 1 = some a1 → (I a1 4).toInt + (I a1 5).toInt ≤ 40 → (I9 a1 4).toInt + (I9 a1 5).toInt ≤ 40) ∧ (IM R r0 I9 ∧ CM A R r0 [] [1] I L I9 L9))) := by
  refine ⟨_, rfl, Nat.le_of_ble_eq_true rfl, fun V C S => ?_⟩
  show V 0 [(0, .ref r0)] [] (T, N, I, L, R) 0 0
  obtain ⟨T_r0, A_r0, ⟨r0_1, R_r0_1, H_r0_1⟩, ⟨r0_2, R_r0_2, H_r0_2⟩, ⟨r0_4, R_r0_4, H_r0_4⟩, ⟨r0_5, R_r0_5, H_r0_5⟩, ⟨r0_10, R_r0_10, H_r0_10⟩, ⟨r0_18, R_r0_18, H_r0_18⟩, ⟨r0_20, R_r0_20, H_r0_20⟩, ⟨r0_21, R_r0_21, H_r0_21⟩, ⟨r0_22, R_r0_22, H_r0_22⟩, ⟨r0_23, R_r0_23, H_r0_23⟩, ⟨r0_25, R_r0_25, H_r0_25⟩, ⟨r0_26, R_r0_26, H_r0_26⟩, ⟨r0_27, R_r0_27, H_r0_27⟩, ⟨r0_28, R_r0_28, H_r0_28⟩, ⟨r0_34, R_r0_34, H_r0_34⟩, J_r0, Y_r0⟩ := id H_r0
  have G_r0 : mF T R r0 := ⟨J_r0, Y_r0, T_r0⟩
  obtain ⟨w_r0_1_4, k0_r0_1_4⟩ : ∃ x, I r0_1 4 = x := ⟨_, rfl⟩
  have gw_r0_1_4 := rg w_r0_1_4
  have ow_r0_1_4 := IM.c4 hI R_r0_1 k0_r0_1_4
  obtain ⟨w_r0_1_5, k0_r0_1_5⟩ : ∃ x, I r0_1 5 = x := ⟨_, rfl⟩
  have gw_r0_1_5 := rg w_r0_1_5
  have ow_r0_1_5 := IM.c5 hI R_r0_1 k0_r0_1_5
  obtain ⟨w_r0_1_2, k0_r0_1_2⟩ : ∃ x, I r0_1 2 = x := ⟨_, rfl⟩
  have gw_r0_1_2 := rg w_r0_1_2
  have ow_r0_1_2 := IM.c2 hI R_r0_1 k0_r0_1_2
  have hp0 := hp0 r0_1 R_r0_1
  try simp only [k0_r0_1_4, k0_r0_1_5, k0_r0_1_2] at hp0
  refine z_sipush C (z := 166) rfl rfl rfl (fun x1 ex1 => ?_)
  refine z_iconst C (z := 4) rfl rfl rfl (fun x2 ex2 => ?_)
  refine k_aload_n C rfl rfl rfl ?_
  refine g_R C rfl rfl rfl T_r0 rfl R_r0_1 ?_
  refine z_iconst C (z := 2) rfl rfl rfl (fun x3 ex3 => ?_)
  obtain ⟨T_r0_1, N_r0_1, A_r0_1⟩ := id H_r0_1
  refine a_I C rfl rfl T_r0_1 (by rw [N_r0_1]; exact vpi (by omega) (by omega)) ((congrArg (I r0_1) (nck (n := 2) (by omega))).trans k0_r0_1_2) ?_
  refine z_imulL C (c := 4) rfl rfl (by omega) ⟨by omega, by omega⟩ (fun x4 ex4 => ?_)
  refine z_iadd C rfl rfl ⟨by omega, by omega⟩ (fun x5 ex5 => ?_)
  refine k_istore_n C (lw := [(1, .int x5), (0, .ref r0)]) rfl rfl (Nat.le_of_ble_eq_true rfl) rfl ?_
  refine k_aload_n C rfl rfl rfl ?_
  refine g_R C rfl rfl rfl T_r0 rfl R_r0_1 ?_
  refine k_iload_n C rfl rfl rfl ?_
  refine k_aload_n C rfl rfl rfl ?_
  refine z_gI C rfl rfl rfl T_r0 rfl (fun x6 ex6 => ?_)
  have gx6 := rg x6
  have ox6 := IM.f6 hI ex6
  refine z_sI C rfl rfl T_r0_1 N_r0_1 (by omega) (by omega) (fun I7 uI7 => ?_)
  have hI7 : IM R r0 I7 := IM.arr hI G_r0 R_r0_1 ⟨(fun h => absurd h (by decide)), (fun h => absurd h (by decide)), (fun h => absurd h (by decide))⟩ (fun _ => WOK.tab (IM.w hI R_r0_1) ⟨by omega, by omega⟩ (by omega) (by omega)) uI7
  have S8 : CM A R r0 [] [1] I L I7 L := CM.a G_r0 R_r0_1 A_r0_1 uI7
  have e9 := u2_j uI7 (by first | decide | exact ncne (by omega) (by omega) (by omega) | exact nckn (by omega) (by omega) | exact (nckn (by omega) (by omega)).symm) k0_r0_1_4
  have e10 := u2_j uI7 (by first | decide | exact ncne (by omega) (by omega) (by omega) | exact nckn (by omega) (by omega) | exact (nckn (by omega) (by omega)).symm) k0_r0_1_5
  have e11 := u2_j uI7 (by first | decide | exact ncne (by omega) (by omega) (by omega) | exact nckn (by omega) (by omega) | exact (nckn (by omega) (by omega)).symm) k0_r0_1_2
  have e12 := u2_n uI7 (fun e => (mF.ne G_r0 R_r0_1) e.symm) ex6
  have e13 := u2_e uI7
  refine k_aload_n C rfl rfl rfl ?_
  refine g_R C rfl rfl rfl T_r0 rfl R_r0_1 ?_
  refine k_iload_n C rfl rfl rfl ?_
  refine z_iconst C (z := 1) rfl rfl rfl (fun x14 ex14 => ?_)
  refine z_iadd C rfl rfl ⟨by omega, by omega⟩ (fun x15 ex15 => ?_)
  refine k_aload_n C rfl rfl rfl ?_
  refine z_gI C rfl rfl rfl T_r0 rfl (fun x16 ex16 => ?_)
  have gx16 := rg x16
  have ox16 := IM.f7 hI7 ex16
  refine z_sI C rfl rfl T_r0_1 N_r0_1 (by omega) (by omega) (fun I17 uI17 => ?_)
  have hI17 : IM R r0 I17 := IM.arr hI7 G_r0 R_r0_1 ⟨(fun h => absurd h (by decide)), (fun h => absurd h (by decide)), (fun h => absurd h (by decide))⟩ (fun _ => WOK.tab (IM.w hI7 R_r0_1) ⟨by omega, by omega⟩ (by omega) (by omega)) uI17
  have S18 : CM A R r0 [] [1] I7 L I17 L := CM.a G_r0 R_r0_1 A_r0_1 uI17
  have e19 := u2_j uI17 (by first | decide | exact ncne (by omega) (by omega) (by omega) | exact nckn (by omega) (by omega) | exact (nckn (by omega) (by omega)).symm) e9
  have e20 := u2_j uI17 (by first | decide | exact ncne (by omega) (by omega) (by omega) | exact nckn (by omega) (by omega) | exact (nckn (by omega) (by omega)).symm) e10
  have e21 := u2_j uI17 (by first | decide | exact ncne (by omega) (by omega) (by omega) | exact nckn (by omega) (by omega) | exact (nckn (by omega) (by omega)).symm) e11
  have e22 := u2_n uI17 (fun e => (mF.ne G_r0 R_r0_1) e.symm) e12
  have e24 := u2_n uI17 (fun e => (mF.ne G_r0 R_r0_1) e.symm) ex16
  have e25 := u2_e uI17
  refine k_aload_n C rfl rfl rfl ?_
  refine g_R C rfl rfl rfl T_r0 rfl R_r0_1 ?_
  refine k_iload_n C rfl rfl rfl ?_
  refine z_iconst C (z := 2) rfl rfl rfl (fun x26 ex26 => ?_)
  refine z_iadd C rfl rfl ⟨by omega, by omega⟩ (fun x27 ex27 => ?_)
  refine k_aload_n C rfl rfl rfl ?_
  refine z_gI C rfl rfl rfl T_r0 rfl (fun x28 ex28 => ?_)
  have gx28 := rg x28
  have ox28 := IM.f8 hI17 ex28
  refine z_sI C rfl rfl T_r0_1 N_r0_1 (by omega) (by omega) (fun I29 uI29 => ?_)
  have hI29 : IM R r0 I29 := IM.arr hI17 G_r0 R_r0_1 ⟨(fun h => absurd h (by decide)), (fun h => absurd h (by decide)), (fun h => absurd h (by decide))⟩ (fun _ => WOK.tab (IM.w hI17 R_r0_1) ⟨by omega, by omega⟩ (by omega) (by omega)) uI29
  have S30 : CM A R r0 [] [1] I17 L I29 L := CM.a G_r0 R_r0_1 A_r0_1 uI29
  have e31 := u2_j uI29 (by first | decide | exact ncne (by omega) (by omega) (by omega) | exact nckn (by omega) (by omega) | exact (nckn (by omega) (by omega)).symm) e19
  have e32 := u2_j uI29 (by first | decide | exact ncne (by omega) (by omega) (by omega) | exact nckn (by omega) (by omega) | exact (nckn (by omega) (by omega)).symm) e20
  have e33 := u2_j uI29 (by first | decide | exact ncne (by omega) (by omega) (by omega) | exact nckn (by omega) (by omega) | exact (nckn (by omega) (by omega)).symm) e21
  have e34 := u2_n uI29 (fun e => (mF.ne G_r0 R_r0_1) e.symm) e22
  have e35 := u2_n uI29 (fun e => (mF.ne G_r0 R_r0_1) e.symm) e24
  have e37 := u2_n uI29 (fun e => (mF.ne G_r0 R_r0_1) e.symm) ex28
  have e38 := u2_e uI29
  refine k_aload_n C rfl rfl rfl ?_
  refine g_R C rfl rfl rfl T_r0 rfl R_r0_1 ?_
  refine k_iload_n C rfl rfl rfl ?_
  refine z_iconst C (z := 3) rfl rfl rfl (fun x39 ex39 => ?_)
  refine z_iadd C rfl rfl ⟨by omega, by omega⟩ (fun x40 ex40 => ?_)
  refine k_aload_n C rfl rfl rfl ?_
  refine z_gI C rfl rfl rfl T_r0 rfl (fun x41 ex41 => ?_)
  have gx41 := rg x41
  have ox41 := IM.f9 hI29 ex41
  refine z_sI C rfl rfl T_r0_1 N_r0_1 (by omega) (by omega) (fun I42 uI42 => ?_)
  have hI42 : IM R r0 I42 := IM.arr hI29 G_r0 R_r0_1 ⟨(fun h => absurd h (by decide)), (fun h => absurd h (by decide)), (fun h => absurd h (by decide))⟩ (fun _ => WOK.tab (IM.w hI29 R_r0_1) ⟨by omega, by omega⟩ (by omega) (by omega)) uI42
  have S43 : CM A R r0 [] [1] I29 L I42 L := CM.a G_r0 R_r0_1 A_r0_1 uI42
  have e44 := u2_j uI42 (by first | decide | exact ncne (by omega) (by omega) (by omega) | exact nckn (by omega) (by omega) | exact (nckn (by omega) (by omega)).symm) e31
  have e45 := u2_j uI42 (by first | decide | exact ncne (by omega) (by omega) (by omega) | exact nckn (by omega) (by omega) | exact (nckn (by omega) (by omega)).symm) e32
  have e46 := u2_j uI42 (by first | decide | exact ncne (by omega) (by omega) (by omega) | exact nckn (by omega) (by omega) | exact (nckn (by omega) (by omega)).symm) e33
  have e47 := u2_n uI42 (fun e => (mF.ne G_r0 R_r0_1) e.symm) e34
  have e48 := u2_n uI42 (fun e => (mF.ne G_r0 R_r0_1) e.symm) e35
  have e49 := u2_n uI42 (fun e => (mF.ne G_r0 R_r0_1) e.symm) e37
  have e51 := u2_n uI42 (fun e => (mF.ne G_r0 R_r0_1) e.symm) ex41
  have e52 := u2_e uI42
  refine k_aload_n C rfl rfl rfl ?_
  refine g_R C rfl rfl rfl T_r0 rfl R_r0_1 ?_
  refine z_iconst C (z := 2) rfl rfl rfl (fun x53 ex53 => ?_)
  refine k_dup2 C rfl rfl rfl rfl ?_
  refine a_I C rfl rfl T_r0_1 (by rw [N_r0_1]; exact vpi (by omega) (by omega)) ((congrArg (I42 r0_1) (nck (n := 2) (by omega))).trans e46) ?_
  refine z_iconst C (z := 1) rfl rfl rfl (fun x54 ex54 => ?_)
  refine z_iadd C rfl rfl ⟨by omega, by omega⟩ (fun x55 ex55 => ?_)
  refine z_sI C rfl rfl T_r0_1 N_r0_1 (by omega) (by omega) (fun I56 uI56 => ?_)
  have uI56 : I56 = u2 I42 r0_1 2 (x55) := by rw [uI56, nck (n := 2) (by omega)]
  have hI56 : IM R r0 I56 := IM.arr hI42 G_r0 R_r0_1 ⟨(fun h => absurd h (by decide)), (fun h => absurd h (by decide)), (fun h => absurd h (by decide))⟩ (fun _ => WOK.c2 (IM.w hI42 R_r0_1) (by omega) (by omega)) uI56
  have S57 : CM A R r0 [] [1] I42 L I56 L := CM.a G_r0 R_r0_1 A_r0_1 uI56
  have e58 := u2_j uI56 (by first | decide | exact ncne (by omega) (by omega) (by omega) | exact nckn (by omega) (by omega) | exact (nckn (by omega) (by omega)).symm) e44
  have e59 := u2_j uI56 (by first | decide | exact ncne (by omega) (by omega) (by omega) | exact nckn (by omega) (by omega) | exact (nckn (by omega) (by omega)).symm) e45
  have e61 := u2_n uI56 (fun e => (mF.ne G_r0 R_r0_1) e.symm) e47
  have e62 := u2_n uI56 (fun e => (mF.ne G_r0 R_r0_1) e.symm) e48
  have e63 := u2_n uI56 (fun e => (mF.ne G_r0 R_r0_1) e.symm) e49
  have e64 := u2_n uI56 (fun e => (mF.ne G_r0 R_r0_1) e.symm) e51
  have e65 := u2_j uI56 (by first | decide | exact ncne (by omega) (by omega) (by omega) | exact nckn (by omega) (by omega) | exact (nckn (by omega) (by omega)).symm) e52
  have e66 := u2_e uI56
  refine k_aload_n C rfl rfl rfl ?_
  refine g_R C rfl rfl rfl T_r0 rfl R_r0_1 ?_
  refine z_iconst C (z := 2) rfl rfl rfl (fun x67 ex67 => ?_)
  refine a_I C rfl rfl T_r0_1 (by rw [N_r0_1]; exact vpi (by omega) (by omega)) ((congrArg (I56 r0_1) (nck (n := 2) (by omega))).trans e66) ?_
  refine z_iconst C (z := 1) rfl rfl rfl (fun x68 ex68 => ?_)
  refine z_isub C rfl rfl ⟨by omega, by omega⟩ (fun x69 ex69 => ?_)
  exact k_iret C rfl (Or.inl rfl) (Nat.le_of_ble_eq_true rfl) (Nat.le_of_ble_eq_true rfl) ⟨_, _, _, rfl, rfl, by omega, by omega, fun a1 h1 => by cases (R_r0_1.symm.trans h1); first | omega | (simp only [e58, e59, e61, e62, e63, e64, e65, e66, k0_r0_1_4, k0_r0_1_5, k0_r0_1_2] <;> omega), hI56, (CM.cons S8 (CM.cons S18 (CM.cons S30 (CM.cons S43 (CM.mono S57 (by decide) (by decide)) (by decide) (by decide)) (by decide) (by decide)) (by decide) (by decide)) (by decide) (by decide))⟩

set_option maxHeartbeats 8000000 in
theorem a_X12_table {d : Nat} {T N : Nat → Nat} {I : IT} {L : LT} {R : RT} {A : Nat → Prop} {r0 : Nat} {n1 n2 n3 n4 : Int32} (hI : IM R r0 I) (H_r0 : (h_MD T N R A) r0) : Ex (d + 4) 235 [.ref r0, .int n1, .int n2, .int n3, .int n4] (T, N, I, L, R) 0 0 (pI T N R (fun x9 I9 L9 => (-1 ≤ x9.toInt) ∧ (x9.toInt ≤ 7) ∧ (∀ a1, R r0 1 = some a1 → (I a1 4).toInt + (I a1 5).toInt ≤ 40 → (I9 a1 4).toInt + (I9 a1 5).toInt ≤ 40) ∧ (IM R r0 I9 ∧ CM A R r0 [0, 6, 7, 8, 9] [1] I L I9 L9))) := by
  refine ⟨_, rfl, Nat.le_of_ble_eq_true rfl, fun V C S => ?_⟩
  show V 0 [(0, .ref r0), (1, .int n1), (2, .int n2), (3, .int n3), (4, .int n4)] [] (T, N, I, L, R) 0 0
  have gn1 := rg n1
  have gn2 := rg n2
  have gn3 := rg n3
  have gn4 := rg n4
  obtain ⟨T_r0, A_r0, ⟨r0_1, R_r0_1, H_r0_1⟩, ⟨r0_2, R_r0_2, H_r0_2⟩, ⟨r0_4, R_r0_4, H_r0_4⟩, ⟨r0_5, R_r0_5, H_r0_5⟩, ⟨r0_10, R_r0_10, H_r0_10⟩, ⟨r0_18, R_r0_18, H_r0_18⟩, ⟨r0_20, R_r0_20, H_r0_20⟩, ⟨r0_21, R_r0_21, H_r0_21⟩, ⟨r0_22, R_r0_22, H_r0_22⟩, ⟨r0_23, R_r0_23, H_r0_23⟩, ⟨r0_25, R_r0_25, H_r0_25⟩, ⟨r0_26, R_r0_26, H_r0_26⟩, ⟨r0_27, R_r0_27, H_r0_27⟩, ⟨r0_28, R_r0_28, H_r0_28⟩, ⟨r0_34, R_r0_34, H_r0_34⟩, J_r0, Y_r0⟩ := id H_r0
  have G_r0 : mF T R r0 := ⟨J_r0, Y_r0, T_r0⟩
  obtain ⟨w_r0_1_4, k0_r0_1_4⟩ : ∃ x, I r0_1 4 = x := ⟨_, rfl⟩
  have gw_r0_1_4 := rg w_r0_1_4
  have ow_r0_1_4 := IM.c4 hI R_r0_1 k0_r0_1_4
  obtain ⟨w_r0_1_5, k0_r0_1_5⟩ : ∃ x, I r0_1 5 = x := ⟨_, rfl⟩
  have gw_r0_1_5 := rg w_r0_1_5
  have ow_r0_1_5 := IM.c5 hI R_r0_1 k0_r0_1_5
  refine k_aload_n C rfl rfl rfl ?_
  refine z_iconst C (z := 0) rfl rfl rfl (fun x1 ex1 => ?_)
  refine z_pI C rfl rfl rfl T_r0 (Or.inr rfl) rfl (fun I2 uI2 => ?_)
  have hI2 : IM R r0 I2 := IM.fld hI G_r0 ⟨(fun h => absurd h (by decide)), (fun h => absurd h (by decide)), (fun h => absurd h (by decide)), (fun h => absurd h (by decide)), (fun h => absurd h (by decide))⟩ uI2
  have S3 : CM A R r0 [0] [] I L I2 L := CM.f G_r0 A_r0 uI2
  have e4 := u2_n uI2 (mF.ne G_r0 R_r0_1) k0_r0_1_4
  have e5 := u2_n uI2 (mF.ne G_r0 R_r0_1) k0_r0_1_5
  have e6 := u2_e uI2
  refine k_aload_n C rfl rfl rfl ?_
  refine k_aload_n C rfl rfl rfl ?_
  refine k_iload_n C rfl rfl rfl ?_
  refine z_i2l C rfl rfl (fun lg7 elg7 => ?_)
  obtain ⟨x8, e9⟩ : ∃ x, I2 r0_1 0 = x := ⟨_, rfl⟩
  have gx8 := rg x8
  have ox8 := IM.pi hI2 R_r0_1 e9
  refine c_VI C (a_X12_mod hI2 H_r0) rfl rfl rfl rfl rfl ⟨_, rfl, rfl, T_r0, Nat.le_of_ble_eq_true rfl⟩ rfl rfl (Nat.le_of_ble_eq_true rfl) (Nat.le_of_ble_eq_true rfl) (Nat.le_of_ble_eq_true rfl) ?_
  rintro x10 _ _ ⟨o0x10, o1x10, p0x10, rfl, rfl⟩
  have p0x10 := p0x10 r0_1 R_r0_1
  have gx10 := rg x10
  try simp only [e4, e5, e6, e9] at p0x10
  try have q0x10 := congrArg Int32.toInt p0x10
  refine k_aload_n C rfl rfl rfl ?_
  refine k_iload_n C rfl rfl rfl ?_
  refine z_i2l C rfl rfl (fun lg11 elg11 => ?_)
  refine c_VI C (a_X12_mod hI2 H_r0) rfl rfl rfl rfl rfl ⟨_, rfl, rfl, T_r0, Nat.le_of_ble_eq_true rfl⟩ rfl rfl (Nat.le_of_ble_eq_true rfl) (Nat.le_of_ble_eq_true rfl) (Nat.le_of_ble_eq_true rfl) ?_
  rintro x12 _ _ ⟨o0x12, o1x12, p0x12, rfl, rfl⟩
  have p0x12 := p0x12 r0_1 R_r0_1
  have gx12 := rg x12
  try simp only [e4, e5, e6, e9] at p0x12
  try have q0x12 := congrArg Int32.toInt p0x12
  refine k_aload_n C rfl rfl rfl ?_
  refine k_iload_n C rfl rfl rfl ?_
  refine z_i2l C rfl rfl (fun lg13 elg13 => ?_)
  refine c_VI C (a_X12_mod hI2 H_r0) rfl rfl rfl rfl rfl ⟨_, rfl, rfl, T_r0, Nat.le_of_ble_eq_true rfl⟩ rfl rfl (Nat.le_of_ble_eq_true rfl) (Nat.le_of_ble_eq_true rfl) (Nat.le_of_ble_eq_true rfl) ?_
  rintro x14 _ _ ⟨o0x14, o1x14, p0x14, rfl, rfl⟩
  have p0x14 := p0x14 r0_1 R_r0_1
  have gx14 := rg x14
  try simp only [e4, e5, e6, e9] at p0x14
  try have q0x14 := congrArg Int32.toInt p0x14
  refine k_aload_n C rfl rfl rfl ?_
  refine k_iload C rfl rfl rfl ?_
  refine z_i2l C rfl rfl (fun lg15 elg15 => ?_)
  refine c_VI C (a_X12_mod hI2 H_r0) rfl rfl rfl rfl rfl ⟨_, rfl, rfl, T_r0, Nat.le_of_ble_eq_true rfl⟩ rfl rfl (Nat.le_of_ble_eq_true rfl) (Nat.le_of_ble_eq_true rfl) (Nat.le_of_ble_eq_true rfl) ?_
  rintro x16 _ _ ⟨o0x16, o1x16, p0x16, rfl, rfl⟩
  have p0x16 := p0x16 r0_1 R_r0_1
  have gx16 := rg x16
  try simp only [e4, e5, e6, e9] at p0x16
  try have q0x16 := congrArg Int32.toInt p0x16
  refine c_VV C (a_X12_takesTable hI2 H_r0 (by omega) (by omega) (by omega) (by omega) (by omega) (by omega) (by omega) (by omega)) rfl rfl rfl rfl rfl ⟨_, rfl, rfl, T_r0, Nat.le_of_ble_eq_true rfl⟩ rfl rfl (Nat.le_of_ble_eq_true rfl) (Nat.le_of_ble_eq_true rfl) (Nat.le_of_ble_eq_true rfl) ?_
  rintro I18 L19 ⟨hI18, S20⟩
  have e21 := CM.j S20 R_r0_1 (by decide) e4
  have e22 := CM.j S20 R_r0_1 (by decide) e5
  have e23 := CM.k S20 (by decide) e6
  have e24 := CM.j S20 R_r0_1 (by decide) e9
  refine k_aload_n C rfl rfl rfl ?_
  refine k_aload_n C rfl rfl rfl ?_
  refine c_VI C (a_X12_detNow hI18 H_r0) rfl rfl rfl rfl rfl ⟨_, rfl, rfl, T_r0, Nat.le_of_ble_eq_true rfl⟩ rfl rfl (Nat.le_of_ble_eq_true rfl) (Nat.le_of_ble_eq_true rfl) (Nat.le_of_ble_eq_true rfl) ?_
  rintro x25 _ _ ⟨o0x25, o1x25, rfl, rfl⟩
  have gx25 := rg x25
  refine b_if_ne C (t := 46) rfl rfl rfl (fun c26 => ?_) (fun c26 => ?_)
  · skip
    refine z_iconst C (z := 0) rfl rfl rfl (fun x27 ex27 => ?_)
    refine z_iconst C (z := 1) rfl rfl rfl (fun x28 ex28 => ?_)
    have q29 : x27.toNatClampNeg = 0 := nck (by omega)
    have q30 : x28.toNatClampNeg = 1 := nck (by omega)
    refine c_VI C (a_X12_throwsIf hI18 H_r0 (by omega) (by omega)) rfl rfl rfl rfl rfl ⟨_, rfl, rfl, T_r0, Nat.le_of_ble_eq_true rfl⟩ rfl rfl (Nat.le_of_ble_eq_true rfl) (Nat.le_of_ble_eq_true rfl) (Nat.le_of_ble_eq_true rfl) ?_
    rintro x31 I32 L33 ⟨o0x31, o1x31, p0x31, hI32, S34⟩
    have e35 := CM.j S34 R_r0_1 (by decide) e21
    have e36 := CM.j S34 R_r0_1 (by decide) e22
    have e38 := CM.j S34 R_r0_1 (by decide) e24
    have gx31 := rg x31
    try simp only [q29, q30, e21, e22, e23, e24] at p0x31
    try have q0x31 := congrArg Int32.toInt p0x31
    refine b_if_ne C (t := 78) rfl rfl rfl (fun c39 => by exfalso; omega) (fun c39 => ?_)
    refine k_aload_n C rfl rfl rfl ?_
    refine k_aload_n C rfl rfl rfl ?_
    refine g_R C rfl rfl rfl T_r0 rfl R_r0_1 ?_
    refine z_iconst C (z := 2) rfl rfl rfl (fun x40 ex40 => ?_)
    obtain ⟨T_r0_1, N_r0_1, A_r0_1⟩ := id H_r0_1
    refine z_aI C rfl rfl T_r0_1 N_r0_1 (by omega) (by omega) (fun x41 ex41 => ?_)
    have gx41 := rg x41
    have nx41 : I32 r0_1 2 = x41 := (congrArg (I32 r0_1) (nck (n := 2) (by omega))).symm.trans ex41
    have ox41 := IM.c2 hI32 R_r0_1 nx41
    refine z_bipush C (z := 8) rfl rfl rfl (fun x42 ex42 => ?_)
    refine b_icmp_ne C (t := 70) rfl rfl rfl (fun c43 => ?_) (fun c43 => ?_)
    · skip
      refine z_iconst C (z := 0) rfl rfl rfl (fun x44 ex44 => ?_)
      refine z_iconst C (z := 2) rfl rfl rfl (fun x45 ex45 => ?_)
      have q46 : x44.toNatClampNeg = 0 := nck (by omega)
      have q47 : x45.toNatClampNeg = 2 := nck (by omega)
      refine c_VI C (a_X12_throwsIf hI32 H_r0 (by omega) (by omega)) rfl rfl rfl rfl rfl ⟨_, rfl, rfl, T_r0, Nat.le_of_ble_eq_true rfl⟩ rfl rfl (Nat.le_of_ble_eq_true rfl) (Nat.le_of_ble_eq_true rfl) (Nat.le_of_ble_eq_true rfl) ?_
      rintro x48 I49 L50 ⟨o0x48, o1x48, p0x48, hI49, S51⟩
      have e52 := CM.j S51 R_r0_1 (by decide) e35
      have e53 := CM.j S51 R_r0_1 (by decide) e36
      have e54 := CM.j S51 R_r0_1 (by decide) e38
      have e55 := CM.j S51 R_r0_1 (by decide) nx41
      have gx48 := rg x48
      try simp only [q46, q47, e35, e36, e38, nx41] at p0x48
      try have q0x48 := congrArg Int32.toInt p0x48
      refine b_if_eq C (t := 82) rfl rfl rfl (fun c56 => ?_) (fun c56 => by exfalso; omega)
      refine k_aload_n C rfl rfl rfl ?_
      refine c_VI C (a_X12_lays hI49 H_r0 (fun a1 h1 => by cases (R_r0_1.symm.trans h1); first | omega | (simp only [e52, e53, e54, e55] <;> omega))) rfl rfl rfl rfl rfl ⟨_, rfl, rfl, T_r0, Nat.le_of_ble_eq_true rfl⟩ rfl rfl (Nat.le_of_ble_eq_true rfl) (Nat.le_of_ble_eq_true rfl) (Nat.le_of_ble_eq_true rfl) ?_
      rintro x57 I58 L59 ⟨o0x57, o1x57, p0x57, hI58, S60⟩
      have p0x57 := p0x57 r0_1 R_r0_1
      have gx57 := rg x57
      obtain ⟨x65, e66⟩ : ∃ x, I58 r0_1 4 = x := ⟨_, rfl⟩
      have gx65 := rg x65
      have ox65 := IM.c4 hI58 R_r0_1 e66
      obtain ⟨x67, e68⟩ : ∃ x, I58 r0_1 5 = x := ⟨_, rfl⟩
      have gx67 := rg x67
      have ox67 := IM.c5 hI58 R_r0_1 e68
      try simp only [e52, e53, e54, e55, e66, e68] at p0x57
      try have q0x57 := congrArg Int32.toInt p0x57
      exact k_iret C rfl (Or.inl rfl) (Nat.le_of_ble_eq_true rfl) (Nat.le_of_ble_eq_true rfl) ⟨_, _, _, rfl, rfl, by omega, by omega, fun a1 h1 => by cases (R_r0_1.symm.trans h1); first | omega | (simp only [e66, e68, k0_r0_1_4, k0_r0_1_5] <;> omega), hI58, (CM.cons S3 (CM.cons S20 (CM.cons S34 (CM.cons S51 (CM.mono S60 (by decide) (by decide)) (by decide) (by decide)) (by decide) (by decide)) (by decide) (by decide)) (by decide) (by decide))⟩
    refine z_iconst C (z := 1) rfl rfl rfl (fun x69 ex69 => ?_)
    refine k_goto C (pc2 := 71) rfl rfl ?_
    refine z_iconst C (z := 2) rfl rfl rfl (fun x70 ex70 => ?_)
    have q71 : x69.toNatClampNeg = 1 := nck (by omega)
    have q72 : x70.toNatClampNeg = 2 := nck (by omega)
    refine c_VI C (a_X12_throwsIf hI32 H_r0 (by omega) (by omega)) rfl rfl rfl rfl rfl ⟨_, rfl, rfl, T_r0, Nat.le_of_ble_eq_true rfl⟩ rfl rfl (Nat.le_of_ble_eq_true rfl) (Nat.le_of_ble_eq_true rfl) (Nat.le_of_ble_eq_true rfl) ?_
    rintro x73 I74 L75 ⟨o0x73, o1x73, p0x73, hI74, S76⟩
    have e77 := CM.j S76 R_r0_1 (by decide) e35
    have e78 := CM.j S76 R_r0_1 (by decide) e36
    have e79 := CM.j S76 R_r0_1 (by decide) e38
    have e80 := CM.j S76 R_r0_1 (by decide) nx41
    have gx73 := rg x73
    try simp only [q71, q72, e35, e36, e38, nx41] at p0x73
    try have q0x73 := congrArg Int32.toInt p0x73
    refine b_if_eq C (t := 82) rfl rfl rfl (fun c81 => by exfalso; omega) (fun c81 => ?_)
    refine z_iconst C (z := 0) rfl rfl rfl (fun x82 ex82 => ?_)
    refine k_goto C (pc2 := 86) rfl rfl ?_
    exact k_iret C rfl (Or.inl rfl) (Nat.le_of_ble_eq_true rfl) (Nat.le_of_ble_eq_true rfl) ⟨_, _, _, rfl, rfl, by omega, by omega, fun a1 h1 => by cases (R_r0_1.symm.trans h1); first | omega | (simp only [e77, e78, e79, e80, k0_r0_1_4, k0_r0_1_5] <;> omega), hI74, (CM.cons S3 (CM.cons S20 (CM.cons S34 (CM.mono S76 (by decide) (by decide)) (by decide) (by decide)) (by decide) (by decide)) (by decide) (by decide))⟩
  refine z_iconst C (z := 1) rfl rfl rfl (fun x83 ex83 => ?_)
  refine k_goto C (pc2 := 47) rfl rfl ?_
  refine z_iconst C (z := 1) rfl rfl rfl (fun x84 ex84 => ?_)
  have q85 : x83.toNatClampNeg = 1 := nck (by omega)
  have q86 : x84.toNatClampNeg = 1 := nck (by omega)
  refine c_VI C (a_X12_throwsIf hI18 H_r0 (by omega) (by omega)) rfl rfl rfl rfl rfl ⟨_, rfl, rfl, T_r0, Nat.le_of_ble_eq_true rfl⟩ rfl rfl (Nat.le_of_ble_eq_true rfl) (Nat.le_of_ble_eq_true rfl) (Nat.le_of_ble_eq_true rfl) ?_
  rintro x87 I88 L89 ⟨o0x87, o1x87, p0x87, hI88, S90⟩
  have e91 := CM.j S90 R_r0_1 (by decide) e21
  have e92 := CM.j S90 R_r0_1 (by decide) e22
  have e94 := CM.j S90 R_r0_1 (by decide) e24
  have gx87 := rg x87
  try simp only [q85, q86, e21, e22, e23, e24] at p0x87
  try have q0x87 := congrArg Int32.toInt p0x87
  refine b_if_ne C (t := 78) rfl rfl rfl (fun c95 => ?_) (fun c95 => by exfalso; omega)
  refine z_iconst C (z := 0) rfl rfl rfl (fun x96 ex96 => ?_)
  refine k_goto C (pc2 := 86) rfl rfl ?_
  exact k_iret C rfl (Or.inl rfl) (Nat.le_of_ble_eq_true rfl) (Nat.le_of_ble_eq_true rfl) ⟨_, _, _, rfl, rfl, by omega, by omega, fun a1 h1 => by cases (R_r0_1.symm.trans h1); first | omega | (simp only [e91, e92, e94, k0_r0_1_4, k0_r0_1_5] <;> omega), hI88, (CM.cons S3 (CM.cons S20 (CM.mono S90 (by decide) (by decide)) (by decide) (by decide)) (by decide) (by decide))⟩

set_option maxHeartbeats 8000000 in
theorem a_X12_join {d : Nat} {T N : Nat → Nat} {I : IT} {L : LT} {R : RT} {A : Nat → Prop} {r0 : Nat} {n1 n2 : Int32} (hI : IM R r0 I) (H_r0 : (h_MD T N R A) r0) : Ex (d + 3) 236 [.ref r0, .int n1, .int n2] (T, N, I, L, R) 0 0 (pI T N R (fun x9 I9 L9 => (-1 ≤ x9.toInt) ∧ (x9.toInt ≤ 7) ∧ (∀ a1, R r0 1 = some a1 → (I a1 4).toInt + (I a1 5).toInt ≤ 40 → (I9 a1 4).toInt + (I9 a1 5).toInt ≤ 40) ∧ (IM R r0 I9 ∧ CM A R r0 [0, 6, 7, 8, 9] [1] I L I9 L9))) := by
  refine ⟨_, rfl, Nat.le_of_ble_eq_true rfl, fun V C S => ?_⟩
  show V 0 [(0, .ref r0), (1, .int n1), (2, .int n2)] [] (T, N, I, L, R) 0 0
  have gn1 := rg n1
  have gn2 := rg n2
  obtain ⟨T_r0, A_r0, ⟨r0_1, R_r0_1, H_r0_1⟩, ⟨r0_2, R_r0_2, H_r0_2⟩, ⟨r0_4, R_r0_4, H_r0_4⟩, ⟨r0_5, R_r0_5, H_r0_5⟩, ⟨r0_10, R_r0_10, H_r0_10⟩, ⟨r0_18, R_r0_18, H_r0_18⟩, ⟨r0_20, R_r0_20, H_r0_20⟩, ⟨r0_21, R_r0_21, H_r0_21⟩, ⟨r0_22, R_r0_22, H_r0_22⟩, ⟨r0_23, R_r0_23, H_r0_23⟩, ⟨r0_25, R_r0_25, H_r0_25⟩, ⟨r0_26, R_r0_26, H_r0_26⟩, ⟨r0_27, R_r0_27, H_r0_27⟩, ⟨r0_28, R_r0_28, H_r0_28⟩, ⟨r0_34, R_r0_34, H_r0_34⟩, J_r0, Y_r0⟩ := id H_r0
  have G_r0 : mF T R r0 := ⟨J_r0, Y_r0, T_r0⟩
  obtain ⟨w_r0_1_4, k0_r0_1_4⟩ : ∃ x, I r0_1 4 = x := ⟨_, rfl⟩
  have gw_r0_1_4 := rg w_r0_1_4
  have ow_r0_1_4 := IM.c4 hI R_r0_1 k0_r0_1_4
  obtain ⟨w_r0_1_5, k0_r0_1_5⟩ : ∃ x, I r0_1 5 = x := ⟨_, rfl⟩
  have gw_r0_1_5 := rg w_r0_1_5
  have ow_r0_1_5 := IM.c5 hI R_r0_1 k0_r0_1_5
  refine k_aload_n C rfl rfl rfl ?_
  refine z_iconst C (z := 0) rfl rfl rfl (fun x1 ex1 => ?_)
  refine z_pI C rfl rfl rfl T_r0 (Or.inr rfl) rfl (fun I2 uI2 => ?_)
  have hI2 : IM R r0 I2 := IM.fld hI G_r0 ⟨(fun h => absurd h (by decide)), (fun h => absurd h (by decide)), (fun h => absurd h (by decide)), (fun h => absurd h (by decide)), (fun h => absurd h (by decide))⟩ uI2
  have S3 : CM A R r0 [0] [] I L I2 L := CM.f G_r0 A_r0 uI2
  have e4 := u2_n uI2 (mF.ne G_r0 R_r0_1) k0_r0_1_4
  have e5 := u2_n uI2 (mF.ne G_r0 R_r0_1) k0_r0_1_5
  have e6 := u2_e uI2
  refine k_aload_n C rfl rfl rfl ?_
  refine k_aload_n C rfl rfl rfl ?_
  refine k_iload_n C rfl rfl rfl ?_
  refine c_VI C (a_X12_noTable hI2 H_r0) rfl rfl rfl rfl rfl ⟨_, rfl, rfl, T_r0, Nat.le_of_ble_eq_true rfl⟩ rfl rfl (Nat.le_of_ble_eq_true rfl) (Nat.le_of_ble_eq_true rfl) (Nat.le_of_ble_eq_true rfl) ?_
  rintro x7 _ _ ⟨o0x7, o1x7, p0x7, rfl, rfl⟩
  have p0x7 := p0x7 r0_1 R_r0_1
  have gx7 := rg x7
  obtain ⟨x8, e9⟩ : ∃ x, I2 r0_1 2 = x := ⟨_, rfl⟩
  have gx8 := rg x8
  have ox8 := IM.c2 hI2 R_r0_1 e9
  try simp only [e4, e5, e6, e9] at p0x7
  try have q0x7 := congrArg Int32.toInt p0x7
  refine b_if_ne C (t := 22) rfl rfl rfl (fun c10 => ?_) (fun c10 => ?_)
  · skip
    refine z_iconst C (z := 1) rfl rfl rfl (fun x11 ex11 => ?_)
    refine k_goto C (pc2 := 27) rfl rfl ?_
    refine z_iconst C (z := 1) rfl rfl rfl (fun x12 ex12 => ?_)
    have q13 : x11.toNatClampNeg = 1 := nck (by omega)
    have q14 : x12.toNatClampNeg = 1 := nck (by omega)
    refine c_VI C (a_X12_throwsIf hI2 H_r0 (by omega) (by omega)) rfl rfl rfl rfl rfl ⟨_, rfl, rfl, T_r0, Nat.le_of_ble_eq_true rfl⟩ rfl rfl (Nat.le_of_ble_eq_true rfl) (Nat.le_of_ble_eq_true rfl) (Nat.le_of_ble_eq_true rfl) ?_
    rintro x15 I16 L17 ⟨o0x15, o1x15, p0x15, hI16, S18⟩
    have e19 := CM.j S18 R_r0_1 (by decide) e4
    have e20 := CM.j S18 R_r0_1 (by decide) e5
    have e22 := CM.j S18 R_r0_1 (by decide) e9
    have gx15 := rg x15
    try simp only [q13, q14, e4, e5, e6, e9] at p0x15
    try have q0x15 := congrArg Int32.toInt p0x15
    refine b_if_ne C (t := 58) rfl rfl rfl (fun c23 => ?_) (fun c23 => by exfalso; omega)
    refine z_iconst C (z := 0) rfl rfl rfl (fun x24 ex24 => ?_)
    exact k_iret C rfl (Or.inl rfl) (Nat.le_of_ble_eq_true rfl) (Nat.le_of_ble_eq_true rfl) ⟨_, _, _, rfl, rfl, by omega, by omega, fun a1 h1 => by cases (R_r0_1.symm.trans h1); first | omega | (simp only [e19, e20, e22, k0_r0_1_4, k0_r0_1_5] <;> omega), hI16, (CM.cons S3 (CM.mono S18 (by decide) (by decide)) (by decide) (by decide))⟩
  refine k_aload_n C rfl rfl rfl ?_
  refine k_iload_n C rfl rfl rfl ?_
  refine c_VI C (a_X12_noTable hI2 H_r0) rfl rfl rfl rfl rfl ⟨_, rfl, rfl, T_r0, Nat.le_of_ble_eq_true rfl⟩ rfl rfl (Nat.le_of_ble_eq_true rfl) (Nat.le_of_ble_eq_true rfl) (Nat.le_of_ble_eq_true rfl) ?_
  rintro x25 _ _ ⟨o0x25, o1x25, p0x25, rfl, rfl⟩
  have p0x25 := p0x25 r0_1 R_r0_1
  have gx25 := rg x25
  try simp only [e4, e5, e6, e9, e9] at p0x25
  try have q0x25 := congrArg Int32.toInt p0x25
  refine b_if_eq C (t := 26) rfl rfl rfl (fun c26 => ?_) (fun c26 => ?_)
  · skip
    refine z_iconst C (z := 0) rfl rfl rfl (fun x27 ex27 => ?_)
    refine z_iconst C (z := 1) rfl rfl rfl (fun x28 ex28 => ?_)
    have q29 : x27.toNatClampNeg = 0 := nck (by omega)
    have q30 : x28.toNatClampNeg = 1 := nck (by omega)
    refine c_VI C (a_X12_throwsIf hI2 H_r0 (by omega) (by omega)) rfl rfl rfl rfl rfl ⟨_, rfl, rfl, T_r0, Nat.le_of_ble_eq_true rfl⟩ rfl rfl (Nat.le_of_ble_eq_true rfl) (Nat.le_of_ble_eq_true rfl) (Nat.le_of_ble_eq_true rfl) ?_
    rintro x31 I32 L33 ⟨o0x31, o1x31, p0x31, hI32, S34⟩
    have e35 := CM.j S34 R_r0_1 (by decide) e4
    have e36 := CM.j S34 R_r0_1 (by decide) e5
    have e38 := CM.j S34 R_r0_1 (by decide) e9
    have gx31 := rg x31
    try simp only [q29, q30, e4, e5, e6, e9] at p0x31
    try have q0x31 := congrArg Int32.toInt p0x31
    refine b_if_ne C (t := 58) rfl rfl rfl (fun c39 => by exfalso; omega) (fun c39 => ?_)
    refine k_aload_n C rfl rfl rfl ?_
    refine k_aload_n C rfl rfl rfl ?_
    refine g_R C rfl rfl rfl T_r0 rfl R_r0_1 ?_
    refine z_iconst C (z := 2) rfl rfl rfl (fun x40 ex40 => ?_)
    obtain ⟨T_r0_1, N_r0_1, A_r0_1⟩ := id H_r0_1
    refine a_I C rfl rfl T_r0_1 (by rw [N_r0_1]; exact vpi (by omega) (by omega)) ((congrArg (I32 r0_1) (nck (n := 2) (by omega))).trans e38) ?_
    refine z_bipush C (z := 8) rfl rfl rfl (fun x41 ex41 => ?_)
    refine b_icmp_ne C (t := 50) rfl rfl rfl (fun c42 => ?_) (fun c42 => ?_)
    · skip
      refine z_iconst C (z := 0) rfl rfl rfl (fun x43 ex43 => ?_)
      refine z_iconst C (z := 2) rfl rfl rfl (fun x44 ex44 => ?_)
      have q45 : x43.toNatClampNeg = 0 := nck (by omega)
      have q46 : x44.toNatClampNeg = 2 := nck (by omega)
      refine c_VI C (a_X12_throwsIf hI32 H_r0 (by omega) (by omega)) rfl rfl rfl rfl rfl ⟨_, rfl, rfl, T_r0, Nat.le_of_ble_eq_true rfl⟩ rfl rfl (Nat.le_of_ble_eq_true rfl) (Nat.le_of_ble_eq_true rfl) (Nat.le_of_ble_eq_true rfl) ?_
      rintro x47 I48 L49 ⟨o0x47, o1x47, p0x47, hI48, S50⟩
      have e51 := CM.j S50 R_r0_1 (by decide) e35
      have e52 := CM.j S50 R_r0_1 (by decide) e36
      have e53 := CM.j S50 R_r0_1 (by decide) e38
      have gx47 := rg x47
      try simp only [q45, q46, e35, e36, e38] at p0x47
      try have q0x47 := congrArg Int32.toInt p0x47
      refine b_if_eq C (t := 60) rfl rfl rfl (fun c54 => ?_) (fun c54 => by exfalso; omega)
      refine k_aload_n C rfl rfl rfl ?_
      refine k_iload_n C rfl rfl rfl ?_
      refine c_VV C (a_X12_tables hI48 H_r0 (by omega) (by omega)) rfl rfl rfl rfl rfl ⟨_, rfl, rfl, T_r0, Nat.le_of_ble_eq_true rfl⟩ rfl rfl (Nat.le_of_ble_eq_true rfl) (Nat.le_of_ble_eq_true rfl) (Nat.le_of_ble_eq_true rfl) ?_
      rintro I56 L57 ⟨hI56, S58⟩
      have e59 := CM.j S58 R_r0_1 (by decide) e51
      have e60 := CM.j S58 R_r0_1 (by decide) e52
      have e61 := CM.j S58 R_r0_1 (by decide) e53
      refine k_aload_n C rfl rfl rfl ?_
      refine k_aload_n C rfl rfl rfl ?_
      refine k_aload_n C rfl rfl rfl ?_
      refine z_gI C rfl rfl rfl T_r0 rfl (fun x62 ex62 => ?_)
      have gx62 := rg x62
      have ox62 := IM.f6 hI56 ex62
      refine k_aload_n C rfl rfl rfl ?_
      refine k_iload_n C rfl rfl rfl ?_
      refine z_iconst C (z := 0) rfl rfl rfl (fun x63 ex63 => ?_)
      have q64 : x63.toNatClampNeg = 0 := nck (by omega)
      refine c_VI C (a_X12_ofTable hI56 H_r0 (by omega) (by omega) (by omega) (by omega)) rfl rfl rfl rfl rfl ⟨_, rfl, rfl, T_r0, Nat.le_of_ble_eq_true rfl⟩ rfl rfl (Nat.le_of_ble_eq_true rfl) (Nat.le_of_ble_eq_true rfl) (Nat.le_of_ble_eq_true rfl) ?_
      rintro x65 _ _ ⟨o0x65, o1x65, p0x65, rfl, rfl⟩
      have p0x65 := p0x65 r0_1 R_r0_1
      have gx65 := rg x65
      try simp only [q64, e59, e60, e61, ex62] at p0x65
      try have q0x65 := congrArg Int32.toInt p0x65
      obtain ⟨x66, e67⟩ : ∃ x, I56 r0_1 0 = x := ⟨_, rfl⟩
      have gx66 := rg x66
      have ox66 := IM.pi hI56 R_r0_1 e67
      refine c_VI C (a_X12_times hI56 H_r0 (by omega) (by omega) (by omega) (by omega)) rfl rfl rfl rfl rfl ⟨_, rfl, rfl, T_r0, Nat.le_of_ble_eq_true rfl⟩ rfl rfl (Nat.le_of_ble_eq_true rfl) (Nat.le_of_ble_eq_true rfl) (Nat.le_of_ble_eq_true rfl) ?_
      rintro x68 _ _ ⟨o0x68, o1x68, p0x68, p1x68, p2x68, p3x68, rfl, rfl⟩
      have p0x68 := p0x68 r0_1 R_r0_1
      have p2x68 := p2x68 r0_1 R_r0_1
      have p3x68 := p3x68 r0_1 R_r0_1
      have gx68 := rg x68
      try simp only [e59, e60, e61, ex62, e67] at p0x68
      try have q0x68 := congrArg Int32.toInt p0x68
      try simp only [e59, e60, e61, ex62, e67] at p1x68
      try have q1x68 := congrArg Int32.toInt p1x68
      try simp only [e59, e60, e61, ex62, e67] at p2x68
      try have q2x68 := congrArg Int32.toInt p2x68
      try simp only [e59, e60, e61, ex62, e67] at p3x68
      try have q3x68 := congrArg Int32.toInt p3x68
      refine k_aload_n C rfl rfl rfl ?_
      refine k_aload_n C rfl rfl rfl ?_
      refine z_gI C rfl rfl rfl T_r0 rfl (fun x69 ex69 => ?_)
      have gx69 := rg x69
      have ox69 := IM.f7 hI56 ex69
      refine k_aload_n C rfl rfl rfl ?_
      refine k_iload_n C rfl rfl rfl ?_
      refine z_iconst C (z := 2) rfl rfl rfl (fun x70 ex70 => ?_)
      have q71 : x70.toNatClampNeg = 2 := nck (by omega)
      refine c_VI C (a_X12_ofTable hI56 H_r0 (by omega) (by omega) (by omega) (by omega)) rfl rfl rfl rfl rfl ⟨_, rfl, rfl, T_r0, Nat.le_of_ble_eq_true rfl⟩ rfl rfl (Nat.le_of_ble_eq_true rfl) (Nat.le_of_ble_eq_true rfl) (Nat.le_of_ble_eq_true rfl) ?_
      rintro x72 _ _ ⟨o0x72, o1x72, p0x72, rfl, rfl⟩
      have p0x72 := p0x72 r0_1 R_r0_1
      have gx72 := rg x72
      try simp only [q71, e59, e60, e61, ex62, e67, ex69] at p0x72
      try have q0x72 := congrArg Int32.toInt p0x72
      refine c_VI C (a_X12_times hI56 H_r0 (by omega) (by omega) (by omega) (by omega)) rfl rfl rfl rfl rfl ⟨_, rfl, rfl, T_r0, Nat.le_of_ble_eq_true rfl⟩ rfl rfl (Nat.le_of_ble_eq_true rfl) (Nat.le_of_ble_eq_true rfl) (Nat.le_of_ble_eq_true rfl) ?_
      rintro x73 _ _ ⟨o0x73, o1x73, p0x73, p1x73, p2x73, p3x73, rfl, rfl⟩
      have p0x73 := p0x73 r0_1 R_r0_1
      have p2x73 := p2x73 r0_1 R_r0_1
      have p3x73 := p3x73 r0_1 R_r0_1
      have gx73 := rg x73
      try simp only [e59, e60, e61, ex62, e67, ex69] at p0x73
      try have q0x73 := congrArg Int32.toInt p0x73
      try simp only [e59, e60, e61, ex62, e67, ex69] at p1x73
      try have q1x73 := congrArg Int32.toInt p1x73
      try simp only [e59, e60, e61, ex62, e67, ex69] at p2x73
      try have q2x73 := congrArg Int32.toInt p2x73
      try simp only [e59, e60, e61, ex62, e67, ex69] at p3x73
      try have q3x73 := congrArg Int32.toInt p3x73
      refine c_VI C (a_X12_plus hI56 H_r0 (by omega) (by omega) (by omega) (by omega)) rfl rfl rfl rfl rfl ⟨_, rfl, rfl, T_r0, Nat.le_of_ble_eq_true rfl⟩ rfl rfl (Nat.le_of_ble_eq_true rfl) (Nat.le_of_ble_eq_true rfl) (Nat.le_of_ble_eq_true rfl) ?_
      rintro x74 _ _ ⟨o0x74, o1x74, p0x74, p1x74, p2x74, rfl, rfl⟩
      have p0x74 := p0x74 r0_1 R_r0_1
      have p2x74 := p2x74 r0_1 R_r0_1
      have gx74 := rg x74
      try simp only [e59, e60, e61, ex62, e67, ex69] at p0x74
      try have q0x74 := congrArg Int32.toInt p0x74
      try simp only [e59, e60, e61, ex62, e67, ex69] at p1x74
      try have q1x74 := congrArg Int32.toInt p1x74
      try simp only [e59, e60, e61, ex62, e67, ex69] at p2x74
      try have q2x74 := congrArg Int32.toInt p2x74
      refine k_istore_n C (lw := [(3, .int x74), (0, .ref r0), (1, .int n1), (2, .int n2)]) rfl rfl (Nat.le_of_ble_eq_true rfl) rfl ?_
      refine k_aload_n C rfl rfl rfl ?_
      refine k_aload_n C rfl rfl rfl ?_
      refine k_aload_n C rfl rfl rfl ?_
      refine g_I C rfl rfl rfl T_r0 rfl ex62 ?_
      refine k_aload_n C rfl rfl rfl ?_
      refine k_iload_n C rfl rfl rfl ?_
      refine z_iconst C (z := 1) rfl rfl rfl (fun x75 ex75 => ?_)
      have q76 : x75.toNatClampNeg = 1 := nck (by omega)
      refine c_VI C (a_X12_ofTable hI56 H_r0 (by omega) (by omega) (by omega) (by omega)) rfl rfl rfl rfl rfl ⟨_, rfl, rfl, T_r0, Nat.le_of_ble_eq_true rfl⟩ rfl rfl (Nat.le_of_ble_eq_true rfl) (Nat.le_of_ble_eq_true rfl) (Nat.le_of_ble_eq_true rfl) ?_
      rintro x77 _ _ ⟨o0x77, o1x77, p0x77, rfl, rfl⟩
      have p0x77 := p0x77 r0_1 R_r0_1
      have gx77 := rg x77
      try simp only [q76, e59, e60, e61, ex62, e67, ex69] at p0x77
      try have q0x77 := congrArg Int32.toInt p0x77
      refine c_VI C (a_X12_times hI56 H_r0 (by omega) (by omega) (by omega) (by omega)) rfl rfl rfl rfl rfl ⟨_, rfl, rfl, T_r0, Nat.le_of_ble_eq_true rfl⟩ rfl rfl (Nat.le_of_ble_eq_true rfl) (Nat.le_of_ble_eq_true rfl) (Nat.le_of_ble_eq_true rfl) ?_
      rintro x78 _ _ ⟨o0x78, o1x78, p0x78, p1x78, p2x78, p3x78, rfl, rfl⟩
      have p0x78 := p0x78 r0_1 R_r0_1
      have p2x78 := p2x78 r0_1 R_r0_1
      have p3x78 := p3x78 r0_1 R_r0_1
      have gx78 := rg x78
      try simp only [e59, e60, e61, ex62, e67, ex69] at p0x78
      try have q0x78 := congrArg Int32.toInt p0x78
      try simp only [e59, e60, e61, ex62, e67, ex69] at p1x78
      try have q1x78 := congrArg Int32.toInt p1x78
      try simp only [e59, e60, e61, ex62, e67, ex69] at p2x78
      try have q2x78 := congrArg Int32.toInt p2x78
      try simp only [e59, e60, e61, ex62, e67, ex69] at p3x78
      try have q3x78 := congrArg Int32.toInt p3x78
      refine k_aload_n C rfl rfl rfl ?_
      refine k_aload_n C rfl rfl rfl ?_
      refine g_I C rfl rfl rfl T_r0 rfl ex69 ?_
      refine k_aload_n C rfl rfl rfl ?_
      refine k_iload_n C rfl rfl rfl ?_
      refine z_iconst C (z := 3) rfl rfl rfl (fun x79 ex79 => ?_)
      have q80 : x79.toNatClampNeg = 3 := nck (by omega)
      refine c_VI C (a_X12_ofTable hI56 H_r0 (by omega) (by omega) (by omega) (by omega)) rfl rfl rfl rfl rfl ⟨_, rfl, rfl, T_r0, Nat.le_of_ble_eq_true rfl⟩ rfl rfl (Nat.le_of_ble_eq_true rfl) (Nat.le_of_ble_eq_true rfl) (Nat.le_of_ble_eq_true rfl) ?_
      rintro x81 _ _ ⟨o0x81, o1x81, p0x81, rfl, rfl⟩
      have p0x81 := p0x81 r0_1 R_r0_1
      have gx81 := rg x81
      try simp only [q80, e59, e60, e61, ex62, e67, ex69] at p0x81
      try have q0x81 := congrArg Int32.toInt p0x81
      refine c_VI C (a_X12_times hI56 H_r0 (by omega) (by omega) (by omega) (by omega)) rfl rfl rfl rfl rfl ⟨_, rfl, rfl, T_r0, Nat.le_of_ble_eq_true rfl⟩ rfl rfl (Nat.le_of_ble_eq_true rfl) (Nat.le_of_ble_eq_true rfl) (Nat.le_of_ble_eq_true rfl) ?_
      rintro x82 _ _ ⟨o0x82, o1x82, p0x82, p1x82, p2x82, p3x82, rfl, rfl⟩
      have p0x82 := p0x82 r0_1 R_r0_1
      have p2x82 := p2x82 r0_1 R_r0_1
      have p3x82 := p3x82 r0_1 R_r0_1
      have gx82 := rg x82
      try simp only [e59, e60, e61, ex62, e67, ex69] at p0x82
      try have q0x82 := congrArg Int32.toInt p0x82
      try simp only [e59, e60, e61, ex62, e67, ex69] at p1x82
      try have q1x82 := congrArg Int32.toInt p1x82
      try simp only [e59, e60, e61, ex62, e67, ex69] at p2x82
      try have q2x82 := congrArg Int32.toInt p2x82
      try simp only [e59, e60, e61, ex62, e67, ex69] at p3x82
      try have q3x82 := congrArg Int32.toInt p3x82
      refine c_VI C (a_X12_plus hI56 H_r0 (by omega) (by omega) (by omega) (by omega)) rfl rfl rfl rfl rfl ⟨_, rfl, rfl, T_r0, Nat.le_of_ble_eq_true rfl⟩ rfl rfl (Nat.le_of_ble_eq_true rfl) (Nat.le_of_ble_eq_true rfl) (Nat.le_of_ble_eq_true rfl) ?_
      rintro x83 _ _ ⟨o0x83, o1x83, p0x83, p1x83, p2x83, rfl, rfl⟩
      have p0x83 := p0x83 r0_1 R_r0_1
      have p2x83 := p2x83 r0_1 R_r0_1
      have gx83 := rg x83
      try simp only [e59, e60, e61, ex62, e67, ex69] at p0x83
      try have q0x83 := congrArg Int32.toInt p0x83
      try simp only [e59, e60, e61, ex62, e67, ex69] at p1x83
      try have q1x83 := congrArg Int32.toInt p1x83
      try simp only [e59, e60, e61, ex62, e67, ex69] at p2x83
      try have q2x83 := congrArg Int32.toInt p2x83
      refine k_istore C (lw := [(4, .int x83), (3, .int x74), (0, .ref r0), (1, .int n1), (2, .int n2)]) rfl rfl (Nat.le_of_ble_eq_true rfl) rfl ?_
      refine k_aload_n C rfl rfl rfl ?_
      refine k_aload_n C rfl rfl rfl ?_
      refine k_aload_n C rfl rfl rfl ?_
      refine z_gI C rfl rfl rfl T_r0 rfl (fun x84 ex84 => ?_)
      have gx84 := rg x84
      have ox84 := IM.f8 hI56 ex84
      refine k_aload_n C rfl rfl rfl ?_
      refine k_iload_n C rfl rfl rfl ?_
      refine z_iconst C (z := 0) rfl rfl rfl (fun x85 ex85 => ?_)
      have q86 : x85.toNatClampNeg = 0 := nck (by omega)
      refine c_VI C (a_X12_ofTable hI56 H_r0 (by omega) (by omega) (by omega) (by omega)) rfl rfl rfl rfl rfl ⟨_, rfl, rfl, T_r0, Nat.le_of_ble_eq_true rfl⟩ rfl rfl (Nat.le_of_ble_eq_true rfl) (Nat.le_of_ble_eq_true rfl) (Nat.le_of_ble_eq_true rfl) ?_
      rintro x87 _ _ ⟨o0x87, o1x87, p0x87, rfl, rfl⟩
      have p0x87 := p0x87 r0_1 R_r0_1
      have gx87 := rg x87
      try simp only [q86, e59, e60, e61, ex62, e67, ex69, ex84] at p0x87
      try have q0x87 := congrArg Int32.toInt p0x87
      refine c_VI C (a_X12_times hI56 H_r0 (by omega) (by omega) (by omega) (by omega)) rfl rfl rfl rfl rfl ⟨_, rfl, rfl, T_r0, Nat.le_of_ble_eq_true rfl⟩ rfl rfl (Nat.le_of_ble_eq_true rfl) (Nat.le_of_ble_eq_true rfl) (Nat.le_of_ble_eq_true rfl) ?_
      rintro x88 _ _ ⟨o0x88, o1x88, p0x88, p1x88, p2x88, p3x88, rfl, rfl⟩
      have p0x88 := p0x88 r0_1 R_r0_1
      have p2x88 := p2x88 r0_1 R_r0_1
      have p3x88 := p3x88 r0_1 R_r0_1
      have gx88 := rg x88
      try simp only [e59, e60, e61, ex62, e67, ex69, ex84] at p0x88
      try have q0x88 := congrArg Int32.toInt p0x88
      try simp only [e59, e60, e61, ex62, e67, ex69, ex84] at p1x88
      try have q1x88 := congrArg Int32.toInt p1x88
      try simp only [e59, e60, e61, ex62, e67, ex69, ex84] at p2x88
      try have q2x88 := congrArg Int32.toInt p2x88
      try simp only [e59, e60, e61, ex62, e67, ex69, ex84] at p3x88
      try have q3x88 := congrArg Int32.toInt p3x88
      refine k_aload_n C rfl rfl rfl ?_
      refine k_aload_n C rfl rfl rfl ?_
      refine z_gI C rfl rfl rfl T_r0 rfl (fun x89 ex89 => ?_)
      have gx89 := rg x89
      have ox89 := IM.f9 hI56 ex89
      refine k_aload_n C rfl rfl rfl ?_
      refine k_iload_n C rfl rfl rfl ?_
      refine z_iconst C (z := 2) rfl rfl rfl (fun x90 ex90 => ?_)
      have q91 : x90.toNatClampNeg = 2 := nck (by omega)
      refine c_VI C (a_X12_ofTable hI56 H_r0 (by omega) (by omega) (by omega) (by omega)) rfl rfl rfl rfl rfl ⟨_, rfl, rfl, T_r0, Nat.le_of_ble_eq_true rfl⟩ rfl rfl (Nat.le_of_ble_eq_true rfl) (Nat.le_of_ble_eq_true rfl) (Nat.le_of_ble_eq_true rfl) ?_
      rintro x92 _ _ ⟨o0x92, o1x92, p0x92, rfl, rfl⟩
      have p0x92 := p0x92 r0_1 R_r0_1
      have gx92 := rg x92
      try simp only [q91, e59, e60, e61, ex62, e67, ex69, ex84, ex89] at p0x92
      try have q0x92 := congrArg Int32.toInt p0x92
      refine c_VI C (a_X12_times hI56 H_r0 (by omega) (by omega) (by omega) (by omega)) rfl rfl rfl rfl rfl ⟨_, rfl, rfl, T_r0, Nat.le_of_ble_eq_true rfl⟩ rfl rfl (Nat.le_of_ble_eq_true rfl) (Nat.le_of_ble_eq_true rfl) (Nat.le_of_ble_eq_true rfl) ?_
      rintro x93 _ _ ⟨o0x93, o1x93, p0x93, p1x93, p2x93, p3x93, rfl, rfl⟩
      have p0x93 := p0x93 r0_1 R_r0_1
      have p2x93 := p2x93 r0_1 R_r0_1
      have p3x93 := p3x93 r0_1 R_r0_1
      have gx93 := rg x93
      try simp only [e59, e60, e61, ex62, e67, ex69, ex84, ex89] at p0x93
      try have q0x93 := congrArg Int32.toInt p0x93
      try simp only [e59, e60, e61, ex62, e67, ex69, ex84, ex89] at p1x93
      try have q1x93 := congrArg Int32.toInt p1x93
      try simp only [e59, e60, e61, ex62, e67, ex69, ex84, ex89] at p2x93
      try have q2x93 := congrArg Int32.toInt p2x93
      try simp only [e59, e60, e61, ex62, e67, ex69, ex84, ex89] at p3x93
      try have q3x93 := congrArg Int32.toInt p3x93
      refine c_VI C (a_X12_plus hI56 H_r0 (by omega) (by omega) (by omega) (by omega)) rfl rfl rfl rfl rfl ⟨_, rfl, rfl, T_r0, Nat.le_of_ble_eq_true rfl⟩ rfl rfl (Nat.le_of_ble_eq_true rfl) (Nat.le_of_ble_eq_true rfl) (Nat.le_of_ble_eq_true rfl) ?_
      rintro x94 _ _ ⟨o0x94, o1x94, p0x94, p1x94, p2x94, rfl, rfl⟩
      have p0x94 := p0x94 r0_1 R_r0_1
      have p2x94 := p2x94 r0_1 R_r0_1
      have gx94 := rg x94
      try simp only [e59, e60, e61, ex62, e67, ex69, ex84, ex89] at p0x94
      try have q0x94 := congrArg Int32.toInt p0x94
      try simp only [e59, e60, e61, ex62, e67, ex69, ex84, ex89] at p1x94
      try have q1x94 := congrArg Int32.toInt p1x94
      try simp only [e59, e60, e61, ex62, e67, ex69, ex84, ex89] at p2x94
      try have q2x94 := congrArg Int32.toInt p2x94
      refine k_istore C (lw := [(5, .int x94), (4, .int x83), (3, .int x74), (0, .ref r0), (1, .int n1), (2, .int n2)]) rfl rfl (Nat.le_of_ble_eq_true rfl) rfl ?_
      refine k_aload_n C rfl rfl rfl ?_
      refine k_aload_n C rfl rfl rfl ?_
      refine k_aload_n C rfl rfl rfl ?_
      refine g_I C rfl rfl rfl T_r0 rfl ex84 ?_
      refine k_aload_n C rfl rfl rfl ?_
      refine k_iload_n C rfl rfl rfl ?_
      refine z_iconst C (z := 1) rfl rfl rfl (fun x95 ex95 => ?_)
      have q96 : x95.toNatClampNeg = 1 := nck (by omega)
      refine c_VI C (a_X12_ofTable hI56 H_r0 (by omega) (by omega) (by omega) (by omega)) rfl rfl rfl rfl rfl ⟨_, rfl, rfl, T_r0, Nat.le_of_ble_eq_true rfl⟩ rfl rfl (Nat.le_of_ble_eq_true rfl) (Nat.le_of_ble_eq_true rfl) (Nat.le_of_ble_eq_true rfl) ?_
      rintro x97 _ _ ⟨o0x97, o1x97, p0x97, rfl, rfl⟩
      have p0x97 := p0x97 r0_1 R_r0_1
      have gx97 := rg x97
      try simp only [q96, e59, e60, e61, ex62, e67, ex69, ex84, ex89] at p0x97
      try have q0x97 := congrArg Int32.toInt p0x97
      refine c_VI C (a_X12_times hI56 H_r0 (by omega) (by omega) (by omega) (by omega)) rfl rfl rfl rfl rfl ⟨_, rfl, rfl, T_r0, Nat.le_of_ble_eq_true rfl⟩ rfl rfl (Nat.le_of_ble_eq_true rfl) (Nat.le_of_ble_eq_true rfl) (Nat.le_of_ble_eq_true rfl) ?_
      rintro x98 _ _ ⟨o0x98, o1x98, p0x98, p1x98, p2x98, p3x98, rfl, rfl⟩
      have p0x98 := p0x98 r0_1 R_r0_1
      have p2x98 := p2x98 r0_1 R_r0_1
      have p3x98 := p3x98 r0_1 R_r0_1
      have gx98 := rg x98
      try simp only [e59, e60, e61, ex62, e67, ex69, ex84, ex89] at p0x98
      try have q0x98 := congrArg Int32.toInt p0x98
      try simp only [e59, e60, e61, ex62, e67, ex69, ex84, ex89] at p1x98
      try have q1x98 := congrArg Int32.toInt p1x98
      try simp only [e59, e60, e61, ex62, e67, ex69, ex84, ex89] at p2x98
      try have q2x98 := congrArg Int32.toInt p2x98
      try simp only [e59, e60, e61, ex62, e67, ex69, ex84, ex89] at p3x98
      try have q3x98 := congrArg Int32.toInt p3x98
      refine k_aload_n C rfl rfl rfl ?_
      refine k_aload_n C rfl rfl rfl ?_
      refine g_I C rfl rfl rfl T_r0 rfl ex89 ?_
      refine k_aload_n C rfl rfl rfl ?_
      refine k_iload_n C rfl rfl rfl ?_
      refine z_iconst C (z := 3) rfl rfl rfl (fun x99 ex99 => ?_)
      have q100 : x99.toNatClampNeg = 3 := nck (by omega)
      refine c_VI C (a_X12_ofTable hI56 H_r0 (by omega) (by omega) (by omega) (by omega)) rfl rfl rfl rfl rfl ⟨_, rfl, rfl, T_r0, Nat.le_of_ble_eq_true rfl⟩ rfl rfl (Nat.le_of_ble_eq_true rfl) (Nat.le_of_ble_eq_true rfl) (Nat.le_of_ble_eq_true rfl) ?_
      rintro x101 _ _ ⟨o0x101, o1x101, p0x101, rfl, rfl⟩
      have p0x101 := p0x101 r0_1 R_r0_1
      have gx101 := rg x101
      try simp only [q100, e59, e60, e61, ex62, e67, ex69, ex84, ex89] at p0x101
      try have q0x101 := congrArg Int32.toInt p0x101
      refine c_VI C (a_X12_times hI56 H_r0 (by omega) (by omega) (by omega) (by omega)) rfl rfl rfl rfl rfl ⟨_, rfl, rfl, T_r0, Nat.le_of_ble_eq_true rfl⟩ rfl rfl (Nat.le_of_ble_eq_true rfl) (Nat.le_of_ble_eq_true rfl) (Nat.le_of_ble_eq_true rfl) ?_
      rintro x102 _ _ ⟨o0x102, o1x102, p0x102, p1x102, p2x102, p3x102, rfl, rfl⟩
      have p0x102 := p0x102 r0_1 R_r0_1
      have p2x102 := p2x102 r0_1 R_r0_1
      have p3x102 := p3x102 r0_1 R_r0_1
      have gx102 := rg x102
      try simp only [e59, e60, e61, ex62, e67, ex69, ex84, ex89] at p0x102
      try have q0x102 := congrArg Int32.toInt p0x102
      try simp only [e59, e60, e61, ex62, e67, ex69, ex84, ex89] at p1x102
      try have q1x102 := congrArg Int32.toInt p1x102
      try simp only [e59, e60, e61, ex62, e67, ex69, ex84, ex89] at p2x102
      try have q2x102 := congrArg Int32.toInt p2x102
      try simp only [e59, e60, e61, ex62, e67, ex69, ex84, ex89] at p3x102
      try have q3x102 := congrArg Int32.toInt p3x102
      refine c_VI C (a_X12_plus hI56 H_r0 (by omega) (by omega) (by omega) (by omega)) rfl rfl rfl rfl rfl ⟨_, rfl, rfl, T_r0, Nat.le_of_ble_eq_true rfl⟩ rfl rfl (Nat.le_of_ble_eq_true rfl) (Nat.le_of_ble_eq_true rfl) (Nat.le_of_ble_eq_true rfl) ?_
      rintro x103 _ _ ⟨o0x103, o1x103, p0x103, p1x103, p2x103, rfl, rfl⟩
      have p0x103 := p0x103 r0_1 R_r0_1
      have p2x103 := p2x103 r0_1 R_r0_1
      have gx103 := rg x103
      try simp only [e59, e60, e61, ex62, e67, ex69, ex84, ex89] at p0x103
      try have q0x103 := congrArg Int32.toInt p0x103
      try simp only [e59, e60, e61, ex62, e67, ex69, ex84, ex89] at p1x103
      try have q1x103 := congrArg Int32.toInt p1x103
      try simp only [e59, e60, e61, ex62, e67, ex69, ex84, ex89] at p2x103
      try have q2x103 := congrArg Int32.toInt p2x103
      refine k_istore C (lw := [(6, .int x103), (5, .int x94), (4, .int x83), (3, .int x74), (0, .ref r0), (1, .int n1), (2, .int n2)]) rfl rfl (Nat.le_of_ble_eq_true rfl) rfl ?_
      refine k_aload_n C rfl rfl rfl ?_
      refine k_iload_n C rfl rfl rfl ?_
      refine k_iload C rfl rfl rfl ?_
      refine k_iload C rfl rfl rfl ?_
      refine k_iload C rfl rfl rfl ?_
      refine c_VV C (a_X12_takesTable hI56 H_r0 (by omega) (by omega) (by omega) (by omega) (by omega) (by omega) (by omega) (by omega)) rfl rfl rfl rfl rfl ⟨_, rfl, rfl, T_r0, Nat.le_of_ble_eq_true rfl⟩ rfl rfl (Nat.le_of_ble_eq_true rfl) (Nat.le_of_ble_eq_true rfl) (Nat.le_of_ble_eq_true rfl) ?_
      rintro I105 L106 ⟨hI105, S107⟩
      have e108 := CM.j S107 R_r0_1 (by decide) e59
      have e109 := CM.j S107 R_r0_1 (by decide) e60
      have e110 := CM.j S107 R_r0_1 (by decide) e61
      have e112 := CM.j S107 R_r0_1 (by decide) e67
      refine k_aload_n C rfl rfl rfl ?_
      refine c_VI C (a_X12_lays hI105 H_r0 (fun a1 h1 => by cases (R_r0_1.symm.trans h1); first | omega | (simp only [e108, e109, e110, e112] <;> omega))) rfl rfl rfl rfl rfl ⟨_, rfl, rfl, T_r0, Nat.le_of_ble_eq_true rfl⟩ rfl rfl (Nat.le_of_ble_eq_true rfl) (Nat.le_of_ble_eq_true rfl) (Nat.le_of_ble_eq_true rfl) ?_
      rintro x116 I117 L118 ⟨o0x116, o1x116, p0x116, hI117, S119⟩
      have p0x116 := p0x116 r0_1 R_r0_1
      have gx116 := rg x116
      obtain ⟨x124, e125⟩ : ∃ x, I117 r0_1 4 = x := ⟨_, rfl⟩
      have gx124 := rg x124
      have ox124 := IM.c4 hI117 R_r0_1 e125
      obtain ⟨x126, e127⟩ : ∃ x, I117 r0_1 5 = x := ⟨_, rfl⟩
      have gx126 := rg x126
      have ox126 := IM.c5 hI117 R_r0_1 e127
      try simp only [e108, e109, e110, e112, e125, e127] at p0x116
      try have q0x116 := congrArg Int32.toInt p0x116
      exact k_iret C rfl (Or.inl rfl) (Nat.le_of_ble_eq_true rfl) (Nat.le_of_ble_eq_true rfl) ⟨_, _, _, rfl, rfl, by omega, by omega, fun a1 h1 => by cases (R_r0_1.symm.trans h1); first | omega | (simp only [e125, e127, k0_r0_1_4, k0_r0_1_5] <;> omega), hI117, (CM.cons S3 (CM.cons S34 (CM.cons S50 (CM.cons S58 (CM.cons S107 (CM.mono S119 (by decide) (by decide)) (by decide) (by decide)) (by decide) (by decide)) (by decide) (by decide)) (by decide) (by decide)) (by decide) (by decide))⟩
    refine z_iconst C (z := 1) rfl rfl rfl (fun x128 ex128 => ?_)
    refine k_goto C (pc2 := 51) rfl rfl ?_
    refine z_iconst C (z := 2) rfl rfl rfl (fun x129 ex129 => ?_)
    have q130 : x128.toNatClampNeg = 1 := nck (by omega)
    have q131 : x129.toNatClampNeg = 2 := nck (by omega)
    refine c_VI C (a_X12_throwsIf hI32 H_r0 (by omega) (by omega)) rfl rfl rfl rfl rfl ⟨_, rfl, rfl, T_r0, Nat.le_of_ble_eq_true rfl⟩ rfl rfl (Nat.le_of_ble_eq_true rfl) (Nat.le_of_ble_eq_true rfl) (Nat.le_of_ble_eq_true rfl) ?_
    rintro x132 I133 L134 ⟨o0x132, o1x132, p0x132, hI133, S135⟩
    have e136 := CM.j S135 R_r0_1 (by decide) e35
    have e137 := CM.j S135 R_r0_1 (by decide) e36
    have e138 := CM.j S135 R_r0_1 (by decide) e38
    have gx132 := rg x132
    try simp only [q130, q131, e35, e36, e38] at p0x132
    try have q0x132 := congrArg Int32.toInt p0x132
    refine b_if_eq C (t := 60) rfl rfl rfl (fun c139 => by exfalso; omega) (fun c139 => ?_)
    refine z_iconst C (z := 0) rfl rfl rfl (fun x140 ex140 => ?_)
    exact k_iret C rfl (Or.inl rfl) (Nat.le_of_ble_eq_true rfl) (Nat.le_of_ble_eq_true rfl) ⟨_, _, _, rfl, rfl, by omega, by omega, fun a1 h1 => by cases (R_r0_1.symm.trans h1); first | omega | (simp only [e136, e137, e138, k0_r0_1_4, k0_r0_1_5] <;> omega), hI133, (CM.cons S3 (CM.cons S34 (CM.mono S135 (by decide) (by decide)) (by decide) (by decide)) (by decide) (by decide))⟩
  refine z_iconst C (z := 1) rfl rfl rfl (fun x141 ex141 => ?_)
  refine k_goto C (pc2 := 27) rfl rfl ?_
  refine z_iconst C (z := 1) rfl rfl rfl (fun x142 ex142 => ?_)
  have q143 : x141.toNatClampNeg = 1 := nck (by omega)
  have q144 : x142.toNatClampNeg = 1 := nck (by omega)
  refine c_VI C (a_X12_throwsIf hI2 H_r0 (by omega) (by omega)) rfl rfl rfl rfl rfl ⟨_, rfl, rfl, T_r0, Nat.le_of_ble_eq_true rfl⟩ rfl rfl (Nat.le_of_ble_eq_true rfl) (Nat.le_of_ble_eq_true rfl) (Nat.le_of_ble_eq_true rfl) ?_
  rintro x145 I146 L147 ⟨o0x145, o1x145, p0x145, hI146, S148⟩
  have e149 := CM.j S148 R_r0_1 (by decide) e4
  have e150 := CM.j S148 R_r0_1 (by decide) e5
  have e152 := CM.j S148 R_r0_1 (by decide) e9
  have gx145 := rg x145
  try simp only [q143, q144, e4, e5, e6, e9] at p0x145
  try have q0x145 := congrArg Int32.toInt p0x145
  refine b_if_ne C (t := 58) rfl rfl rfl (fun c153 => ?_) (fun c153 => by exfalso; omega)
  refine z_iconst C (z := 0) rfl rfl rfl (fun x154 ex154 => ?_)
  exact k_iret C rfl (Or.inl rfl) (Nat.le_of_ble_eq_true rfl) (Nat.le_of_ble_eq_true rfl) ⟨_, _, _, rfl, rfl, by omega, by omega, fun a1 h1 => by cases (R_r0_1.symm.trans h1); first | omega | (simp only [e149, e150, e152, k0_r0_1_4, k0_r0_1_5] <;> omega), hI146, (CM.cons S3 (CM.mono S148 (by decide) (by decide)) (by decide) (by decide))⟩

set_option maxHeartbeats 8000000 in
theorem a_X12_turn {d : Nat} {T N : Nat → Nat} {I : IT} {L : LT} {R : RT} {A : Nat → Prop} {r0 : Nat} {n1 : Int32} (hI : IM R r0 I) (H_r0 : (h_MD T N R A) r0) : Ex (d + 6) 238 [.ref r0, .int n1] (T, N, I, L, R) 0 0 (pI T N R (fun x9 I9 L9 => (-1 ≤ x9.toInt) ∧ (x9.toInt ≤ 7) ∧ (∀ a1, R r0 1 = some a1 → (I a1 4).toInt + (I a1 5).toInt ≤ 40 → (I9 a1 4).toInt + (I9 a1 5).toInt ≤ 40) ∧ (IM R r0 I9 ∧ CM A R r0 [0, 6, 7, 8, 9] [1] I L I9 L9))) := by
  refine ⟨_, rfl, Nat.le_of_ble_eq_true rfl, fun V C S => ?_⟩
  show V 0 [(0, .ref r0), (1, .int n1)] [] (T, N, I, L, R) 0 0
  have gn1 := rg n1
  obtain ⟨T_r0, A_r0, ⟨r0_1, R_r0_1, H_r0_1⟩, ⟨r0_2, R_r0_2, H_r0_2⟩, ⟨r0_4, R_r0_4, H_r0_4⟩, ⟨r0_5, R_r0_5, H_r0_5⟩, ⟨r0_10, R_r0_10, H_r0_10⟩, ⟨r0_18, R_r0_18, H_r0_18⟩, ⟨r0_20, R_r0_20, H_r0_20⟩, ⟨r0_21, R_r0_21, H_r0_21⟩, ⟨r0_22, R_r0_22, H_r0_22⟩, ⟨r0_23, R_r0_23, H_r0_23⟩, ⟨r0_25, R_r0_25, H_r0_25⟩, ⟨r0_26, R_r0_26, H_r0_26⟩, ⟨r0_27, R_r0_27, H_r0_27⟩, ⟨r0_28, R_r0_28, H_r0_28⟩, ⟨r0_34, R_r0_34, H_r0_34⟩, J_r0, Y_r0⟩ := id H_r0
  have G_r0 : mF T R r0 := ⟨J_r0, Y_r0, T_r0⟩
  obtain ⟨w_r0_1_4, k0_r0_1_4⟩ : ∃ x, I r0_1 4 = x := ⟨_, rfl⟩
  have gw_r0_1_4 := rg w_r0_1_4
  have ow_r0_1_4 := IM.c4 hI R_r0_1 k0_r0_1_4
  obtain ⟨w_r0_1_5, k0_r0_1_5⟩ : ∃ x, I r0_1 5 = x := ⟨_, rfl⟩
  have gw_r0_1_5 := rg w_r0_1_5
  have ow_r0_1_5 := IM.c5 hI R_r0_1 k0_r0_1_5
  refine k_aload_n C rfl rfl rfl ?_
  refine z_iconst C (z := 0) rfl rfl rfl (fun x1 ex1 => ?_)
  refine z_pI C rfl rfl rfl T_r0 (Or.inr rfl) rfl (fun I2 uI2 => ?_)
  have hI2 : IM R r0 I2 := IM.fld hI G_r0 ⟨(fun h => absurd h (by decide)), (fun h => absurd h (by decide)), (fun h => absurd h (by decide)), (fun h => absurd h (by decide)), (fun h => absurd h (by decide))⟩ uI2
  have S3 : CM A R r0 [0] [] I L I2 L := CM.f G_r0 A_r0 uI2
  have e4 := u2_n uI2 (mF.ne G_r0 R_r0_1) k0_r0_1_4
  have e5 := u2_n uI2 (mF.ne G_r0 R_r0_1) k0_r0_1_5
  have e6 := u2_e uI2
  refine k_aload_n C rfl rfl rfl ?_
  refine k_aload_n C rfl rfl rfl ?_
  refine k_iload_n C rfl rfl rfl ?_
  refine c_VI C (a_X12_noTable hI2 H_r0) rfl rfl rfl rfl rfl ⟨_, rfl, rfl, T_r0, Nat.le_of_ble_eq_true rfl⟩ rfl rfl (Nat.le_of_ble_eq_true rfl) (Nat.le_of_ble_eq_true rfl) (Nat.le_of_ble_eq_true rfl) ?_
  rintro x7 _ _ ⟨o0x7, o1x7, p0x7, rfl, rfl⟩
  have p0x7 := p0x7 r0_1 R_r0_1
  have gx7 := rg x7
  obtain ⟨x8, e9⟩ : ∃ x, I2 r0_1 2 = x := ⟨_, rfl⟩
  have gx8 := rg x8
  have ox8 := IM.c2 hI2 R_r0_1 e9
  try simp only [e4, e5, e6, e9] at p0x7
  try have q0x7 := congrArg Int32.toInt p0x7
  refine z_iconst C (z := 1) rfl rfl rfl (fun x10 ex10 => ?_)
  have q11 : x10.toNatClampNeg = 1 := nck (by omega)
  refine c_VI C (a_X12_throwsIf hI2 H_r0 (by omega) (by omega)) rfl rfl rfl rfl rfl ⟨_, rfl, rfl, T_r0, Nat.le_of_ble_eq_true rfl⟩ rfl rfl (Nat.le_of_ble_eq_true rfl) (Nat.le_of_ble_eq_true rfl) (Nat.le_of_ble_eq_true rfl) ?_
  rintro x12 I13 L14 ⟨o0x12, o1x12, p0x12, hI13, S15⟩
  have e16 := CM.j S15 R_r0_1 (by decide) e4
  have e17 := CM.j S15 R_r0_1 (by decide) e5
  have e19 := CM.j S15 R_r0_1 (by decide) e9
  have gx12 := rg x12
  try simp only [q11, e4, e5, e6, e9] at p0x12
  try have q0x12 := congrArg Int32.toInt p0x12
  refine b_if_ne C (t := 42) rfl rfl rfl (fun c20 => ?_) (fun c20 => ?_)
  · skip
    refine z_iconst C (z := 0) rfl rfl rfl (fun x21 ex21 => ?_)
    exact k_iret C rfl (Or.inl rfl) (Nat.le_of_ble_eq_true rfl) (Nat.le_of_ble_eq_true rfl) ⟨_, _, _, rfl, rfl, by omega, by omega, fun a1 h1 => by cases (R_r0_1.symm.trans h1); first | omega | (simp only [e16, e17, e19, k0_r0_1_4, k0_r0_1_5] <;> omega), hI13, (CM.cons S3 (CM.mono S15 (by decide) (by decide)) (by decide) (by decide))⟩
  refine k_aload_n C rfl rfl rfl ?_
  refine k_aload_n C rfl rfl rfl ?_
  refine g_R C rfl rfl rfl T_r0 rfl R_r0_1 ?_
  refine z_iconst C (z := 2) rfl rfl rfl (fun x22 ex22 => ?_)
  obtain ⟨T_r0_1, N_r0_1, A_r0_1⟩ := id H_r0_1
  refine a_I C rfl rfl T_r0_1 (by rw [N_r0_1]; exact vpi (by omega) (by omega)) ((congrArg (I13 r0_1) (nck (n := 2) (by omega))).trans e19) ?_
  refine z_bipush C (z := 8) rfl rfl rfl (fun x23 ex23 => ?_)
  refine b_icmp_ne C (t := 34) rfl rfl rfl (fun c24 => ?_) (fun c24 => ?_)
  · skip
    refine z_iconst C (z := 0) rfl rfl rfl (fun x25 ex25 => ?_)
    refine z_iconst C (z := 2) rfl rfl rfl (fun x26 ex26 => ?_)
    have q27 : x25.toNatClampNeg = 0 := nck (by omega)
    have q28 : x26.toNatClampNeg = 2 := nck (by omega)
    refine c_VI C (a_X12_throwsIf hI13 H_r0 (by omega) (by omega)) rfl rfl rfl rfl rfl ⟨_, rfl, rfl, T_r0, Nat.le_of_ble_eq_true rfl⟩ rfl rfl (Nat.le_of_ble_eq_true rfl) (Nat.le_of_ble_eq_true rfl) (Nat.le_of_ble_eq_true rfl) ?_
    rintro x29 I30 L31 ⟨o0x29, o1x29, p0x29, hI30, S32⟩
    have e33 := CM.j S32 R_r0_1 (by decide) e16
    have e34 := CM.j S32 R_r0_1 (by decide) e17
    have e35 := CM.j S32 R_r0_1 (by decide) e19
    have gx29 := rg x29
    try simp only [q27, q28, e16, e17, e19] at p0x29
    try have q0x29 := congrArg Int32.toInt p0x29
    refine b_if_eq C (t := 44) rfl rfl rfl (fun c36 => ?_) (fun c36 => by exfalso; omega)
    refine k_aload_n C rfl rfl rfl ?_
    refine k_iload_n C rfl rfl rfl ?_
    refine c_VV C (a_X12_tables hI30 H_r0 (by omega) (by omega)) rfl rfl rfl rfl rfl ⟨_, rfl, rfl, T_r0, Nat.le_of_ble_eq_true rfl⟩ rfl rfl (Nat.le_of_ble_eq_true rfl) (Nat.le_of_ble_eq_true rfl) (Nat.le_of_ble_eq_true rfl) ?_
    rintro I38 L39 ⟨hI38, S40⟩
    have e41 := CM.j S40 R_r0_1 (by decide) e33
    have e42 := CM.j S40 R_r0_1 (by decide) e34
    have e43 := CM.j S40 R_r0_1 (by decide) e35
    refine k_aload_n C rfl rfl rfl ?_
    refine c_VV C (a_X12_turnsBack hI38 H_r0) rfl rfl rfl rfl rfl ⟨_, rfl, rfl, T_r0, Nat.le_of_ble_eq_true rfl⟩ rfl rfl (Nat.le_of_ble_eq_true rfl) (Nat.le_of_ble_eq_true rfl) (Nat.le_of_ble_eq_true rfl) ?_
    rintro I45 L46 ⟨hI45, S47⟩
    have e48 := CM.j S47 R_r0_1 (by decide) e41
    have e49 := CM.j S47 R_r0_1 (by decide) e42
    have e50 := CM.j S47 R_r0_1 (by decide) e43
    refine k_aload_n C rfl rfl rfl ?_
    refine c_VI C (a_X12_lays hI45 H_r0 (fun a1 h1 => by cases (R_r0_1.symm.trans h1); first | omega | (simp only [e48, e49, e50] <;> omega))) rfl rfl rfl rfl rfl ⟨_, rfl, rfl, T_r0, Nat.le_of_ble_eq_true rfl⟩ rfl rfl (Nat.le_of_ble_eq_true rfl) (Nat.le_of_ble_eq_true rfl) (Nat.le_of_ble_eq_true rfl) ?_
    rintro x51 I52 L53 ⟨o0x51, o1x51, p0x51, hI52, S54⟩
    have p0x51 := p0x51 r0_1 R_r0_1
    have gx51 := rg x51
    obtain ⟨x58, e59⟩ : ∃ x, I52 r0_1 4 = x := ⟨_, rfl⟩
    have gx58 := rg x58
    have ox58 := IM.c4 hI52 R_r0_1 e59
    obtain ⟨x60, e61⟩ : ∃ x, I52 r0_1 5 = x := ⟨_, rfl⟩
    have gx60 := rg x60
    have ox60 := IM.c5 hI52 R_r0_1 e61
    try simp only [e48, e49, e50, e59, e61] at p0x51
    try have q0x51 := congrArg Int32.toInt p0x51
    exact k_iret C rfl (Or.inl rfl) (Nat.le_of_ble_eq_true rfl) (Nat.le_of_ble_eq_true rfl) ⟨_, _, _, rfl, rfl, by omega, by omega, fun a1 h1 => by cases (R_r0_1.symm.trans h1); first | omega | (simp only [e59, e61, k0_r0_1_4, k0_r0_1_5] <;> omega), hI52, (CM.cons S3 (CM.cons S15 (CM.cons S32 (CM.cons S40 (CM.cons S47 (CM.mono S54 (by decide) (by decide)) (by decide) (by decide)) (by decide) (by decide)) (by decide) (by decide)) (by decide) (by decide)) (by decide) (by decide))⟩
  refine z_iconst C (z := 1) rfl rfl rfl (fun x62 ex62 => ?_)
  refine k_goto C (pc2 := 35) rfl rfl ?_
  refine z_iconst C (z := 2) rfl rfl rfl (fun x63 ex63 => ?_)
  have q64 : x62.toNatClampNeg = 1 := nck (by omega)
  have q65 : x63.toNatClampNeg = 2 := nck (by omega)
  refine c_VI C (a_X12_throwsIf hI13 H_r0 (by omega) (by omega)) rfl rfl rfl rfl rfl ⟨_, rfl, rfl, T_r0, Nat.le_of_ble_eq_true rfl⟩ rfl rfl (Nat.le_of_ble_eq_true rfl) (Nat.le_of_ble_eq_true rfl) (Nat.le_of_ble_eq_true rfl) ?_
  rintro x66 I67 L68 ⟨o0x66, o1x66, p0x66, hI67, S69⟩
  have e70 := CM.j S69 R_r0_1 (by decide) e16
  have e71 := CM.j S69 R_r0_1 (by decide) e17
  have e72 := CM.j S69 R_r0_1 (by decide) e19
  have gx66 := rg x66
  try simp only [q64, q65, e16, e17, e19] at p0x66
  try have q0x66 := congrArg Int32.toInt p0x66
  refine b_if_eq C (t := 44) rfl rfl rfl (fun c73 => by exfalso; omega) (fun c73 => ?_)
  refine z_iconst C (z := 0) rfl rfl rfl (fun x74 ex74 => ?_)
  exact k_iret C rfl (Or.inl rfl) (Nat.le_of_ble_eq_true rfl) (Nat.le_of_ble_eq_true rfl) ⟨_, _, _, rfl, rfl, by omega, by omega, fun a1 h1 => by cases (R_r0_1.symm.trans h1); first | omega | (simp only [e70, e71, e72, k0_r0_1_4, k0_r0_1_5] <;> omega), hI67, (CM.cons S3 (CM.cons S15 (CM.mono S69 (by decide) (by decide)) (by decide) (by decide)) (by decide) (by decide))⟩

theorem a_X12_field {d : Nat} {T N : Nat → Nat} {I : IT} {L : LT} {R : RT} {A : Nat → Prop} {r0 : Nat} {n1 : Int32} (hI : IM R r0 I) (H_r0 : (h_MD T N R A) r0) : Ex (d + 2) 232 [.ref r0, .int n1] (T, N, I, L, R) 0 0 (pV T N R (fun I9 L9 => (∀ a1, R r0 1 = some a1 → (I a1 4).toInt + (I a1 5).toInt ≤ 40 → (I9 a1 4).toInt + (I9 a1 5).toInt ≤ 40) ∧ (IM R r0 I9 ∧ CM A R r0 [0] [1] I L I9 L9))) := by
  refine ⟨_, rfl, Nat.le_of_ble_eq_true rfl, fun V C S => ?_⟩
  show V 0 [(0, .ref r0), (1, .int n1)] [] (T, N, I, L, R) 0 0
  have gn1 := rg n1
  obtain ⟨T_r0, A_r0, ⟨r0_1, R_r0_1, H_r0_1⟩, ⟨r0_2, R_r0_2, H_r0_2⟩, ⟨r0_4, R_r0_4, H_r0_4⟩, ⟨r0_5, R_r0_5, H_r0_5⟩, ⟨r0_10, R_r0_10, H_r0_10⟩, ⟨r0_18, R_r0_18, H_r0_18⟩, ⟨r0_20, R_r0_20, H_r0_20⟩, ⟨r0_21, R_r0_21, H_r0_21⟩, ⟨r0_22, R_r0_22, H_r0_22⟩, ⟨r0_23, R_r0_23, H_r0_23⟩, ⟨r0_25, R_r0_25, H_r0_25⟩, ⟨r0_26, R_r0_26, H_r0_26⟩, ⟨r0_27, R_r0_27, H_r0_27⟩, ⟨r0_28, R_r0_28, H_r0_28⟩, ⟨r0_34, R_r0_34, H_r0_34⟩, J_r0, Y_r0⟩ := id H_r0
  have G_r0 : mF T R r0 := ⟨J_r0, Y_r0, T_r0⟩
  obtain ⟨w_r0_1_4, k0_r0_1_4⟩ : ∃ x, I r0_1 4 = x := ⟨_, rfl⟩
  have gw_r0_1_4 := rg w_r0_1_4
  have ow_r0_1_4 := IM.c4 hI R_r0_1 k0_r0_1_4
  obtain ⟨w_r0_1_5, k0_r0_1_5⟩ : ∃ x, I r0_1 5 = x := ⟨_, rfl⟩
  have gw_r0_1_5 := rg w_r0_1_5
  have ow_r0_1_5 := IM.c5 hI R_r0_1 k0_r0_1_5
  refine k_aload_n C rfl rfl rfl ?_
  refine z_iconst C (z := 0) rfl rfl rfl (fun x1 ex1 => ?_)
  refine z_pI C rfl rfl rfl T_r0 (Or.inr rfl) rfl (fun I2 uI2 => ?_)
  have hI2 : IM R r0 I2 := IM.fld hI G_r0 ⟨(fun h => absurd h (by decide)), (fun h => absurd h (by decide)), (fun h => absurd h (by decide)), (fun h => absurd h (by decide)), (fun h => absurd h (by decide))⟩ uI2
  have S3 : CM A R r0 [0] [] I L I2 L := CM.f G_r0 A_r0 uI2
  have e4 := u2_n uI2 (mF.ne G_r0 R_r0_1) k0_r0_1_4
  have e5 := u2_n uI2 (mF.ne G_r0 R_r0_1) k0_r0_1_5
  have e6 := u2_e uI2
  refine k_aload_n C rfl rfl rfl ?_
  refine k_iload_n C rfl rfl rfl ?_
  refine z_bipush C (z := 11) rfl rfl rfl (fun x7 ex7 => ?_)
  refine b_icmp_eq C (t := 34) rfl rfl rfl (fun c8 => ?_) (fun c8 => ?_)
  · skip
    refine z_iconst C (z := 0) rfl rfl rfl (fun x9 ex9 => ?_)
    refine z_iconst C (z := 1) rfl rfl rfl (fun x10 ex10 => ?_)
    have q11 : x9.toNatClampNeg = 0 := nck (by omega)
    have q12 : x10.toNatClampNeg = 1 := nck (by omega)
    refine c_VI C (a_X12_throwsIf hI2 H_r0 (by omega) (by omega)) rfl rfl rfl rfl rfl ⟨_, rfl, rfl, T_r0, Nat.le_of_ble_eq_true rfl⟩ rfl rfl (Nat.le_of_ble_eq_true rfl) (Nat.le_of_ble_eq_true rfl) (Nat.le_of_ble_eq_true rfl) ?_
    rintro x13 I14 L15 ⟨o0x13, o1x13, p0x13, hI14, S16⟩
    have e17 := CM.j S16 R_r0_1 (by decide) e4
    have e18 := CM.j S16 R_r0_1 (by decide) e5
    have gx13 := rg x13
    try simp only [q11, q12, e4, e5, e6] at p0x13
    try have q0x13 := congrArg Int32.toInt p0x13
    refine b_if_ne C (t := 71) rfl rfl rfl (fun c20 => by exfalso; omega) (fun c20 => ?_)
    refine k_aload_n C rfl rfl rfl ?_
    refine k_aload_n C rfl rfl rfl ?_
    refine g_R C rfl rfl rfl T_r0 rfl R_r0_1 ?_
    refine z_iconst C (z := 1) rfl rfl rfl (fun x21 ex21 => ?_)
    obtain ⟨T_r0_1, N_r0_1, A_r0_1⟩ := id H_r0_1
    refine z_aI C rfl rfl T_r0_1 N_r0_1 (by omega) (by omega) (fun x22 ex22 => ?_)
    have gx22 := rg x22
    have nx22 : I14 r0_1 1 = x22 := (congrArg (I14 r0_1) (nck (n := 1) (by omega))).symm.trans ex22
    have ox22 := IM.c1 hI14 R_r0_1 nx22
    refine k_aload_n C rfl rfl rfl ?_
    refine g_R C rfl rfl rfl T_r0 rfl R_r0_1 ?_
    refine z_iconst C (z := 2) rfl rfl rfl (fun x23 ex23 => ?_)
    refine z_aI C rfl rfl T_r0_1 N_r0_1 (by omega) (by omega) (fun x24 ex24 => ?_)
    have gx24 := rg x24
    have nx24 : I14 r0_1 2 = x24 := (congrArg (I14 r0_1) (nck (n := 2) (by omega))).symm.trans ex24
    have ox24 := IM.c2 hI14 R_r0_1 nx24
    refine z_iadd C rfl rfl ⟨by omega, by omega⟩ (fun x25 ex25 => ?_)
    refine b_if_le C (t := 63) rfl rfl rfl (fun c26 => ?_) (fun c26 => ?_)
    · skip
      refine z_iconst C (z := 0) rfl rfl rfl (fun x27 ex27 => ?_)
      refine z_iconst C (z := 2) rfl rfl rfl (fun x28 ex28 => ?_)
      have q29 : x27.toNatClampNeg = 0 := nck (by omega)
      have q30 : x28.toNatClampNeg = 2 := nck (by omega)
      refine c_VI C (a_X12_throwsIf hI14 H_r0 (by omega) (by omega)) rfl rfl rfl rfl rfl ⟨_, rfl, rfl, T_r0, Nat.le_of_ble_eq_true rfl⟩ rfl rfl (Nat.le_of_ble_eq_true rfl) (Nat.le_of_ble_eq_true rfl) (Nat.le_of_ble_eq_true rfl) ?_
      rintro x31 I32 L33 ⟨o0x31, o1x31, p0x31, hI32, S34⟩
      have e35 := CM.j S34 R_r0_1 (by decide) e17
      have e36 := CM.j S34 R_r0_1 (by decide) e18
      have e37 := CM.j S34 R_r0_1 (by decide) nx22
      have e38 := CM.j S34 R_r0_1 (by decide) nx24
      have gx31 := rg x31
      try simp only [q29, q30, e17, e18, nx22, nx24] at p0x31
      try have q0x31 := congrArg Int32.toInt p0x31
      refine b_if_eq C (t := 72) rfl rfl rfl (fun c39 => ?_) (fun c39 => by exfalso; omega)
      refine k_aload_n C rfl rfl rfl ?_
      refine g_R C rfl rfl rfl T_r0 rfl R_r0_1 ?_
      refine z_iconst C (z := 0) rfl rfl rfl (fun x40 ex40 => ?_)
      refine k_iload_n C rfl rfl rfl ?_
      refine z_sI C rfl rfl T_r0_1 N_r0_1 (by omega) (by omega) (fun I41 uI41 => ?_)
      have uI41 : I41 = u2 I32 r0_1 0 (n1) := by rw [uI41, nck (n := 0) (by omega)]
      have hI41 : IM R r0 I41 := IM.arr hI32 G_r0 R_r0_1 ⟨(fun h => absurd h (by decide)), (fun h => absurd h (by decide)), (fun h => absurd h (by decide))⟩ (fun _ => WOK.p (IM.w hI32 R_r0_1) (by rw [e37]; omega) (by omega)) uI41
      have S42 : CM A R r0 [] [1] I32 L33 I41 L33 := CM.a G_r0 R_r0_1 A_r0_1 uI41
      have e43 := u2_j uI41 (by first | decide | exact ncne (by omega) (by omega) (by omega) | exact nckn (by omega) (by omega) | exact (nckn (by omega) (by omega)).symm) e35
      have e44 := u2_j uI41 (by first | decide | exact ncne (by omega) (by omega) (by omega) | exact nckn (by omega) (by omega) | exact (nckn (by omega) (by omega)).symm) e36
      have e45 := u2_j uI41 (by first | decide | exact ncne (by omega) (by omega) (by omega) | exact nckn (by omega) (by omega) | exact (nckn (by omega) (by omega)).symm) e37
      have e46 := u2_j uI41 (by first | decide | exact ncne (by omega) (by omega) (by omega) | exact nckn (by omega) (by omega) | exact (nckn (by omega) (by omega)).symm) e38
      have e47 := u2_e uI41
      exact k_vret C rfl rfl (Nat.le_of_ble_eq_true rfl) (Nat.le_of_ble_eq_true rfl) ⟨_, _, rfl, rfl, fun a1 h1 => by cases (R_r0_1.symm.trans h1); first | omega | (simp only [e43, e44, e45, e46, e47, k0_r0_1_4, k0_r0_1_5] <;> omega), hI41, (CM.cons S3 (CM.cons S16 (CM.cons S34 (CM.mono S42 (by decide) (by decide)) (by decide) (by decide)) (by decide) (by decide)) (by decide) (by decide))⟩
    refine z_iconst C (z := 1) rfl rfl rfl (fun x48 ex48 => ?_)
    refine k_goto C (pc2 := 64) rfl rfl ?_
    refine z_iconst C (z := 2) rfl rfl rfl (fun x49 ex49 => ?_)
    have q50 : x48.toNatClampNeg = 1 := nck (by omega)
    have q51 : x49.toNatClampNeg = 2 := nck (by omega)
    refine c_VI C (a_X12_throwsIf hI14 H_r0 (by omega) (by omega)) rfl rfl rfl rfl rfl ⟨_, rfl, rfl, T_r0, Nat.le_of_ble_eq_true rfl⟩ rfl rfl (Nat.le_of_ble_eq_true rfl) (Nat.le_of_ble_eq_true rfl) (Nat.le_of_ble_eq_true rfl) ?_
    rintro x52 I53 L54 ⟨o0x52, o1x52, p0x52, hI53, S55⟩
    have e56 := CM.j S55 R_r0_1 (by decide) e17
    have e57 := CM.j S55 R_r0_1 (by decide) e18
    have e58 := CM.j S55 R_r0_1 (by decide) nx22
    have e59 := CM.j S55 R_r0_1 (by decide) nx24
    have gx52 := rg x52
    try simp only [q50, q51, e17, e18, nx22, nx24] at p0x52
    try have q0x52 := congrArg Int32.toInt p0x52
    refine b_if_eq C (t := 72) rfl rfl rfl (fun c60 => by exfalso; omega) (fun c60 => ?_)
    exact k_vret C rfl rfl (Nat.le_of_ble_eq_true rfl) (Nat.le_of_ble_eq_true rfl) ⟨_, _, rfl, rfl, fun a1 h1 => by cases (R_r0_1.symm.trans h1); first | omega | (simp only [e56, e57, e58, e59, k0_r0_1_4, k0_r0_1_5] <;> omega), hI53, (CM.cons S3 (CM.cons S16 (CM.mono S55 (by decide) (by decide)) (by decide) (by decide)) (by decide) (by decide))⟩
  refine k_iload_n C rfl rfl rfl ?_
  refine z_bipush C (z := 13) rfl rfl rfl (fun x61 ex61 => ?_)
  refine b_icmp_eq C (t := 34) rfl rfl rfl (fun c62 => ?_) (fun c62 => ?_)
  · skip
    refine z_iconst C (z := 0) rfl rfl rfl (fun x63 ex63 => ?_)
    refine z_iconst C (z := 1) rfl rfl rfl (fun x64 ex64 => ?_)
    have q65 : x63.toNatClampNeg = 0 := nck (by omega)
    have q66 : x64.toNatClampNeg = 1 := nck (by omega)
    refine c_VI C (a_X12_throwsIf hI2 H_r0 (by omega) (by omega)) rfl rfl rfl rfl rfl ⟨_, rfl, rfl, T_r0, Nat.le_of_ble_eq_true rfl⟩ rfl rfl (Nat.le_of_ble_eq_true rfl) (Nat.le_of_ble_eq_true rfl) (Nat.le_of_ble_eq_true rfl) ?_
    rintro x67 I68 L69 ⟨o0x67, o1x67, p0x67, hI68, S70⟩
    have e71 := CM.j S70 R_r0_1 (by decide) e4
    have e72 := CM.j S70 R_r0_1 (by decide) e5
    have gx67 := rg x67
    try simp only [q65, q66, e4, e5, e6] at p0x67
    try have q0x67 := congrArg Int32.toInt p0x67
    refine b_if_ne C (t := 71) rfl rfl rfl (fun c74 => by exfalso; omega) (fun c74 => ?_)
    refine k_aload_n C rfl rfl rfl ?_
    refine k_aload_n C rfl rfl rfl ?_
    refine g_R C rfl rfl rfl T_r0 rfl R_r0_1 ?_
    refine z_iconst C (z := 1) rfl rfl rfl (fun x75 ex75 => ?_)
    obtain ⟨T_r0_1, N_r0_1, A_r0_1⟩ := id H_r0_1
    refine z_aI C rfl rfl T_r0_1 N_r0_1 (by omega) (by omega) (fun x76 ex76 => ?_)
    have gx76 := rg x76
    have nx76 : I68 r0_1 1 = x76 := (congrArg (I68 r0_1) (nck (n := 1) (by omega))).symm.trans ex76
    have ox76 := IM.c1 hI68 R_r0_1 nx76
    refine k_aload_n C rfl rfl rfl ?_
    refine g_R C rfl rfl rfl T_r0 rfl R_r0_1 ?_
    refine z_iconst C (z := 2) rfl rfl rfl (fun x77 ex77 => ?_)
    refine z_aI C rfl rfl T_r0_1 N_r0_1 (by omega) (by omega) (fun x78 ex78 => ?_)
    have gx78 := rg x78
    have nx78 : I68 r0_1 2 = x78 := (congrArg (I68 r0_1) (nck (n := 2) (by omega))).symm.trans ex78
    have ox78 := IM.c2 hI68 R_r0_1 nx78
    refine z_iadd C rfl rfl ⟨by omega, by omega⟩ (fun x79 ex79 => ?_)
    refine b_if_le C (t := 63) rfl rfl rfl (fun c80 => ?_) (fun c80 => ?_)
    · skip
      refine z_iconst C (z := 0) rfl rfl rfl (fun x81 ex81 => ?_)
      refine z_iconst C (z := 2) rfl rfl rfl (fun x82 ex82 => ?_)
      have q83 : x81.toNatClampNeg = 0 := nck (by omega)
      have q84 : x82.toNatClampNeg = 2 := nck (by omega)
      refine c_VI C (a_X12_throwsIf hI68 H_r0 (by omega) (by omega)) rfl rfl rfl rfl rfl ⟨_, rfl, rfl, T_r0, Nat.le_of_ble_eq_true rfl⟩ rfl rfl (Nat.le_of_ble_eq_true rfl) (Nat.le_of_ble_eq_true rfl) (Nat.le_of_ble_eq_true rfl) ?_
      rintro x85 I86 L87 ⟨o0x85, o1x85, p0x85, hI86, S88⟩
      have e89 := CM.j S88 R_r0_1 (by decide) e71
      have e90 := CM.j S88 R_r0_1 (by decide) e72
      have e91 := CM.j S88 R_r0_1 (by decide) nx76
      have e92 := CM.j S88 R_r0_1 (by decide) nx78
      have gx85 := rg x85
      try simp only [q83, q84, e71, e72, nx76, nx78] at p0x85
      try have q0x85 := congrArg Int32.toInt p0x85
      refine b_if_eq C (t := 72) rfl rfl rfl (fun c93 => ?_) (fun c93 => by exfalso; omega)
      refine k_aload_n C rfl rfl rfl ?_
      refine g_R C rfl rfl rfl T_r0 rfl R_r0_1 ?_
      refine z_iconst C (z := 0) rfl rfl rfl (fun x94 ex94 => ?_)
      refine k_iload_n C rfl rfl rfl ?_
      refine z_sI C rfl rfl T_r0_1 N_r0_1 (by omega) (by omega) (fun I95 uI95 => ?_)
      have uI95 : I95 = u2 I86 r0_1 0 (n1) := by rw [uI95, nck (n := 0) (by omega)]
      have hI95 : IM R r0 I95 := IM.arr hI86 G_r0 R_r0_1 ⟨(fun h => absurd h (by decide)), (fun h => absurd h (by decide)), (fun h => absurd h (by decide))⟩ (fun _ => WOK.p (IM.w hI86 R_r0_1) (by rw [e91]; omega) (by omega)) uI95
      have S96 : CM A R r0 [] [1] I86 L87 I95 L87 := CM.a G_r0 R_r0_1 A_r0_1 uI95
      have e97 := u2_j uI95 (by first | decide | exact ncne (by omega) (by omega) (by omega) | exact nckn (by omega) (by omega) | exact (nckn (by omega) (by omega)).symm) e89
      have e98 := u2_j uI95 (by first | decide | exact ncne (by omega) (by omega) (by omega) | exact nckn (by omega) (by omega) | exact (nckn (by omega) (by omega)).symm) e90
      have e99 := u2_j uI95 (by first | decide | exact ncne (by omega) (by omega) (by omega) | exact nckn (by omega) (by omega) | exact (nckn (by omega) (by omega)).symm) e91
      have e100 := u2_j uI95 (by first | decide | exact ncne (by omega) (by omega) (by omega) | exact nckn (by omega) (by omega) | exact (nckn (by omega) (by omega)).symm) e92
      have e101 := u2_e uI95
      exact k_vret C rfl rfl (Nat.le_of_ble_eq_true rfl) (Nat.le_of_ble_eq_true rfl) ⟨_, _, rfl, rfl, fun a1 h1 => by cases (R_r0_1.symm.trans h1); first | omega | (simp only [e97, e98, e99, e100, e101, k0_r0_1_4, k0_r0_1_5] <;> omega), hI95, (CM.cons S3 (CM.cons S70 (CM.cons S88 (CM.mono S96 (by decide) (by decide)) (by decide) (by decide)) (by decide) (by decide)) (by decide) (by decide))⟩
    refine z_iconst C (z := 1) rfl rfl rfl (fun x102 ex102 => ?_)
    refine k_goto C (pc2 := 64) rfl rfl ?_
    refine z_iconst C (z := 2) rfl rfl rfl (fun x103 ex103 => ?_)
    have q104 : x102.toNatClampNeg = 1 := nck (by omega)
    have q105 : x103.toNatClampNeg = 2 := nck (by omega)
    refine c_VI C (a_X12_throwsIf hI68 H_r0 (by omega) (by omega)) rfl rfl rfl rfl rfl ⟨_, rfl, rfl, T_r0, Nat.le_of_ble_eq_true rfl⟩ rfl rfl (Nat.le_of_ble_eq_true rfl) (Nat.le_of_ble_eq_true rfl) (Nat.le_of_ble_eq_true rfl) ?_
    rintro x106 I107 L108 ⟨o0x106, o1x106, p0x106, hI107, S109⟩
    have e110 := CM.j S109 R_r0_1 (by decide) e71
    have e111 := CM.j S109 R_r0_1 (by decide) e72
    have e112 := CM.j S109 R_r0_1 (by decide) nx76
    have e113 := CM.j S109 R_r0_1 (by decide) nx78
    have gx106 := rg x106
    try simp only [q104, q105, e71, e72, nx76, nx78] at p0x106
    try have q0x106 := congrArg Int32.toInt p0x106
    refine b_if_eq C (t := 72) rfl rfl rfl (fun c114 => by exfalso; omega) (fun c114 => ?_)
    exact k_vret C rfl rfl (Nat.le_of_ble_eq_true rfl) (Nat.le_of_ble_eq_true rfl) ⟨_, _, rfl, rfl, fun a1 h1 => by cases (R_r0_1.symm.trans h1); first | omega | (simp only [e110, e111, e112, e113, k0_r0_1_4, k0_r0_1_5] <;> omega), hI107, (CM.cons S3 (CM.cons S70 (CM.mono S109 (by decide) (by decide)) (by decide) (by decide)) (by decide) (by decide))⟩
  refine k_iload_n C rfl rfl rfl ?_
  refine z_bipush C (z := 17) rfl rfl rfl (fun x115 ex115 => ?_)
  refine b_icmp_eq C (t := 34) rfl rfl rfl (fun c116 => ?_) (fun c116 => ?_)
  · skip
    refine z_iconst C (z := 0) rfl rfl rfl (fun x117 ex117 => ?_)
    refine z_iconst C (z := 1) rfl rfl rfl (fun x118 ex118 => ?_)
    have q119 : x117.toNatClampNeg = 0 := nck (by omega)
    have q120 : x118.toNatClampNeg = 1 := nck (by omega)
    refine c_VI C (a_X12_throwsIf hI2 H_r0 (by omega) (by omega)) rfl rfl rfl rfl rfl ⟨_, rfl, rfl, T_r0, Nat.le_of_ble_eq_true rfl⟩ rfl rfl (Nat.le_of_ble_eq_true rfl) (Nat.le_of_ble_eq_true rfl) (Nat.le_of_ble_eq_true rfl) ?_
    rintro x121 I122 L123 ⟨o0x121, o1x121, p0x121, hI122, S124⟩
    have e125 := CM.j S124 R_r0_1 (by decide) e4
    have e126 := CM.j S124 R_r0_1 (by decide) e5
    have gx121 := rg x121
    try simp only [q119, q120, e4, e5, e6] at p0x121
    try have q0x121 := congrArg Int32.toInt p0x121
    refine b_if_ne C (t := 71) rfl rfl rfl (fun c128 => by exfalso; omega) (fun c128 => ?_)
    refine k_aload_n C rfl rfl rfl ?_
    refine k_aload_n C rfl rfl rfl ?_
    refine g_R C rfl rfl rfl T_r0 rfl R_r0_1 ?_
    refine z_iconst C (z := 1) rfl rfl rfl (fun x129 ex129 => ?_)
    obtain ⟨T_r0_1, N_r0_1, A_r0_1⟩ := id H_r0_1
    refine z_aI C rfl rfl T_r0_1 N_r0_1 (by omega) (by omega) (fun x130 ex130 => ?_)
    have gx130 := rg x130
    have nx130 : I122 r0_1 1 = x130 := (congrArg (I122 r0_1) (nck (n := 1) (by omega))).symm.trans ex130
    have ox130 := IM.c1 hI122 R_r0_1 nx130
    refine k_aload_n C rfl rfl rfl ?_
    refine g_R C rfl rfl rfl T_r0 rfl R_r0_1 ?_
    refine z_iconst C (z := 2) rfl rfl rfl (fun x131 ex131 => ?_)
    refine z_aI C rfl rfl T_r0_1 N_r0_1 (by omega) (by omega) (fun x132 ex132 => ?_)
    have gx132 := rg x132
    have nx132 : I122 r0_1 2 = x132 := (congrArg (I122 r0_1) (nck (n := 2) (by omega))).symm.trans ex132
    have ox132 := IM.c2 hI122 R_r0_1 nx132
    refine z_iadd C rfl rfl ⟨by omega, by omega⟩ (fun x133 ex133 => ?_)
    refine b_if_le C (t := 63) rfl rfl rfl (fun c134 => ?_) (fun c134 => ?_)
    · skip
      refine z_iconst C (z := 0) rfl rfl rfl (fun x135 ex135 => ?_)
      refine z_iconst C (z := 2) rfl rfl rfl (fun x136 ex136 => ?_)
      have q137 : x135.toNatClampNeg = 0 := nck (by omega)
      have q138 : x136.toNatClampNeg = 2 := nck (by omega)
      refine c_VI C (a_X12_throwsIf hI122 H_r0 (by omega) (by omega)) rfl rfl rfl rfl rfl ⟨_, rfl, rfl, T_r0, Nat.le_of_ble_eq_true rfl⟩ rfl rfl (Nat.le_of_ble_eq_true rfl) (Nat.le_of_ble_eq_true rfl) (Nat.le_of_ble_eq_true rfl) ?_
      rintro x139 I140 L141 ⟨o0x139, o1x139, p0x139, hI140, S142⟩
      have e143 := CM.j S142 R_r0_1 (by decide) e125
      have e144 := CM.j S142 R_r0_1 (by decide) e126
      have e145 := CM.j S142 R_r0_1 (by decide) nx130
      have e146 := CM.j S142 R_r0_1 (by decide) nx132
      have gx139 := rg x139
      try simp only [q137, q138, e125, e126, nx130, nx132] at p0x139
      try have q0x139 := congrArg Int32.toInt p0x139
      refine b_if_eq C (t := 72) rfl rfl rfl (fun c147 => ?_) (fun c147 => by exfalso; omega)
      refine k_aload_n C rfl rfl rfl ?_
      refine g_R C rfl rfl rfl T_r0 rfl R_r0_1 ?_
      refine z_iconst C (z := 0) rfl rfl rfl (fun x148 ex148 => ?_)
      refine k_iload_n C rfl rfl rfl ?_
      refine z_sI C rfl rfl T_r0_1 N_r0_1 (by omega) (by omega) (fun I149 uI149 => ?_)
      have uI149 : I149 = u2 I140 r0_1 0 (n1) := by rw [uI149, nck (n := 0) (by omega)]
      have hI149 : IM R r0 I149 := IM.arr hI140 G_r0 R_r0_1 ⟨(fun h => absurd h (by decide)), (fun h => absurd h (by decide)), (fun h => absurd h (by decide))⟩ (fun _ => WOK.p (IM.w hI140 R_r0_1) (by rw [e145]; omega) (by omega)) uI149
      have S150 : CM A R r0 [] [1] I140 L141 I149 L141 := CM.a G_r0 R_r0_1 A_r0_1 uI149
      have e151 := u2_j uI149 (by first | decide | exact ncne (by omega) (by omega) (by omega) | exact nckn (by omega) (by omega) | exact (nckn (by omega) (by omega)).symm) e143
      have e152 := u2_j uI149 (by first | decide | exact ncne (by omega) (by omega) (by omega) | exact nckn (by omega) (by omega) | exact (nckn (by omega) (by omega)).symm) e144
      have e153 := u2_j uI149 (by first | decide | exact ncne (by omega) (by omega) (by omega) | exact nckn (by omega) (by omega) | exact (nckn (by omega) (by omega)).symm) e145
      have e154 := u2_j uI149 (by first | decide | exact ncne (by omega) (by omega) (by omega) | exact nckn (by omega) (by omega) | exact (nckn (by omega) (by omega)).symm) e146
      have e155 := u2_e uI149
      exact k_vret C rfl rfl (Nat.le_of_ble_eq_true rfl) (Nat.le_of_ble_eq_true rfl) ⟨_, _, rfl, rfl, fun a1 h1 => by cases (R_r0_1.symm.trans h1); first | omega | (simp only [e151, e152, e153, e154, e155, k0_r0_1_4, k0_r0_1_5] <;> omega), hI149, (CM.cons S3 (CM.cons S124 (CM.cons S142 (CM.mono S150 (by decide) (by decide)) (by decide) (by decide)) (by decide) (by decide)) (by decide) (by decide))⟩
    refine z_iconst C (z := 1) rfl rfl rfl (fun x156 ex156 => ?_)
    refine k_goto C (pc2 := 64) rfl rfl ?_
    refine z_iconst C (z := 2) rfl rfl rfl (fun x157 ex157 => ?_)
    have q158 : x156.toNatClampNeg = 1 := nck (by omega)
    have q159 : x157.toNatClampNeg = 2 := nck (by omega)
    refine c_VI C (a_X12_throwsIf hI122 H_r0 (by omega) (by omega)) rfl rfl rfl rfl rfl ⟨_, rfl, rfl, T_r0, Nat.le_of_ble_eq_true rfl⟩ rfl rfl (Nat.le_of_ble_eq_true rfl) (Nat.le_of_ble_eq_true rfl) (Nat.le_of_ble_eq_true rfl) ?_
    rintro x160 I161 L162 ⟨o0x160, o1x160, p0x160, hI161, S163⟩
    have e164 := CM.j S163 R_r0_1 (by decide) e125
    have e165 := CM.j S163 R_r0_1 (by decide) e126
    have e166 := CM.j S163 R_r0_1 (by decide) nx130
    have e167 := CM.j S163 R_r0_1 (by decide) nx132
    have gx160 := rg x160
    try simp only [q158, q159, e125, e126, nx130, nx132] at p0x160
    try have q0x160 := congrArg Int32.toInt p0x160
    refine b_if_eq C (t := 72) rfl rfl rfl (fun c168 => by exfalso; omega) (fun c168 => ?_)
    exact k_vret C rfl rfl (Nat.le_of_ble_eq_true rfl) (Nat.le_of_ble_eq_true rfl) ⟨_, _, rfl, rfl, fun a1 h1 => by cases (R_r0_1.symm.trans h1); first | omega | (simp only [e164, e165, e166, e167, k0_r0_1_4, k0_r0_1_5] <;> omega), hI161, (CM.cons S3 (CM.cons S124 (CM.mono S163 (by decide) (by decide)) (by decide) (by decide)) (by decide) (by decide))⟩
  refine k_iload_n C rfl rfl rfl ?_
  refine z_bipush C (z := 19) rfl rfl rfl (fun x169 ex169 => ?_)
  refine b_icmp_eq C (t := 34) rfl rfl rfl (fun c170 => ?_) (fun c170 => ?_)
  · skip
    refine z_iconst C (z := 0) rfl rfl rfl (fun x171 ex171 => ?_)
    refine z_iconst C (z := 1) rfl rfl rfl (fun x172 ex172 => ?_)
    have q173 : x171.toNatClampNeg = 0 := nck (by omega)
    have q174 : x172.toNatClampNeg = 1 := nck (by omega)
    refine c_VI C (a_X12_throwsIf hI2 H_r0 (by omega) (by omega)) rfl rfl rfl rfl rfl ⟨_, rfl, rfl, T_r0, Nat.le_of_ble_eq_true rfl⟩ rfl rfl (Nat.le_of_ble_eq_true rfl) (Nat.le_of_ble_eq_true rfl) (Nat.le_of_ble_eq_true rfl) ?_
    rintro x175 I176 L177 ⟨o0x175, o1x175, p0x175, hI176, S178⟩
    have e179 := CM.j S178 R_r0_1 (by decide) e4
    have e180 := CM.j S178 R_r0_1 (by decide) e5
    have gx175 := rg x175
    try simp only [q173, q174, e4, e5, e6] at p0x175
    try have q0x175 := congrArg Int32.toInt p0x175
    refine b_if_ne C (t := 71) rfl rfl rfl (fun c182 => by exfalso; omega) (fun c182 => ?_)
    refine k_aload_n C rfl rfl rfl ?_
    refine k_aload_n C rfl rfl rfl ?_
    refine g_R C rfl rfl rfl T_r0 rfl R_r0_1 ?_
    refine z_iconst C (z := 1) rfl rfl rfl (fun x183 ex183 => ?_)
    obtain ⟨T_r0_1, N_r0_1, A_r0_1⟩ := id H_r0_1
    refine z_aI C rfl rfl T_r0_1 N_r0_1 (by omega) (by omega) (fun x184 ex184 => ?_)
    have gx184 := rg x184
    have nx184 : I176 r0_1 1 = x184 := (congrArg (I176 r0_1) (nck (n := 1) (by omega))).symm.trans ex184
    have ox184 := IM.c1 hI176 R_r0_1 nx184
    refine k_aload_n C rfl rfl rfl ?_
    refine g_R C rfl rfl rfl T_r0 rfl R_r0_1 ?_
    refine z_iconst C (z := 2) rfl rfl rfl (fun x185 ex185 => ?_)
    refine z_aI C rfl rfl T_r0_1 N_r0_1 (by omega) (by omega) (fun x186 ex186 => ?_)
    have gx186 := rg x186
    have nx186 : I176 r0_1 2 = x186 := (congrArg (I176 r0_1) (nck (n := 2) (by omega))).symm.trans ex186
    have ox186 := IM.c2 hI176 R_r0_1 nx186
    refine z_iadd C rfl rfl ⟨by omega, by omega⟩ (fun x187 ex187 => ?_)
    refine b_if_le C (t := 63) rfl rfl rfl (fun c188 => ?_) (fun c188 => ?_)
    · skip
      refine z_iconst C (z := 0) rfl rfl rfl (fun x189 ex189 => ?_)
      refine z_iconst C (z := 2) rfl rfl rfl (fun x190 ex190 => ?_)
      have q191 : x189.toNatClampNeg = 0 := nck (by omega)
      have q192 : x190.toNatClampNeg = 2 := nck (by omega)
      refine c_VI C (a_X12_throwsIf hI176 H_r0 (by omega) (by omega)) rfl rfl rfl rfl rfl ⟨_, rfl, rfl, T_r0, Nat.le_of_ble_eq_true rfl⟩ rfl rfl (Nat.le_of_ble_eq_true rfl) (Nat.le_of_ble_eq_true rfl) (Nat.le_of_ble_eq_true rfl) ?_
      rintro x193 I194 L195 ⟨o0x193, o1x193, p0x193, hI194, S196⟩
      have e197 := CM.j S196 R_r0_1 (by decide) e179
      have e198 := CM.j S196 R_r0_1 (by decide) e180
      have e199 := CM.j S196 R_r0_1 (by decide) nx184
      have e200 := CM.j S196 R_r0_1 (by decide) nx186
      have gx193 := rg x193
      try simp only [q191, q192, e179, e180, nx184, nx186] at p0x193
      try have q0x193 := congrArg Int32.toInt p0x193
      refine b_if_eq C (t := 72) rfl rfl rfl (fun c201 => ?_) (fun c201 => by exfalso; omega)
      refine k_aload_n C rfl rfl rfl ?_
      refine g_R C rfl rfl rfl T_r0 rfl R_r0_1 ?_
      refine z_iconst C (z := 0) rfl rfl rfl (fun x202 ex202 => ?_)
      refine k_iload_n C rfl rfl rfl ?_
      refine z_sI C rfl rfl T_r0_1 N_r0_1 (by omega) (by omega) (fun I203 uI203 => ?_)
      have uI203 : I203 = u2 I194 r0_1 0 (n1) := by rw [uI203, nck (n := 0) (by omega)]
      have hI203 : IM R r0 I203 := IM.arr hI194 G_r0 R_r0_1 ⟨(fun h => absurd h (by decide)), (fun h => absurd h (by decide)), (fun h => absurd h (by decide))⟩ (fun _ => WOK.p (IM.w hI194 R_r0_1) (by rw [e199]; omega) (by omega)) uI203
      have S204 : CM A R r0 [] [1] I194 L195 I203 L195 := CM.a G_r0 R_r0_1 A_r0_1 uI203
      have e205 := u2_j uI203 (by first | decide | exact ncne (by omega) (by omega) (by omega) | exact nckn (by omega) (by omega) | exact (nckn (by omega) (by omega)).symm) e197
      have e206 := u2_j uI203 (by first | decide | exact ncne (by omega) (by omega) (by omega) | exact nckn (by omega) (by omega) | exact (nckn (by omega) (by omega)).symm) e198
      have e207 := u2_j uI203 (by first | decide | exact ncne (by omega) (by omega) (by omega) | exact nckn (by omega) (by omega) | exact (nckn (by omega) (by omega)).symm) e199
      have e208 := u2_j uI203 (by first | decide | exact ncne (by omega) (by omega) (by omega) | exact nckn (by omega) (by omega) | exact (nckn (by omega) (by omega)).symm) e200
      have e209 := u2_e uI203
      exact k_vret C rfl rfl (Nat.le_of_ble_eq_true rfl) (Nat.le_of_ble_eq_true rfl) ⟨_, _, rfl, rfl, fun a1 h1 => by cases (R_r0_1.symm.trans h1); first | omega | (simp only [e205, e206, e207, e208, e209, k0_r0_1_4, k0_r0_1_5] <;> omega), hI203, (CM.cons S3 (CM.cons S178 (CM.cons S196 (CM.mono S204 (by decide) (by decide)) (by decide) (by decide)) (by decide) (by decide)) (by decide) (by decide))⟩
    refine z_iconst C (z := 1) rfl rfl rfl (fun x210 ex210 => ?_)
    refine k_goto C (pc2 := 64) rfl rfl ?_
    refine z_iconst C (z := 2) rfl rfl rfl (fun x211 ex211 => ?_)
    have q212 : x210.toNatClampNeg = 1 := nck (by omega)
    have q213 : x211.toNatClampNeg = 2 := nck (by omega)
    refine c_VI C (a_X12_throwsIf hI176 H_r0 (by omega) (by omega)) rfl rfl rfl rfl rfl ⟨_, rfl, rfl, T_r0, Nat.le_of_ble_eq_true rfl⟩ rfl rfl (Nat.le_of_ble_eq_true rfl) (Nat.le_of_ble_eq_true rfl) (Nat.le_of_ble_eq_true rfl) ?_
    rintro x214 I215 L216 ⟨o0x214, o1x214, p0x214, hI215, S217⟩
    have e218 := CM.j S217 R_r0_1 (by decide) e179
    have e219 := CM.j S217 R_r0_1 (by decide) e180
    have e220 := CM.j S217 R_r0_1 (by decide) nx184
    have e221 := CM.j S217 R_r0_1 (by decide) nx186
    have gx214 := rg x214
    try simp only [q212, q213, e179, e180, nx184, nx186] at p0x214
    try have q0x214 := congrArg Int32.toInt p0x214
    refine b_if_eq C (t := 72) rfl rfl rfl (fun c222 => by exfalso; omega) (fun c222 => ?_)
    exact k_vret C rfl rfl (Nat.le_of_ble_eq_true rfl) (Nat.le_of_ble_eq_true rfl) ⟨_, _, rfl, rfl, fun a1 h1 => by cases (R_r0_1.symm.trans h1); first | omega | (simp only [e218, e219, e220, e221, k0_r0_1_4, k0_r0_1_5] <;> omega), hI215, (CM.cons S3 (CM.cons S178 (CM.mono S217 (by decide) (by decide)) (by decide) (by decide)) (by decide) (by decide))⟩
  refine z_iconst C (z := 1) rfl rfl rfl (fun x223 ex223 => ?_)
  refine k_goto C (pc2 := 35) rfl rfl ?_
  refine z_iconst C (z := 1) rfl rfl rfl (fun x224 ex224 => ?_)
  have q225 : x223.toNatClampNeg = 1 := nck (by omega)
  have q226 : x224.toNatClampNeg = 1 := nck (by omega)
  refine c_VI C (a_X12_throwsIf hI2 H_r0 (by omega) (by omega)) rfl rfl rfl rfl rfl ⟨_, rfl, rfl, T_r0, Nat.le_of_ble_eq_true rfl⟩ rfl rfl (Nat.le_of_ble_eq_true rfl) (Nat.le_of_ble_eq_true rfl) (Nat.le_of_ble_eq_true rfl) ?_
  rintro x227 I228 L229 ⟨o0x227, o1x227, p0x227, hI228, S230⟩
  have e231 := CM.j S230 R_r0_1 (by decide) e4
  have e232 := CM.j S230 R_r0_1 (by decide) e5
  have gx227 := rg x227
  try simp only [q225, q226, e4, e5, e6] at p0x227
  try have q0x227 := congrArg Int32.toInt p0x227
  refine b_if_ne C (t := 71) rfl rfl rfl (fun c234 => ?_) (fun c234 => by exfalso; omega)
  exact k_vret C rfl rfl (Nat.le_of_ble_eq_true rfl) (Nat.le_of_ble_eq_true rfl) ⟨_, _, rfl, rfl, fun a1 h1 => by cases (R_r0_1.symm.trans h1); first | omega | (simp only [e231, e232, k0_r0_1_4, k0_r0_1_5] <;> omega), hI228, (CM.cons S3 (CM.mono S230 (by decide) (by decide)) (by decide) (by decide))⟩

theorem a_X12_form {d : Nat} {T N : Nat → Nat} {I : IT} {L : LT} {R : RT} {A : Nat → Prop} {r0 : Nat} (hI : IM R r0 I) (H_r0 : (h_MD T N R A) r0) : Ex (d + 4) 233 [.ref r0] (T, N, I, L, R) 0 0 (pI T N R (fun x9 I9 L9 => (0 ≤ x9.toInt) ∧ (x9.toInt ≤ 16) ∧ (∀ a1, R r0 1 = some a1 → (I a1 4).toInt + (I a1 5).toInt ≤ 40 → (I9 a1 4).toInt + (I9 a1 5).toInt ≤ 40) ∧ (IM R r0 I9 ∧ CM A R r0 [0, 11, 12, 13] [1] I L I9 L9))) := by
  refine ⟨_, rfl, Nat.le_of_ble_eq_true rfl, fun V C S => ?_⟩
  show V 0 [(0, .ref r0)] [] (T, N, I, L, R) 0 0
  obtain ⟨T_r0, A_r0, ⟨r0_1, R_r0_1, H_r0_1⟩, ⟨r0_2, R_r0_2, H_r0_2⟩, ⟨r0_4, R_r0_4, H_r0_4⟩, ⟨r0_5, R_r0_5, H_r0_5⟩, ⟨r0_10, R_r0_10, H_r0_10⟩, ⟨r0_18, R_r0_18, H_r0_18⟩, ⟨r0_20, R_r0_20, H_r0_20⟩, ⟨r0_21, R_r0_21, H_r0_21⟩, ⟨r0_22, R_r0_22, H_r0_22⟩, ⟨r0_23, R_r0_23, H_r0_23⟩, ⟨r0_25, R_r0_25, H_r0_25⟩, ⟨r0_26, R_r0_26, H_r0_26⟩, ⟨r0_27, R_r0_27, H_r0_27⟩, ⟨r0_28, R_r0_28, H_r0_28⟩, ⟨r0_34, R_r0_34, H_r0_34⟩, J_r0, Y_r0⟩ := id H_r0
  have G_r0 : mF T R r0 := ⟨J_r0, Y_r0, T_r0⟩
  obtain ⟨w_r0_1_4, k0_r0_1_4⟩ : ∃ x, I r0_1 4 = x := ⟨_, rfl⟩
  have gw_r0_1_4 := rg w_r0_1_4
  have ow_r0_1_4 := IM.c4 hI R_r0_1 k0_r0_1_4
  obtain ⟨w_r0_1_5, k0_r0_1_5⟩ : ∃ x, I r0_1 5 = x := ⟨_, rfl⟩
  have gw_r0_1_5 := rg w_r0_1_5
  have ow_r0_1_5 := IM.c5 hI R_r0_1 k0_r0_1_5
  obtain ⟨w_r0_1_0, k0_r0_1_0⟩ : ∃ x, I r0_1 0 = x := ⟨_, rfl⟩
  have gw_r0_1_0 := rg w_r0_1_0
  have ow_r0_1_0 := IM.pi hI R_r0_1 k0_r0_1_0
  refine k_aload_n C rfl rfl rfl ?_
  refine c_VV C (a_X12_uses hI H_r0) rfl rfl rfl rfl rfl ⟨_, rfl, rfl, T_r0, Nat.le_of_ble_eq_true rfl⟩ rfl rfl (Nat.le_of_ble_eq_true rfl) (Nat.le_of_ble_eq_true rfl) (Nat.le_of_ble_eq_true rfl) ?_
  rintro I2 L3 ⟨hI2, S4⟩
  have e5 := CM.j S4 R_r0_1 (by decide) k0_r0_1_4
  have e6 := CM.j S4 R_r0_1 (by decide) k0_r0_1_5
  have e7 := CM.j S4 R_r0_1 (by decide) k0_r0_1_0
  refine k_aload_n C rfl rfl rfl ?_
  refine k_aload_n C rfl rfl rfl ?_
  refine z_gI C rfl rfl rfl T_r0 rfl (fun x8 ex8 => ?_)
  have gx8 := rg x8
  have ox8 := IM.f13 hI2 ex8
  refine z_iconst C (z := 1) rfl rfl rfl (fun x9 ex9 => ?_)
  refine z_bipush C (z := 9) rfl rfl rfl (fun x10 ex10 => ?_)
  have q11 : x9.toNatClampNeg = 1 := nck (by omega)
  have q12 : x10.toNatClampNeg = 9 := nck (by omega)
  refine c_SI C a_X12_in rfl rfl rfl rfl rfl rfl rfl (Nat.le_of_ble_eq_true rfl) (Nat.le_of_ble_eq_true rfl) (Nat.le_of_ble_eq_true rfl) ?_
  rintro x13 _ _ ⟨o0x13, o1x13, p0x13, rfl, rfl⟩
  have gx13 := rg x13
  try simp only [q11, q12, e5, e6, e7, ex8] at p0x13
  try have q0x13 := congrArg Int32.toInt p0x13
  refine b_if_ne C (t := 22) rfl rfl rfl (fun c14 => ?_) (fun c14 => ?_)
  · skip
    refine z_iconst C (z := 0) rfl rfl rfl (fun x15 ex15 => ?_)
    refine z_iconst C (z := 1) rfl rfl rfl (fun x16 ex16 => ?_)
    have q17 : x15.toNatClampNeg = 0 := nck (by omega)
    have q18 : x16.toNatClampNeg = 1 := nck (by omega)
    refine c_VI C (a_X12_throwsIf hI2 H_r0 (by omega) (by omega)) rfl rfl rfl rfl rfl ⟨_, rfl, rfl, T_r0, Nat.le_of_ble_eq_true rfl⟩ rfl rfl (Nat.le_of_ble_eq_true rfl) (Nat.le_of_ble_eq_true rfl) (Nat.le_of_ble_eq_true rfl) ?_
    rintro x19 I20 L21 ⟨o0x19, o1x19, p0x19, hI20, S22⟩
    have e23 := CM.j S22 R_r0_1 (by decide) e5
    have e24 := CM.j S22 R_r0_1 (by decide) e6
    have e25 := CM.j S22 R_r0_1 (by decide) e7
    have e26 := CM.k S22 (by decide) ex8
    have gx19 := rg x19
    try simp only [q17, q18, e5, e6, e7, ex8] at p0x19
    try have q0x19 := congrArg Int32.toInt p0x19
    refine b_if_ne C (t := 54) rfl rfl rfl (fun c27 => by exfalso; omega) (fun c27 => ?_)
    refine k_aload_n C rfl rfl rfl ?_
    refine k_aload_n C rfl rfl rfl ?_
    refine g_R C rfl rfl rfl T_r0 rfl R_r0_1 ?_
    refine z_iconst C (z := 1) rfl rfl rfl (fun x28 ex28 => ?_)
    obtain ⟨T_r0_1, N_r0_1, A_r0_1⟩ := id H_r0_1
    refine z_aI C rfl rfl T_r0_1 N_r0_1 (by omega) (by omega) (fun x29 ex29 => ?_)
    have gx29 := rg x29
    have nx29 : I20 r0_1 1 = x29 := (congrArg (I20 r0_1) (nck (n := 1) (by omega))).symm.trans ex29
    have ox29 := IM.c1 hI20 R_r0_1 nx29
    refine z_bipush C (z := 16) rfl rfl rfl (fun x30 ex30 => ?_)
    refine b_icmp_ne C (t := 46) rfl rfl rfl (fun c31 => ?_) (fun c31 => ?_)
    · skip
      refine z_iconst C (z := 0) rfl rfl rfl (fun x32 ex32 => ?_)
      refine z_iconst C (z := 2) rfl rfl rfl (fun x33 ex33 => ?_)
      have q34 : x32.toNatClampNeg = 0 := nck (by omega)
      have q35 : x33.toNatClampNeg = 2 := nck (by omega)
      refine c_VI C (a_X12_throwsIf hI20 H_r0 (by omega) (by omega)) rfl rfl rfl rfl rfl ⟨_, rfl, rfl, T_r0, Nat.le_of_ble_eq_true rfl⟩ rfl rfl (Nat.le_of_ble_eq_true rfl) (Nat.le_of_ble_eq_true rfl) (Nat.le_of_ble_eq_true rfl) ?_
      rintro x36 I37 L38 ⟨o0x36, o1x36, p0x36, hI37, S39⟩
      have e40 := CM.j S39 R_r0_1 (by decide) e23
      have e41 := CM.j S39 R_r0_1 (by decide) e24
      have e42 := CM.j S39 R_r0_1 (by decide) e25
      have e43 := CM.k S39 (by decide) e26
      have e44 := CM.j S39 R_r0_1 (by decide) nx29
      have gx36 := rg x36
      try simp only [q34, q35, e23, e24, e25, e26, nx29] at p0x36
      try have q0x36 := congrArg Int32.toInt p0x36
      refine b_if_eq C (t := 56) rfl rfl rfl (fun c45 => ?_) (fun c45 => by exfalso; omega)
      refine k_aload_n C rfl rfl rfl ?_
      refine g_R C rfl rfl rfl T_r0 rfl R_r0_1 ?_
      refine z_iconst C (z := 1) rfl rfl rfl (fun x46 ex46 => ?_)
      refine a_I C rfl rfl T_r0_1 (by rw [N_r0_1]; exact vpi (by omega) (by omega)) ((congrArg (I37 r0_1) (nck (n := 1) (by omega))).trans e44) ?_
      refine k_istore_n C (lw := [(1, .int x29), (0, .ref r0)]) rfl rfl (Nat.le_of_ble_eq_true rfl) rfl ?_
      refine k_aload_n C rfl rfl rfl ?_
      refine g_R C rfl rfl rfl T_r0 rfl R_r0_1 ?_
      refine k_iload_n C rfl rfl rfl ?_
      refine c_SI C (a_X12_formAt (by omega) (by omega)) rfl rfl rfl rfl rfl rfl rfl (Nat.le_of_ble_eq_true rfl) (Nat.le_of_ble_eq_true rfl) (Nat.le_of_ble_eq_true rfl) ?_
      rintro x47 _ _ ⟨o0x47, o1x47, p0x47, rfl, rfl⟩
      have gx47 := rg x47
      try simp only [e40, e41, e42, e43, e44] at p0x47
      try have q0x47 := congrArg Int32.toInt p0x47
      refine k_aload_n C rfl rfl rfl ?_
      refine g_I C rfl rfl rfl T_r0 rfl e43 ?_
      refine z_iconst C (z := 1) rfl rfl rfl (fun x48 ex48 => ?_)
      refine z_isub C rfl rfl ⟨by omega, by omega⟩ (fun x49 ex49 => ?_)
      refine z_sI C rfl rfl T_r0_1 N_r0_1 (by omega) (by omega) (fun I50 uI50 => ?_)
      have hI50 : IM R r0 I50 := IM.arr hI37 G_r0 R_r0_1 ⟨(fun h => absurd h (by decide)), (fun h => absurd h (by decide)), (fun h => absurd h (by decide))⟩ (fun _ => WOK.dg (IM.w hI37 R_r0_1) (f := x29) ⟨by rw [e44]; omega, by omega⟩ (by omega) (by omega) (by omega)) uI50
      have S51 : CM A R r0 [] [1] I37 L38 I50 L38 := CM.a G_r0 R_r0_1 A_r0_1 uI50
      have e52 := u2_j uI50 (by first | decide | exact ncne (by omega) (by omega) (by omega) | exact nckn (by omega) (by omega) | exact (nckn (by omega) (by omega)).symm) e40
      have e53 := u2_j uI50 (by first | decide | exact ncne (by omega) (by omega) (by omega) | exact nckn (by omega) (by omega) | exact (nckn (by omega) (by omega)).symm) e41
      have e54 := u2_j uI50 (by first | decide | exact ncne (by omega) (by omega) (by omega) | exact nckn (by omega) (by omega) | exact (nckn (by omega) (by omega)).symm) e42
      have e55 := u2_n uI50 (fun e => (mF.ne G_r0 R_r0_1) e.symm) e43
      have e56 := u2_j uI50 (by first | decide | exact ncne (by omega) (by omega) (by omega) | exact nckn (by omega) (by omega) | exact (nckn (by omega) (by omega)).symm) e44
      have e57 := u2_e uI50
      have hu77 := uI50
      refine z_iconst C (z := 0) rfl rfl rfl (fun x58 ex58 => ?_)
      have J59 : ∀ (nn60 : Nat) (I61 : IT) (L62 : LT) (x63 : Int32) (x68 : Int32) (x72 : Int32) (x76 : Int32) (x80 : Int32), ((400 - x63.toInt).toNat = nn60) → (IM R r0 I61) → (CM A R r0 [] [1] I50 L38 I61 L62) → (0 ≤ x63.toInt) → (x63.toInt ≤ 400) → (I61 r0_1 0 = x68) → (11 ≤ x68.toInt) → (x68.toInt ≤ 19) → (I61 r0_1 1 = x72) → (0 ≤ x72.toInt) → (x72.toInt ≤ 16) → (I61 r0_1 4 = x76) → (0 ≤ x76.toInt) → (x76.toInt ≤ 40) → (I61 r0_1 5 = x80) → (0 ≤ x80.toInt) → (x80.toInt ≤ 40) → (x68.toInt = w_r0_1_0.toInt) → (x72.toInt = x29.toInt) → (x76.toInt = w_r0_1_4.toInt) → (x80.toInt = w_r0_1_5.toInt) → (FRM I61 r0_1 x29.toNatClampNeg x63.toInt (x8.toInt - 1) w_r0_1_0.toInt) → V 80 [(0, .ref r0), (1, .int x29), (2, .int x63)] [] (T, N, I61, L62, R) 0 0 := by
        intro nn60
        induction nn60 using Nat.strongRecOn with
        | _ nn60 ihJ59 =>
          intro I61 L62 x63 x68 x72 x76 x80 hmnn60 hI67 S66 b64 b65 e69 b70 b71 e73 b74 b75 e77 b78 b79 e81 b82 b83 ff80_0 ff80_1 ff80_2 ff80_3 ff80_4
          have gx63 := rg x63
          have gx68 := rg x68
          have gx72 := rg x72
          have gx76 := rg x76
          have gx80 := rg x80
          have e84 := CM.k S66 (by decide) e55
          refine k_iload_n C rfl rfl rfl ?_
          refine k_aload_n C rfl rfl rfl ?_
          refine g_I C rfl rfl rfl T_r0 rfl e84 ?_
          refine b_icmp_ge C (t := 122) rfl rfl rfl (fun c85 => ?_) (fun c85 => ?_)
          · skip
            refine k_aload_n C rfl rfl rfl ?_
            refine g_R C rfl rfl rfl T_r0 rfl R_r0_1 ?_
            refine z_iconst C (z := 1) rfl rfl rfl (fun x86 ex86 => ?_)
            refine k_dup2 C rfl rfl rfl rfl ?_
            refine a_I C rfl rfl T_r0_1 (by rw [N_r0_1]; exact vpi (by omega) (by omega)) ((congrArg (I61 r0_1) (nck (n := 1) (by omega))).trans e73) ?_
            refine z_iconst C (z := 1) rfl rfl rfl (fun x87 ex87 => ?_)
            refine z_iadd C rfl rfl ⟨by omega, by omega⟩ (fun x88 ex88 => ?_)
            refine z_sI C rfl rfl T_r0_1 N_r0_1 (by omega) (by omega) (fun I89 uI89 => ?_)
            have uI89 : I89 = u2 I61 r0_1 1 (x88) := by rw [uI89, nck (n := 1) (by omega)]
            have hI89 : IM R r0 I89 := IM.arr hI67 G_r0 R_r0_1 ⟨(fun h => absurd h (by decide)), (fun h => absurd h (by decide)), (fun h => absurd h (by decide))⟩ (fun _ => WOK.c1 (IM.w hI67 R_r0_1) (f := x29) (by rw [e73]; omega) (by omega) (by omega) (fun k9 hk9 => FRM.e ff80_4 k9 hk9 (by omega) (by rw [e69]; omega))) uI89
            have S90 : CM A R r0 [] [1] I61 L62 I89 L62 := CM.a G_r0 R_r0_1 A_r0_1 uI89
            have e91 := u2_n uI89 (fun e => (mF.ne G_r0 R_r0_1) e.symm) e84
            have e92 := u2_j uI89 (by first | decide | exact ncne (by omega) (by omega) (by omega) | exact nckn (by omega) (by omega) | exact (nckn (by omega) (by omega)).symm) e69
            have e94 := u2_j uI89 (by first | decide | exact ncne (by omega) (by omega) (by omega) | exact nckn (by omega) (by omega) | exact (nckn (by omega) (by omega)).symm) e77
            have e95 := u2_j uI89 (by first | decide | exact ncne (by omega) (by omega) (by omega) | exact nckn (by omega) (by omega) | exact (nckn (by omega) (by omega)).symm) e81
            have e96 := u2_e uI89
            refine k_aload_n C rfl rfl rfl ?_
            refine g_R C rfl rfl rfl T_r0 rfl R_r0_1 ?_
            refine z_iconst C (z := 5) rfl rfl rfl (fun x97 ex97 => ?_)
            refine z_iconst C (z := 0) rfl rfl rfl (fun x98 ex98 => ?_)
            refine z_sI C rfl rfl T_r0_1 N_r0_1 (by omega) (by omega) (fun I99 uI99 => ?_)
            have uI99 : I99 = u2 I89 r0_1 5 (x98) := by rw [uI99, nck (n := 5) (by omega)]
            have hI99 : IM R r0 I99 := IM.arr hI89 G_r0 R_r0_1 ⟨(fun h => absurd h (by decide)), (fun h => absurd h (by decide)), (fun h => absurd h (by decide))⟩ (fun _ => WOK.c5 (IM.w hI89 R_r0_1) (by omega) (by omega)) uI99
            have S100 : CM A R r0 [] [1] I89 L62 I99 L62 := CM.a G_r0 R_r0_1 A_r0_1 uI99
            have e101 := u2_n uI99 (fun e => (mF.ne G_r0 R_r0_1) e.symm) e91
            have e102 := u2_j uI99 (by first | decide | exact ncne (by omega) (by omega) (by omega) | exact nckn (by omega) (by omega) | exact (nckn (by omega) (by omega)).symm) e92
            have e103 := u2_j uI99 (by first | decide | exact ncne (by omega) (by omega) (by omega) | exact nckn (by omega) (by omega) | exact (nckn (by omega) (by omega)).symm) e94
            have e105 := u2_j uI99 (by first | decide | exact ncne (by omega) (by omega) (by omega) | exact nckn (by omega) (by omega) | exact (nckn (by omega) (by omega)).symm) e96
            have e106 := u2_e uI99
            refine k_iload_n C rfl rfl rfl ?_
            exact k_iret C rfl (Or.inl rfl) (Nat.le_of_ble_eq_true rfl) (Nat.le_of_ble_eq_true rfl) ⟨_, _, _, rfl, rfl, by omega, by omega, fun a1 h1 => by cases (R_r0_1.symm.trans h1); first | omega | (simp only [e101, e102, e103, e105, e106, k0_r0_1_4, k0_r0_1_5, k0_r0_1_0] <;> omega), hI99, (CM.cons S4 (CM.cons S22 (CM.cons S39 (CM.cons S51 (CM.cons S66 (CM.cons S90 (CM.mono S100 (by decide) (by decide)) (by decide) (by decide)) (by decide) (by decide)) (by decide) (by decide)) (by decide) (by decide)) (by decide) (by decide)) (by decide) (by decide))⟩
          refine k_aload_n C rfl rfl rfl ?_
          refine g_R C rfl rfl rfl T_r0 rfl R_r0_1 ?_
          refine k_iload_n C rfl rfl rfl ?_
          refine c_SI C (a_X12_formAt (by omega) (by omega)) rfl rfl rfl rfl rfl rfl rfl (Nat.le_of_ble_eq_true rfl) (Nat.le_of_ble_eq_true rfl) (Nat.le_of_ble_eq_true rfl) ?_
          rintro x107 _ _ ⟨o0x107, o1x107, p0x107, rfl, rfl⟩
          have gx107 := rg x107
          try simp only [e84, e69, e73, e77, e81] at p0x107
          try have q0x107 := congrArg Int32.toInt p0x107
          refine z_iconst C (z := 1) rfl rfl rfl (fun x108 ex108 => ?_)
          refine z_iadd C rfl rfl ⟨by omega, by omega⟩ (fun x109 ex109 => ?_)
          refine k_iload_n C rfl rfl rfl ?_
          refine z_iadd C rfl rfl ⟨by omega, by omega⟩ (fun x110 ex110 => ?_)
          refine k_aload_n C rfl rfl rfl ?_
          refine k_aload_n C rfl rfl rfl ?_
          refine g_R C rfl rfl rfl T_r0 rfl R_r0_10 ?_
          refine k_iload_n C rfl rfl rfl ?_
          obtain ⟨T_r0_10, N_r0_10, A_r0_10⟩ := id H_r0_10
          refine z_aB C rfl rfl T_r0_10 N_r0_10 (by omega) (by omega) (fun x111 ex111 => ?_)
          have gx111 := rg x111
          refine z_sipush C (z := 255) rfl rfl rfl (fun x112 ex112 => ?_)
          refine zt_iand C rfl rfl (fun x113 => ?_)
          have gx113 := rg x113
          refine z_i2l C rfl rfl (fun lg114 elg114 => ?_)
          refine c_VI C (a_X12_mod hI67 H_r0) rfl rfl rfl rfl rfl ⟨_, rfl, rfl, T_r0, Nat.le_of_ble_eq_true rfl⟩ rfl rfl (Nat.le_of_ble_eq_true rfl) (Nat.le_of_ble_eq_true rfl) (Nat.le_of_ble_eq_true rfl) ?_
          rintro x115 _ _ ⟨o0x115, o1x115, p0x115, rfl, rfl⟩
          have p0x115 := p0x115 r0_1 R_r0_1
          have gx115 := rg x115
          try simp only [e84, e69, e73, e77, e81, ex111] at p0x115
          try have q0x115 := congrArg Int32.toInt p0x115
          refine z_sI C rfl rfl T_r0_1 N_r0_1 (by omega) (by omega) (fun I116 uI116 => ?_)
          have hI116 : IM R r0 I116 := IM.arr hI67 G_r0 R_r0_1 ⟨(fun h => absurd h (by decide)), (fun h => absurd h (by decide)), (fun h => absurd h (by decide))⟩ (fun _ => WOK.num (IM.w hI67 R_r0_1) (f := x29) (k := x63) ⟨by omega, by omega⟩ ⟨by omega, by omega⟩ (by omega) (by rw [e69]; omega) (by rw [e69]; omega)) uI116
          have S117 : CM A R r0 [] [1] I61 L62 I116 L62 := CM.a G_r0 R_r0_1 A_r0_1 uI116
          have e118 := u2_n uI116 (fun e => (mF.ne G_r0 R_r0_1) e.symm) e84
          have e119 := u2_j uI116 (by first | decide | exact ncne (by omega) (by omega) (by omega) | exact nckn (by omega) (by omega) | exact (nckn (by omega) (by omega)).symm) e69
          have e120 := u2_j uI116 (by first | decide | exact ncne (by omega) (by omega) (by omega) | exact nckn (by omega) (by omega) | exact (nckn (by omega) (by omega)).symm) e73
          have e121 := u2_j uI116 (by first | decide | exact ncne (by omega) (by omega) (by omega) | exact nckn (by omega) (by omega) | exact (nckn (by omega) (by omega)).symm) e77
          have e122 := u2_j uI116 (by first | decide | exact ncne (by omega) (by omega) (by omega) | exact nckn (by omega) (by omega) | exact (nckn (by omega) (by omega)).symm) e81
          have e123 := u2_n uI116 (mF.nq G_r0 R_r0_10 R_r0_1 (by decide)) ex111
          have e124 := u2_e uI116
          have hu115 := uI116
          refine z_iinc C (z := 1) (lw := fun x125 => [(2, .int x125), (0, .ref r0), (1, .int x29)]) rfl rfl rfl (Nat.le_of_ble_eq_true rfl) rfl ⟨by omega, by omega⟩ (fun _ => rfl) (fun x125 ex125 => ?_)
          show V 119 [(2, .int x125), (0, .ref r0), (1, .int x29)] _ _ _ _
          refine k_goto C (pc2 := 80) rfl rfl ?_
          refine k_sub S [(0, .ref r0), (1, .int x29), (2, .int x125)] (List.forall_mem_cons.mpr ⟨List.mem_of_getElem? (i := 1) rfl, List.forall_mem_cons.mpr ⟨List.mem_of_getElem? (i := 2) rfl, List.forall_mem_cons.mpr ⟨List.mem_of_getElem? (i := 0) rfl, fun _ h => nomatch h⟩⟩⟩) ?_
          exact ihJ59 _ (by omega) I116 L62 x125 x68 x72 x76 x80 rfl hI116 (CM.cons S66 (CM.mono S117 (by decide) (by decide)) (by decide) (by decide)) (by omega) (by omega) e119 (by omega) (by omega) e120 (by omega) (by omega) e121 (by omega) (by omega) e122 (by omega) (by omega) (by omega) (by omega) (by omega) (by omega) (by exact FRM.s ff80_4 hu115 (by omega) (by omega) (by omega) (by omega) (by omega) (by omega) (by omega))
      refine k_istore_n C (lw := [(2, .int x58), (1, .int x29), (0, .ref r0)]) rfl rfl (Nat.le_of_ble_eq_true rfl) rfl ?_
      refine k_sub S [(0, .ref r0), (1, .int x29), (2, .int x58)] (List.forall_mem_cons.mpr ⟨List.mem_of_getElem? (i := 2) rfl, List.forall_mem_cons.mpr ⟨List.mem_of_getElem? (i := 1) rfl, List.forall_mem_cons.mpr ⟨List.mem_of_getElem? (i := 0) rfl, fun _ h => nomatch h⟩⟩⟩) ?_
      exact J59 _ I50 L38 x58 w_r0_1_0 x29 w_r0_1_4 w_r0_1_5 rfl hI50 CM.rf (by omega) (by omega) e54 (by omega) (by omega) e56 (by omega) (by omega) e52 (by omega) (by omega) e53 (by omega) (by omega) (by omega) (by omega) (by omega) (by omega) (by exact FRM.z hu77 (by omega) (by omega) (by omega) (by omega))
    refine z_iconst C (z := 1) rfl rfl rfl (fun x126 ex126 => ?_)
    refine k_goto C (pc2 := 47) rfl rfl ?_
    refine z_iconst C (z := 2) rfl rfl rfl (fun x127 ex127 => ?_)
    have q128 : x126.toNatClampNeg = 1 := nck (by omega)
    have q129 : x127.toNatClampNeg = 2 := nck (by omega)
    refine c_VI C (a_X12_throwsIf hI20 H_r0 (by omega) (by omega)) rfl rfl rfl rfl rfl ⟨_, rfl, rfl, T_r0, Nat.le_of_ble_eq_true rfl⟩ rfl rfl (Nat.le_of_ble_eq_true rfl) (Nat.le_of_ble_eq_true rfl) (Nat.le_of_ble_eq_true rfl) ?_
    rintro x130 I131 L132 ⟨o0x130, o1x130, p0x130, hI131, S133⟩
    have e134 := CM.j S133 R_r0_1 (by decide) e23
    have e135 := CM.j S133 R_r0_1 (by decide) e24
    have e136 := CM.j S133 R_r0_1 (by decide) e25
    have e137 := CM.k S133 (by decide) e26
    have e138 := CM.j S133 R_r0_1 (by decide) nx29
    have gx130 := rg x130
    try simp only [q128, q129, e23, e24, e25, e26, nx29] at p0x130
    try have q0x130 := congrArg Int32.toInt p0x130
    refine b_if_eq C (t := 56) rfl rfl rfl (fun c139 => by exfalso; omega) (fun c139 => ?_)
    refine z_iconst C (z := 0) rfl rfl rfl (fun x140 ex140 => ?_)
    exact k_iret C rfl (Or.inl rfl) (Nat.le_of_ble_eq_true rfl) (Nat.le_of_ble_eq_true rfl) ⟨_, _, _, rfl, rfl, by omega, by omega, fun a1 h1 => by cases (R_r0_1.symm.trans h1); first | omega | (simp only [e134, e135, e136, e137, e138, k0_r0_1_4, k0_r0_1_5, k0_r0_1_0] <;> omega), hI131, (CM.cons S4 (CM.cons S22 (CM.mono S133 (by decide) (by decide)) (by decide) (by decide)) (by decide) (by decide))⟩
  refine z_iconst C (z := 1) rfl rfl rfl (fun x141 ex141 => ?_)
  refine k_goto C (pc2 := 23) rfl rfl ?_
  refine z_iconst C (z := 1) rfl rfl rfl (fun x142 ex142 => ?_)
  have q143 : x141.toNatClampNeg = 1 := nck (by omega)
  have q144 : x142.toNatClampNeg = 1 := nck (by omega)
  refine c_VI C (a_X12_throwsIf hI2 H_r0 (by omega) (by omega)) rfl rfl rfl rfl rfl ⟨_, rfl, rfl, T_r0, Nat.le_of_ble_eq_true rfl⟩ rfl rfl (Nat.le_of_ble_eq_true rfl) (Nat.le_of_ble_eq_true rfl) (Nat.le_of_ble_eq_true rfl) ?_
  rintro x145 I146 L147 ⟨o0x145, o1x145, p0x145, hI146, S148⟩
  have e149 := CM.j S148 R_r0_1 (by decide) e5
  have e150 := CM.j S148 R_r0_1 (by decide) e6
  have e151 := CM.j S148 R_r0_1 (by decide) e7
  have e152 := CM.k S148 (by decide) ex8
  have gx145 := rg x145
  try simp only [q143, q144, e5, e6, e7, ex8] at p0x145
  try have q0x145 := congrArg Int32.toInt p0x145
  refine b_if_ne C (t := 54) rfl rfl rfl (fun c153 => ?_) (fun c153 => by exfalso; omega)
  refine z_iconst C (z := 0) rfl rfl rfl (fun x154 ex154 => ?_)
  exact k_iret C rfl (Or.inl rfl) (Nat.le_of_ble_eq_true rfl) (Nat.le_of_ble_eq_true rfl) ⟨_, _, _, rfl, rfl, by omega, by omega, fun a1 h1 => by cases (R_r0_1.symm.trans h1); first | omega | (simp only [e149, e150, e151, e152, k0_r0_1_4, k0_r0_1_5, k0_r0_1_0] <;> omega), hI146, (CM.cons S4 (CM.mono S148 (by decide) (by decide)) (by decide) (by decide))⟩

theorem a_X12_mixesForm {d : Nat} {T N : Nat → Nat} {I : IT} {L : LT} {R : RT} {A : Nat → Prop} {r0 : Nat} {n1 : Int32} (hI : IM R r0 I) (H_r0 : (h_MD T N R A) r0) (b0_n1 : 0 ≤ n1.toInt) (b1_n1 : n1.toInt ≤ 15) : Ex (d + 5) 243 [.ref r0, .int n1] (T, N, I, L, R) 0 0 (pI T N R (fun x9 I9 L9 => (0 ≤ x9.toInt) ∧ (x9.toInt ≤ 1) ∧ (∀ a1, R r0 1 = some a1 → (I a1 4).toInt + (I a1 5).toInt ≤ 40 → (I9 a1 4).toInt + (I9 a1 5).toInt ≤ 40) ∧ (IM R r0 I9 ∧ CM A R r0 [] [1, 4, 5] I L I9 L9))) := by
  refine ⟨_, rfl, Nat.le_of_ble_eq_true rfl, fun V C S => ?_⟩
  show V 0 [(0, .ref r0), (1, .int n1)] [] (T, N, I, L, R) 0 0
  have gn1 := rg n1
  obtain ⟨T_r0, A_r0, ⟨r0_1, R_r0_1, H_r0_1⟩, ⟨r0_2, R_r0_2, H_r0_2⟩, ⟨r0_4, R_r0_4, H_r0_4⟩, ⟨r0_5, R_r0_5, H_r0_5⟩, ⟨r0_10, R_r0_10, H_r0_10⟩, ⟨r0_18, R_r0_18, H_r0_18⟩, ⟨r0_20, R_r0_20, H_r0_20⟩, ⟨r0_21, R_r0_21, H_r0_21⟩, ⟨r0_22, R_r0_22, H_r0_22⟩, ⟨r0_23, R_r0_23, H_r0_23⟩, ⟨r0_25, R_r0_25, H_r0_25⟩, ⟨r0_26, R_r0_26, H_r0_26⟩, ⟨r0_27, R_r0_27, H_r0_27⟩, ⟨r0_28, R_r0_28, H_r0_28⟩, ⟨r0_34, R_r0_34, H_r0_34⟩, J_r0, Y_r0⟩ := id H_r0
  have G_r0 : mF T R r0 := ⟨J_r0, Y_r0, T_r0⟩
  obtain ⟨w_r0_1_4, k0_r0_1_4⟩ : ∃ x, I r0_1 4 = x := ⟨_, rfl⟩
  have gw_r0_1_4 := rg w_r0_1_4
  have ow_r0_1_4 := IM.c4 hI R_r0_1 k0_r0_1_4
  obtain ⟨w_r0_1_5, k0_r0_1_5⟩ : ∃ x, I r0_1 5 = x := ⟨_, rfl⟩
  have gw_r0_1_5 := rg w_r0_1_5
  have ow_r0_1_5 := IM.c5 hI R_r0_1 k0_r0_1_5
  obtain ⟨w_r0_1_0, k0_r0_1_0⟩ : ∃ x, I r0_1 0 = x := ⟨_, rfl⟩
  have gw_r0_1_0 := rg w_r0_1_0
  have ow_r0_1_0 := IM.pi hI R_r0_1 k0_r0_1_0
  refine k_aload_n C rfl rfl rfl ?_
  refine z_bipush C (z := 40) rfl rfl rfl (fun x1 ex1 => ?_)
  refine k_iload_n C rfl rfl rfl ?_
  obtain ⟨x2, e3⟩ : ∃ x, I r0_1 (6 + 10 * n1.toNatClampNeg) = x := ⟨_, rfl⟩
  have gx2 := rg x2
  obtain ⟨x4, e5⟩ : ∃ x, I r0_1 1 = x := ⟨_, rfl⟩
  have gx4 := rg x4
  have ox4 := IM.c1 hI R_r0_1 e5
  have q6 : x1.toNatClampNeg = 40 := nck (by omega)
  refine c_VV C (a_X12_takes hI H_r0 (by omega) (by omega) (by omega) (by omega)) rfl rfl rfl rfl rfl ⟨_, rfl, rfl, T_r0, Nat.le_of_ble_eq_true rfl⟩ rfl rfl (Nat.le_of_ble_eq_true rfl) (Nat.le_of_ble_eq_true rfl) (Nat.le_of_ble_eq_true rfl) ?_
  rintro I8 L9 ⟨p0v7, p1v7, p2v7, p3v7, p4v7, hI8, S10⟩
  have p0v7 := p0v7 r0_4 R_r0_4
  have p1v7 := p1v7 r0_1 r0_4 R_r0_1 R_r0_4
  have p2v7 := p2v7 r0_1 r0_4 r0_5 R_r0_1 R_r0_4 R_r0_5
  have p3v7 := p3v7 r0_4 R_r0_4
  have p4v7 := p4v7 r0_5 R_r0_5
  try simp only [q6] at p3v7
  try simp only [q6] at p4v7
  have e11 := CM.j S10 R_r0_1 (by decide) k0_r0_1_4
  have e12 := CM.j S10 R_r0_1 (by decide) k0_r0_1_5
  have e13 := CM.j S10 R_r0_1 (by decide) k0_r0_1_0
  have e14 := CM.j S10 R_r0_1 (by decide) e3
  have e15 := CM.j S10 R_r0_1 (by decide) e5
  obtain ⟨x16, e17⟩ : ∃ x, I8 r0_4 40 = x := ⟨_, rfl⟩
  have gx16 := rg x16
  have ox16 := IM.dgR hI8 R_r0_4 e17
  try simp only [q6, k0_r0_1_4, k0_r0_1_5, k0_r0_1_0, e3, e5, e17] at p0v7
  try have q0v7 := congrArg Int32.toInt p0v7
  try simp only [q6, k0_r0_1_4, k0_r0_1_5, k0_r0_1_0, e3, e5, e17] at p1v7
  try have q1v7 := congrArg Int32.toInt p1v7
  try simp only [q6, k0_r0_1_4, k0_r0_1_5, k0_r0_1_0, e3, e5, e17] at p2v7
  try have q2v7 := congrArg Int32.toInt p2v7
  refine k_aload_n C rfl rfl rfl ?_
  refine z_bipush C (z := 40) rfl rfl rfl (fun x18 ex18 => ?_)
  refine z_bipush C (z := 41) rfl rfl rfl (fun x19 ex19 => ?_)
  have q20 : x18.toNatClampNeg = 40 := nck (by omega)
  have q21 : x19.toNatClampNeg = 41 := nck (by omega)
  refine c_VV C (a_X12_mixes hI8 H_r0 (by omega) (by omega) (by omega) (by omega)) rfl rfl rfl rfl rfl ⟨_, rfl, rfl, T_r0, Nat.le_of_ble_eq_true rfl⟩ rfl rfl (Nat.le_of_ble_eq_true rfl) (Nat.le_of_ble_eq_true rfl) (Nat.le_of_ble_eq_true rfl) ?_
  rintro I23 L24 ⟨p0v22, p1v22, p2v22, p3v22, hI23, S25⟩
  have p0v22 := p0v22 r0_4 R_r0_4
  have p1v22 := p1v22 r0_1 r0_4 r0_5 R_r0_1 R_r0_4 R_r0_5
  have p2v22 := p2v22 r0_4 R_r0_4
  have p3v22 := p3v22 r0_5 R_r0_5
  try simp only [q20, q21] at p2v22
  try simp only [q20, q21] at p3v22
  have e26 := CM.j S25 R_r0_1 (by decide) e11
  have e27 := CM.j S25 R_r0_1 (by decide) e12
  have e28 := CM.j S25 R_r0_1 (by decide) e13
  have e29 := CM.j S25 R_r0_1 (by decide) e14
  have e30 := CM.j S25 R_r0_1 (by decide) e15
  have e31 := (p2v22 40 (by first | decide | exact ncne (by omega) (by omega) (by omega) | exact nckn (by omega) (by omega) | exact (nckn (by omega) (by omega)).symm) (by first | decide | exact ncne (by omega) (by omega) (by omega) | exact nckn (by omega) (by omega) | exact (nckn (by omega) (by omega)).symm)).trans e17
  obtain ⟨x32, e33⟩ : ∃ x, I23 r0_4 41 = x := ⟨_, rfl⟩
  have gx32 := rg x32
  have ox32 := IM.dgR hI23 R_r0_4 e33
  try simp only [q20, q21, e11, e12, e13, e14, e15, e17, e33] at p0v22
  try have q0v22 := congrArg Int32.toInt p0v22
  try simp only [q20, q21, e11, e12, e13, e14, e15, e17, e33] at p1v22
  try have q1v22 := congrArg Int32.toInt p1v22
  have hQ := p1v22
  refine z_iconst C (z := 0) rfl rfl rfl (fun x34 ex34 => ?_)
  have J35 : ∀ (nn36 : Nat) (I37 : IT) (L38 : LT) (x39 : Int32) (x44 : Int32) (x48 : Int32) (x52 : Int32), ((41 - x39.toInt).toNat = nn36) → (IM R r0 I37) → (CM A R r0 [] [1] I23 L24 I37 L38) → (0 ≤ x39.toInt) → (x39.toInt ≤ 41) → (I37 r0_1 0 = x44) → (11 ≤ x44.toInt) → (x44.toInt ≤ 19) → (I37 r0_1 4 = x48) → (0 ≤ x48.toInt) → (x48.toInt ≤ 40) → (I37 r0_1 5 = x52) → (0 ≤ x52.toInt) → (x52.toInt ≤ 40) → (x44.toInt = w_r0_1_0.toInt) → (x48.toInt = w_r0_1_4.toInt) → (x52.toInt = w_r0_1_5.toInt) → (QN I37 r0_5 41 (x32.toInt + 1) w_r0_1_0.toInt) → V 17 [(0, .ref r0), (1, .int n1), (2, .int x39)] [] (T, N, I37, L38, R) 0 0 := by
    intro nn36
    induction nn36 using Nat.strongRecOn with
    | _ nn36 ihJ35 =>
      intro I37 L38 x39 x44 x48 x52 hmnn36 hI43 S42 b40 b41 e45 b46 b47 e49 b50 b51 e53 b54 b55 ff17_0 ff17_1 ff17_2 ff17_3
      have gx39 := rg x39
      have gx44 := rg x44
      have gx48 := rg x48
      have gx52 := rg x52
      have e56 := CM.j S42 R_r0_4 (by decide) e31
      have e57 := CM.j S42 R_r0_4 (by decide) e33
      refine k_iload_n C rfl rfl rfl ?_
      refine k_aload_n C rfl rfl rfl ?_
      refine g_R C rfl rfl rfl T_r0 rfl R_r0_4 ?_
      refine z_bipush C (z := 41) rfl rfl rfl (fun x58 ex58 => ?_)
      obtain ⟨T_r0_4, N_r0_4, A_r0_4⟩ := id H_r0_4
      refine a_I C rfl rfl T_r0_4 (by rw [N_r0_4]; exact vpi (by omega) (by omega)) ((congrArg (I37 r0_4) (nck (n := 41) (by omega))).trans e57) ?_
      refine b_icmp_gt C (t := 54) rfl rfl rfl (fun c59 => ?_) (fun c59 => ?_)
      · skip
        refine k_aload_n C rfl rfl rfl ?_
        refine z_bipush C (z := 40) rfl rfl rfl (fun x60 ex60 => ?_)
        refine z_bipush C (z := 41) rfl rfl rfl (fun x61 ex61 => ?_)
        refine c_VI C (a_X12_isLike hI43 H_r0 (by omega) (by omega) (by omega) (by omega)) rfl rfl rfl rfl rfl ⟨_, rfl, rfl, T_r0, Nat.le_of_ble_eq_true rfl⟩ rfl rfl (Nat.le_of_ble_eq_true rfl) (Nat.le_of_ble_eq_true rfl) (Nat.le_of_ble_eq_true rfl) ?_
        rintro x62 _ _ ⟨o0x62, o1x62, rfl, rfl⟩
        have gx62 := rg x62
        refine b_if_ne C (t := 69) rfl rfl rfl (fun c63 => ?_) (fun c63 => ?_)
        · skip
          refine z_iconst C (z := 0) rfl rfl rfl (fun x64 ex64 => ?_)
          exact k_iret C rfl (Or.inr ⟨rfl, z01 (by omega) (by omega)⟩) (Nat.le_of_ble_eq_true rfl) (Nat.le_of_ble_eq_true rfl) ⟨_, _, _, rfl, rfl, by omega, by omega, fun a1 h1 => by cases (R_r0_1.symm.trans h1); first | omega | (simp only [e56, e57, e45, e49, e53, k0_r0_1_4, k0_r0_1_5, k0_r0_1_0] <;> omega), hI43, (CM.cons S10 (CM.cons S25 (CM.mono S42 (by decide) (by decide)) (by decide) (by decide)) (by decide) (by decide))⟩
        refine z_iconst C (z := 1) rfl rfl rfl (fun x65 ex65 => ?_)
        refine k_goto C (pc2 := 70) rfl rfl ?_
        exact k_iret C rfl (Or.inr ⟨rfl, z01 (by omega) (by omega)⟩) (Nat.le_of_ble_eq_true rfl) (Nat.le_of_ble_eq_true rfl) ⟨_, _, _, rfl, rfl, by omega, by omega, fun a1 h1 => by cases (R_r0_1.symm.trans h1); first | omega | (simp only [e56, e57, e45, e49, e53, k0_r0_1_4, k0_r0_1_5, k0_r0_1_0] <;> omega), hI43, (CM.cons S10 (CM.cons S25 (CM.mono S42 (by decide) (by decide)) (by decide) (by decide)) (by decide) (by decide))⟩
      refine k_aload_n C rfl rfl rfl ?_
      refine g_R C rfl rfl rfl T_r0 rfl R_r0_1 ?_
      refine k_iload_n C rfl rfl rfl ?_
      refine c_SI C (a_X12_formAt (by omega) (by omega)) rfl rfl rfl rfl rfl rfl rfl (Nat.le_of_ble_eq_true rfl) (Nat.le_of_ble_eq_true rfl) (Nat.le_of_ble_eq_true rfl) ?_
      rintro x66 _ _ ⟨o0x66, o1x66, p0x66, rfl, rfl⟩
      have gx66 := rg x66
      try simp only [e56, e57, e45, e49, e53] at p0x66
      try have q0x66 := congrArg Int32.toInt p0x66
      refine z_iconst C (z := 1) rfl rfl rfl (fun x67 ex67 => ?_)
      refine z_iadd C rfl rfl ⟨by omega, by omega⟩ (fun x68 ex68 => ?_)
      refine k_iload_n C rfl rfl rfl ?_
      refine z_iadd C rfl rfl ⟨by omega, by omega⟩ (fun x69 ex69 => ?_)
      refine k_aload_n C rfl rfl rfl ?_
      refine z_bipush C (z := 41) rfl rfl rfl (fun x70 ex70 => ?_)
      refine k_iload_n C rfl rfl rfl ?_
      have q71 : x70.toNatClampNeg = 41 := nck (by omega)
      refine c_VI C (a_X12_of hI43 H_r0 (by omega) (by omega) (by omega) (by omega)) rfl rfl rfl rfl rfl ⟨_, rfl, rfl, T_r0, Nat.le_of_ble_eq_true rfl⟩ rfl rfl (Nat.le_of_ble_eq_true rfl) (Nat.le_of_ble_eq_true rfl) (Nat.le_of_ble_eq_true rfl) ?_
      rintro x72 _ _ ⟨o0x72, o1x72, p0x72, rfl, rfl⟩
      have p0x72 := p0x72 r0_5 R_r0_5
      have gx72 := rg x72
      try simp only [q71, e56, e57, e45, e49, e53] at p0x72
      try have q0x72 := congrArg Int32.toInt p0x72
      have hO := p0x72
      have hb := ff17_3 x39.toNatClampNeg (by have := ncz (x := x39) (by omega); omega)
      obtain ⟨T_r0_1, N_r0_1, A_r0_1⟩ := id H_r0_1
      refine z_sI C rfl rfl T_r0_1 N_r0_1 (by omega) (by omega) (fun I73 uI73 => ?_)
      have hI73 : IM R r0 I73 := IM.arr hI43 G_r0 R_r0_1 ⟨(fun h => absurd h (by decide)), (fun h => absurd h (by decide)), (fun h => absurd h (by decide))⟩ (fun _ => WOK.num (IM.w hI43 R_r0_1) (f := n1) (k := x39) ⟨by omega, by omega⟩ ⟨by omega, by omega⟩ (by omega) (by rw [e45]; omega) (by rw [e45]; omega)) uI73
      have S74 : CM A R r0 [] [1] I37 L38 I73 L38 := CM.a G_r0 R_r0_1 A_r0_1 uI73
      have e75 := u2_n uI73 (mF.nq G_r0 R_r0_4 R_r0_1 (by decide)) e56
      have e76 := u2_n uI73 (mF.nq G_r0 R_r0_4 R_r0_1 (by decide)) e57
      have e77 := u2_j uI73 (by first | decide | exact ncne (by omega) (by omega) (by omega) | exact nckn (by omega) (by omega) | exact (nckn (by omega) (by omega)).symm) e45
      have e78 := u2_j uI73 (by first | decide | exact ncne (by omega) (by omega) (by omega) | exact nckn (by omega) (by omega) | exact (nckn (by omega) (by omega)).symm) e49
      have e79 := u2_j uI73 (by first | decide | exact ncne (by omega) (by omega) (by omega) | exact nckn (by omega) (by omega) | exact (nckn (by omega) (by omega)).symm) e53
      have e80 := u2_e uI73
      refine z_iinc C (z := 1) (lw := fun x81 => [(2, .int x81), (0, .ref r0), (1, .int n1)]) rfl rfl rfl (Nat.le_of_ble_eq_true rfl) rfl ⟨by omega, by omega⟩ (fun _ => rfl) (fun x81 ex81 => ?_)
      show V 51 [(2, .int x81), (0, .ref r0), (1, .int n1)] _ _ _ _
      refine k_goto C (pc2 := 17) rfl rfl ?_
      refine k_sub S [(0, .ref r0), (1, .int n1), (2, .int x81)] (List.forall_mem_cons.mpr ⟨List.mem_of_getElem? (i := 1) rfl, List.forall_mem_cons.mpr ⟨List.mem_of_getElem? (i := 2) rfl, List.forall_mem_cons.mpr ⟨List.mem_of_getElem? (i := 0) rfl, fun _ h => nomatch h⟩⟩⟩) ?_
      exact ihJ35 _ (by omega) I73 L38 x81 x44 x48 x52 rfl hI73 (CM.cons S42 (CM.mono S74 (by decide) (by decide)) (by decide) (by decide)) (by omega) (by omega) e77 (by omega) (by omega) e78 (by omega) (by omega) e79 (by omega) (by omega) (by omega) (by omega) (by omega) (by exact QN.eq ff17_3 (CM.j0 S74 R_r0_5 (by decide)))
  refine k_istore_n C (lw := [(2, .int x34), (0, .ref r0), (1, .int n1)]) rfl rfl (Nat.le_of_ble_eq_true rfl) rfl ?_
  refine k_sub S [(0, .ref r0), (1, .int n1), (2, .int x34)] (List.forall_mem_cons.mpr ⟨List.mem_of_getElem? (i := 1) rfl, List.forall_mem_cons.mpr ⟨List.mem_of_getElem? (i := 2) rfl, List.forall_mem_cons.mpr ⟨List.mem_of_getElem? (i := 0) rfl, fun _ h => nomatch h⟩⟩⟩) ?_
  exact J35 _ I23 L24 x34 w_r0_1_0 w_r0_1_4 w_r0_1_5 rfl hI23 CM.rf (by omega) (by omega) e28 (by omega) (by omega) e26 (by omega) (by omega) e27 (by omega) (by omega) (by omega) (by omega) (by omega) (by exact hQ)

set_option maxHeartbeats 8000000 in
theorem a_X12_mix {d : Nat} {T N : Nat → Nat} {I : IT} {L : LT} {R : RT} {A : Nat → Prop} {r0 : Nat} {n1 n2 : Int32} (hI : IM R r0 I) (H_r0 : (h_MD T N R A) r0) : Ex (d + 6) 244 [.ref r0, .int n1, .int n2] (T, N, I, L, R) 0 0 (pI T N R (fun x9 I9 L9 => (0 ≤ x9.toInt) ∧ (x9.toInt ≤ 1) ∧ (∀ a1, R r0 1 = some a1 → (I a1 4).toInt + (I a1 5).toInt ≤ 40 → (I9 a1 4).toInt + (I9 a1 5).toInt ≤ 40) ∧ (IM R r0 I9 ∧ CM A R r0 [0, 6, 7, 8, 9] [1, 4, 5] I L I9 L9))) := by
  refine ⟨_, rfl, Nat.le_of_ble_eq_true rfl, fun V C S => ?_⟩
  show V 0 [(0, .ref r0), (1, .int n1), (2, .int n2)] [] (T, N, I, L, R) 0 0
  have gn1 := rg n1
  have gn2 := rg n2
  obtain ⟨T_r0, A_r0, ⟨r0_1, R_r0_1, H_r0_1⟩, ⟨r0_2, R_r0_2, H_r0_2⟩, ⟨r0_4, R_r0_4, H_r0_4⟩, ⟨r0_5, R_r0_5, H_r0_5⟩, ⟨r0_10, R_r0_10, H_r0_10⟩, ⟨r0_18, R_r0_18, H_r0_18⟩, ⟨r0_20, R_r0_20, H_r0_20⟩, ⟨r0_21, R_r0_21, H_r0_21⟩, ⟨r0_22, R_r0_22, H_r0_22⟩, ⟨r0_23, R_r0_23, H_r0_23⟩, ⟨r0_25, R_r0_25, H_r0_25⟩, ⟨r0_26, R_r0_26, H_r0_26⟩, ⟨r0_27, R_r0_27, H_r0_27⟩, ⟨r0_28, R_r0_28, H_r0_28⟩, ⟨r0_34, R_r0_34, H_r0_34⟩, J_r0, Y_r0⟩ := id H_r0
  have G_r0 : mF T R r0 := ⟨J_r0, Y_r0, T_r0⟩
  obtain ⟨w_r0_1_4, k0_r0_1_4⟩ : ∃ x, I r0_1 4 = x := ⟨_, rfl⟩
  have gw_r0_1_4 := rg w_r0_1_4
  have ow_r0_1_4 := IM.c4 hI R_r0_1 k0_r0_1_4
  obtain ⟨w_r0_1_5, k0_r0_1_5⟩ : ∃ x, I r0_1 5 = x := ⟨_, rfl⟩
  have gw_r0_1_5 := rg w_r0_1_5
  have ow_r0_1_5 := IM.c5 hI R_r0_1 k0_r0_1_5
  refine k_aload_n C rfl rfl rfl ?_
  refine z_iconst C (z := 0) rfl rfl rfl (fun x1 ex1 => ?_)
  refine z_pI C rfl rfl rfl T_r0 (Or.inr rfl) rfl (fun I2 uI2 => ?_)
  have hI2 : IM R r0 I2 := IM.fld hI G_r0 ⟨(fun h => absurd h (by decide)), (fun h => absurd h (by decide)), (fun h => absurd h (by decide)), (fun h => absurd h (by decide)), (fun h => absurd h (by decide))⟩ uI2
  have S3 : CM A R r0 [0] [] I L I2 L := CM.f G_r0 A_r0 uI2
  have e4 := u2_n uI2 (mF.ne G_r0 R_r0_1) k0_r0_1_4
  have e5 := u2_n uI2 (mF.ne G_r0 R_r0_1) k0_r0_1_5
  have e6 := u2_e uI2
  refine k_aload_n C rfl rfl rfl ?_
  refine k_aload_n C rfl rfl rfl ?_
  refine k_iload_n C rfl rfl rfl ?_
  refine c_VI C (a_X12_noForm hI2 H_r0) rfl rfl rfl rfl rfl ⟨_, rfl, rfl, T_r0, Nat.le_of_ble_eq_true rfl⟩ rfl rfl (Nat.le_of_ble_eq_true rfl) (Nat.le_of_ble_eq_true rfl) (Nat.le_of_ble_eq_true rfl) ?_
  rintro x7 _ _ ⟨o0x7, o1x7, p0x7, rfl, rfl⟩
  have p0x7 := p0x7 r0_1 R_r0_1
  have gx7 := rg x7
  obtain ⟨x8, e9⟩ : ∃ x, I2 r0_1 1 = x := ⟨_, rfl⟩
  have gx8 := rg x8
  have ox8 := IM.c1 hI2 R_r0_1 e9
  try simp only [e4, e5, e6, e9] at p0x7
  try have q0x7 := congrArg Int32.toInt p0x7
  refine b_if_ne C (t := 22) rfl rfl rfl (fun c10 => ?_) (fun c10 => ?_)
  · skip
    refine z_iconst C (z := 1) rfl rfl rfl (fun x11 ex11 => ?_)
    refine k_goto C (pc2 := 27) rfl rfl ?_
    refine z_iconst C (z := 1) rfl rfl rfl (fun x12 ex12 => ?_)
    have q13 : x11.toNatClampNeg = 1 := nck (by omega)
    have q14 : x12.toNatClampNeg = 1 := nck (by omega)
    refine c_VI C (a_X12_throwsIf hI2 H_r0 (by omega) (by omega)) rfl rfl rfl rfl rfl ⟨_, rfl, rfl, T_r0, Nat.le_of_ble_eq_true rfl⟩ rfl rfl (Nat.le_of_ble_eq_true rfl) (Nat.le_of_ble_eq_true rfl) (Nat.le_of_ble_eq_true rfl) ?_
    rintro x15 I16 L17 ⟨o0x15, o1x15, p0x15, hI16, S18⟩
    have e19 := CM.j S18 R_r0_1 (by decide) e4
    have e20 := CM.j S18 R_r0_1 (by decide) e5
    have e22 := CM.j S18 R_r0_1 (by decide) e9
    have gx15 := rg x15
    try simp only [q13, q14, e4, e5, e6, e9] at p0x15
    try have q0x15 := congrArg Int32.toInt p0x15
    refine b_if_eq C (t := 36) rfl rfl rfl (fun c23 => by exfalso; omega) (fun c23 => ?_)
    refine z_iconst C (z := 0) rfl rfl rfl (fun x24 ex24 => ?_)
    exact k_iret C rfl (Or.inr ⟨rfl, z01 (by omega) (by omega)⟩) (Nat.le_of_ble_eq_true rfl) (Nat.le_of_ble_eq_true rfl) ⟨_, _, _, rfl, rfl, by omega, by omega, fun a1 h1 => by cases (R_r0_1.symm.trans h1); first | omega | (simp only [e19, e20, e22, k0_r0_1_4, k0_r0_1_5] <;> omega), hI16, (CM.cons S3 (CM.mono S18 (by decide) (by decide)) (by decide) (by decide))⟩
  refine k_aload_n C rfl rfl rfl ?_
  refine k_iload_n C rfl rfl rfl ?_
  refine c_VI C (a_X12_noTable hI2 H_r0) rfl rfl rfl rfl rfl ⟨_, rfl, rfl, T_r0, Nat.le_of_ble_eq_true rfl⟩ rfl rfl (Nat.le_of_ble_eq_true rfl) (Nat.le_of_ble_eq_true rfl) (Nat.le_of_ble_eq_true rfl) ?_
  rintro x25 _ _ ⟨o0x25, o1x25, p0x25, rfl, rfl⟩
  have p0x25 := p0x25 r0_1 R_r0_1
  have gx25 := rg x25
  obtain ⟨x26, e27⟩ : ∃ x, I2 r0_1 2 = x := ⟨_, rfl⟩
  have gx26 := rg x26
  have ox26 := IM.c2 hI2 R_r0_1 e27
  try simp only [e4, e5, e6, e9, e27] at p0x25
  try have q0x25 := congrArg Int32.toInt p0x25
  refine b_if_eq C (t := 26) rfl rfl rfl (fun c28 => ?_) (fun c28 => ?_)
  · skip
    refine z_iconst C (z := 0) rfl rfl rfl (fun x29 ex29 => ?_)
    refine z_iconst C (z := 1) rfl rfl rfl (fun x30 ex30 => ?_)
    have q31 : x29.toNatClampNeg = 0 := nck (by omega)
    have q32 : x30.toNatClampNeg = 1 := nck (by omega)
    refine c_VI C (a_X12_throwsIf hI2 H_r0 (by omega) (by omega)) rfl rfl rfl rfl rfl ⟨_, rfl, rfl, T_r0, Nat.le_of_ble_eq_true rfl⟩ rfl rfl (Nat.le_of_ble_eq_true rfl) (Nat.le_of_ble_eq_true rfl) (Nat.le_of_ble_eq_true rfl) ?_
    rintro x33 I34 L35 ⟨o0x33, o1x33, p0x33, hI34, S36⟩
    have e37 := CM.j S36 R_r0_1 (by decide) e4
    have e38 := CM.j S36 R_r0_1 (by decide) e5
    have e40 := CM.j S36 R_r0_1 (by decide) e9
    have e41 := CM.j S36 R_r0_1 (by decide) e27
    have gx33 := rg x33
    try simp only [q31, q32, e4, e5, e6, e9, e27] at p0x33
    try have q0x33 := congrArg Int32.toInt p0x33
    refine b_if_eq C (t := 36) rfl rfl rfl (fun c42 => ?_) (fun c42 => by exfalso; omega)
    refine k_aload_n C rfl rfl rfl ?_
    refine g_R C rfl rfl rfl T_r0 rfl R_r0_1 ?_
    refine z_iconst C (z := 4) rfl rfl rfl (fun x43 ex43 => ?_)
    obtain ⟨T_r0_1, N_r0_1, A_r0_1⟩ := id H_r0_1
    refine a_I C rfl rfl T_r0_1 (by rw [N_r0_1]; exact vpi (by omega) (by omega)) ((congrArg (I34 r0_1) (nck (n := 4) (by omega))).trans e37) ?_
    refine z_bipush C (z := 40) rfl rfl rfl (fun x44 ex44 => ?_)
    refine b_icmp_ne C (t := 83) rfl rfl rfl (fun c45 => ?_) (fun c45 => ?_)
    · skip
      refine k_aload_n C rfl rfl rfl ?_
      refine g_R C rfl rfl rfl T_r0 rfl R_r0_1 ?_
      refine z_iconst C (z := 4) rfl rfl rfl (fun x46 ex46 => ?_)
      refine k_dup2 C rfl rfl rfl rfl ?_
      refine a_I C rfl rfl T_r0_1 (by rw [N_r0_1]; exact vpi (by omega) (by omega)) ((congrArg (I34 r0_1) (nck (n := 4) (by omega))).trans e37) ?_
      refine z_iconst C (z := 1) rfl rfl rfl (fun x47 ex47 => ?_)
      refine z_iadd C rfl rfl ⟨by omega, by omega⟩ (fun x48 ex48 => ?_)
      refine z_sI C rfl rfl T_r0_1 N_r0_1 (by omega) (by omega) (fun I49 uI49 => ?_)
      have uI49 : I49 = u2 I34 r0_1 4 (x48) := by rw [uI49, nck (n := 4) (by omega)]
      have hI49 : IM R r0 I49 := IM.arr hI34 G_r0 R_r0_1 ⟨(fun h => absurd h (by decide)), (fun h => absurd h (by decide)), (fun h => absurd h (by decide))⟩ (fun _ => WOK.c4 (IM.w hI34 R_r0_1) (by omega) (by omega)) uI49
      have S50 : CM A R r0 [] [1] I34 L35 I49 L35 := CM.a G_r0 R_r0_1 A_r0_1 uI49
      have e52 := u2_j uI49 (by first | decide | exact ncne (by omega) (by omega) (by omega) | exact nckn (by omega) (by omega) | exact (nckn (by omega) (by omega)).symm) e38
      have e53 := u2_j uI49 (by first | decide | exact ncne (by omega) (by omega) (by omega) | exact nckn (by omega) (by omega) | exact (nckn (by omega) (by omega)).symm) e40
      have e54 := u2_j uI49 (by first | decide | exact ncne (by omega) (by omega) (by omega) | exact nckn (by omega) (by omega) | exact (nckn (by omega) (by omega)).symm) e41
      have e55 := u2_e uI49
      refine z_sipush C (z := 3406) rfl rfl rfl (fun x56 ex56 => ?_)
      refine z_iconst C (z := 5) rfl rfl rfl (fun x57 ex57 => ?_)
      refine k_aload_n C rfl rfl rfl ?_
      refine g_R C rfl rfl rfl T_r0 rfl R_r0_1 ?_
      refine z_iconst C (z := 4) rfl rfl rfl (fun x58 ex58 => ?_)
      refine a_I C rfl rfl T_r0_1 (by rw [N_r0_1]; exact vpi (by omega) (by omega)) ((congrArg (I49 r0_1) (nck (n := 4) (by omega))).trans e55) ?_
      refine z_iconst C (z := 1) rfl rfl rfl (fun x59 ex59 => ?_)
      refine z_isub C rfl rfl ⟨by omega, by omega⟩ (fun x60 ex60 => ?_)
      refine z_imulL C (c := 5) rfl rfl (by omega) ⟨by omega, by omega⟩ (fun x61 ex61 => ?_)
      refine z_iadd C rfl rfl ⟨by omega, by omega⟩ (fun x62 ex62 => ?_)
      refine k_istore_n C (lw := [(3, .int x62), (0, .ref r0), (1, .int n1), (2, .int n2)]) rfl rfl (Nat.le_of_ble_eq_true rfl) rfl ?_
      refine k_aload_n C rfl rfl rfl ?_
      refine g_R C rfl rfl rfl T_r0 rfl R_r0_1 ?_
      refine k_iload_n C rfl rfl rfl ?_
      refine k_iload_n C rfl rfl rfl ?_
      refine z_sI C rfl rfl T_r0_1 N_r0_1 (by omega) (by omega) (fun I63 uI63 => ?_)
      have hI63 : IM R r0 I63 := IM.arr hI49 G_r0 R_r0_1 ⟨(fun h => absurd h (by decide)), (fun h => absurd h (by decide)), (fun h => absurd h (by decide))⟩ (fun _ => WOK.act (IM.w hI49 R_r0_1) (b := x48.toInt - 1) (c := 0) ⟨by omega, by omega⟩ ⟨by decide, by decide⟩ (by omega) (by omega) (by omega) (fun _ => ⟨by omega, by omega⟩)) uI63
      have S64 : CM A R r0 [] [1] I49 L35 I63 L35 := CM.a G_r0 R_r0_1 A_r0_1 uI63
      have e65 := u2_j uI63 (by first | decide | exact ncne (by omega) (by omega) (by omega) | exact nckn (by omega) (by omega) | exact (nckn (by omega) (by omega)).symm) e52
      have e66 := u2_j uI63 (by first | decide | exact ncne (by omega) (by omega) (by omega) | exact nckn (by omega) (by omega) | exact (nckn (by omega) (by omega)).symm) e53
      have e67 := u2_j uI63 (by first | decide | exact ncne (by omega) (by omega) (by omega) | exact nckn (by omega) (by omega) | exact (nckn (by omega) (by omega)).symm) e54
      have e68 := u2_j uI63 (by first | decide | exact ncne (by omega) (by omega) (by omega) | exact nckn (by omega) (by omega) | exact (nckn (by omega) (by omega)).symm) e55
      have e69 := u2_e uI63
      refine z_iconst C (z := 0) rfl rfl rfl (fun x70 ex70 => ?_)
      have J71 : ∀ (nn72 : Nat) (I73 : IT) (L74 : LT) (x75 : Int32) (x80 : Int32) (x84 : Int32), ((4 - x75.toInt).toNat = nn72) → (IM R r0 I73) → (CM A R r0 [] [1] I63 L35 I73 L74) → (0 ≤ x75.toInt) → (x75.toInt ≤ 4) → (I73 r0_1 4 = x80) → (0 ≤ x80.toInt) → (x80.toInt ≤ 40) → (I73 r0_1 5 = x84) → (0 ≤ x84.toInt) → (x84.toInt ≤ 40) → (x80.toInt = x48.toInt) → (x84.toInt = w_r0_1_5.toInt) → V 118 [(0, .ref r0), (1, .int n1), (2, .int n2), (3, .int x62), (4, .int x75)] [] (T, N, I73, L74, R) 0 0 := by
        intro nn72
        induction nn72 using Nat.strongRecOn with
        | _ nn72 ihJ71 =>
          intro I73 L74 x75 x80 x84 hmnn72 hI79 S78 b76 b77 e81 b82 b83 e85 b86 b87 ff118_0 ff118_1
          have gx75 := rg x75
          have gx80 := rg x80
          have gx84 := rg x84
          refine k_iload C rfl rfl rfl ?_
          refine z_iconst C (z := 4) rfl rfl rfl (fun x88 ex88 => ?_)
          refine b_icmp_ge C (t := 148) rfl rfl rfl (fun c89 => ?_) (fun c89 => ?_)
          · skip
            refine k_aload_n C rfl rfl rfl ?_
            refine g_R C rfl rfl rfl T_r0 rfl R_r0_1 ?_
            refine z_iconst C (z := 5) rfl rfl rfl (fun x90 ex90 => ?_)
            refine z_iconst C (z := 0) rfl rfl rfl (fun x91 ex91 => ?_)
            refine z_sI C rfl rfl T_r0_1 N_r0_1 (by omega) (by omega) (fun I92 uI92 => ?_)
            have uI92 : I92 = u2 I73 r0_1 5 (x91) := by rw [uI92, nck (n := 5) (by omega)]
            have hI92 : IM R r0 I92 := IM.arr hI79 G_r0 R_r0_1 ⟨(fun h => absurd h (by decide)), (fun h => absurd h (by decide)), (fun h => absurd h (by decide))⟩ (fun _ => WOK.c5 (IM.w hI79 R_r0_1) (by omega) (by omega)) uI92
            have S93 : CM A R r0 [] [1] I73 L74 I92 L74 := CM.a G_r0 R_r0_1 A_r0_1 uI92
            have e94 := u2_j uI92 (by first | decide | exact ncne (by omega) (by omega) (by omega) | exact nckn (by omega) (by omega) | exact (nckn (by omega) (by omega)).symm) e81
            have e96 := u2_e uI92
            refine k_aload_n C rfl rfl rfl ?_
            refine k_iload_n C rfl rfl rfl ?_
            refine c_VV C (a_X12_tables hI92 H_r0 (by omega) (by omega)) rfl rfl rfl rfl rfl ⟨_, rfl, rfl, T_r0, Nat.le_of_ble_eq_true rfl⟩ rfl rfl (Nat.le_of_ble_eq_true rfl) (Nat.le_of_ble_eq_true rfl) (Nat.le_of_ble_eq_true rfl) ?_
            rintro I98 L99 ⟨hI98, S100⟩
            have e101 := CM.j S100 R_r0_1 (by decide) e94
            have e102 := CM.j S100 R_r0_1 (by decide) e96
            refine k_aload_n C rfl rfl rfl ?_
            refine k_iload_n C rfl rfl rfl ?_
            refine c_VI C (a_X12_mixesForm hI98 H_r0 (by omega) (by omega)) rfl rfl rfl rfl rfl ⟨_, rfl, rfl, T_r0, Nat.le_of_ble_eq_true rfl⟩ rfl rfl (Nat.le_of_ble_eq_true rfl) (Nat.le_of_ble_eq_true rfl) (Nat.le_of_ble_eq_true rfl) ?_
            rintro x103 I104 L105 ⟨o0x103, o1x103, p0x103, hI104, S106⟩
            have p0x103 := p0x103 r0_1 R_r0_1
            have gx103 := rg x103
            obtain ⟨x109, e110⟩ : ∃ x, I104 r0_1 4 = x := ⟨_, rfl⟩
            have gx109 := rg x109
            have ox109 := IM.c4 hI104 R_r0_1 e110
            obtain ⟨x111, e112⟩ : ∃ x, I104 r0_1 5 = x := ⟨_, rfl⟩
            have gx111 := rg x111
            have ox111 := IM.c5 hI104 R_r0_1 e112
            try simp only [e101, e102, e110, e112] at p0x103
            try have q0x103 := congrArg Int32.toInt p0x103
            exact k_iret C rfl (Or.inr ⟨rfl, z01 (by omega) (by omega)⟩) (Nat.le_of_ble_eq_true rfl) (Nat.le_of_ble_eq_true rfl) ⟨_, _, _, rfl, rfl, by omega, by omega, fun a1 h1 => by cases (R_r0_1.symm.trans h1); first | omega | (simp only [e110, e112, k0_r0_1_4, k0_r0_1_5] <;> omega), hI104, (CM.cons S3 (CM.cons S36 (CM.cons S50 (CM.cons S64 (CM.cons S78 (CM.cons S93 (CM.cons S100 (CM.mono S106 (by decide) (by decide)) (by decide) (by decide)) (by decide) (by decide)) (by decide) (by decide)) (by decide) (by decide)) (by decide) (by decide)) (by decide) (by decide)) (by decide) (by decide))⟩
          refine k_aload_n C rfl rfl rfl ?_
          refine g_R C rfl rfl rfl T_r0 rfl R_r0_1 ?_
          refine k_iload_n C rfl rfl rfl ?_
          refine z_iconst C (z := 1) rfl rfl rfl (fun x113 ex113 => ?_)
          refine z_iadd C rfl rfl ⟨by omega, by omega⟩ (fun x114 ex114 => ?_)
          refine k_iload C rfl rfl rfl ?_
          refine z_iadd C rfl rfl ⟨by omega, by omega⟩ (fun x115 ex115 => ?_)
          refine k_aload_n C rfl rfl rfl ?_
          refine k_iload_n C rfl rfl rfl ?_
          refine k_iload C rfl rfl rfl ?_
          refine c_VI C (a_X12_ofTable hI79 H_r0 (by omega) (by omega) (by omega) (by omega)) rfl rfl rfl rfl rfl ⟨_, rfl, rfl, T_r0, Nat.le_of_ble_eq_true rfl⟩ rfl rfl (Nat.le_of_ble_eq_true rfl) (Nat.le_of_ble_eq_true rfl) (Nat.le_of_ble_eq_true rfl) ?_
          rintro x116 _ _ ⟨o0x116, o1x116, p0x116, rfl, rfl⟩
          have p0x116 := p0x116 r0_1 R_r0_1
          have gx116 := rg x116
          try simp only [e81, e85] at p0x116
          try have q0x116 := congrArg Int32.toInt p0x116
          refine z_sI C rfl rfl T_r0_1 N_r0_1 (by omega) (by omega) (fun I117 uI117 => ?_)
          have hI117 : IM R r0 I117 := IM.arr hI79 G_r0 R_r0_1 ⟨(fun h => absurd h (by decide)), (fun h => absurd h (by decide)), (fun h => absurd h (by decide))⟩ (fun _ => WOK.act (IM.w hI79 R_r0_1) (b := x80.toInt - 1) (c := x75.toInt + 1) ⟨by omega, by omega⟩ ⟨by omega, by omega⟩ (by omega) (by omega) (by omega) (fun h => absurd h (by omega))) uI117
          have S118 : CM A R r0 [] [1] I73 L74 I117 L74 := CM.a G_r0 R_r0_1 A_r0_1 uI117
          have e119 := u2_j uI117 (by first | decide | exact ncne (by omega) (by omega) (by omega) | exact nckn (by omega) (by omega) | exact (nckn (by omega) (by omega)).symm) e81
          have e120 := u2_j uI117 (by first | decide | exact ncne (by omega) (by omega) (by omega) | exact nckn (by omega) (by omega) | exact (nckn (by omega) (by omega)).symm) e85
          have e121 := u2_e uI117
          refine z_iinc C (z := 1) (lw := fun x122 => [(4, .int x122), (0, .ref r0), (1, .int n1), (2, .int n2), (3, .int x62)]) rfl rfl rfl (Nat.le_of_ble_eq_true rfl) rfl ⟨by omega, by omega⟩ (fun _ => rfl) (fun x122 ex122 => ?_)
          show V 145 [(4, .int x122), (0, .ref r0), (1, .int n1), (2, .int n2), (3, .int x62)] _ _ _ _
          refine k_goto C (pc2 := 118) rfl rfl ?_
          refine k_sub S [(0, .ref r0), (1, .int n1), (2, .int n2), (3, .int x62), (4, .int x122)] (List.forall_mem_cons.mpr ⟨List.mem_of_getElem? (i := 1) rfl, List.forall_mem_cons.mpr ⟨List.mem_of_getElem? (i := 2) rfl, List.forall_mem_cons.mpr ⟨List.mem_of_getElem? (i := 3) rfl, List.forall_mem_cons.mpr ⟨List.mem_of_getElem? (i := 4) rfl, List.forall_mem_cons.mpr ⟨List.mem_of_getElem? (i := 0) rfl, fun _ h => nomatch h⟩⟩⟩⟩⟩) ?_
          exact ihJ71 _ (by omega) I117 L74 x122 x80 x84 rfl hI117 (CM.cons S78 (CM.mono S118 (by decide) (by decide)) (by decide) (by decide)) (by omega) (by omega) e119 (by omega) (by omega) e120 (by omega) (by omega) (by omega) (by omega)
      refine k_istore C (lw := [(4, .int x70), (3, .int x62), (0, .ref r0), (1, .int n1), (2, .int n2)]) rfl rfl (Nat.le_of_ble_eq_true rfl) rfl ?_
      refine k_sub S [(0, .ref r0), (1, .int n1), (2, .int n2), (3, .int x62), (4, .int x70)] (List.forall_mem_cons.mpr ⟨List.mem_of_getElem? (i := 2) rfl, List.forall_mem_cons.mpr ⟨List.mem_of_getElem? (i := 3) rfl, List.forall_mem_cons.mpr ⟨List.mem_of_getElem? (i := 4) rfl, List.forall_mem_cons.mpr ⟨List.mem_of_getElem? (i := 1) rfl, List.forall_mem_cons.mpr ⟨List.mem_of_getElem? (i := 0) rfl, fun _ h => nomatch h⟩⟩⟩⟩⟩) ?_
      exact J71 _ I63 L35 x70 x48 w_r0_1_5 rfl hI63 CM.rf (by omega) (by omega) e68 (by omega) (by omega) e65 (by omega) (by omega) (by omega) (by omega)
    refine z_sipush C (z := 3406) rfl rfl rfl (fun x123 ex123 => ?_)
    have J124 : ∀ (nn125 : Nat) (I126 : IT) (L127 : LT) (x128 : Int32) (x133 : Int32) (x137 : Int32), ((3606 - x128.toInt).toNat = nn125) → (IM R r0 I126) → (CM A R r0 [] [1] I34 L35 I126 L127) → (3406 ≤ x128.toInt) → (x128.toInt ≤ 3606) → (I126 r0_1 4 = x133) → (0 ≤ x133.toInt) → (x133.toInt ≤ 40) → (I126 r0_1 5 = x137) → (0 ≤ x137.toInt) → (x137.toInt ≤ 40) → (x133.toInt = w_r0_1_4.toInt) → (x137.toInt = w_r0_1_5.toInt) → V 51 [(0, .ref r0), (1, .int n1), (2, .int n2), (3, .int x128)] [] (T, N, I126, L127, R) 0 0 := by
      intro nn125
      induction nn125 using Nat.strongRecOn with
      | _ nn125 ihJ124 =>
        intro I126 L127 x128 x133 x137 hmnn125 hI132 S131 b129 b130 e134 b135 b136 e138 b139 b140 ff51_0 ff51_1
        have gx128 := rg x128
        have gx133 := rg x133
        have gx137 := rg x137
        refine k_iload_n C rfl rfl rfl ?_
        refine z_iconst C (z := 5) rfl rfl rfl (fun x141 ex141 => ?_)
        refine z_iadd C rfl rfl ⟨by omega, by omega⟩ (fun x142 ex142 => ?_)
        refine z_sipush C (z := 3606) rfl rfl rfl (fun x143 ex143 => ?_)
        refine b_icmp_ge C (t := 80) rfl rfl rfl (fun c144 => ?_) (fun c144 => ?_)
        · skip
          refine k_goto C (pc2 := 93) rfl rfl ?_
          refine z_sipush C (z := 3406) rfl rfl rfl (fun x145 ex145 => ?_)
          refine z_iconst C (z := 5) rfl rfl rfl (fun x146 ex146 => ?_)
          refine k_aload_n C rfl rfl rfl ?_
          refine g_R C rfl rfl rfl T_r0 rfl R_r0_1 ?_
          refine z_iconst C (z := 4) rfl rfl rfl (fun x147 ex147 => ?_)
          refine a_I C rfl rfl T_r0_1 (by rw [N_r0_1]; exact vpi (by omega) (by omega)) ((congrArg (I126 r0_1) (nck (n := 4) (by omega))).trans e134) ?_
          refine z_iconst C (z := 1) rfl rfl rfl (fun x148 ex148 => ?_)
          refine z_isub C rfl rfl ⟨by omega, by omega⟩ (fun x149 ex149 => ?_)
          refine z_imulL C (c := 5) rfl rfl (by omega) ⟨by omega, by omega⟩ (fun x150 ex150 => ?_)
          refine z_iadd C rfl rfl ⟨by omega, by omega⟩ (fun x151 ex151 => ?_)
          refine k_istore_n C (lw := [(3, .int x151), (0, .ref r0), (1, .int n1), (2, .int n2)]) rfl rfl (Nat.le_of_ble_eq_true rfl) rfl ?_
          refine k_aload_n C rfl rfl rfl ?_
          refine g_R C rfl rfl rfl T_r0 rfl R_r0_1 ?_
          refine k_iload_n C rfl rfl rfl ?_
          refine k_iload_n C rfl rfl rfl ?_
          refine z_sI C rfl rfl T_r0_1 N_r0_1 (by omega) (by omega) (fun I152 uI152 => ?_)
          have hI152 : IM R r0 I152 := IM.arr hI132 G_r0 R_r0_1 ⟨(fun h => absurd h (by decide)), (fun h => absurd h (by decide)), (fun h => absurd h (by decide))⟩ (fun _ => WOK.act (IM.w hI132 R_r0_1) (b := x133.toInt - 1) (c := 0) ⟨by omega, by omega⟩ ⟨by decide, by decide⟩ (by omega) (by omega) (by omega) (fun _ => ⟨by omega, by omega⟩)) uI152
          have S153 : CM A R r0 [] [1] I126 L127 I152 L127 := CM.a G_r0 R_r0_1 A_r0_1 uI152
          have e154 := u2_j uI152 (by first | decide | exact ncne (by omega) (by omega) (by omega) | exact nckn (by omega) (by omega) | exact (nckn (by omega) (by omega)).symm) e134
          have e155 := u2_j uI152 (by first | decide | exact ncne (by omega) (by omega) (by omega) | exact nckn (by omega) (by omega) | exact (nckn (by omega) (by omega)).symm) e138
          have e156 := u2_e uI152
          refine z_iconst C (z := 0) rfl rfl rfl (fun x157 ex157 => ?_)
          have J158 : ∀ (nn159 : Nat) (I160 : IT) (L161 : LT) (x162 : Int32) (x167 : Int32) (x171 : Int32), ((4 - x162.toInt).toNat = nn159) → (IM R r0 I160) → (CM A R r0 [] [1] I152 L127 I160 L161) → (0 ≤ x162.toInt) → (x162.toInt ≤ 4) → (I160 r0_1 4 = x167) → (0 ≤ x167.toInt) → (x167.toInt ≤ 40) → (I160 r0_1 5 = x171) → (0 ≤ x171.toInt) → (x171.toInt ≤ 40) → (x167.toInt = x133.toInt) → (x171.toInt = x137.toInt) → V 118 [(0, .ref r0), (1, .int n1), (2, .int n2), (3, .int x151), (4, .int x162)] [] (T, N, I160, L161, R) 0 0 := by
            intro nn159
            induction nn159 using Nat.strongRecOn with
            | _ nn159 ihJ158 =>
              intro I160 L161 x162 x167 x171 hmnn159 hI166 S165 b163 b164 e168 b169 b170 e172 b173 b174 ff118_0 ff118_1
              have gx162 := rg x162
              have gx167 := rg x167
              have gx171 := rg x171
              refine k_iload C rfl rfl rfl ?_
              refine z_iconst C (z := 4) rfl rfl rfl (fun x175 ex175 => ?_)
              refine b_icmp_ge C (t := 148) rfl rfl rfl (fun c176 => ?_) (fun c176 => ?_)
              · skip
                refine k_aload_n C rfl rfl rfl ?_
                refine g_R C rfl rfl rfl T_r0 rfl R_r0_1 ?_
                refine z_iconst C (z := 5) rfl rfl rfl (fun x177 ex177 => ?_)
                refine z_iconst C (z := 0) rfl rfl rfl (fun x178 ex178 => ?_)
                refine z_sI C rfl rfl T_r0_1 N_r0_1 (by omega) (by omega) (fun I179 uI179 => ?_)
                have uI179 : I179 = u2 I160 r0_1 5 (x178) := by rw [uI179, nck (n := 5) (by omega)]
                have hI179 : IM R r0 I179 := IM.arr hI166 G_r0 R_r0_1 ⟨(fun h => absurd h (by decide)), (fun h => absurd h (by decide)), (fun h => absurd h (by decide))⟩ (fun _ => WOK.c5 (IM.w hI166 R_r0_1) (by omega) (by omega)) uI179
                have S180 : CM A R r0 [] [1] I160 L161 I179 L161 := CM.a G_r0 R_r0_1 A_r0_1 uI179
                have e181 := u2_j uI179 (by first | decide | exact ncne (by omega) (by omega) (by omega) | exact nckn (by omega) (by omega) | exact (nckn (by omega) (by omega)).symm) e168
                have e183 := u2_e uI179
                refine k_aload_n C rfl rfl rfl ?_
                refine k_iload_n C rfl rfl rfl ?_
                refine c_VV C (a_X12_tables hI179 H_r0 (by omega) (by omega)) rfl rfl rfl rfl rfl ⟨_, rfl, rfl, T_r0, Nat.le_of_ble_eq_true rfl⟩ rfl rfl (Nat.le_of_ble_eq_true rfl) (Nat.le_of_ble_eq_true rfl) (Nat.le_of_ble_eq_true rfl) ?_
                rintro I185 L186 ⟨hI185, S187⟩
                have e188 := CM.j S187 R_r0_1 (by decide) e181
                have e189 := CM.j S187 R_r0_1 (by decide) e183
                refine k_aload_n C rfl rfl rfl ?_
                refine k_iload_n C rfl rfl rfl ?_
                refine c_VI C (a_X12_mixesForm hI185 H_r0 (by omega) (by omega)) rfl rfl rfl rfl rfl ⟨_, rfl, rfl, T_r0, Nat.le_of_ble_eq_true rfl⟩ rfl rfl (Nat.le_of_ble_eq_true rfl) (Nat.le_of_ble_eq_true rfl) (Nat.le_of_ble_eq_true rfl) ?_
                rintro x190 I191 L192 ⟨o0x190, o1x190, p0x190, hI191, S193⟩
                have p0x190 := p0x190 r0_1 R_r0_1
                have gx190 := rg x190
                obtain ⟨x196, e197⟩ : ∃ x, I191 r0_1 4 = x := ⟨_, rfl⟩
                have gx196 := rg x196
                have ox196 := IM.c4 hI191 R_r0_1 e197
                obtain ⟨x198, e199⟩ : ∃ x, I191 r0_1 5 = x := ⟨_, rfl⟩
                have gx198 := rg x198
                have ox198 := IM.c5 hI191 R_r0_1 e199
                try simp only [e188, e189, e197, e199] at p0x190
                try have q0x190 := congrArg Int32.toInt p0x190
                exact k_iret C rfl (Or.inr ⟨rfl, z01 (by omega) (by omega)⟩) (Nat.le_of_ble_eq_true rfl) (Nat.le_of_ble_eq_true rfl) ⟨_, _, _, rfl, rfl, by omega, by omega, fun a1 h1 => by cases (R_r0_1.symm.trans h1); first | omega | (simp only [e197, e199, k0_r0_1_4, k0_r0_1_5] <;> omega), hI191, (CM.cons S3 (CM.cons S36 (CM.cons S131 (CM.cons S153 (CM.cons S165 (CM.cons S180 (CM.cons S187 (CM.mono S193 (by decide) (by decide)) (by decide) (by decide)) (by decide) (by decide)) (by decide) (by decide)) (by decide) (by decide)) (by decide) (by decide)) (by decide) (by decide)) (by decide) (by decide))⟩
              refine k_aload_n C rfl rfl rfl ?_
              refine g_R C rfl rfl rfl T_r0 rfl R_r0_1 ?_
              refine k_iload_n C rfl rfl rfl ?_
              refine z_iconst C (z := 1) rfl rfl rfl (fun x200 ex200 => ?_)
              refine z_iadd C rfl rfl ⟨by omega, by omega⟩ (fun x201 ex201 => ?_)
              refine k_iload C rfl rfl rfl ?_
              refine z_iadd C rfl rfl ⟨by omega, by omega⟩ (fun x202 ex202 => ?_)
              refine k_aload_n C rfl rfl rfl ?_
              refine k_iload_n C rfl rfl rfl ?_
              refine k_iload C rfl rfl rfl ?_
              refine c_VI C (a_X12_ofTable hI166 H_r0 (by omega) (by omega) (by omega) (by omega)) rfl rfl rfl rfl rfl ⟨_, rfl, rfl, T_r0, Nat.le_of_ble_eq_true rfl⟩ rfl rfl (Nat.le_of_ble_eq_true rfl) (Nat.le_of_ble_eq_true rfl) (Nat.le_of_ble_eq_true rfl) ?_
              rintro x203 _ _ ⟨o0x203, o1x203, p0x203, rfl, rfl⟩
              have p0x203 := p0x203 r0_1 R_r0_1
              have gx203 := rg x203
              try simp only [e168, e172] at p0x203
              try have q0x203 := congrArg Int32.toInt p0x203
              refine z_sI C rfl rfl T_r0_1 N_r0_1 (by omega) (by omega) (fun I204 uI204 => ?_)
              have hI204 : IM R r0 I204 := IM.arr hI166 G_r0 R_r0_1 ⟨(fun h => absurd h (by decide)), (fun h => absurd h (by decide)), (fun h => absurd h (by decide))⟩ (fun _ => WOK.act (IM.w hI166 R_r0_1) (b := x167.toInt - 1) (c := x162.toInt + 1) ⟨by omega, by omega⟩ ⟨by omega, by omega⟩ (by omega) (by omega) (by omega) (fun h => absurd h (by omega))) uI204
              have S205 : CM A R r0 [] [1] I160 L161 I204 L161 := CM.a G_r0 R_r0_1 A_r0_1 uI204
              have e206 := u2_j uI204 (by first | decide | exact ncne (by omega) (by omega) (by omega) | exact nckn (by omega) (by omega) | exact (nckn (by omega) (by omega)).symm) e168
              have e207 := u2_j uI204 (by first | decide | exact ncne (by omega) (by omega) (by omega) | exact nckn (by omega) (by omega) | exact (nckn (by omega) (by omega)).symm) e172
              have e208 := u2_e uI204
              refine z_iinc C (z := 1) (lw := fun x209 => [(4, .int x209), (0, .ref r0), (1, .int n1), (2, .int n2), (3, .int x151)]) rfl rfl rfl (Nat.le_of_ble_eq_true rfl) rfl ⟨by omega, by omega⟩ (fun _ => rfl) (fun x209 ex209 => ?_)
              show V 145 [(4, .int x209), (0, .ref r0), (1, .int n1), (2, .int n2), (3, .int x151)] _ _ _ _
              refine k_goto C (pc2 := 118) rfl rfl ?_
              refine k_sub S [(0, .ref r0), (1, .int n1), (2, .int n2), (3, .int x151), (4, .int x209)] (List.forall_mem_cons.mpr ⟨List.mem_of_getElem? (i := 1) rfl, List.forall_mem_cons.mpr ⟨List.mem_of_getElem? (i := 2) rfl, List.forall_mem_cons.mpr ⟨List.mem_of_getElem? (i := 3) rfl, List.forall_mem_cons.mpr ⟨List.mem_of_getElem? (i := 4) rfl, List.forall_mem_cons.mpr ⟨List.mem_of_getElem? (i := 0) rfl, fun _ h => nomatch h⟩⟩⟩⟩⟩) ?_
              exact ihJ158 _ (by omega) I204 L161 x209 x167 x171 rfl hI204 (CM.cons S165 (CM.mono S205 (by decide) (by decide)) (by decide) (by decide)) (by omega) (by omega) e206 (by omega) (by omega) e207 (by omega) (by omega) (by omega) (by omega)
          refine k_istore C (lw := [(4, .int x157), (3, .int x151), (0, .ref r0), (1, .int n1), (2, .int n2)]) rfl rfl (Nat.le_of_ble_eq_true rfl) rfl ?_
          refine k_sub S [(0, .ref r0), (1, .int n1), (2, .int n2), (3, .int x151), (4, .int x157)] (List.forall_mem_cons.mpr ⟨List.mem_of_getElem? (i := 2) rfl, List.forall_mem_cons.mpr ⟨List.mem_of_getElem? (i := 3) rfl, List.forall_mem_cons.mpr ⟨List.mem_of_getElem? (i := 4) rfl, List.forall_mem_cons.mpr ⟨List.mem_of_getElem? (i := 1) rfl, List.forall_mem_cons.mpr ⟨List.mem_of_getElem? (i := 0) rfl, fun _ h => nomatch h⟩⟩⟩⟩⟩) ?_
          exact J158 _ I152 L127 x157 x133 x137 rfl hI152 CM.rf (by omega) (by omega) e154 (by omega) (by omega) e155 (by omega) (by omega) (by omega) (by omega)
        refine k_aload_n C rfl rfl rfl ?_
        refine g_R C rfl rfl rfl T_r0 rfl R_r0_1 ?_
        refine k_iload_n C rfl rfl rfl ?_
        refine k_aload_n C rfl rfl rfl ?_
        refine g_R C rfl rfl rfl T_r0 rfl R_r0_1 ?_
        refine k_iload_n C rfl rfl rfl ?_
        refine z_iconst C (z := 5) rfl rfl rfl (fun x210 ex210 => ?_)
        refine z_iadd C rfl rfl ⟨by omega, by omega⟩ (fun x211 ex211 => ?_)
        refine z_aI C rfl rfl T_r0_1 N_r0_1 (by omega) (by omega) (fun x212 ex212 => ?_)
        have gx212 := rg x212
        have hr := ex212
        refine z_sI C rfl rfl T_r0_1 N_r0_1 (by omega) (by omega) (fun I213 uI213 => ?_)
        have hI213 : IM R r0 I213 := IM.arr hI132 G_r0 R_r0_1 ⟨(fun h => absurd h (by decide)), (fun h => absurd h (by decide)), (fun h => absurd h (by decide))⟩ (fun _ => WOK.sh (IM.w hI132 R_r0_1) ⟨by omega, by omega⟩ (by omega) hr) uI213
        have S214 : CM A R r0 [] [1] I126 L127 I213 L127 := CM.a G_r0 R_r0_1 A_r0_1 uI213
        have e215 := u2_j uI213 (by first | decide | exact ncne (by omega) (by omega) (by omega) | exact nckn (by omega) (by omega) | exact (nckn (by omega) (by omega)).symm) e134
        have e216 := u2_j uI213 (by first | decide | exact ncne (by omega) (by omega) (by omega) | exact nckn (by omega) (by omega) | exact (nckn (by omega) (by omega)).symm) e138
        have e218 := u2_e uI213
        refine z_iinc C (z := 1) (lw := fun x219 => [(3, .int x219), (0, .ref r0), (1, .int n1), (2, .int n2)]) rfl rfl rfl (Nat.le_of_ble_eq_true rfl) rfl ⟨by omega, by omega⟩ (fun _ => rfl) (fun x219 ex219 => ?_)
        show V 77 [(3, .int x219), (0, .ref r0), (1, .int n1), (2, .int n2)] _ _ _ _
        refine k_goto C (pc2 := 51) rfl rfl ?_
        refine k_sub S [(0, .ref r0), (1, .int n1), (2, .int n2), (3, .int x219)] (List.forall_mem_cons.mpr ⟨List.mem_of_getElem? (i := 1) rfl, List.forall_mem_cons.mpr ⟨List.mem_of_getElem? (i := 2) rfl, List.forall_mem_cons.mpr ⟨List.mem_of_getElem? (i := 3) rfl, List.forall_mem_cons.mpr ⟨List.mem_of_getElem? (i := 0) rfl, fun _ h => nomatch h⟩⟩⟩⟩) ?_
        exact ihJ124 _ (by omega) I213 L127 x219 x133 x137 rfl hI213 (CM.cons S131 (CM.mono S214 (by decide) (by decide)) (by decide) (by decide)) (by omega) (by omega) e215 (by omega) (by omega) e216 (by omega) (by omega) (by omega) (by omega)
    refine k_istore_n C (lw := [(3, .int x123), (0, .ref r0), (1, .int n1), (2, .int n2)]) rfl rfl (Nat.le_of_ble_eq_true rfl) rfl ?_
    refine k_sub S [(0, .ref r0), (1, .int n1), (2, .int n2), (3, .int x123)] (List.forall_mem_cons.mpr ⟨List.mem_of_getElem? (i := 1) rfl, List.forall_mem_cons.mpr ⟨List.mem_of_getElem? (i := 2) rfl, List.forall_mem_cons.mpr ⟨List.mem_of_getElem? (i := 3) rfl, List.forall_mem_cons.mpr ⟨List.mem_of_getElem? (i := 0) rfl, fun _ h => nomatch h⟩⟩⟩⟩) ?_
    exact J124 _ I34 L35 x123 w_r0_1_4 w_r0_1_5 rfl hI34 CM.rf (by omega) (by omega) e37 (by omega) (by omega) e38 (by omega) (by omega) (by omega) (by omega)
  refine z_iconst C (z := 1) rfl rfl rfl (fun x220 ex220 => ?_)
  refine k_goto C (pc2 := 27) rfl rfl ?_
  refine z_iconst C (z := 1) rfl rfl rfl (fun x221 ex221 => ?_)
  have q222 : x220.toNatClampNeg = 1 := nck (by omega)
  have q223 : x221.toNatClampNeg = 1 := nck (by omega)
  refine c_VI C (a_X12_throwsIf hI2 H_r0 (by omega) (by omega)) rfl rfl rfl rfl rfl ⟨_, rfl, rfl, T_r0, Nat.le_of_ble_eq_true rfl⟩ rfl rfl (Nat.le_of_ble_eq_true rfl) (Nat.le_of_ble_eq_true rfl) (Nat.le_of_ble_eq_true rfl) ?_
  rintro x224 I225 L226 ⟨o0x224, o1x224, p0x224, hI225, S227⟩
  have e228 := CM.j S227 R_r0_1 (by decide) e4
  have e229 := CM.j S227 R_r0_1 (by decide) e5
  have e231 := CM.j S227 R_r0_1 (by decide) e9
  have e232 := CM.j S227 R_r0_1 (by decide) e27
  have gx224 := rg x224
  try simp only [q222, q223, e4, e5, e6, e9, e27] at p0x224
  try have q0x224 := congrArg Int32.toInt p0x224
  refine b_if_eq C (t := 36) rfl rfl rfl (fun c233 => by exfalso; omega) (fun c233 => ?_)
  refine z_iconst C (z := 0) rfl rfl rfl (fun x234 ex234 => ?_)
  exact k_iret C rfl (Or.inr ⟨rfl, z01 (by omega) (by omega)⟩) (Nat.le_of_ble_eq_true rfl) (Nat.le_of_ble_eq_true rfl) ⟨_, _, _, rfl, rfl, by omega, by omega, fun a1 h1 => by cases (R_r0_1.symm.trans h1); first | omega | (simp only [e228, e229, e231, e232, k0_r0_1_4, k0_r0_1_5] <;> omega), hI225, (CM.cons S3 (CM.mono S227 (by decide) (by decide)) (by decide) (by decide))⟩

theorem a_X12_again {d : Nat} {T N : Nat → Nat} {I : IT} {L : LT} {R : RT} {A : Nat → Prop} {r0 : Nat} {n1 n2 : Int32} (hI : IM R r0 I) (H_r0 : (h_MD T N R A) r0) (b0_n1 : 0 ≤ n1.toInt) (b1_n1 : n1.toInt ≤ 39) (b0_n2 : 0 ≤ n2.toInt) (b1_n2 : n2.toInt ≤ 1) : Ex (d + 6) 245 [.ref r0, .int n1, .int n2] (T, N, I, L, R) 0 0 (pI T N R (fun x9 I9 L9 => (∀ a1, R r0 1 = some a1 → (I a1 4).toInt + (I a1 5).toInt ≤ 40 → (I9 a1 4).toInt + (I9 a1 5).toInt ≤ 40) ∧ (IM R r0 I9 ∧ CM A R r0 [6, 7, 8, 9] [1, 4, 5] I L I9 L9))) := by
  refine ⟨_, rfl, Nat.le_of_ble_eq_true rfl, fun V C S => ?_⟩
  show V 0 [(0, .ref r0), (1, .int n1), (2, .int n2)] [] (T, N, I, L, R) 0 0
  have gn1 := rg n1
  have gn2 := rg n2
  obtain ⟨T_r0, A_r0, ⟨r0_1, R_r0_1, H_r0_1⟩, ⟨r0_2, R_r0_2, H_r0_2⟩, ⟨r0_4, R_r0_4, H_r0_4⟩, ⟨r0_5, R_r0_5, H_r0_5⟩, ⟨r0_10, R_r0_10, H_r0_10⟩, ⟨r0_18, R_r0_18, H_r0_18⟩, ⟨r0_20, R_r0_20, H_r0_20⟩, ⟨r0_21, R_r0_21, H_r0_21⟩, ⟨r0_22, R_r0_22, H_r0_22⟩, ⟨r0_23, R_r0_23, H_r0_23⟩, ⟨r0_25, R_r0_25, H_r0_25⟩, ⟨r0_26, R_r0_26, H_r0_26⟩, ⟨r0_27, R_r0_27, H_r0_27⟩, ⟨r0_28, R_r0_28, H_r0_28⟩, ⟨r0_34, R_r0_34, H_r0_34⟩, J_r0, Y_r0⟩ := id H_r0
  have G_r0 : mF T R r0 := ⟨J_r0, Y_r0, T_r0⟩
  obtain ⟨w_r0_1_4, k0_r0_1_4⟩ : ∃ x, I r0_1 4 = x := ⟨_, rfl⟩
  have gw_r0_1_4 := rg w_r0_1_4
  have ow_r0_1_4 := IM.c4 hI R_r0_1 k0_r0_1_4
  obtain ⟨w_r0_1_5, k0_r0_1_5⟩ : ∃ x, I r0_1 5 = x := ⟨_, rfl⟩
  have gw_r0_1_5 := rg w_r0_1_5
  have ow_r0_1_5 := IM.c5 hI R_r0_1 k0_r0_1_5
  refine z_sipush C (z := 3406) rfl rfl rfl (fun x1 ex1 => ?_)
  refine z_iconst C (z := 5) rfl rfl rfl (fun x2 ex2 => ?_)
  refine k_iload_n C rfl rfl rfl ?_
  refine z_imulL C (c := 5) rfl rfl (by omega) ⟨by omega, by omega⟩ (fun x3 ex3 => ?_)
  refine z_iadd C rfl rfl ⟨by omega, by omega⟩ (fun x4 ex4 => ?_)
  refine k_istore_n C (lw := [(3, .int x4), (0, .ref r0), (1, .int n1), (2, .int n2)]) rfl rfl (Nat.le_of_ble_eq_true rfl) rfl ?_
  refine k_aload_n C rfl rfl rfl ?_
  refine k_aload_n C rfl rfl rfl ?_
  refine g_R C rfl rfl rfl T_r0 rfl R_r0_1 ?_
  refine k_iload_n C rfl rfl rfl ?_
  refine z_iconst C (z := 1) rfl rfl rfl (fun x5 ex5 => ?_)
  refine z_iadd C rfl rfl ⟨by omega, by omega⟩ (fun x6 ex6 => ?_)
  obtain ⟨T_r0_1, N_r0_1, A_r0_1⟩ := id H_r0_1
  refine z_aI C rfl rfl T_r0_1 N_r0_1 (by omega) (by omega) (fun x7 ex7 => ?_)
  have gx7 := rg x7
  have dx7 := IM.actn hI R_r0_1 (b := n1.toInt) (i := 1) ⟨by omega, by omega⟩ ⟨by decide, by decide⟩ (by omega) ex7
  refine k_aload_n C rfl rfl rfl ?_
  refine g_R C rfl rfl rfl T_r0 rfl R_r0_1 ?_
  refine k_iload_n C rfl rfl rfl ?_
  refine z_iconst C (z := 2) rfl rfl rfl (fun x8 ex8 => ?_)
  refine z_iadd C rfl rfl ⟨by omega, by omega⟩ (fun x9 ex9 => ?_)
  refine z_aI C rfl rfl T_r0_1 N_r0_1 (by omega) (by omega) (fun x10 ex10 => ?_)
  have gx10 := rg x10
  have dx10 := IM.actn hI R_r0_1 (b := n1.toInt) (i := 2) ⟨by omega, by omega⟩ ⟨by decide, by decide⟩ (by omega) ex10
  refine k_aload_n C rfl rfl rfl ?_
  refine g_R C rfl rfl rfl T_r0 rfl R_r0_1 ?_
  refine k_iload_n C rfl rfl rfl ?_
  refine z_iconst C (z := 3) rfl rfl rfl (fun x11 ex11 => ?_)
  refine z_iadd C rfl rfl ⟨by omega, by omega⟩ (fun x12 ex12 => ?_)
  refine z_aI C rfl rfl T_r0_1 N_r0_1 (by omega) (by omega) (fun x13 ex13 => ?_)
  have gx13 := rg x13
  have dx13 := IM.actn hI R_r0_1 (b := n1.toInt) (i := 3) ⟨by omega, by omega⟩ ⟨by decide, by decide⟩ (by omega) ex13
  refine k_aload_n C rfl rfl rfl ?_
  refine g_R C rfl rfl rfl T_r0 rfl R_r0_1 ?_
  refine k_iload_n C rfl rfl rfl ?_
  refine z_iconst C (z := 4) rfl rfl rfl (fun x14 ex14 => ?_)
  refine z_iadd C rfl rfl ⟨by omega, by omega⟩ (fun x15 ex15 => ?_)
  refine z_aI C rfl rfl T_r0_1 N_r0_1 (by omega) (by omega) (fun x16 ex16 => ?_)
  have gx16 := rg x16
  have dx16 := IM.actn hI R_r0_1 (b := n1.toInt) (i := 4) ⟨by omega, by omega⟩ ⟨by decide, by decide⟩ (by omega) ex16
  refine c_VV C (a_X12_takesTable hI H_r0 (by omega) (by omega) (by omega) (by omega) (by omega) (by omega) (by omega) (by omega)) rfl rfl rfl rfl rfl ⟨_, rfl, rfl, T_r0, Nat.le_of_ble_eq_true rfl⟩ rfl rfl (Nat.le_of_ble_eq_true rfl) (Nat.le_of_ble_eq_true rfl) (Nat.le_of_ble_eq_true rfl) ?_
  rintro I18 L19 ⟨hI18, S20⟩
  have e21 := CM.j S20 R_r0_1 (by decide) k0_r0_1_4
  have e22 := CM.j S20 R_r0_1 (by decide) k0_r0_1_5
  have e23 := CM.j S20 R_r0_1 (by decide) ex7
  have e24 := CM.j S20 R_r0_1 (by decide) ex10
  have e25 := CM.j S20 R_r0_1 (by decide) ex13
  have e26 := CM.j S20 R_r0_1 (by decide) ex16
  refine k_iload_n C rfl rfl rfl ?_
  refine b_if_eq C (t := 52) rfl rfl rfl (fun c27 => ?_) (fun c27 => ?_)
  · skip
    refine k_aload_n C rfl rfl rfl ?_
    refine k_aload_n C rfl rfl rfl ?_
    refine g_R C rfl rfl rfl T_r0 rfl R_r0_1 ?_
    refine k_iload_n C rfl rfl rfl ?_
    refine z_aI C rfl rfl T_r0_1 N_r0_1 (by omega) (by omega) (fun x28 ex28 => ?_)
    have gx28 := rg x28
    have dx28 := IM.act hI18 R_r0_1 (b := n1.toInt) ⟨by omega, by omega⟩ (by omega) ex28
    refine c_VI C (a_X12_mixesForm hI18 H_r0 (by omega) (by omega)) rfl rfl rfl rfl rfl ⟨_, rfl, rfl, T_r0, Nat.le_of_ble_eq_true rfl⟩ rfl rfl (Nat.le_of_ble_eq_true rfl) (Nat.le_of_ble_eq_true rfl) (Nat.le_of_ble_eq_true rfl) ?_
    rintro x29 I30 L31 ⟨o0x29, o1x29, p0x29, hI30, S32⟩
    have p0x29 := p0x29 r0_1 R_r0_1
    have gx29 := rg x29
    obtain ⟨x40, e41⟩ : ∃ x, I30 r0_1 4 = x := ⟨_, rfl⟩
    have gx40 := rg x40
    have ox40 := IM.c4 hI30 R_r0_1 e41
    obtain ⟨x42, e43⟩ : ∃ x, I30 r0_1 5 = x := ⟨_, rfl⟩
    have gx42 := rg x42
    have ox42 := IM.c5 hI30 R_r0_1 e43
    try simp only [e21, e22, e23, e24, e25, e26, ex28, e41, e43] at p0x29
    try have q0x29 := congrArg Int32.toInt p0x29
    refine k_pop C rfl rfl rfl ?_
    refine k_aload_n C rfl rfl rfl ?_
    refine g_R C rfl rfl rfl T_r0 rfl R_r0_1 ?_
    refine k_iload_n C rfl rfl rfl ?_
    refine z_aI C rfl rfl T_r0_1 N_r0_1 (by omega) (by omega) (fun x44 ex44 => ?_)
    have gx44 := rg x44
    exact k_iret C rfl (Or.inl rfl) (Nat.le_of_ble_eq_true rfl) (Nat.le_of_ble_eq_true rfl) ⟨_, _, _, rfl, rfl, fun a1 h1 => by cases (R_r0_1.symm.trans h1); first | omega | (simp only [e41, e43, ex44, k0_r0_1_4, k0_r0_1_5] <;> omega), hI30, (CM.cons S20 (CM.mono S32 (by decide) (by decide)) (by decide) (by decide))⟩
  refine k_aload_n C rfl rfl rfl ?_
  refine c_VV C (a_X12_turnsBack hI18 H_r0) rfl rfl rfl rfl rfl ⟨_, rfl, rfl, T_r0, Nat.le_of_ble_eq_true rfl⟩ rfl rfl (Nat.le_of_ble_eq_true rfl) (Nat.le_of_ble_eq_true rfl) (Nat.le_of_ble_eq_true rfl) ?_
  rintro I46 L47 ⟨hI46, S48⟩
  have e49 := CM.j S48 R_r0_1 (by decide) e21
  have e50 := CM.j S48 R_r0_1 (by decide) e22
  have e51 := CM.j S48 R_r0_1 (by decide) e23
  have e52 := CM.j S48 R_r0_1 (by decide) e24
  have e53 := CM.j S48 R_r0_1 (by decide) e25
  have e54 := CM.j S48 R_r0_1 (by decide) e26
  refine k_aload_n C rfl rfl rfl ?_
  refine k_aload_n C rfl rfl rfl ?_
  refine g_R C rfl rfl rfl T_r0 rfl R_r0_1 ?_
  refine k_iload_n C rfl rfl rfl ?_
  refine z_aI C rfl rfl T_r0_1 N_r0_1 (by omega) (by omega) (fun x55 ex55 => ?_)
  have gx55 := rg x55
  have dx55 := IM.act hI46 R_r0_1 (b := n1.toInt) ⟨by omega, by omega⟩ (by omega) ex55
  refine c_VI C (a_X12_mixesForm hI46 H_r0 (by omega) (by omega)) rfl rfl rfl rfl rfl ⟨_, rfl, rfl, T_r0, Nat.le_of_ble_eq_true rfl⟩ rfl rfl (Nat.le_of_ble_eq_true rfl) (Nat.le_of_ble_eq_true rfl) (Nat.le_of_ble_eq_true rfl) ?_
  rintro x56 I57 L58 ⟨o0x56, o1x56, p0x56, hI57, S59⟩
  have p0x56 := p0x56 r0_1 R_r0_1
  have gx56 := rg x56
  obtain ⟨x67, e68⟩ : ∃ x, I57 r0_1 4 = x := ⟨_, rfl⟩
  have gx67 := rg x67
  have ox67 := IM.c4 hI57 R_r0_1 e68
  obtain ⟨x69, e70⟩ : ∃ x, I57 r0_1 5 = x := ⟨_, rfl⟩
  have gx69 := rg x69
  have ox69 := IM.c5 hI57 R_r0_1 e70
  try simp only [e49, e50, e51, e52, e53, e54, ex55, e68, e70] at p0x56
  try have q0x56 := congrArg Int32.toInt p0x56
  refine k_pop C rfl rfl rfl ?_
  refine k_aload_n C rfl rfl rfl ?_
  refine g_R C rfl rfl rfl T_r0 rfl R_r0_1 ?_
  refine k_iload_n C rfl rfl rfl ?_
  refine z_aI C rfl rfl T_r0_1 N_r0_1 (by omega) (by omega) (fun x71 ex71 => ?_)
  have gx71 := rg x71
  exact k_iret C rfl (Or.inl rfl) (Nat.le_of_ble_eq_true rfl) (Nat.le_of_ble_eq_true rfl) ⟨_, _, _, rfl, rfl, fun a1 h1 => by cases (R_r0_1.symm.trans h1); first | omega | (simp only [e68, e70, ex71, k0_r0_1_4, k0_r0_1_5] <;> omega), hI57, (CM.cons S20 (CM.cons S48 (CM.mono S59 (by decide) (by decide)) (by decide) (by decide)) (by decide) (by decide))⟩

theorem a_X12_undo {d : Nat} {T N : Nat → Nat} {I : IT} {L : LT} {R : RT} {A : Nat → Prop} {r0 : Nat} (hI : IM R r0 I) (H_r0 : (h_MD T N R A) r0) (hp0 : ∀ a1, R r0 1 = some a1 → (I a1 4).toInt + (I a1 5).toInt ≤ 40) : Ex (d + 7) 246 [.ref r0] (T, N, I, L, R) 0 0 (pI T N R (fun x9 I9 L9 => (∀ a1, R r0 1 = some a1 → (I9 a1 4).toInt + (I9 a1 5).toInt ≤ 40) ∧ (IM R r0 I9 ∧ CM A R r0 [0, 6, 7, 8, 9] [1, 4, 5] I L I9 L9))) := by
  refine ⟨_, rfl, Nat.le_of_ble_eq_true rfl, fun V C S => ?_⟩
  show V 0 [(0, .ref r0)] [] (T, N, I, L, R) 0 0
  obtain ⟨T_r0, A_r0, ⟨r0_1, R_r0_1, H_r0_1⟩, ⟨r0_2, R_r0_2, H_r0_2⟩, ⟨r0_4, R_r0_4, H_r0_4⟩, ⟨r0_5, R_r0_5, H_r0_5⟩, ⟨r0_10, R_r0_10, H_r0_10⟩, ⟨r0_18, R_r0_18, H_r0_18⟩, ⟨r0_20, R_r0_20, H_r0_20⟩, ⟨r0_21, R_r0_21, H_r0_21⟩, ⟨r0_22, R_r0_22, H_r0_22⟩, ⟨r0_23, R_r0_23, H_r0_23⟩, ⟨r0_25, R_r0_25, H_r0_25⟩, ⟨r0_26, R_r0_26, H_r0_26⟩, ⟨r0_27, R_r0_27, H_r0_27⟩, ⟨r0_28, R_r0_28, H_r0_28⟩, ⟨r0_34, R_r0_34, H_r0_34⟩, J_r0, Y_r0⟩ := id H_r0
  have G_r0 : mF T R r0 := ⟨J_r0, Y_r0, T_r0⟩
  obtain ⟨w_r0_1_4, k0_r0_1_4⟩ : ∃ x, I r0_1 4 = x := ⟨_, rfl⟩
  have gw_r0_1_4 := rg w_r0_1_4
  have ow_r0_1_4 := IM.c4 hI R_r0_1 k0_r0_1_4
  obtain ⟨w_r0_1_5, k0_r0_1_5⟩ : ∃ x, I r0_1 5 = x := ⟨_, rfl⟩
  have gw_r0_1_5 := rg w_r0_1_5
  have ow_r0_1_5 := IM.c5 hI R_r0_1 k0_r0_1_5
  have hp0 := hp0 r0_1 R_r0_1
  try simp only [k0_r0_1_4, k0_r0_1_5] at hp0
  refine k_aload_n C rfl rfl rfl ?_
  refine z_iconst C (z := 0) rfl rfl rfl (fun x1 ex1 => ?_)
  refine z_pI C rfl rfl rfl T_r0 (Or.inr rfl) rfl (fun I2 uI2 => ?_)
  have hI2 : IM R r0 I2 := IM.fld hI G_r0 ⟨(fun h => absurd h (by decide)), (fun h => absurd h (by decide)), (fun h => absurd h (by decide)), (fun h => absurd h (by decide)), (fun h => absurd h (by decide))⟩ uI2
  have S3 : CM A R r0 [0] [] I L I2 L := CM.f G_r0 A_r0 uI2
  have e4 := u2_n uI2 (mF.ne G_r0 R_r0_1) k0_r0_1_4
  have e5 := u2_n uI2 (mF.ne G_r0 R_r0_1) k0_r0_1_5
  have e6 := u2_e uI2
  refine k_aload_n C rfl rfl rfl ?_
  refine g_R C rfl rfl rfl T_r0 rfl R_r0_1 ?_
  refine z_iconst C (z := 4) rfl rfl rfl (fun x7 ex7 => ?_)
  obtain ⟨T_r0_1, N_r0_1, A_r0_1⟩ := id H_r0_1
  refine a_I C rfl rfl T_r0_1 (by rw [N_r0_1]; exact vpi (by omega) (by omega)) ((congrArg (I2 r0_1) (nck (n := 4) (by omega))).trans e4) ?_
  refine b_if_ne C (t := 16) rfl rfl rfl (fun c8 => ?_) (fun c8 => ?_)
  · skip
    refine k_aload_n C rfl rfl rfl ?_
    refine g_R C rfl rfl rfl T_r0 rfl R_r0_1 ?_
    refine z_iconst C (z := 4) rfl rfl rfl (fun x9 ex9 => ?_)
    refine k_dup2 C rfl rfl rfl rfl ?_
    refine a_I C rfl rfl T_r0_1 (by rw [N_r0_1]; exact vpi (by omega) (by omega)) ((congrArg (I2 r0_1) (nck (n := 4) (by omega))).trans e4) ?_
    refine z_iconst C (z := 1) rfl rfl rfl (fun x10 ex10 => ?_)
    refine z_isub C rfl rfl ⟨by omega, by omega⟩ (fun x11 ex11 => ?_)
    refine z_sI C rfl rfl T_r0_1 N_r0_1 (by omega) (by omega) (fun I12 uI12 => ?_)
    have uI12 : I12 = u2 I2 r0_1 4 (x11) := by rw [uI12, nck (n := 4) (by omega)]
    have hI12 : IM R r0 I12 := IM.arr hI2 G_r0 R_r0_1 ⟨(fun h => absurd h (by decide)), (fun h => absurd h (by decide)), (fun h => absurd h (by decide))⟩ (fun _ => WOK.c4 (IM.w hI2 R_r0_1) (by omega) (by omega)) uI12
    have S13 : CM A R r0 [] [1] I2 L I12 L := CM.a G_r0 R_r0_1 A_r0_1 uI12
    have e15 := u2_j uI12 (by first | decide | exact ncne (by omega) (by omega) (by omega) | exact nckn (by omega) (by omega) | exact (nckn (by omega) (by omega)).symm) e5
    have e16 := u2_n uI12 (fun e => (mF.ne G_r0 R_r0_1) e.symm) e6
    have e17 := u2_e uI12
    refine k_aload_n C rfl rfl rfl ?_
    refine g_R C rfl rfl rfl T_r0 rfl R_r0_1 ?_
    refine z_iconst C (z := 5) rfl rfl rfl (fun x18 ex18 => ?_)
    refine k_dup2 C rfl rfl rfl rfl ?_
    refine a_I C rfl rfl T_r0_1 (by rw [N_r0_1]; exact vpi (by omega) (by omega)) ((congrArg (I12 r0_1) (nck (n := 5) (by omega))).trans e15) ?_
    refine z_iconst C (z := 1) rfl rfl rfl (fun x19 ex19 => ?_)
    refine z_iadd C rfl rfl ⟨by omega, by omega⟩ (fun x20 ex20 => ?_)
    refine z_sI C rfl rfl T_r0_1 N_r0_1 (by omega) (by omega) (fun I21 uI21 => ?_)
    have uI21 : I21 = u2 I12 r0_1 5 (x20) := by rw [uI21, nck (n := 5) (by omega)]
    have hI21 : IM R r0 I21 := IM.arr hI12 G_r0 R_r0_1 ⟨(fun h => absurd h (by decide)), (fun h => absurd h (by decide)), (fun h => absurd h (by decide))⟩ (fun _ => WOK.c5 (IM.w hI12 R_r0_1) (by omega) (by omega)) uI21
    have S22 : CM A R r0 [] [1] I12 L I21 L := CM.a G_r0 R_r0_1 A_r0_1 uI21
    have e24 := u2_n uI21 (fun e => (mF.ne G_r0 R_r0_1) e.symm) e16
    have e25 := u2_j uI21 (by first | decide | exact ncne (by omega) (by omega) (by omega) | exact nckn (by omega) (by omega) | exact (nckn (by omega) (by omega)).symm) e17
    have e26 := u2_e uI21
    refine k_aload_n C rfl rfl rfl ?_
    refine k_aload_n C rfl rfl rfl ?_
    refine g_R C rfl rfl rfl T_r0 rfl R_r0_1 ?_
    refine z_iconst C (z := 4) rfl rfl rfl (fun x27 ex27 => ?_)
    refine a_I C rfl rfl T_r0_1 (by rw [N_r0_1]; exact vpi (by omega) (by omega)) ((congrArg (I21 r0_1) (nck (n := 4) (by omega))).trans e25) ?_
    refine z_iconst C (z := 1) rfl rfl rfl (fun x28 ex28 => ?_)
    have q29 : x28.toNatClampNeg = 1 := nck (by omega)
    refine c_VI C (a_X12_again hI21 H_r0 (by omega) (by omega) (by omega) (by omega)) rfl rfl rfl rfl rfl ⟨_, rfl, rfl, T_r0, Nat.le_of_ble_eq_true rfl⟩ rfl rfl (Nat.le_of_ble_eq_true rfl) (Nat.le_of_ble_eq_true rfl) (Nat.le_of_ble_eq_true rfl) ?_
    rintro x30 I31 L32 ⟨p0x30, hI31, S33⟩
    have p0x30 := p0x30 r0_1 R_r0_1
    have e34 := CM.k S33 (by decide) e24
    have gx30 := rg x30
    obtain ⟨x37, e38⟩ : ∃ x, I31 r0_1 4 = x := ⟨_, rfl⟩
    have gx37 := rg x37
    have ox37 := IM.c4 hI31 R_r0_1 e38
    obtain ⟨x39, e40⟩ : ∃ x, I31 r0_1 5 = x := ⟨_, rfl⟩
    have gx39 := rg x39
    have ox39 := IM.c5 hI31 R_r0_1 e40
    try simp only [q29, e24, e25, e26, e38, e40] at p0x30
    try have q0x30 := congrArg Int32.toInt p0x30
    exact k_iret C rfl (Or.inl rfl) (Nat.le_of_ble_eq_true rfl) (Nat.le_of_ble_eq_true rfl) ⟨_, _, _, rfl, rfl, fun a1 h1 => by cases (R_r0_1.symm.trans h1); first | omega | (simp only [e34, e38, e40, k0_r0_1_4, k0_r0_1_5] <;> omega), hI31, (CM.cons S3 (CM.cons S13 (CM.cons S22 (CM.mono S33 (by decide) (by decide)) (by decide) (by decide)) (by decide) (by decide)) (by decide) (by decide))⟩
  refine z_iconst C (z := -1) rfl rfl rfl (fun x41 ex41 => ?_)
  exact k_iret C rfl (Or.inl rfl) (Nat.le_of_ble_eq_true rfl) (Nat.le_of_ble_eq_true rfl) ⟨_, _, _, rfl, rfl, fun a1 h1 => by cases (R_r0_1.symm.trans h1); first | omega | (simp only [e4, e5, e6, k0_r0_1_4, k0_r0_1_5] <;> omega), hI2, (CM.mono S3 (by decide) (by decide))⟩

theorem a_X12_redo {d : Nat} {T N : Nat → Nat} {I : IT} {L : LT} {R : RT} {A : Nat → Prop} {r0 : Nat} (hI : IM R r0 I) (H_r0 : (h_MD T N R A) r0) (hp0 : ∀ a1, R r0 1 = some a1 → (I a1 4).toInt + (I a1 5).toInt ≤ 40) : Ex (d + 7) 247 [.ref r0] (T, N, I, L, R) 0 0 (pI T N R (fun x9 I9 L9 => (∀ a1, R r0 1 = some a1 → (I9 a1 4).toInt + (I9 a1 5).toInt ≤ 40) ∧ (IM R r0 I9 ∧ CM A R r0 [0, 6, 7, 8, 9] [1, 4, 5] I L I9 L9))) := by
  refine ⟨_, rfl, Nat.le_of_ble_eq_true rfl, fun V C S => ?_⟩
  show V 0 [(0, .ref r0)] [] (T, N, I, L, R) 0 0
  obtain ⟨T_r0, A_r0, ⟨r0_1, R_r0_1, H_r0_1⟩, ⟨r0_2, R_r0_2, H_r0_2⟩, ⟨r0_4, R_r0_4, H_r0_4⟩, ⟨r0_5, R_r0_5, H_r0_5⟩, ⟨r0_10, R_r0_10, H_r0_10⟩, ⟨r0_18, R_r0_18, H_r0_18⟩, ⟨r0_20, R_r0_20, H_r0_20⟩, ⟨r0_21, R_r0_21, H_r0_21⟩, ⟨r0_22, R_r0_22, H_r0_22⟩, ⟨r0_23, R_r0_23, H_r0_23⟩, ⟨r0_25, R_r0_25, H_r0_25⟩, ⟨r0_26, R_r0_26, H_r0_26⟩, ⟨r0_27, R_r0_27, H_r0_27⟩, ⟨r0_28, R_r0_28, H_r0_28⟩, ⟨r0_34, R_r0_34, H_r0_34⟩, J_r0, Y_r0⟩ := id H_r0
  have G_r0 : mF T R r0 := ⟨J_r0, Y_r0, T_r0⟩
  obtain ⟨w_r0_1_4, k0_r0_1_4⟩ : ∃ x, I r0_1 4 = x := ⟨_, rfl⟩
  have gw_r0_1_4 := rg w_r0_1_4
  have ow_r0_1_4 := IM.c4 hI R_r0_1 k0_r0_1_4
  obtain ⟨w_r0_1_5, k0_r0_1_5⟩ : ∃ x, I r0_1 5 = x := ⟨_, rfl⟩
  have gw_r0_1_5 := rg w_r0_1_5
  have ow_r0_1_5 := IM.c5 hI R_r0_1 k0_r0_1_5
  have hp0 := hp0 r0_1 R_r0_1
  try simp only [k0_r0_1_4, k0_r0_1_5] at hp0
  refine k_aload_n C rfl rfl rfl ?_
  refine z_iconst C (z := 0) rfl rfl rfl (fun x1 ex1 => ?_)
  refine z_pI C rfl rfl rfl T_r0 (Or.inr rfl) rfl (fun I2 uI2 => ?_)
  have hI2 : IM R r0 I2 := IM.fld hI G_r0 ⟨(fun h => absurd h (by decide)), (fun h => absurd h (by decide)), (fun h => absurd h (by decide)), (fun h => absurd h (by decide)), (fun h => absurd h (by decide))⟩ uI2
  have S3 : CM A R r0 [0] [] I L I2 L := CM.f G_r0 A_r0 uI2
  have e4 := u2_n uI2 (mF.ne G_r0 R_r0_1) k0_r0_1_4
  have e5 := u2_n uI2 (mF.ne G_r0 R_r0_1) k0_r0_1_5
  have e6 := u2_e uI2
  refine k_aload_n C rfl rfl rfl ?_
  refine g_R C rfl rfl rfl T_r0 rfl R_r0_1 ?_
  refine z_iconst C (z := 5) rfl rfl rfl (fun x7 ex7 => ?_)
  obtain ⟨T_r0_1, N_r0_1, A_r0_1⟩ := id H_r0_1
  refine a_I C rfl rfl T_r0_1 (by rw [N_r0_1]; exact vpi (by omega) (by omega)) ((congrArg (I2 r0_1) (nck (n := 5) (by omega))).trans e5) ?_
  refine b_if_ne C (t := 16) rfl rfl rfl (fun c8 => ?_) (fun c8 => ?_)
  · skip
    refine k_aload_n C rfl rfl rfl ?_
    refine g_R C rfl rfl rfl T_r0 rfl R_r0_1 ?_
    refine z_iconst C (z := 4) rfl rfl rfl (fun x9 ex9 => ?_)
    refine k_dup2 C rfl rfl rfl rfl ?_
    refine a_I C rfl rfl T_r0_1 (by rw [N_r0_1]; exact vpi (by omega) (by omega)) ((congrArg (I2 r0_1) (nck (n := 4) (by omega))).trans e4) ?_
    refine z_iconst C (z := 1) rfl rfl rfl (fun x10 ex10 => ?_)
    refine z_iadd C rfl rfl ⟨by omega, by omega⟩ (fun x11 ex11 => ?_)
    refine z_sI C rfl rfl T_r0_1 N_r0_1 (by omega) (by omega) (fun I12 uI12 => ?_)
    have uI12 : I12 = u2 I2 r0_1 4 (x11) := by rw [uI12, nck (n := 4) (by omega)]
    have hI12 : IM R r0 I12 := IM.arr hI2 G_r0 R_r0_1 ⟨(fun h => absurd h (by decide)), (fun h => absurd h (by decide)), (fun h => absurd h (by decide))⟩ (fun _ => WOK.c4 (IM.w hI2 R_r0_1) (by omega) (by omega)) uI12
    have S13 : CM A R r0 [] [1] I2 L I12 L := CM.a G_r0 R_r0_1 A_r0_1 uI12
    have e15 := u2_j uI12 (by first | decide | exact ncne (by omega) (by omega) (by omega) | exact nckn (by omega) (by omega) | exact (nckn (by omega) (by omega)).symm) e5
    have e16 := u2_n uI12 (fun e => (mF.ne G_r0 R_r0_1) e.symm) e6
    have e17 := u2_e uI12
    refine k_aload_n C rfl rfl rfl ?_
    refine g_R C rfl rfl rfl T_r0 rfl R_r0_1 ?_
    refine z_iconst C (z := 5) rfl rfl rfl (fun x18 ex18 => ?_)
    refine k_dup2 C rfl rfl rfl rfl ?_
    refine a_I C rfl rfl T_r0_1 (by rw [N_r0_1]; exact vpi (by omega) (by omega)) ((congrArg (I12 r0_1) (nck (n := 5) (by omega))).trans e15) ?_
    refine z_iconst C (z := 1) rfl rfl rfl (fun x19 ex19 => ?_)
    refine z_isub C rfl rfl ⟨by omega, by omega⟩ (fun x20 ex20 => ?_)
    refine z_sI C rfl rfl T_r0_1 N_r0_1 (by omega) (by omega) (fun I21 uI21 => ?_)
    have uI21 : I21 = u2 I12 r0_1 5 (x20) := by rw [uI21, nck (n := 5) (by omega)]
    have hI21 : IM R r0 I21 := IM.arr hI12 G_r0 R_r0_1 ⟨(fun h => absurd h (by decide)), (fun h => absurd h (by decide)), (fun h => absurd h (by decide))⟩ (fun _ => WOK.c5 (IM.w hI12 R_r0_1) (by omega) (by omega)) uI21
    have S22 : CM A R r0 [] [1] I12 L I21 L := CM.a G_r0 R_r0_1 A_r0_1 uI21
    have e24 := u2_n uI21 (fun e => (mF.ne G_r0 R_r0_1) e.symm) e16
    have e25 := u2_j uI21 (by first | decide | exact ncne (by omega) (by omega) (by omega) | exact nckn (by omega) (by omega) | exact (nckn (by omega) (by omega)).symm) e17
    have e26 := u2_e uI21
    refine k_aload_n C rfl rfl rfl ?_
    refine k_aload_n C rfl rfl rfl ?_
    refine g_R C rfl rfl rfl T_r0 rfl R_r0_1 ?_
    refine z_iconst C (z := 4) rfl rfl rfl (fun x27 ex27 => ?_)
    refine a_I C rfl rfl T_r0_1 (by rw [N_r0_1]; exact vpi (by omega) (by omega)) ((congrArg (I21 r0_1) (nck (n := 4) (by omega))).trans e25) ?_
    refine z_iconst C (z := 1) rfl rfl rfl (fun x28 ex28 => ?_)
    refine z_isub C rfl rfl ⟨by omega, by omega⟩ (fun x29 ex29 => ?_)
    refine z_iconst C (z := 0) rfl rfl rfl (fun x30 ex30 => ?_)
    have q31 : x30.toNatClampNeg = 0 := nck (by omega)
    refine c_VI C (a_X12_again hI21 H_r0 (by omega) (by omega) (by omega) (by omega)) rfl rfl rfl rfl rfl ⟨_, rfl, rfl, T_r0, Nat.le_of_ble_eq_true rfl⟩ rfl rfl (Nat.le_of_ble_eq_true rfl) (Nat.le_of_ble_eq_true rfl) (Nat.le_of_ble_eq_true rfl) ?_
    rintro x32 I33 L34 ⟨p0x32, hI33, S35⟩
    have p0x32 := p0x32 r0_1 R_r0_1
    have e36 := CM.k S35 (by decide) e24
    have gx32 := rg x32
    obtain ⟨x39, e40⟩ : ∃ x, I33 r0_1 4 = x := ⟨_, rfl⟩
    have gx39 := rg x39
    have ox39 := IM.c4 hI33 R_r0_1 e40
    obtain ⟨x41, e42⟩ : ∃ x, I33 r0_1 5 = x := ⟨_, rfl⟩
    have gx41 := rg x41
    have ox41 := IM.c5 hI33 R_r0_1 e42
    try simp only [q31, e24, e25, e26, e40, e42] at p0x32
    try have q0x32 := congrArg Int32.toInt p0x32
    exact k_iret C rfl (Or.inl rfl) (Nat.le_of_ble_eq_true rfl) (Nat.le_of_ble_eq_true rfl) ⟨_, _, _, rfl, rfl, fun a1 h1 => by cases (R_r0_1.symm.trans h1); first | omega | (simp only [e36, e40, e42, k0_r0_1_4, k0_r0_1_5] <;> omega), hI33, (CM.cons S3 (CM.cons S13 (CM.cons S22 (CM.mono S35 (by decide) (by decide)) (by decide) (by decide)) (by decide) (by decide)) (by decide) (by decide))⟩
  refine z_iconst C (z := -1) rfl rfl rfl (fun x43 ex43 => ?_)
  exact k_iret C rfl (Or.inl rfl) (Nat.le_of_ble_eq_true rfl) (Nat.le_of_ble_eq_true rfl) ⟨_, _, _, rfl, rfl, fun a1 h1 => by cases (R_r0_1.symm.trans h1); first | omega | (simp only [e4, e5, e6, k0_r0_1_4, k0_r0_1_5] <;> omega), hI2, (CM.mono S3 (by decide) (by decide))⟩

