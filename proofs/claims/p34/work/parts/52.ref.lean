/-! the reference in any state: signs told -/
theorem Hgt.z {g : Nat → Int32} {x : Int32} (h : x.toInt = 0) : Hgt g 3606 x.toNatClampNeg = 0 := by rw [nck (x := x) (n := 0) h]; rfl
theorem WOK.drn {I : IT} {w n : Nat} {x : Int32} (h : WOK (I w)) (hn : 3606 ≤ n) : WOK (u2 I w n x w) := h.eq (fun k hk => u2_k (by omega))
theorem SGN.dr {I I' : IT} {w : Nat} {g : Nat → Int32} {s : Int32} (h : PD g s.toInt) (hg : I w = g) (e : I' = u2 I w 3606 s) (h0 : 0 ≤ s.toInt) (h1 : s.toInt ≤ 199) : SGN (I' w) 3606 := by
  subst e
  have hc : ∀ k : Nat, 3607 ≤ k → u2 I w 3606 s w k = g k := fun k hk => by rw [← hg]; exact u2_k (by omega)
  refine ⟨by rw [u2_s]; exact h0, by rw [u2_s]; exact h1, fun j hj => ?_⟩
  rw [u2_s] at hj
  rw [hc _ (by omega), hc _ (by omega), Hgt.eq (g := g) j (fun i hi => hc _ (by omega))]
  exact h j hj
def CPS (g : Nat → Int32) (b : Nat) (n : Int) : Prop := ∀ i : Nat, (i : Int) < n → g (b + i) = g (3606 + i)
theorem CPS.z {g : Nat → Int32} {b : Nat} {x : Int32} (h : x.toInt = 0) : CPS g b x.toInt := fun i hi => by omega
theorem CPS.s {I I' : IT} {w : Nat} {j r s k k' v : Int32} (h : CPS (I w) (198 + 401 * s.toNatClampNeg) k.toInt) (e : I' = u2 I w j.toNatClampNeg v) (o : I w r.toNatClampNeg = v) (hs : 0 ≤ s.toInt ∧ s.toInt ≤ 7) (h0 : 0 ≤ k.toInt ∧ k.toInt ≤ 400) (hj : j.toInt = 198 + 401 * s.toInt + k.toInt) (hr : r.toInt = 3606 + k.toInt) (hk : k'.toInt = k.toInt + 1) : CPS (I' w) (198 + 401 * s.toNatClampNeg) k'.toInt := fun i hi => by
  subst e
  have s1 := ncz hs.1
  have k1 := ncz h0.1
  have j1 := ncz (x := j) (by omega)
  have r1 := ncz (x := r) (by omega)
  rw [u2_k (show 3606 + i ≠ j.toNatClampNeg by omega)]
  by_cases q : i = k.toNatClampNeg
  · rw [show 198 + 401 * s.toNatClampNeg + i = j.toNatClampNeg from by omega, u2_s, ← o]; congr 1; omega
  · rw [u2_k (by omega)]; exact h i (by omega)
theorem SGN.w {I I' : IT} {w : Nat} {j v : Int32} (h : SGN (I w) 3606) (e : I' = u2 I w j.toNatClampNeg v) (h0 : 0 ≤ j.toInt) (hj : j.toInt ≤ 3605) : SGN (I' w) 3606 := by
  subst e
  have j1 := ncz h0
  exact h.eq (fun k h1 _ => u2_k (by omega))
theorem SGN.cp {g : Nat → Int32} {b : Nat} {n : Int} (h : SGN g 3606) (c : CPS g b n) (hn : 401 ≤ n) : SGN g b := by
  have e : ∀ i : Nat, i ≤ 400 → g (b + i) = g (3606 + i) := fun i hi => c i (by omega)
  have h0 := e 0 (by omega)
  obtain ⟨h1, h2, h3⟩ := h
  have hH : ∀ j : Nat, j ≤ 199 → Hgt g b j = Hgt g 3606 j := fun j => by
    induction j with
    | zero => intro _; rfl
    | succ j ih =>
      intro hj
      show Hgt g b j + _ = Hgt g 3606 j + _
      rw [ih (by omega), show b + 1 + 2 * j = b + (1 + 2 * j) from by omega, e _ (by omega), show 3606 + (1 + 2 * j) = 3606 + 1 + 2 * j from by omega]
  refine ⟨by rw [show b = b + 0 from rfl, h0]; exact h1, by rw [show b = b + 0 from rfl, h0]; exact h2, fun j hj => ?_⟩
  rw [show g b = g 3606 from h0] at hj
  rw [hH j (by omega), show b + 1 + 2 * j = b + (1 + 2 * j) from by omega, e _ (by omega), show 3606 + (1 + 2 * j) = 3606 + 1 + 2 * j from by omega, show b + 2 + 2 * j = b + (2 + 2 * j) from by omega, e _ (by omega), show 3606 + (2 + 2 * j) = 3606 + 2 + 2 * j from by omega]
  exact h3 j hj
theorem WOK.sg {I : IT} {w : Nat} {j x s : Int32} (h : WOK (I w)) (hs : (I w 3).toInt ≤ s.toInt) (hs7 : s.toInt ≤ 7) (hj : 198 + 401 * s.toInt ≤ j.toInt ∧ j.toInt ≤ 198 + 401 * s.toInt + 400) : WOK (u2 I w j.toNatClampNeg x w) := by
  obtain ⟨a1, a2, a3, a4, a5, a6, a7⟩ := h
  have c3 := a2.2.2.1
  have j1 := ncz (x := j) (by omega)
  have e : ∀ i : Nat, (i < 198 ∨ 3406 ≤ i) → u2 I w j.toNatClampNeg x w i = I w i := fun i hi => u2_k (by omega)
  refine ⟨a1.eq (e 0 (by omega)), a2.eq (fun i _ hi => e i (by omega)), a3.eq (fun i hi _ => e i (by omega)), a4.eq a2 a3 (e 0 (by omega)) (e 1 (by omega)) (fun i hi _ => e i (by omega)), a5.eq (fun i hi _ => e i (by omega)), fun t ht => ?_, a7.eq (fun i hi _ => e i (by omega))⟩
  rw [e 3 (by omega)] at ht
  exact (a6 t ht).eq (fun k h1 h2 => u2_k (by omega))
set_option maxHeartbeats 8000000 in
theorem a_X12_signs {d : Nat} {T N : Nat → Nat} {I : IT} {L : LT} {R : RT} {A : Nat → Prop} {r0 : Nat} (hI : IM R r0 I) (H_r0 : (h_MD T N R A) r0) : Ex (d + 31) 231 [.ref r0] (T, N, I, L, R) 0 0 (pI T N R (fun x9 I9 L9 => (0 ≤ x9.toInt) ∧ (x9.toInt ≤ 8) ∧ (∀ a1, R r0 1 = some a1 → (I a1 4).toInt + (I a1 5).toInt ≤ 40 → (I9 a1 4).toInt + (I9 a1 5).toInt ≤ 40) ∧ (IM R r0 I9 ∧ CM A R r0 [0, 11, 12, 13, 14, 15, 16, 17, 19] [1] I L I9 L9))) := by
  refine ⟨_, rfl, Nat.le_of_ble_eq_true rfl, fun V C S => ?_⟩
  show V 0 [(0, .ref r0)] [] (T, N, I, L, R) 0 0
  obtain ⟨T_r0, A_r0, ⟨r0_1, R_r0_1, H_r0_1⟩, ⟨r0_2, R_r0_2, H_r0_2⟩, ⟨r0_4, R_r0_4, H_r0_4⟩, ⟨r0_5, R_r0_5, H_r0_5⟩, ⟨r0_10, R_r0_10, H_r0_10⟩, ⟨r0_18, R_r0_18, H_r0_18⟩, ⟨r0_20, R_r0_20, H_r0_20⟩, ⟨r0_21, R_r0_21, H_r0_21⟩, ⟨r0_22, R_r0_22, H_r0_22⟩, ⟨r0_23, R_r0_23, H_r0_23⟩, ⟨r0_25, R_r0_25, H_r0_25⟩, ⟨r0_26, R_r0_26, H_r0_26⟩, ⟨r0_27, R_r0_27, H_r0_27⟩, ⟨r0_28, R_r0_28, H_r0_28⟩, ⟨r0_34, R_r0_34, H_r0_34⟩, J_r0, Y_r0⟩ := id H_r0
  have G_r0 : mF T R r0 := ⟨J_r0, Y_r0, T_r0⟩
  obtain ⟨w_r0_1_4, k0_r0_1_4⟩ : ∃ x, I r0_1 4 = x := ⟨_, rfl⟩
  have gw_r0_1_4 := rg w_r0_1_4
  have ow_r0_1_4 := IM.c4 hI R_r0_1 k0_r0_1_4
  obtain ⟨w_r0_1_5, k0_r0_1_5⟩ : ∃ x, I r0_1 5 = x := ⟨_, rfl⟩
  have gw_r0_1_5 := rg w_r0_1_5
  have ow_r0_1_5 := IM.c5 hI R_r0_1 k0_r0_1_5
  obtain ⟨w_r0_1_3, k0_r0_1_3⟩ : ∃ x, I r0_1 3 = x := ⟨_, rfl⟩
  have gw_r0_1_3 := rg w_r0_1_3
  have ow_r0_1_3 := IM.c3 hI R_r0_1 k0_r0_1_3
  obtain ⟨g0, hg0⟩ : ∃ g, I r0_1 = g := ⟨_, rfl⟩
  have hg := hg0
  refine k_aload_n C rfl rfl rfl ?_
  refine c_VV C (a_X12_uses hI H_r0) rfl rfl rfl rfl rfl ⟨_, rfl, rfl, T_r0, Nat.le_of_ble_eq_true rfl⟩ rfl rfl (Nat.le_of_ble_eq_true rfl) (Nat.le_of_ble_eq_true rfl) (Nat.le_of_ble_eq_true rfl) ?_
  rintro I2 L3 ⟨hI2, S4⟩
  have e5 := CM.j S4 R_r0_1 (by decide) k0_r0_1_4
  have e6 := CM.j S4 R_r0_1 (by decide) k0_r0_1_5
  have e7 := CM.j S4 R_r0_1 (by decide) k0_r0_1_3
  have hg := (CM.j0 S4 R_r0_1 (by decide)).trans hg
  refine k_aload_n C rfl rfl rfl ?_
  refine z_iconst C (z := 0) rfl rfl rfl (fun x8 ex8 => ?_)
  refine z_pI C rfl rfl rfl T_r0 (Or.inr rfl) rfl (fun I9 uI9 => ?_)
  have hI9 : IM R r0 I9 := IM.fld hI2 G_r0 ⟨(fun h => absurd h (by decide)), (fun _ => ⟨by omega, by omega⟩), (fun h => absurd h (by decide)), (fun h => absurd h (by decide)), (fun h => absurd h (by decide))⟩ uI9
  have S10 : CM A R r0 [15] [] I2 L3 I9 L3 := CM.f G_r0 A_r0 uI9
  have e11 := u2_n uI9 (mF.ne G_r0 R_r0_1) e5
  have e12 := u2_n uI9 (mF.ne G_r0 R_r0_1) e6
  have e13 := u2_n uI9 (mF.ne G_r0 R_r0_1) e7
  have e14 := u2_e uI9
  have hg := (CM.j0 S10 R_r0_1 (by decide)).trans hg
  refine k_aload_n C rfl rfl rfl ?_
  refine z_iconst C (z := 0) rfl rfl rfl (fun x15 ex15 => ?_)
  refine z_pI C rfl rfl rfl T_r0 (Or.inr rfl) rfl (fun I16 uI16 => ?_)
  have hI16 : IM R r0 I16 := IM.fld hI9 G_r0 ⟨(fun h => absurd h (by decide)), (fun h => absurd h (by decide)), (fun _ => ⟨by omega, by omega⟩), (fun h => absurd h (by decide)), (fun h => absurd h (by decide))⟩ uI16
  have S17 : CM A R r0 [16] [] I9 L3 I16 L3 := CM.f G_r0 A_r0 uI16
  have e18 := u2_n uI16 (mF.ne G_r0 R_r0_1) e11
  have e19 := u2_n uI16 (mF.ne G_r0 R_r0_1) e12
  have e20 := u2_n uI16 (mF.ne G_r0 R_r0_1) e13
  have e21 := u2_j uI16 (by first | decide | exact ncne (by omega) (by omega) (by omega) | exact nckn (by omega) (by omega) | exact (nckn (by omega) (by omega)).symm) e14
  have e22 := u2_e uI16
  have hg := (CM.j0 S17 R_r0_1 (by decide)).trans hg
  refine k_aload_n C rfl rfl rfl ?_
  refine z_iconst C (z := 0) rfl rfl rfl (fun x23 ex23 => ?_)
  refine z_pI C rfl rfl rfl T_r0 (Or.inr rfl) rfl (fun I24 uI24 => ?_)
  have hI24 : IM R r0 I24 := IM.fld hI16 G_r0 ⟨(fun h => absurd h (by decide)), (fun h => absurd h (by decide)), (fun h => absurd h (by decide)), (fun h => absurd h (by decide)), (fun h => absurd h (by decide))⟩ uI24
  have S25 : CM A R r0 [19] [] I16 L3 I24 L3 := CM.f G_r0 A_r0 uI24
  have e26 := u2_n uI24 (mF.ne G_r0 R_r0_1) e18
  have e27 := u2_n uI24 (mF.ne G_r0 R_r0_1) e19
  have e28 := u2_n uI24 (mF.ne G_r0 R_r0_1) e20
  have e29 := u2_j uI24 (by first | decide | exact ncne (by omega) (by omega) (by omega) | exact nckn (by omega) (by omega) | exact (nckn (by omega) (by omega)).symm) e21
  have e30 := u2_j uI24 (by first | decide | exact ncne (by omega) (by omega) (by omega) | exact nckn (by omega) (by omega) | exact (nckn (by omega) (by omega)).symm) e22
  have e31 := u2_e uI24
  have hg := (CM.j0 S25 R_r0_1 (by decide)).trans hg
  refine k_aload_n C rfl rfl rfl ?_
  refine c_VI C (a_X12_readSum_0 hI24 H_r0 (by first | omega | (simp only [hg, e26, e27, e28, e29, e30, e31] <;> omega)) (fun a1 h1 => by cases (R_r0_1.symm.trans h1); simp only [hg, e26, e27, e28, e29, e30, e31]; exact PD.z (by omega)) (fun a1 h1 => by cases (R_r0_1.symm.trans h1); simp only [hg, e26, e27, e28, e29, e30, e31]; (have hz := Hgt.z (g := g0) (x := x23) (by omega)); omega)) rfl rfl rfl rfl rfl ⟨_, rfl, rfl, T_r0, Nat.le_of_ble_eq_true rfl⟩ rfl rfl (Nat.le_of_ble_eq_true rfl) (Nat.le_of_ble_eq_true rfl) (Nat.le_of_ble_eq_true rfl) ?_
  rintro x32 I33 L34 ⟨o0x32, o1x32, p0x32, p1x32, p2x32, hI33, S35⟩
  have p0x32 := p0x32 r0_1 R_r0_1
  have p1x32 := p1x32 r0_1 R_r0_1
  have p2x32 := p2x32 r0_1 R_r0_1
  have e36 := (p2x32 4 (by decide)).trans e26
  have e37 := (p2x32 5 (by decide)).trans e27
  have e38 := (p2x32 3 (by decide)).trans e28
  have gx32 := rg x32
  obtain ⟨x42, e43⟩ : ∃ x, I33 r0 15 = x := ⟨_, rfl⟩
  have gx42 := rg x42
  have ox42 := IM.f15 hI33 e43
  obtain ⟨x44, e45⟩ : ∃ x, I33 r0 16 = x := ⟨_, rfl⟩
  have gx44 := rg x44
  have ox44 := IM.f16 hI33 e45
  obtain ⟨x46, e47⟩ : ∃ x, I33 r0 19 = x := ⟨_, rfl⟩
  have gx46 := rg x46
  obtain ⟨x48, e49⟩ : ∃ x, I33 r0 12 = x := ⟨_, rfl⟩
  have gx48 := rg x48
  have ox48 := IM.f12 hI33 e49
  obtain ⟨gS35, hgS35⟩ : ∃ g, I33 r0_1 = g := ⟨_, rfl⟩
  try simp only [e26, e27, e28, e29, e30, e31, e43, e45, e47, e49, hg, hgS35] at p0x32
  try have q0x32 := congrArg Int32.toInt p0x32
  try simp only [e26, e27, e28, e29, e30, e31, e43, e45, e47, e49, hg, hgS35] at p1x32
  try have q1x32 := congrArg Int32.toInt p1x32
  have hgo := hg
  have hg := hgS35
  have hP0 := p0x32
  have hP1 := p1x32
  refine k_istore_n C (lw := [(1, .int x32), (0, .ref r0)]) rfl rfl (Nat.le_of_ble_eq_true rfl) rfl ?_
  refine k_iload_n C rfl rfl rfl ?_
  refine b_if_eq C (t := 49) rfl rfl rfl (fun c50 => ?_) (fun c50 => ?_)
  · skip
    refine k_aload_n C rfl rfl rfl ?_
    refine k_iload_n C rfl rfl rfl ?_
    refine b_if_eq C (t := 58) rfl rfl rfl (fun c51 => ?_) (fun c51 => by exfalso; omega)
    refine k_aload_n C rfl rfl rfl ?_
    refine z_gI C rfl rfl rfl T_r0 rfl (fun x52 ex52 => ?_)
    have gx52 := rg x52
    have ox52 := IM.f14 hI33 ex52
    refine z_pI C rfl rfl rfl T_r0 (Or.inr rfl) rfl (fun I53 uI53 => ?_)
    have hI53 : IM R r0 I53 := IM.fld hI33 G_r0 ⟨(fun h => absurd h (by decide)), (fun h => absurd h (by decide)), (fun h => absurd h (by decide)), (fun h => absurd h (by decide)), (fun h => absurd h (by decide))⟩ uI53
    have S54 : CM A R r0 [17] [] I33 L34 I53 L34 := CM.f G_r0 A_r0 uI53
    have e55 := u2_n uI53 (mF.ne G_r0 R_r0_1) e36
    have e56 := u2_n uI53 (mF.ne G_r0 R_r0_1) e37
    have e57 := u2_n uI53 (mF.ne G_r0 R_r0_1) e38
    have e58 := u2_j uI53 (by first | decide | exact ncne (by omega) (by omega) (by omega) | exact nckn (by omega) (by omega) | exact (nckn (by omega) (by omega)).symm) e43
    have e59 := u2_j uI53 (by first | decide | exact ncne (by omega) (by omega) (by omega) | exact nckn (by omega) (by omega) | exact (nckn (by omega) (by omega)).symm) e45
    have e60 := u2_j uI53 (by first | decide | exact ncne (by omega) (by omega) (by omega) | exact nckn (by omega) (by omega) | exact (nckn (by omega) (by omega)).symm) e47
    have e61 := u2_j uI53 (by first | decide | exact ncne (by omega) (by omega) (by omega) | exact nckn (by omega) (by omega) | exact (nckn (by omega) (by omega)).symm) e49
    have e62 := u2_j uI53 (by first | decide | exact ncne (by omega) (by omega) (by omega) | exact nckn (by omega) (by omega) | exact (nckn (by omega) (by omega)).symm) ex52
    have e63 := u2_e uI53
    have hg := (CM.j0 S54 R_r0_1 (by decide)).trans hg
    refine k_aload_n C rfl rfl rfl ?_
    refine k_iload_n C rfl rfl rfl ?_
    refine b_if_ne C (t := 74) rfl rfl rfl (fun c64 => by exfalso; omega) (fun c64 => ?_)
    refine z_iconst C (z := 1) rfl rfl rfl (fun x65 ex65 => ?_)
    refine k_goto C (pc2 := 75) rfl rfl ?_
    refine z_iconst C (z := 1) rfl rfl rfl (fun x66 ex66 => ?_)
    have q67 : x65.toNatClampNeg = 1 := nck (by omega)
    have q68 : x66.toNatClampNeg = 1 := nck (by omega)
    refine c_VI C (a_X12_throwsIf hI53 H_r0 (by omega) (by omega)) rfl rfl rfl rfl rfl ⟨_, rfl, rfl, T_r0, Nat.le_of_ble_eq_true rfl⟩ rfl rfl (Nat.le_of_ble_eq_true rfl) (Nat.le_of_ble_eq_true rfl) (Nat.le_of_ble_eq_true rfl) ?_
    rintro x69 I70 L71 ⟨o0x69, o1x69, p0x69, hI70, S72⟩
    have e73 := CM.j S72 R_r0_1 (by decide) e55
    have e74 := CM.j S72 R_r0_1 (by decide) e56
    have e75 := CM.j S72 R_r0_1 (by decide) e57
    have e76 := CM.k S72 (by decide) e58
    have e77 := CM.k S72 (by decide) e59
    have e78 := CM.k S72 (by decide) e60
    have e79 := CM.k S72 (by decide) e61
    have e80 := CM.k S72 (by decide) e62
    have e81 := CM.k S72 (by decide) e63
    have gx69 := rg x69
    have hg := (CM.j0 S72 R_r0_1 (by decide)).trans hg
    try simp only [q67, q68, e55, e56, e57, e58, e59, e60, e61, e62, e63] at p0x69
    try have q0x69 := congrArg Int32.toInt p0x69
    refine b_if_ne C (t := 106) rfl rfl rfl (fun c82 => ?_) (fun c82 => by exfalso; omega)
    refine z_iconst C (z := 0) rfl rfl rfl (fun x83 ex83 => ?_)
    exact k_iret C rfl (Or.inl rfl) (Nat.le_of_ble_eq_true rfl) (Nat.le_of_ble_eq_true rfl) ⟨_, _, _, rfl, rfl, by omega, by omega, fun a1 h1 => by cases (R_r0_1.symm.trans h1); first | omega | (simp only [e73, e74, e75, e76, e77, e78, e79, e80, e81, k0_r0_1_4, k0_r0_1_5, k0_r0_1_3] <;> omega), hI70, (CM.cons S4 (CM.cons S10 (CM.cons S17 (CM.cons S25 (CM.cons S35 (CM.cons S54 (CM.mono S72 (by decide) (by decide)) (by decide) (by decide)) (by decide) (by decide)) (by decide) (by decide)) (by decide) (by decide)) (by decide) (by decide)) (by decide) (by decide))⟩
  have hPD := hP1 (by omega)
  have hPq := hP0 (by omega)
  refine k_aload_n C rfl rfl rfl ?_
  refine c_VV C (a_X12_blanks hI33 H_r0) rfl rfl rfl rfl rfl ⟨_, rfl, rfl, T_r0, Nat.le_of_ble_eq_true rfl⟩ rfl rfl (Nat.le_of_ble_eq_true rfl) (Nat.le_of_ble_eq_true rfl) (Nat.le_of_ble_eq_true rfl) ?_
  rintro I85 L86 ⟨hI85, S87⟩
  have e88 := CM.j S87 R_r0_1 (by decide) e36
  have e89 := CM.j S87 R_r0_1 (by decide) e37
  have e90 := CM.j S87 R_r0_1 (by decide) e38
  have e91 := CM.k S87 (by decide) e43
  have e92 := CM.k S87 (by decide) e45
  have e93 := CM.k S87 (by decide) e47
  obtain ⟨x95, e96⟩ : ∃ x, I85 r0 12 = x := ⟨_, rfl⟩
  have gx95 := rg x95
  have ox95 := IM.f12 hI85 e96
  have hg := (CM.j0 S87 R_r0_1 (by decide)).trans hg
  refine k_aload_n C rfl rfl rfl ?_
  refine g_I C rfl rfl rfl T_r0 rfl e96 ?_
  refine k_aload_n C rfl rfl rfl ?_
  refine z_gI C rfl rfl rfl T_r0 rfl (fun x97 ex97 => ?_)
  have gx97 := rg x97
  have ox97 := IM.f13 hI85 ex97
  refine b_icmp_ne C (t := 47) rfl rfl rfl (fun c98 => ?_) (fun c98 => ?_)
  · skip
    refine z_iconst C (z := 0) rfl rfl rfl (fun x99 ex99 => ?_)
    refine k_istore_n C (lw := [(1, .int x99), (0, .ref r0)]) rfl rfl (Nat.le_of_ble_eq_true rfl) rfl ?_
    refine k_aload_n C rfl rfl rfl ?_
    refine k_iload_n C rfl rfl rfl ?_
    refine b_if_eq C (t := 58) rfl rfl rfl (fun c100 => ?_) (fun c100 => by exfalso; omega)
    refine k_aload_n C rfl rfl rfl ?_
    refine z_gI C rfl rfl rfl T_r0 rfl (fun x101 ex101 => ?_)
    have gx101 := rg x101
    have ox101 := IM.f14 hI85 ex101
    refine z_pI C rfl rfl rfl T_r0 (Or.inr rfl) rfl (fun I102 uI102 => ?_)
    have hI102 : IM R r0 I102 := IM.fld hI85 G_r0 ⟨(fun h => absurd h (by decide)), (fun h => absurd h (by decide)), (fun h => absurd h (by decide)), (fun h => absurd h (by decide)), (fun h => absurd h (by decide))⟩ uI102
    have S103 : CM A R r0 [17] [] I85 L86 I102 L86 := CM.f G_r0 A_r0 uI102
    have e104 := u2_n uI102 (mF.ne G_r0 R_r0_1) e88
    have e105 := u2_n uI102 (mF.ne G_r0 R_r0_1) e89
    have e106 := u2_n uI102 (mF.ne G_r0 R_r0_1) e90
    have e107 := u2_j uI102 (by first | decide | exact ncne (by omega) (by omega) (by omega) | exact nckn (by omega) (by omega) | exact (nckn (by omega) (by omega)).symm) e91
    have e108 := u2_j uI102 (by first | decide | exact ncne (by omega) (by omega) (by omega) | exact nckn (by omega) (by omega) | exact (nckn (by omega) (by omega)).symm) e92
    have e109 := u2_j uI102 (by first | decide | exact ncne (by omega) (by omega) (by omega) | exact nckn (by omega) (by omega) | exact (nckn (by omega) (by omega)).symm) e93
    have e110 := u2_j uI102 (by first | decide | exact ncne (by omega) (by omega) (by omega) | exact nckn (by omega) (by omega) | exact (nckn (by omega) (by omega)).symm) e96
    have e111 := u2_j uI102 (by first | decide | exact ncne (by omega) (by omega) (by omega) | exact nckn (by omega) (by omega) | exact (nckn (by omega) (by omega)).symm) ex97
    have e112 := u2_j uI102 (by first | decide | exact ncne (by omega) (by omega) (by omega) | exact nckn (by omega) (by omega) | exact (nckn (by omega) (by omega)).symm) ex101
    have e113 := u2_e uI102
    have hg := (CM.j0 S103 R_r0_1 (by decide)).trans hg
    refine k_aload_n C rfl rfl rfl ?_
    refine k_iload_n C rfl rfl rfl ?_
    refine b_if_ne C (t := 74) rfl rfl rfl (fun c114 => by exfalso; omega) (fun c114 => ?_)
    refine z_iconst C (z := 1) rfl rfl rfl (fun x115 ex115 => ?_)
    refine k_goto C (pc2 := 75) rfl rfl ?_
    refine z_iconst C (z := 1) rfl rfl rfl (fun x116 ex116 => ?_)
    have q117 : x115.toNatClampNeg = 1 := nck (by omega)
    have q118 : x116.toNatClampNeg = 1 := nck (by omega)
    refine c_VI C (a_X12_throwsIf hI102 H_r0 (by omega) (by omega)) rfl rfl rfl rfl rfl ⟨_, rfl, rfl, T_r0, Nat.le_of_ble_eq_true rfl⟩ rfl rfl (Nat.le_of_ble_eq_true rfl) (Nat.le_of_ble_eq_true rfl) (Nat.le_of_ble_eq_true rfl) ?_
    rintro x119 I120 L121 ⟨o0x119, o1x119, p0x119, hI120, S122⟩
    have e123 := CM.j S122 R_r0_1 (by decide) e104
    have e124 := CM.j S122 R_r0_1 (by decide) e105
    have e125 := CM.j S122 R_r0_1 (by decide) e106
    have e126 := CM.k S122 (by decide) e107
    have e127 := CM.k S122 (by decide) e108
    have e128 := CM.k S122 (by decide) e109
    have e129 := CM.k S122 (by decide) e110
    have e130 := CM.k S122 (by decide) e111
    have e131 := CM.k S122 (by decide) e112
    have e132 := CM.k S122 (by decide) e113
    have gx119 := rg x119
    have hg := (CM.j0 S122 R_r0_1 (by decide)).trans hg
    try simp only [q117, q118, e104, e105, e106, e107, e108, e109, e110, e111, e112, e113] at p0x119
    try have q0x119 := congrArg Int32.toInt p0x119
    refine b_if_ne C (t := 106) rfl rfl rfl (fun c133 => ?_) (fun c133 => by exfalso; omega)
    refine z_iconst C (z := 0) rfl rfl rfl (fun x134 ex134 => ?_)
    exact k_iret C rfl (Or.inl rfl) (Nat.le_of_ble_eq_true rfl) (Nat.le_of_ble_eq_true rfl) ⟨_, _, _, rfl, rfl, by omega, by omega, fun a1 h1 => by cases (R_r0_1.symm.trans h1); first | omega | (simp only [e123, e124, e125, e126, e127, e128, e129, e130, e131, e132, k0_r0_1_4, k0_r0_1_5, k0_r0_1_3] <;> omega), hI120, (CM.cons S4 (CM.cons S10 (CM.cons S17 (CM.cons S25 (CM.cons S35 (CM.cons S87 (CM.cons S103 (CM.mono S122 (by decide) (by decide)) (by decide) (by decide)) (by decide) (by decide)) (by decide) (by decide)) (by decide) (by decide)) (by decide) (by decide)) (by decide) (by decide)) (by decide) (by decide))⟩
  refine z_iconst C (z := 1) rfl rfl rfl (fun x135 ex135 => ?_)
  refine k_goto C (pc2 := 48) rfl rfl ?_
  refine k_istore_n C (lw := [(1, .int x135), (0, .ref r0)]) rfl rfl (Nat.le_of_ble_eq_true rfl) rfl ?_
  refine k_aload_n C rfl rfl rfl ?_
  refine k_iload_n C rfl rfl rfl ?_
  refine b_if_eq C (t := 58) rfl rfl rfl (fun c136 => by exfalso; omega) (fun c136 => ?_)
  refine z_iconst C (z := -1) rfl rfl rfl (fun x137 ex137 => ?_)
  refine k_goto C (pc2 := 62) rfl rfl ?_
  refine z_pI C rfl rfl rfl T_r0 (Or.inr rfl) rfl (fun I138 uI138 => ?_)
  have hI138 : IM R r0 I138 := IM.fld hI85 G_r0 ⟨(fun h => absurd h (by decide)), (fun h => absurd h (by decide)), (fun h => absurd h (by decide)), (fun h => absurd h (by decide)), (fun h => absurd h (by decide))⟩ uI138
  have S139 : CM A R r0 [17] [] I85 L86 I138 L86 := CM.f G_r0 A_r0 uI138
  have e140 := u2_n uI138 (mF.ne G_r0 R_r0_1) e88
  have e141 := u2_n uI138 (mF.ne G_r0 R_r0_1) e89
  have e142 := u2_n uI138 (mF.ne G_r0 R_r0_1) e90
  have e143 := u2_j uI138 (by first | decide | exact ncne (by omega) (by omega) (by omega) | exact nckn (by omega) (by omega) | exact (nckn (by omega) (by omega)).symm) e91
  have e144 := u2_j uI138 (by first | decide | exact ncne (by omega) (by omega) (by omega) | exact nckn (by omega) (by omega) | exact (nckn (by omega) (by omega)).symm) e92
  have e145 := u2_j uI138 (by first | decide | exact ncne (by omega) (by omega) (by omega) | exact nckn (by omega) (by omega) | exact (nckn (by omega) (by omega)).symm) e93
  have e146 := u2_j uI138 (by first | decide | exact ncne (by omega) (by omega) (by omega) | exact nckn (by omega) (by omega) | exact (nckn (by omega) (by omega)).symm) e96
  have e147 := u2_j uI138 (by first | decide | exact ncne (by omega) (by omega) (by omega) | exact nckn (by omega) (by omega) | exact (nckn (by omega) (by omega)).symm) ex97
  have e148 := u2_e uI138
  have hg := (CM.j0 S139 R_r0_1 (by decide)).trans hg
  refine k_aload_n C rfl rfl rfl ?_
  refine k_iload_n C rfl rfl rfl ?_
  refine b_if_ne C (t := 74) rfl rfl rfl (fun c149 => ?_) (fun c149 => by exfalso; omega)
  refine z_iconst C (z := 0) rfl rfl rfl (fun x150 ex150 => ?_)
  refine z_iconst C (z := 1) rfl rfl rfl (fun x151 ex151 => ?_)
  have q152 : x150.toNatClampNeg = 0 := nck (by omega)
  have q153 : x151.toNatClampNeg = 1 := nck (by omega)
  refine c_VI C (a_X12_throwsIf hI138 H_r0 (by omega) (by omega)) rfl rfl rfl rfl rfl ⟨_, rfl, rfl, T_r0, Nat.le_of_ble_eq_true rfl⟩ rfl rfl (Nat.le_of_ble_eq_true rfl) (Nat.le_of_ble_eq_true rfl) (Nat.le_of_ble_eq_true rfl) ?_
  rintro x154 I155 L156 ⟨o0x154, o1x154, p0x154, hI155, S157⟩
  have e158 := CM.j S157 R_r0_1 (by decide) e140
  have e159 := CM.j S157 R_r0_1 (by decide) e141
  have e160 := CM.j S157 R_r0_1 (by decide) e142
  have e161 := CM.k S157 (by decide) e143
  have e162 := CM.k S157 (by decide) e144
  have e163 := CM.k S157 (by decide) e145
  have e164 := CM.k S157 (by decide) e146
  have e165 := CM.k S157 (by decide) e147
  have e166 := CM.k S157 (by decide) e148
  have gx154 := rg x154
  have hg := (CM.j0 S157 R_r0_1 (by decide)).trans hg
  try simp only [q152, q153, e140, e141, e142, e143, e144, e145, e146, e147, e148] at p0x154
  try have q0x154 := congrArg Int32.toInt p0x154
  refine b_if_ne C (t := 106) rfl rfl rfl (fun c167 => by exfalso; omega) (fun c167 => ?_)
  refine k_aload_n C rfl rfl rfl ?_
  refine k_aload_n C rfl rfl rfl ?_
  refine g_R C rfl rfl rfl T_r0 rfl R_r0_1 ?_
  refine z_iconst C (z := 3) rfl rfl rfl (fun x168 ex168 => ?_)
  obtain ⟨T_r0_1, N_r0_1, A_r0_1⟩ := id H_r0_1
  refine a_I C rfl rfl T_r0_1 (by rw [N_r0_1]; exact vpi (by omega) (by omega)) ((congrArg (I155 r0_1) (nck (n := 3) (by omega))).trans e160) ?_
  refine z_bipush C (z := 8) rfl rfl rfl (fun x169 ex169 => ?_)
  refine b_icmp_ne C (t := 98) rfl rfl rfl (fun c170 => ?_) (fun c170 => ?_)
  · skip
    refine z_iconst C (z := 0) rfl rfl rfl (fun x171 ex171 => ?_)
    refine z_iconst C (z := 2) rfl rfl rfl (fun x172 ex172 => ?_)
    have q173 : x171.toNatClampNeg = 0 := nck (by omega)
    have q174 : x172.toNatClampNeg = 2 := nck (by omega)
    refine c_VI C (a_X12_throwsIf hI155 H_r0 (by omega) (by omega)) rfl rfl rfl rfl rfl ⟨_, rfl, rfl, T_r0, Nat.le_of_ble_eq_true rfl⟩ rfl rfl (Nat.le_of_ble_eq_true rfl) (Nat.le_of_ble_eq_true rfl) (Nat.le_of_ble_eq_true rfl) ?_
    rintro x175 I176 L177 ⟨o0x175, o1x175, p0x175, hI176, S178⟩
    have e179 := CM.j S178 R_r0_1 (by decide) e158
    have e180 := CM.j S178 R_r0_1 (by decide) e159
    have e181 := CM.j S178 R_r0_1 (by decide) e160
    have e182 := CM.k S178 (by decide) e161
    have e183 := CM.k S178 (by decide) e162
    have e184 := CM.k S178 (by decide) e163
    have e185 := CM.k S178 (by decide) e164
    have e186 := CM.k S178 (by decide) e165
    have e187 := CM.k S178 (by decide) e166
    have gx175 := rg x175
    have hg := (CM.j0 S178 R_r0_1 (by decide)).trans hg
    try simp only [q173, q174, e158, e159, e160, e161, e162, e163, e164, e165, e166] at p0x175
    try have q0x175 := congrArg Int32.toInt p0x175
    refine b_if_eq C (t := 108) rfl rfl rfl (fun c188 => ?_) (fun c188 => by exfalso; omega)
    refine k_aload_n C rfl rfl rfl ?_
    refine g_R C rfl rfl rfl T_r0 rfl R_r0_1 ?_
    refine z_iconst C (z := 3) rfl rfl rfl (fun x189 ex189 => ?_)
    refine a_I C rfl rfl T_r0_1 (by rw [N_r0_1]; exact vpi (by omega) (by omega)) ((congrArg (I176 r0_1) (nck (n := 3) (by omega))).trans e181) ?_
    refine k_istore_n C (lw := [(2, .int w_r0_1_3), (1, .int x135), (0, .ref r0)]) rfl rfl (Nat.le_of_ble_eq_true rfl) rfl ?_
    refine k_aload_n C rfl rfl rfl ?_
    refine g_R C rfl rfl rfl T_r0 rfl R_r0_1 ?_
    refine z_sipush C (z := 3606) rfl rfl rfl (fun x190 ex190 => ?_)
    refine k_aload_n C rfl rfl rfl ?_
    refine g_I C rfl rfl rfl T_r0 rfl e184 ?_
    refine z_sI C rfl rfl T_r0_1 N_r0_1 (by omega) (by omega) (fun I191 uI191 => ?_)
    have uI191 : I191 = u2 I176 r0_1 3606 (x46) := by rw [uI191, nck (n := 3606) (by omega)]
    have hI191 : IM R r0 I191 := IM.arr hI176 G_r0 R_r0_1 ⟨(fun h => absurd h (by decide)), (fun h => absurd h (by decide)), (fun h => absurd h (by decide))⟩ (fun _ => WOK.drn (IM.w hI176 R_r0_1) (by decide)) uI191
    have S192 : CM A R r0 [] [1] I176 L177 I191 L177 := CM.a G_r0 R_r0_1 A_r0_1 uI191
    have e193 := u2_j uI191 (by first | decide | exact ncne (by omega) (by omega) (by omega) | exact nckn (by omega) (by omega) | exact (nckn (by omega) (by omega)).symm) e179
    have e194 := u2_j uI191 (by first | decide | exact ncne (by omega) (by omega) (by omega) | exact nckn (by omega) (by omega) | exact (nckn (by omega) (by omega)).symm) e180
    have e195 := u2_j uI191 (by first | decide | exact ncne (by omega) (by omega) (by omega) | exact nckn (by omega) (by omega) | exact (nckn (by omega) (by omega)).symm) e181
    have e196 := u2_n uI191 (fun e => (mF.ne G_r0 R_r0_1) e.symm) e182
    have e197 := u2_n uI191 (fun e => (mF.ne G_r0 R_r0_1) e.symm) e183
    have e198 := u2_n uI191 (fun e => (mF.ne G_r0 R_r0_1) e.symm) e184
    have e199 := u2_n uI191 (fun e => (mF.ne G_r0 R_r0_1) e.symm) e185
    have e200 := u2_n uI191 (fun e => (mF.ne G_r0 R_r0_1) e.symm) e186
    have e201 := u2_n uI191 (fun e => (mF.ne G_r0 R_r0_1) e.symm) e187
    have e202 := u2_e uI191
    have hSG := SGN.dr hPD hg uI191 (by omega) (by omega)
    refine z_iconst C (z := 0) rfl rfl rfl (fun x203 ex203 => ?_)
    have J204 : ∀ (nn205 : Nat) (I206 : IT) (L207 : LT) (x208 : Int32) (x213 : Int32) (x217 : Int32) (x221 : Int32), ((401 - x208.toInt).toNat = nn205) → (IM R r0 I206) → (CM A R r0 [] [1] I191 L177 I206 L207) → (0 ≤ x208.toInt) → (x208.toInt ≤ 401) → (I206 r0_1 3 = x213) → (0 ≤ x213.toInt) → (x213.toInt ≤ 8) → (I206 r0_1 4 = x217) → (0 ≤ x217.toInt) → (x217.toInt ≤ 40) → (I206 r0_1 5 = x221) → (0 ≤ x221.toInt) → (x221.toInt ≤ 40) → (x213.toInt = w_r0_1_3.toInt) → (x217.toInt = w_r0_1_4.toInt) → (x221.toInt = w_r0_1_5.toInt) → (SGN (I206 r0_1) 3606) → (CPS (I206 r0_1) (198 + 401 * w_r0_1_3.toNatClampNeg) x208.toInt) → V 129 [(0, .ref r0), (2, .int w_r0_1_3), (3, .int x208)] [] (T, N, I206, L207, R) 0 0 := by
      intro nn205
      induction nn205 using Nat.strongRecOn with
      | _ nn205 ihJ204 =>
        intro I206 L207 x208 x213 x217 x221 hmnn205 hI212 S211 b209 b210 e214 b215 b216 e218 b219 b220 e222 b223 b224 ff129_0 ff129_1 ff129_2 ff129_3 ff129_4
        have gx208 := rg x208
        have gx213 := rg x213
        have gx217 := rg x217
        have gx221 := rg x221
        have e225 := CM.k S211 (by decide) e196
        have e226 := CM.k S211 (by decide) e197
        have e227 := CM.k S211 (by decide) e198
        have e228 := CM.k S211 (by decide) e199
        have e229 := CM.k S211 (by decide) e200
        have e230 := CM.k S211 (by decide) e201
        refine k_iload_n C rfl rfl rfl ?_
        refine z_sipush C (z := 401) rfl rfl rfl (fun x231 ex231 => ?_)
        refine b_icmp_ge C (t := 168) rfl rfl rfl (fun c232 => ?_) (fun c232 => ?_)
        · skip
          refine k_aload_n C rfl rfl rfl ?_
          refine g_R C rfl rfl rfl T_r0 rfl R_r0_1 ?_
          refine z_iconst C (z := 3) rfl rfl rfl (fun x233 ex233 => ?_)
          refine k_dup2 C rfl rfl rfl rfl ?_
          refine a_I C rfl rfl T_r0_1 (by rw [N_r0_1]; exact vpi (by omega) (by omega)) ((congrArg (I206 r0_1) (nck (n := 3) (by omega))).trans e214) ?_
          refine z_iconst C (z := 1) rfl rfl rfl (fun x234 ex234 => ?_)
          refine z_iadd C rfl rfl ⟨by omega, by omega⟩ (fun x235 ex235 => ?_)
          refine z_sI C rfl rfl T_r0_1 N_r0_1 (by omega) (by omega) (fun I236 uI236 => ?_)
          have uI236 : I236 = u2 I206 r0_1 3 (x235) := by rw [uI236, nck (n := 3) (by omega)]
          have hI236 : IM R r0 I236 := IM.arr hI212 G_r0 R_r0_1 ⟨(fun h => absurd h (by decide)), (fun h => absurd h (by decide)), (fun h => absurd h (by decide))⟩ (fun _ => WOK.c3 (IM.w hI212 R_r0_1) (s := w_r0_1_3) (by rw [e214]; omega) (by omega) (by omega) (SGN.cp ff129_3 ff129_4 (by omega))) uI236
          have S237 : CM A R r0 [] [1] I206 L207 I236 L207 := CM.a G_r0 R_r0_1 A_r0_1 uI236
          have e238 := u2_n uI236 (fun e => (mF.ne G_r0 R_r0_1) e.symm) e225
          have e239 := u2_n uI236 (fun e => (mF.ne G_r0 R_r0_1) e.symm) e226
          have e240 := u2_n uI236 (fun e => (mF.ne G_r0 R_r0_1) e.symm) e227
          have e241 := u2_n uI236 (fun e => (mF.ne G_r0 R_r0_1) e.symm) e228
          have e242 := u2_n uI236 (fun e => (mF.ne G_r0 R_r0_1) e.symm) e229
          have e243 := u2_n uI236 (fun e => (mF.ne G_r0 R_r0_1) e.symm) e230
          have e245 := u2_j uI236 (by first | decide | exact ncne (by omega) (by omega) (by omega) | exact nckn (by omega) (by omega) | exact (nckn (by omega) (by omega)).symm) e218
          have e246 := u2_j uI236 (by first | decide | exact ncne (by omega) (by omega) (by omega) | exact nckn (by omega) (by omega) | exact (nckn (by omega) (by omega)).symm) e222
          have e247 := u2_e uI236
          refine k_iload_n C rfl rfl rfl ?_
          exact k_iret C rfl (Or.inl rfl) (Nat.le_of_ble_eq_true rfl) (Nat.le_of_ble_eq_true rfl) ⟨_, _, _, rfl, rfl, by omega, by omega, fun a1 h1 => by cases (R_r0_1.symm.trans h1); first | omega | (simp only [e238, e239, e240, e241, e242, e243, e245, e246, e247, k0_r0_1_4, k0_r0_1_5, k0_r0_1_3] <;> omega), hI236, (CM.cons S4 (CM.cons S10 (CM.cons S17 (CM.cons S25 (CM.cons S35 (CM.cons S87 (CM.cons S139 (CM.cons S157 (CM.cons S178 (CM.cons S192 (CM.cons S211 (CM.mono S237 (by decide) (by decide)) (by decide) (by decide)) (by decide) (by decide)) (by decide) (by decide)) (by decide) (by decide)) (by decide) (by decide)) (by decide) (by decide)) (by decide) (by decide)) (by decide) (by decide)) (by decide) (by decide)) (by decide) (by decide)) (by decide) (by decide))⟩
        refine k_aload_n C rfl rfl rfl ?_
        refine g_R C rfl rfl rfl T_r0 rfl R_r0_1 ?_
        refine z_sipush C (z := 198) rfl rfl rfl (fun x248 ex248 => ?_)
        refine z_sipush C (z := 401) rfl rfl rfl (fun x249 ex249 => ?_)
        refine k_iload_n C rfl rfl rfl ?_
        refine z_imulL C (c := 401) rfl rfl (by omega) ⟨by omega, by omega⟩ (fun x250 ex250 => ?_)
        refine z_iadd C rfl rfl ⟨by omega, by omega⟩ (fun x251 ex251 => ?_)
        refine k_iload_n C rfl rfl rfl ?_
        refine z_iadd C rfl rfl ⟨by omega, by omega⟩ (fun x252 ex252 => ?_)
        refine k_aload_n C rfl rfl rfl ?_
        refine g_R C rfl rfl rfl T_r0 rfl R_r0_1 ?_
        refine z_sipush C (z := 3606) rfl rfl rfl (fun x253 ex253 => ?_)
        refine k_iload_n C rfl rfl rfl ?_
        refine z_iadd C rfl rfl ⟨by omega, by omega⟩ (fun x254 ex254 => ?_)
        refine z_aI C rfl rfl T_r0_1 N_r0_1 (by omega) (by omega) (fun x255 ex255 => ?_)
        have gx255 := rg x255
        have hr := ex255
        refine z_sI C rfl rfl T_r0_1 N_r0_1 (by omega) (by omega) (fun I256 uI256 => ?_)
        have hI256 : IM R r0 I256 := IM.arr hI212 G_r0 R_r0_1 ⟨(fun h => absurd h (by decide)), (fun h => absurd h (by decide)), (fun h => absurd h (by decide))⟩ (fun _ => WOK.sg (IM.w hI212 R_r0_1) (s := w_r0_1_3) (by rw [e214]; omega) (by omega) ⟨by omega, by omega⟩) uI256
        have S257 : CM A R r0 [] [1] I206 L207 I256 L207 := CM.a G_r0 R_r0_1 A_r0_1 uI256
        have e258 := u2_n uI256 (fun e => (mF.ne G_r0 R_r0_1) e.symm) e225
        have e259 := u2_n uI256 (fun e => (mF.ne G_r0 R_r0_1) e.symm) e226
        have e260 := u2_n uI256 (fun e => (mF.ne G_r0 R_r0_1) e.symm) e227
        have e261 := u2_n uI256 (fun e => (mF.ne G_r0 R_r0_1) e.symm) e228
        have e262 := u2_n uI256 (fun e => (mF.ne G_r0 R_r0_1) e.symm) e229
        have e263 := u2_n uI256 (fun e => (mF.ne G_r0 R_r0_1) e.symm) e230
        have e264 := u2_j uI256 (by first | decide | exact ncne (by omega) (by omega) (by omega) | exact nckn (by omega) (by omega) | exact (nckn (by omega) (by omega)).symm) e214
        have e265 := u2_j uI256 (by first | decide | exact ncne (by omega) (by omega) (by omega) | exact nckn (by omega) (by omega) | exact (nckn (by omega) (by omega)).symm) e218
        have e266 := u2_j uI256 (by first | decide | exact ncne (by omega) (by omega) (by omega) | exact nckn (by omega) (by omega) | exact (nckn (by omega) (by omega)).symm) e222
        have e267 := u2_j uI256 (by first | decide | exact ncne (by omega) (by omega) (by omega) | exact nckn (by omega) (by omega) | exact (nckn (by omega) (by omega)).symm) ex255
        have e268 := u2_e uI256
        have hu161 := uI256
        refine z_iinc C (z := 1) (lw := fun x269 => [(3, .int x269), (0, .ref r0), (2, .int w_r0_1_3)]) rfl rfl rfl (Nat.le_of_ble_eq_true rfl) rfl ⟨by omega, by omega⟩ (fun _ => rfl) (fun x269 ex269 => ?_)
        show V 165 [(3, .int x269), (0, .ref r0), (2, .int w_r0_1_3)] _ _ _ _
        refine k_goto C (pc2 := 129) rfl rfl ?_
        refine k_sub S [(0, .ref r0), (2, .int w_r0_1_3), (3, .int x269)] (List.forall_mem_cons.mpr ⟨List.mem_of_getElem? (i := 1) rfl, List.forall_mem_cons.mpr ⟨List.mem_of_getElem? (i := 2) rfl, List.forall_mem_cons.mpr ⟨List.mem_of_getElem? (i := 0) rfl, fun _ h => nomatch h⟩⟩⟩) ?_
        exact ihJ204 _ (by omega) I256 L207 x269 x213 x217 x221 rfl hI256 (CM.cons S211 (CM.mono S257 (by decide) (by decide)) (by decide) (by decide)) (by omega) (by omega) e264 (by omega) (by omega) e265 (by omega) (by omega) e266 (by omega) (by omega) (by omega) (by omega) (by omega) (by exact SGN.w ff129_3 hu161 (by omega) (by omega)) (by exact CPS.s ff129_4 hu161 hr ⟨by omega, by omega⟩ ⟨by omega, by omega⟩ (by omega) (by omega) (by omega))
    refine k_istore_n C (lw := [(3, .int x203), (2, .int w_r0_1_3), (1, .int x135), (0, .ref r0)]) rfl rfl (Nat.le_of_ble_eq_true rfl) rfl ?_
    refine k_sub S [(0, .ref r0), (2, .int w_r0_1_3), (3, .int x203)] (List.forall_mem_cons.mpr ⟨List.mem_of_getElem? (i := 3) rfl, List.forall_mem_cons.mpr ⟨List.mem_of_getElem? (i := 1) rfl, List.forall_mem_cons.mpr ⟨List.mem_of_getElem? (i := 0) rfl, fun _ h => nomatch h⟩⟩⟩) ?_
    exact J204 _ I191 L177 x203 w_r0_1_3 w_r0_1_4 w_r0_1_5 rfl hI191 CM.rf (by omega) (by omega) e195 (by omega) (by omega) e193 (by omega) (by omega) e194 (by omega) (by omega) (by omega) (by omega) (by omega) (by exact hSG) (by exact CPS.z (by omega))
  refine z_iconst C (z := 1) rfl rfl rfl (fun x270 ex270 => ?_)
  refine k_goto C (pc2 := 99) rfl rfl ?_
  refine z_iconst C (z := 2) rfl rfl rfl (fun x271 ex271 => ?_)
  have q272 : x270.toNatClampNeg = 1 := nck (by omega)
  have q273 : x271.toNatClampNeg = 2 := nck (by omega)
  refine c_VI C (a_X12_throwsIf hI155 H_r0 (by omega) (by omega)) rfl rfl rfl rfl rfl ⟨_, rfl, rfl, T_r0, Nat.le_of_ble_eq_true rfl⟩ rfl rfl (Nat.le_of_ble_eq_true rfl) (Nat.le_of_ble_eq_true rfl) (Nat.le_of_ble_eq_true rfl) ?_
  rintro x274 I275 L276 ⟨o0x274, o1x274, p0x274, hI275, S277⟩
  have e278 := CM.j S277 R_r0_1 (by decide) e158
  have e279 := CM.j S277 R_r0_1 (by decide) e159
  have e280 := CM.j S277 R_r0_1 (by decide) e160
  have e281 := CM.k S277 (by decide) e161
  have e282 := CM.k S277 (by decide) e162
  have e283 := CM.k S277 (by decide) e163
  have e284 := CM.k S277 (by decide) e164
  have e285 := CM.k S277 (by decide) e165
  have e286 := CM.k S277 (by decide) e166
  have gx274 := rg x274
  have hg := (CM.j0 S277 R_r0_1 (by decide)).trans hg
  try simp only [q272, q273, e158, e159, e160, e161, e162, e163, e164, e165, e166] at p0x274
  try have q0x274 := congrArg Int32.toInt p0x274
  refine b_if_eq C (t := 108) rfl rfl rfl (fun c287 => by exfalso; omega) (fun c287 => ?_)
  refine z_iconst C (z := 0) rfl rfl rfl (fun x288 ex288 => ?_)
  exact k_iret C rfl (Or.inl rfl) (Nat.le_of_ble_eq_true rfl) (Nat.le_of_ble_eq_true rfl) ⟨_, _, _, rfl, rfl, by omega, by omega, fun a1 h1 => by cases (R_r0_1.symm.trans h1); first | omega | (simp only [e278, e279, e280, e281, e282, e283, e284, e285, e286, k0_r0_1_4, k0_r0_1_5, k0_r0_1_3] <;> omega), hI275, (CM.cons S4 (CM.cons S10 (CM.cons S17 (CM.cons S25 (CM.cons S35 (CM.cons S87 (CM.cons S139 (CM.cons S157 (CM.mono S277 (by decide) (by decide)) (by decide) (by decide)) (by decide) (by decide)) (by decide) (by decide)) (by decide) (by decide)) (by decide) (by decide)) (by decide) (by decide)) (by decide) (by decide)) (by decide) (by decide))⟩

