/-! the reference: told, det, at: exactly -/
theorem vaS.cg {p x y : Int} {f g : Nat → Int} {D : Nat} : ∀ m, m ≤ D + 1 → (∀ k, k ≤ D → f k = g k) → vaS p f x y D m = vaS p g x y D m
  | 0, _, _ => rfl
  | m + 1, h, e => by
    show (vaS p f x y D m + (f m * (PWI x p (D - m) * PWI y p m).tmod p).tmod p).tmod p = (vaS p g x y D m + (g m * (PWI x p (D - m) * PWI y p m).tmod p).tmod p).tmod p
    rw [vaS.cg m (by omega) e, e m (by omega)]
theorem VAD.cg {s p x y x' y' D D' : Int} {f g : Nat → Int} (h : VAD s p f x y D) (e : ∀ k : Nat, (k : Int) ≤ D → f k = g k) (h0 : 0 ≤ D) (ex : x = x') (ey : y = y') (eD : D = D') : VAD s p g x' y' D' := by
  subst ex; subst ey; subst eD
  unfold VAD at *
  rw [h]; exact vaS.cg _ (Nat.le_refl _) (fun k hk => e k (by omega))
theorem PWI.pe {a p : Int} : ∀ n, PmE p (PWI a p n) (POW a n)
  | 0 => PmE.rf
  | n + 1 => (PmE.tm _).tr ((PWI.pe n).ml PmE.rf)
theorem vaS.h {p x y : Int} {f : Nat → Int} {D : Nat} : ∀ m, m ≤ D + 1 → PmE p (vaS p f x y D m) (HRV x y f m * POW x (D + 1 - m))
  | 0, _ => by
    show PmE p 0 (0 * _)
    rw [Int.zero_mul]; exact PmE.rf
  | m + 1, h => by
    have ih := vaS.h (p := p) (x := x) (y := y) (f := f) (D := D) m (by omega)
    have e1 : D + 1 - m = (D - m) + 1 := by omega
    have e2 : D + 1 - (m + 1) = D - m := by omega
    rw [e1] at ih
    have ih : PmE p (vaS p f x y D m) (HRV x y f m * (POW x (D - m) * x)) := ih
    rw [e2]
    show PmE p ((vaS p f x y D m + (f m * (PWI x p (D - m) * PWI y p m).tmod p).tmod p).tmod p) ((HRV x y f m * x + f m * POW y m) * POW x (D - m))
    have q : PmE p (f m * (PWI x p (D - m) * PWI y p m).tmod p) (f m * (POW x (D - m) * POW y m)) := PmE.rf.ml ((PmE.tm _).tr ((PWI.pe _).ml (PWI.pe _)))
    have r := (PmE.tm (vaS p f x y D m + (f m * (PWI x p (D - m) * PWI y p m).tmod p).tmod p)).tr (ih.ad ((PmE.tm _).tr q))
    rwa [show HRV x y f m * (POW x (D - m) * x) + f m * (POW x (D - m) * POW y m) = (HRV x y f m * x + f m * POW y m) * POW x (D - m) from by grind] at r
theorem vaS.b {p x y : Int} {f : Nat → Int} {D : Nat} (hp : 0 < p) (hx : 0 ≤ x) (hy : 0 ≤ y) (e : ∀ k, k ≤ D → 0 ≤ f k) : ∀ m, m ≤ D + 1 → 0 ≤ vaS p f x y D m ∧ vaS p f x y D m < p
  | 0, _ => ⟨Int.le_refl 0, hp⟩
  | m + 1, h => by
    have ih := (vaS.b hp hx hy e m (by omega)).1
    show 0 ≤ (vaS p f x y D m + (f m * (PWI x p (D - m) * PWI y p m).tmod p).tmod p).tmod p ∧ (vaS p f x y D m + (f m * (PWI x p (D - m) * PWI y p m).tmod p).tmod p).tmod p < p
    exact ⟨Int.tmod_nonneg _ (Int.add_nonneg ih (Int.tmod_nonneg _ (Int.mul_nonneg (e m (by omega)) (Int.tmod_nonneg _ (Int.mul_nonneg (PWI.p hx _) (PWI.p hy _)))))), Int.tmod_lt_of_pos _ hp⟩
theorem a_X12_at_x {d : Nat} {T N : Nat → Nat} {I : IT} {L : LT} {R : RT} {A : Nat → Prop} {r0 : Nat} {n1 n2 n3 : Int32} (hI : IM R r0 I) (H_r0 : (h_MD T N R A) r0) : Ex (d + 5) 242 [.ref r0, .int n1, .int n2, .int n3] (T, N, I, L, R) 0 0 (pI T N R (fun x9 I9 L9 => (-18 ≤ x9.toInt) ∧ (x9.toInt ≤ 18) ∧ (∀ a1, R r0 1 = some a1 → (n1.toInt < 0 ∨ (I a1 1).toInt ≤ n1.toInt) ∧ (I9 r0 0).toInt = 1 ∨ ¬ (n1.toInt < 0 ∨ (I a1 1).toInt ≤ n1.toInt) ∧ (I9 r0 0).toInt = 0 ∧ VAD x9.toInt (I a1 0).toInt (fun k => (I a1 (7 + 10 * n1.toNatClampNeg + k)).toInt) (n2.toInt % (I a1 0).toInt) (n3.toInt % (I a1 0).toInt) (I a1 (6 + 10 * n1.toNatClampNeg)).toInt) ∧ (IM R r0 I9 ∧ CM A R r0 [0] [4, 5] I L I9 L9))) := by
  refine ⟨_, rfl, Nat.le_of_ble_eq_true rfl, fun V C S => ?_⟩
  show V 0 [(0, .ref r0), (1, .int n1), (2, .int n2), (3, .int n3)] [] (T, N, I, L, R) 0 0
  have gn1 := rg n1
  have gn2 := rg n2
  have gn3 := rg n3
  obtain ⟨T_r0, A_r0, ⟨r0_1, R_r0_1, H_r0_1⟩, ⟨r0_2, R_r0_2, H_r0_2⟩, ⟨r0_4, R_r0_4, H_r0_4⟩, ⟨r0_5, R_r0_5, H_r0_5⟩, ⟨r0_10, R_r0_10, H_r0_10⟩, ⟨r0_18, R_r0_18, H_r0_18⟩, ⟨r0_20, R_r0_20, H_r0_20⟩, ⟨r0_21, R_r0_21, H_r0_21⟩, ⟨r0_22, R_r0_22, H_r0_22⟩, ⟨r0_23, R_r0_23, H_r0_23⟩, ⟨r0_25, R_r0_25, H_r0_25⟩, ⟨r0_26, R_r0_26, H_r0_26⟩, ⟨r0_27, R_r0_27, H_r0_27⟩, ⟨r0_28, R_r0_28, H_r0_28⟩, ⟨r0_34, R_r0_34, H_r0_34⟩, J_r0, Y_r0⟩ := id H_r0
  have G_r0 : mF T R r0 := ⟨J_r0, Y_r0, T_r0⟩
  obtain ⟨w_r0_1_1, k0_r0_1_1⟩ : ∃ x, I r0_1 1 = x := ⟨_, rfl⟩
  have gw_r0_1_1 := rg w_r0_1_1
  have ow_r0_1_1 := IM.c1 hI R_r0_1 k0_r0_1_1
  obtain ⟨w_r0_1_0, k0_r0_1_0⟩ : ∃ x, I r0_1 0 = x := ⟨_, rfl⟩
  have gw_r0_1_0 := rg w_r0_1_0
  have ow_r0_1_0 := IM.pi hI R_r0_1 k0_r0_1_0
  obtain ⟨w_r0_1_E_6_10_n1_toNatClampNeg, k0_r0_1_E_6_10_n1_toNatClampNeg⟩ : ∃ x, I r0_1 (6 + 10 * n1.toNatClampNeg) = x := ⟨_, rfl⟩
  have gw_r0_1_E_6_10_n1_toNatClampNeg := rg w_r0_1_E_6_10_n1_toNatClampNeg
  refine k_aload_n C rfl rfl rfl ?_
  refine z_iconst C (z := 0) rfl rfl rfl (fun x1 ex1 => ?_)
  refine z_pI C rfl rfl rfl T_r0 (Or.inr rfl) rfl (fun I2 uI2 => ?_)
  have hI2 : IM R r0 I2 := IM.fld hI G_r0 ⟨(fun h => absurd h (by decide)), (fun h => absurd h (by decide)), (fun h => absurd h (by decide)), (fun h => absurd h (by decide)), (fun h => absurd h (by decide))⟩ uI2
  have S3 : CM A R r0 [0] [] I L I2 L := CM.f G_r0 A_r0 uI2
  have e4 := u2_n uI2 (mF.ne G_r0 R_r0_1) k0_r0_1_1
  have e5 := u2_n uI2 (mF.ne G_r0 R_r0_1) k0_r0_1_0
  have e6 := u2_n uI2 (mF.ne G_r0 R_r0_1) k0_r0_1_E_6_10_n1_toNatClampNeg
  have e7 := u2_e uI2
  refine k_aload_n C rfl rfl rfl ?_
  refine k_aload_n C rfl rfl rfl ?_
  refine k_iload_n C rfl rfl rfl ?_
  refine c_VI C (a_X12_noForm_e hI2 H_r0) rfl rfl rfl rfl rfl ⟨_, rfl, rfl, T_r0, Nat.le_of_ble_eq_true rfl⟩ rfl rfl (Nat.le_of_ble_eq_true rfl) (Nat.le_of_ble_eq_true rfl) (Nat.le_of_ble_eq_true rfl) ?_
  rintro x8 _ _ ⟨o0x8, o1x8, p0x8, rfl, rfl⟩
  have p0x8 := p0x8 r0_1 R_r0_1
  have gx8 := rg x8
  try simp only [e4, e5, e6, e7, e4] at p0x8
  try have q0x8 := congrArg Int32.toInt p0x8
  refine z_iconst C (z := 1) rfl rfl rfl (fun x9 ex9 => ?_)
  have q10 : x9.toNatClampNeg = 1 := nck (by omega)
  refine c_VI C (a_X12_throwsIf_e hI2 H_r0 (by omega) (by omega)) rfl rfl rfl rfl rfl ⟨_, rfl, rfl, T_r0, Nat.le_of_ble_eq_true rfl⟩ rfl rfl (Nat.le_of_ble_eq_true rfl) (Nat.le_of_ble_eq_true rfl) (Nat.le_of_ble_eq_true rfl) ?_
  rintro x11 I12 L13 ⟨o0x11, o1x11, p0x11, p1x11, hI12, S14⟩
  have e15 := CM.j S14 R_r0_1 (by decide) e4
  have e16 := CM.j S14 R_r0_1 (by decide) e5
  have e17 := CM.j S14 R_r0_1 (by decide) e6
  have gx11 := rg x11
  obtain ⟨x19, e20⟩ : ∃ x, I12 r0 0 = x := ⟨_, rfl⟩
  have gx19 := rg x19
  try simp only [q10, e4, e5, e6, e7, e20] at p0x11
  try have q0x11 := congrArg Int32.toInt p0x11
  try simp only [q10, e4, e5, e6, e7, e20] at p1x11
  try have q1x11 := congrArg Int32.toInt p1x11
  refine b_if_eq C (t := 20) rfl rfl rfl (fun c21 => ?_) (fun c21 => ?_)
  · skip
    refine k_aload_n C rfl rfl rfl ?_
    refine z_bipush C (z := 40) rfl rfl rfl (fun x22 ex22 => ?_)
    refine k_iload_n C rfl rfl rfl ?_
    have hw24 := CM.j0 (W := [0]) (WA := []) (CM.cons S3 (CM.mono S14 (by decide) (by decide)) (by decide) (by decide)) R_r0_1 (by decide)
    have q23 : x22.toNatClampNeg = 40 := nck (by omega)
    refine c_VV C (a_X12_takes_e hI12 H_r0 (by omega) (by omega) (by omega) (by omega)) rfl rfl rfl rfl rfl ⟨_, rfl, rfl, T_r0, Nat.le_of_ble_eq_true rfl⟩ rfl rfl (Nat.le_of_ble_eq_true rfl) (Nat.le_of_ble_eq_true rfl) (Nat.le_of_ble_eq_true rfl) ?_
    rintro I25 L26 ⟨p0v24, p1v24, p2v24, p3v24, p4v24, p5v24, hI25, S27⟩
    have p0v24 := p0v24 r0_4 R_r0_4
    have p1v24 := p1v24 r0_1 r0_4 R_r0_1 R_r0_4
    have p2v24 := p2v24 r0_1 r0_4 r0_5 R_r0_1 R_r0_4 R_r0_5
    have p3v24 := p3v24 r0_1 r0_4 r0_5 R_r0_1 R_r0_4 R_r0_5
    have p4v24 := p4v24 r0_4 R_r0_4
    have p5v24 := p5v24 r0_5 R_r0_5
    try simp only [q23] at p4v24
    try simp only [q23] at p5v24
    have e28 := CM.j S27 R_r0_1 (by decide) e15
    have e29 := CM.j S27 R_r0_1 (by decide) e16
    have e30 := CM.j S27 R_r0_1 (by decide) e17
    have e31 := CM.k S27 (by decide) e20
    obtain ⟨x32, e33⟩ : ∃ x, I25 r0_4 40 = x := ⟨_, rfl⟩
    have gx32 := rg x32
    have ox32 := IM.dgR hI25 R_r0_4 e33
    try simp only [q23, e15, e16, e17, e20, e33] at p0v24
    try have q0v24 := congrArg Int32.toInt p0v24
    try simp only [q23, e15, e16, e17, e20, e33] at p1v24
    try have q1v24 := congrArg Int32.toInt p1v24
    try simp only [q23, e15, e16, e17, e20, e33] at p2v24
    try have q2v24 := congrArg Int32.toInt p2v24
    try simp only [q23, e15, e16, e17, e20, e33] at p3v24
    try have q3v24 := congrArg Int32.toInt p3v24
    have hd24 := p1v24
    have hk24 := p3v24
    refine k_aload_n C rfl rfl rfl ?_
    refine z_bipush C (z := 40) rfl rfl rfl (fun x34 ex34 => ?_)
    refine k_aload_n C rfl rfl rfl ?_
    refine k_iload_n C rfl rfl rfl ?_
    refine z_i2l C rfl rfl (fun lg35 elg35 => ?_)
    refine c_VI C (a_X12_mod_e hI25 H_r0) rfl rfl rfl rfl rfl ⟨_, rfl, rfl, T_r0, Nat.le_of_ble_eq_true rfl⟩ rfl rfl (Nat.le_of_ble_eq_true rfl) (Nat.le_of_ble_eq_true rfl) (Nat.le_of_ble_eq_true rfl) ?_
    rintro x36 _ _ ⟨o0x36, o1x36, p0x36, p1x36, rfl, rfl⟩
    have p0x36 := p0x36 r0_1 R_r0_1
    have p1x36 := p1x36 r0_1 R_r0_1
    have gx36 := rg x36
    try simp only [e28, e29, e30, e31, e33] at p0x36
    try have q0x36 := congrArg Int32.toInt p0x36
    try simp only [e28, e29, e30, e31, e33] at p1x36
    try have q1x36 := congrArg Int32.toInt p1x36
    have hm33 : x36.toInt = n2.toInt % w_r0_1_0.toInt := p1x36.trans (by congr 1 <;> omega)
    refine k_aload_n C rfl rfl rfl ?_
    refine k_iload_n C rfl rfl rfl ?_
    refine z_i2l C rfl rfl (fun lg37 elg37 => ?_)
    refine c_VI C (a_X12_mod_e hI25 H_r0) rfl rfl rfl rfl rfl ⟨_, rfl, rfl, T_r0, Nat.le_of_ble_eq_true rfl⟩ rfl rfl (Nat.le_of_ble_eq_true rfl) (Nat.le_of_ble_eq_true rfl) (Nat.le_of_ble_eq_true rfl) ?_
    rintro x38 _ _ ⟨o0x38, o1x38, p0x38, p1x38, rfl, rfl⟩
    have p0x38 := p0x38 r0_1 R_r0_1
    have p1x38 := p1x38 r0_1 R_r0_1
    have gx38 := rg x38
    try simp only [e28, e29, e30, e31, e33] at p0x38
    try have q0x38 := congrArg Int32.toInt p0x38
    try simp only [e28, e29, e30, e31, e33] at p1x38
    try have q1x38 := congrArg Int32.toInt p1x38
    have hm39 : x38.toInt = n3.toInt % w_r0_1_0.toInt := p1x38.trans (by congr 1 <;> omega)
    have q39 : x34.toNatClampNeg = 40 := nck (by omega)
    refine c_VI C (a_X12_valueAt_e hI25 H_r0 (by omega) (by omega) (by omega) (by omega) (by omega) (by omega)) rfl rfl rfl rfl rfl ⟨_, rfl, rfl, T_r0, Nat.le_of_ble_eq_true rfl⟩ rfl rfl (Nat.le_of_ble_eq_true rfl) (Nat.le_of_ble_eq_true rfl) (Nat.le_of_ble_eq_true rfl) ?_
    rintro x40 _ _ ⟨o0x40, o1x40, p0x40, rfl, rfl⟩
    have p0x40 := p0x40 r0_1 r0_4 r0_5 R_r0_1 R_r0_4 R_r0_5
    have gx40 := rg x40
    try simp only [q39, e28, e29, e30, e31, e33] at p0x40
    try have q0x40 := congrArg Int32.toInt p0x40
    have hv := p0x40
    exact k_iret C rfl (Or.inl rfl) (Nat.le_of_ble_eq_true rfl) (Nat.le_of_ble_eq_true rfl) ⟨_, _, _, rfl, rfl, by omega, by omega, fun a1 h1 => by cases (R_r0_1.symm.trans h1); refine Or.inr ⟨by simp only [k0_r0_1_1]; omega, by rw [e31]; omega, ?_⟩; simp only [k0_r0_1_0, k0_r0_1_E_6_10_n1_toNatClampNeg]; exact VAD.cg hv (fun k hk => (hk24 k (by omega)).trans (by rw [hw24, show 6 + 10 * n1.toNatClampNeg + 1 + k = 7 + 10 * n1.toNatClampNeg + k from by omega])) (by omega) hm33 hm39 hd24, hI25, (CM.cons S3 (CM.cons S14 (CM.mono S27 (by decide) (by decide)) (by decide) (by decide)) (by decide) (by decide))⟩
  refine z_iconst C (z := 0) rfl rfl rfl (fun x41 ex41 => ?_)
  exact k_iret C rfl (Or.inl rfl) (Nat.le_of_ble_eq_true rfl) (Nat.le_of_ble_eq_true rfl) ⟨_, _, _, rfl, rfl, by omega, by omega, fun a1 h1 => by cases (R_r0_1.symm.trans h1); exact Or.inl ⟨by simp only [k0_r0_1_1]; omega, by rw [e20]; omega⟩, hI12, (CM.cons S3 (CM.mono S14 (by decide) (by decide)) (by decide) (by decide))⟩

