/-! the reference: told, det, at: exactly -/
theorem vaS.cg {p x y : Int} {f g : Nat → Int} {D : Nat} : ∀ m, m ≤ D + 1 → (∀ k, k ≤ D → f k = g k) → vaS p f x y D m = vaS p g x y D m
  | 0, _, _ => rfl
  | m + 1, h, e => by
    show (vaS p f x y D m + (f m * (PWI x p (D - m) * PWI y p m).tmod p).tmod p).tmod p = (vaS p g x y D m + (g m * (PWI x p (D - m) * PWI y p m).tmod p).tmod p).tmod p
    rw [vaS.cg m (by omega) e, e m (by omega)]
theorem VAD.cg {s p x y x' y' D D' : Int} {f g : Nat → Int} (h : VAD s p f x y D) (e : ∀ k : Nat, (k : Int) ≤ D → f k = g k) (h0 : 0 ≤ D) (ex : x = x') (ey : y = y') (eD : D = D') : VAD s p g x' y' D' := by
  subst ex; subst ey; subst eD
  unfold VAD at *
  rw [h]; exact vaS.cg _ (Nat.le_refl _) (fun k hk => e k (by omega))
theorem PWI.pe {a p : Int} : ∀ n, PmE p (PWI a p n) (POW a n)
  | 0 => PmE.rf
  | n + 1 => (PmE.tm _).tr ((PWI.pe n).ml PmE.rf)
theorem vaS.h {p x y : Int} {f : Nat → Int} {D : Nat} : ∀ m, m ≤ D + 1 → PmE p (vaS p f x y D m) (HRV x y f m * POW x (D + 1 - m))
  | 0, _ => by
    show PmE p 0 (0 * _)
    rw [Int.zero_mul]; exact PmE.rf
  | m + 1, h => by
    have ih := vaS.h (p := p) (x := x) (y := y) (f := f) (D := D) m (by omega)
    have e1 : D + 1 - m = (D - m) + 1 := by omega
    have e2 : D + 1 - (m + 1) = D - m := by omega
    rw [e1] at ih
    have ih : PmE p (vaS p f x y D m) (HRV x y f m * (POW x (D - m) * x)) := ih
    rw [e2]
    show PmE p ((vaS p f x y D m + (f m * (PWI x p (D - m) * PWI y p m).tmod p).tmod p).tmod p) ((HRV x y f m * x + f m * POW y m) * POW x (D - m))
    have q : PmE p (f m * (PWI x p (D - m) * PWI y p m).tmod p) (f m * (POW x (D - m) * POW y m)) := PmE.rf.ml ((PmE.tm _).tr ((PWI.pe _).ml (PWI.pe _)))
    have r := (PmE.tm (vaS p f x y D m + (f m * (PWI x p (D - m) * PWI y p m).tmod p).tmod p)).tr (ih.ad ((PmE.tm _).tr q))
    rwa [show HRV x y f m * (POW x (D - m) * x) + f m * (POW x (D - m) * POW y m) = (HRV x y f m * x + f m * POW y m) * POW x (D - m) from by grind] at r
theorem vaS.b {p x y : Int} {f : Nat → Int} {D : Nat} (hp : 0 < p) (hx : 0 ≤ x) (hy : 0 ≤ y) (e : ∀ k, k ≤ D → 0 ≤ f k) : ∀ m, m ≤ D + 1 → 0 ≤ vaS p f x y D m ∧ vaS p f x y D m < p
  | 0, _ => ⟨Int.le_refl 0, hp⟩
  | m + 1, h => by
    have ih := (vaS.b hp hx hy e m (by omega)).1
    show 0 ≤ (vaS p f x y D m + (f m * (PWI x p (D - m) * PWI y p m).tmod p).tmod p).tmod p ∧ (vaS p f x y D m + (f m * (PWI x p (D - m) * PWI y p m).tmod p).tmod p).tmod p < p
    exact ⟨Int.tmod_nonneg _ (Int.add_nonneg ih (Int.tmod_nonneg _ (Int.mul_nonneg (e m (by omega)) (Int.tmod_nonneg _ (Int.mul_nonneg (PWI.p hx _) (PWI.p hy _)))))), Int.tmod_lt_of_pos _ hp⟩
theorem a_X12_det_x {d : Nat} {T N : Nat → Nat} {I : IT} {L : LT} {R : RT} {A : Nat → Prop} {r0 : Nat} {n1 : Int32} (hI : IM R r0 I) (H_r0 : (h_MD T N R A) r0) : Ex (d + 4) 240 [.ref r0, .int n1] (T, N, I, L, R) 0 0 (pI T N R (fun x9 I9 L9 => (-18 ≤ x9.toInt) ∧ (x9.toInt ≤ 18) ∧ (∀ a1, R r0 1 = some a1 → (n1.toInt < 0 ∨ (I a1 2).toInt ≤ n1.toInt) ∧ (I9 r0 0).toInt = 1 ∨ ¬ (n1.toInt < 0 ∨ (I a1 2).toInt ≤ n1.toInt) ∧ (I9 r0 0).toInt = 0 ∧ DTN x9.toInt (I a1 (166 + 4 * n1.toNatClampNeg + 0)).toInt (I a1 (166 + 4 * n1.toNatClampNeg + 1)).toInt (I a1 (166 + 4 * n1.toNatClampNeg + 2)).toInt (I a1 (166 + 4 * n1.toNatClampNeg + 3)).toInt (I a1 0).toInt) ∧ (IM R r0 I9 ∧ CM A R r0 [0, 6, 7, 8, 9] [] I L I9 L9))) := by
  refine ⟨_, rfl, Nat.le_of_ble_eq_true rfl, fun V C S => ?_⟩
  show V 0 [(0, .ref r0), (1, .int n1)] [] (T, N, I, L, R) 0 0
  have gn1 := rg n1
  obtain ⟨T_r0, A_r0, ⟨r0_1, R_r0_1, H_r0_1⟩, ⟨r0_2, R_r0_2, H_r0_2⟩, ⟨r0_4, R_r0_4, H_r0_4⟩, ⟨r0_5, R_r0_5, H_r0_5⟩, ⟨r0_10, R_r0_10, H_r0_10⟩, ⟨r0_18, R_r0_18, H_r0_18⟩, ⟨r0_20, R_r0_20, H_r0_20⟩, ⟨r0_21, R_r0_21, H_r0_21⟩, ⟨r0_22, R_r0_22, H_r0_22⟩, ⟨r0_23, R_r0_23, H_r0_23⟩, ⟨r0_25, R_r0_25, H_r0_25⟩, ⟨r0_26, R_r0_26, H_r0_26⟩, ⟨r0_27, R_r0_27, H_r0_27⟩, ⟨r0_28, R_r0_28, H_r0_28⟩, ⟨r0_34, R_r0_34, H_r0_34⟩, J_r0, Y_r0⟩ := id H_r0
  have G_r0 : mF T R r0 := ⟨J_r0, Y_r0, T_r0⟩
  obtain ⟨w_r0_1_2, k0_r0_1_2⟩ : ∃ x, I r0_1 2 = x := ⟨_, rfl⟩
  have gw_r0_1_2 := rg w_r0_1_2
  have ow_r0_1_2 := IM.c2 hI R_r0_1 k0_r0_1_2
  obtain ⟨w_r0_1_0, k0_r0_1_0⟩ : ∃ x, I r0_1 0 = x := ⟨_, rfl⟩
  have gw_r0_1_0 := rg w_r0_1_0
  have ow_r0_1_0 := IM.pi hI R_r0_1 k0_r0_1_0
  refine k_aload_n C rfl rfl rfl ?_
  refine z_iconst C (z := 0) rfl rfl rfl (fun x1 ex1 => ?_)
  refine z_pI C rfl rfl rfl T_r0 (Or.inr rfl) rfl (fun I2 uI2 => ?_)
  have hI2 : IM R r0 I2 := IM.fld hI G_r0 ⟨(fun h => absurd h (by decide)), (fun h => absurd h (by decide)), (fun h => absurd h (by decide)), (fun h => absurd h (by decide)), (fun h => absurd h (by decide))⟩ uI2
  have S3 : CM A R r0 [0] [] I L I2 L := CM.f G_r0 A_r0 uI2
  have e4 := u2_n uI2 (mF.ne G_r0 R_r0_1) k0_r0_1_2
  have e5 := u2_n uI2 (mF.ne G_r0 R_r0_1) k0_r0_1_0
  have e6 := u2_e uI2
  refine k_aload_n C rfl rfl rfl ?_
  refine k_aload_n C rfl rfl rfl ?_
  refine k_iload_n C rfl rfl rfl ?_
  refine c_VI C (a_X12_noTable_e hI2 H_r0) rfl rfl rfl rfl rfl ⟨_, rfl, rfl, T_r0, Nat.le_of_ble_eq_true rfl⟩ rfl rfl (Nat.le_of_ble_eq_true rfl) (Nat.le_of_ble_eq_true rfl) (Nat.le_of_ble_eq_true rfl) ?_
  rintro x7 _ _ ⟨o0x7, o1x7, p0x7, rfl, rfl⟩
  have p0x7 := p0x7 r0_1 R_r0_1
  have gx7 := rg x7
  try simp only [e4, e5, e6, e4] at p0x7
  try have q0x7 := congrArg Int32.toInt p0x7
  refine z_iconst C (z := 1) rfl rfl rfl (fun x8 ex8 => ?_)
  have q9 : x8.toNatClampNeg = 1 := nck (by omega)
  refine c_VI C (a_X12_throwsIf_e hI2 H_r0 (by omega) (by omega)) rfl rfl rfl rfl rfl ⟨_, rfl, rfl, T_r0, Nat.le_of_ble_eq_true rfl⟩ rfl rfl (Nat.le_of_ble_eq_true rfl) (Nat.le_of_ble_eq_true rfl) (Nat.le_of_ble_eq_true rfl) ?_
  rintro x10 I11 L12 ⟨o0x10, o1x10, p0x10, p1x10, hI11, S13⟩
  have e14 := CM.j S13 R_r0_1 (by decide) e4
  have e15 := CM.j S13 R_r0_1 (by decide) e5
  have gx10 := rg x10
  obtain ⟨x17, e18⟩ : ∃ x, I11 r0 0 = x := ⟨_, rfl⟩
  have gx17 := rg x17
  try simp only [q9, e4, e5, e6, e18] at p0x10
  try have q0x10 := congrArg Int32.toInt p0x10
  try simp only [q9, e4, e5, e6, e18] at p1x10
  try have q1x10 := congrArg Int32.toInt p1x10
  refine b_if_eq C (t := 20) rfl rfl rfl (fun c19 => ?_) (fun c19 => ?_)
  · skip
    refine k_aload_n C rfl rfl rfl ?_
    refine k_iload_n C rfl rfl rfl ?_
    have hw22 := CM.j0 (W := [0]) (WA := []) (CM.cons S3 (CM.mono S13 (by decide) (by decide)) (by decide) (by decide)) R_r0_1 (by decide)
    refine c_VV C (a_X12_tables_x hI11 H_r0 (by omega) (by omega)) rfl rfl rfl rfl rfl ⟨_, rfl, rfl, T_r0, Nat.le_of_ble_eq_true rfl⟩ rfl rfl (Nat.le_of_ble_eq_true rfl) (Nat.le_of_ble_eq_true rfl) (Nat.le_of_ble_eq_true rfl) ?_
    rintro I21 L22 ⟨p0v20, p1v20, p2v20, p3v20, hI21, S23⟩
    have p0v20 := p0v20 r0_1 R_r0_1
    have p1v20 := p1v20 r0_1 R_r0_1
    have p2v20 := p2v20 r0_1 R_r0_1
    have p3v20 := p3v20 r0_1 R_r0_1
    have e24 := CM.j S23 R_r0_1 (by decide) e14
    have e25 := CM.j S23 R_r0_1 (by decide) e15
    have e26 := CM.k S23 (by decide) e18
    obtain ⟨x27, e28⟩ : ∃ x, I21 r0 6 = x := ⟨_, rfl⟩
    have gx27 := rg x27
    have ox27 := IM.f6 hI21 e28
    obtain ⟨x29, e30⟩ : ∃ x, I21 r0 7 = x := ⟨_, rfl⟩
    have gx29 := rg x29
    have ox29 := IM.f7 hI21 e30
    obtain ⟨x31, e32⟩ : ∃ x, I21 r0 8 = x := ⟨_, rfl⟩
    have gx31 := rg x31
    have ox31 := IM.f8 hI21 e32
    obtain ⟨x33, e34⟩ : ∃ x, I21 r0 9 = x := ⟨_, rfl⟩
    have gx33 := rg x33
    have ox33 := IM.f9 hI21 e34
    try simp only [e14, e15, e18, e28, e30, e32, e34] at p0v20
    try have q0v20 := congrArg Int32.toInt p0v20
    try simp only [e14, e15, e18, e28, e30, e32, e34] at p1v20
    try have q1v20 := congrArg Int32.toInt p1v20
    try simp only [e14, e15, e18, e28, e30, e32, e34] at p2v20
    try have q2v20 := congrArg Int32.toInt p2v20
    try simp only [e14, e15, e18, e28, e30, e32, e34] at p3v20
    try have q3v20 := congrArg Int32.toInt p3v20
    have ht6 := p0v20
    have ht7 := p1v20
    have ht8 := p2v20
    have ht9 := p3v20
    rw [hw22] at ht6 ht7 ht8 ht9
    refine k_aload_n C rfl rfl rfl ?_
    refine c_VI C (a_X12_detNow_e hI21 H_r0) rfl rfl rfl rfl rfl ⟨_, rfl, rfl, T_r0, Nat.le_of_ble_eq_true rfl⟩ rfl rfl (Nat.le_of_ble_eq_true rfl) (Nat.le_of_ble_eq_true rfl) (Nat.le_of_ble_eq_true rfl) ?_
    rintro x35 _ _ ⟨o0x35, o1x35, p0x35, rfl, rfl⟩
    have p0x35 := p0x35 r0_1 R_r0_1
    have gx35 := rg x35
    try simp only [e24, e25, e26, e28, e30, e32, e34] at p0x35
    try have q0x35 := congrArg Int32.toInt p0x35
    have hdt := p0x35
    exact k_iret C rfl (Or.inl rfl) (Nat.le_of_ble_eq_true rfl) (Nat.le_of_ble_eq_true rfl) ⟨_, _, _, rfl, rfl, by omega, by omega, fun a1 h1 => by cases (R_r0_1.symm.trans h1); exact Or.inr ⟨by simp only [k0_r0_1_2]; omega, by rw [e26]; omega, by rw [← ht6, ← ht7, ← ht8, ← ht9, k0_r0_1_0]; exact hdt⟩, hI21, (CM.cons S3 (CM.cons S13 (CM.mono S23 (by decide) (by decide)) (by decide) (by decide)) (by decide) (by decide))⟩
  refine z_iconst C (z := 0) rfl rfl rfl (fun x36 ex36 => ?_)
  exact k_iret C rfl (Or.inl rfl) (Nat.le_of_ble_eq_true rfl) (Nat.le_of_ble_eq_true rfl) ⟨_, _, _, rfl, rfl, by omega, by omega, fun a1 h1 => by cases (R_r0_1.symm.trans h1); exact Or.inl ⟨by simp only [k0_r0_1_2]; omega, by rw [e18]; omega⟩, hI11, (CM.cons S3 (CM.mono S13 (by decide) (by decide)) (by decide) (by decide))⟩

