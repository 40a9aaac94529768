/-! the reference: told, det, at: exactly -/
theorem vaS.cg {p x y : Int} {f g : Nat → Int} {D : Nat} : ∀ m, m ≤ D + 1 → (∀ k, k ≤ D → f k = g k) → vaS p f x y D m = vaS p g x y D m
  | 0, _, _ => rfl
  | m + 1, h, e => by
    show (vaS p f x y D m + (f m * (PWI x p (D - m) * PWI y p m).tmod p).tmod p).tmod p = (vaS p g x y D m + (g m * (PWI x p (D - m) * PWI y p m).tmod p).tmod p).tmod p
    rw [vaS.cg m (by omega) e, e m (by omega)]
theorem VAD.cg {s p x y x' y' D D' : Int} {f g : Nat → Int} (h : VAD s p f x y D) (e : ∀ k : Nat, (k : Int) ≤ D → f k = g k) (h0 : 0 ≤ D) (ex : x = x') (ey : y = y') (eD : D = D') : VAD s p g x' y' D' := by
  subst ex; subst ey; subst eD
  unfold VAD at *
  rw [h]; exact vaS.cg _ (Nat.le_refl _) (fun k hk => e k (by omega))
theorem PWI.pe {a p : Int} : ∀ n, PmE p (PWI a p n) (POW a n)
  | 0 => PmE.rf
  | n + 1 => (PmE.tm _).tr ((PWI.pe n).ml PmE.rf)
theorem vaS.h {p x y : Int} {f : Nat → Int} {D : Nat} : ∀ m, m ≤ D + 1 → PmE p (vaS p f x y D m) (HRV x y f m * POW x (D + 1 - m))
  | 0, _ => by
    show PmE p 0 (0 * _)
    rw [Int.zero_mul]; exact PmE.rf
  | m + 1, h => by
    have ih := vaS.h (p := p) (x := x) (y := y) (f := f) (D := D) m (by omega)
    have e1 : D + 1 - m = (D - m) + 1 := by omega
    have e2 : D + 1 - (m + 1) = D - m := by omega
    rw [e1] at ih
    have ih : PmE p (vaS p f x y D m) (HRV x y f m * (POW x (D - m) * x)) := ih
    rw [e2]
    show PmE p ((vaS p f x y D m + (f m * (PWI x p (D - m) * PWI y p m).tmod p).tmod p).tmod p) ((HRV x y f m * x + f m * POW y m) * POW x (D - m))
    have q : PmE p (f m * (PWI x p (D - m) * PWI y p m).tmod p) (f m * (POW x (D - m) * POW y m)) := PmE.rf.ml ((PmE.tm _).tr ((PWI.pe _).ml (PWI.pe _)))
    have r := (PmE.tm (vaS p f x y D m + (f m * (PWI x p (D - m) * PWI y p m).tmod p).tmod p)).tr (ih.ad ((PmE.tm _).tr q))
    rwa [show HRV x y f m * (POW x (D - m) * x) + f m * (POW x (D - m) * POW y m) = (HRV x y f m * x + f m * POW y m) * POW x (D - m) from by grind] at r
theorem vaS.b {p x y : Int} {f : Nat → Int} {D : Nat} (hp : 0 < p) (hx : 0 ≤ x) (hy : 0 ≤ y) (e : ∀ k, k ≤ D → 0 ≤ f k) : ∀ m, m ≤ D + 1 → 0 ≤ vaS p f x y D m ∧ vaS p f x y D m < p
  | 0, _ => ⟨Int.le_refl 0, hp⟩
  | m + 1, h => by
    have ih := (vaS.b hp hx hy e m (by omega)).1
    show 0 ≤ (vaS p f x y D m + (f m * (PWI x p (D - m) * PWI y p m).tmod p).tmod p).tmod p ∧ (vaS p f x y D m + (f m * (PWI x p (D - m) * PWI y p m).tmod p).tmod p).tmod p < p
    exact ⟨Int.tmod_nonneg _ (Int.add_nonneg ih (Int.tmod_nonneg _ (Int.mul_nonneg (e m (by omega)) (Int.tmod_nonneg _ (Int.mul_nonneg (PWI.p hx _) (PWI.p hy _)))))), Int.tmod_lt_of_pos _ hp⟩
theorem a_X12_told_x {d : Nat} {T N : Nat → Nat} {I : IT} {L : LT} {R : RT} {A : Nat → Prop} {r0 : Nat} {n1 n2 : Int32} (hI : IM R r0 I) (H_r0 : (h_MD T N R A) r0) : Ex (d + 3) 239 [.ref r0, .int n1, .int n2] (T, N, I, L, R) 0 0 (pI T N R (fun x9 I9 L9 => (-18 ≤ x9.toInt) ∧ (x9.toInt ≤ 18) ∧ (∀ a1, R r0 1 = some a1 → (n1.toInt < 0 ∨ (I a1 2).toInt ≤ n1.toInt) ∧ (I9 r0 0).toInt = 1 ∨ ¬ (n1.toInt < 0 ∨ (I a1 2).toInt ≤ n1.toInt) ∧ (I9 r0 0).toInt = 0 ∧ (0 ≤ n2.toInt → n2.toInt < 4 → x9.toInt = (I a1 (166 + 4 * n1.toNatClampNeg + n2.toNatClampNeg)).toInt) ∧ (n2.toInt < 0 ∨ 4 ≤ n2.toInt → x9.toInt = -1)) ∧ (IM R r0 I9 ∧ CM A R r0 [0] [] I L I9 L9))) := by
  refine ⟨_, rfl, Nat.le_of_ble_eq_true rfl, fun V C S => ?_⟩
  show V 0 [(0, .ref r0), (1, .int n1), (2, .int n2)] [] (T, N, I, L, R) 0 0
  have gn1 := rg n1
  have gn2 := rg n2
  obtain ⟨T_r0, A_r0, ⟨r0_1, R_r0_1, H_r0_1⟩, ⟨r0_2, R_r0_2, H_r0_2⟩, ⟨r0_4, R_r0_4, H_r0_4⟩, ⟨r0_5, R_r0_5, H_r0_5⟩, ⟨r0_10, R_r0_10, H_r0_10⟩, ⟨r0_18, R_r0_18, H_r0_18⟩, ⟨r0_20, R_r0_20, H_r0_20⟩, ⟨r0_21, R_r0_21, H_r0_21⟩, ⟨r0_22, R_r0_22, H_r0_22⟩, ⟨r0_23, R_r0_23, H_r0_23⟩, ⟨r0_25, R_r0_25, H_r0_25⟩, ⟨r0_26, R_r0_26, H_r0_26⟩, ⟨r0_27, R_r0_27, H_r0_27⟩, ⟨r0_28, R_r0_28, H_r0_28⟩, ⟨r0_34, R_r0_34, H_r0_34⟩, J_r0, Y_r0⟩ := id H_r0
  have G_r0 : mF T R r0 := ⟨J_r0, Y_r0, T_r0⟩
  obtain ⟨w_r0_1_2, k0_r0_1_2⟩ : ∃ x, I r0_1 2 = x := ⟨_, rfl⟩
  have gw_r0_1_2 := rg w_r0_1_2
  have ow_r0_1_2 := IM.c2 hI R_r0_1 k0_r0_1_2
  refine k_aload_n C rfl rfl rfl ?_
  refine z_iconst C (z := 0) rfl rfl rfl (fun x1 ex1 => ?_)
  refine z_pI C rfl rfl rfl T_r0 (Or.inr rfl) rfl (fun I2 uI2 => ?_)
  have hI2 : IM R r0 I2 := IM.fld hI G_r0 ⟨(fun h => absurd h (by decide)), (fun h => absurd h (by decide)), (fun h => absurd h (by decide)), (fun h => absurd h (by decide)), (fun h => absurd h (by decide))⟩ uI2
  have S3 : CM A R r0 [0] [] I L I2 L := CM.f G_r0 A_r0 uI2
  have e4 := u2_n uI2 (mF.ne G_r0 R_r0_1) k0_r0_1_2
  have e5 := u2_e uI2
  refine k_aload_n C rfl rfl rfl ?_
  refine k_aload_n C rfl rfl rfl ?_
  refine k_iload_n C rfl rfl rfl ?_
  refine c_VI C (a_X12_noTable_e hI2 H_r0) rfl rfl rfl rfl rfl ⟨_, rfl, rfl, T_r0, Nat.le_of_ble_eq_true rfl⟩ rfl rfl (Nat.le_of_ble_eq_true rfl) (Nat.le_of_ble_eq_true rfl) (Nat.le_of_ble_eq_true rfl) ?_
  rintro x6 _ _ ⟨o0x6, o1x6, p0x6, rfl, rfl⟩
  have p0x6 := p0x6 r0_1 R_r0_1
  have gx6 := rg x6
  try simp only [e4, e5, e4] at p0x6
  try have q0x6 := congrArg Int32.toInt p0x6
  refine z_iconst C (z := 1) rfl rfl rfl (fun x7 ex7 => ?_)
  have q8 : x7.toNatClampNeg = 1 := nck (by omega)
  refine c_VI C (a_X12_throwsIf_e hI2 H_r0 (by omega) (by omega)) rfl rfl rfl rfl rfl ⟨_, rfl, rfl, T_r0, Nat.le_of_ble_eq_true rfl⟩ rfl rfl (Nat.le_of_ble_eq_true rfl) (Nat.le_of_ble_eq_true rfl) (Nat.le_of_ble_eq_true rfl) ?_
  rintro x9 I10 L11 ⟨o0x9, o1x9, p0x9, p1x9, hI10, S12⟩
  have e13 := CM.j S12 R_r0_1 (by decide) e4
  have gx9 := rg x9
  obtain ⟨x15, e16⟩ : ∃ x, I10 r0 0 = x := ⟨_, rfl⟩
  have gx15 := rg x15
  try simp only [q8, e4, e5, e16] at p0x9
  try have q0x9 := congrArg Int32.toInt p0x9
  try simp only [q8, e4, e5, e16] at p1x9
  try have q1x9 := congrArg Int32.toInt p1x9
  refine b_if_eq C (t := 22) rfl rfl rfl (fun c17 => ?_) (fun c17 => ?_)
  · skip
    refine k_iload_n C rfl rfl rfl ?_
    refine z_iconst C (z := 0) rfl rfl rfl (fun x18 ex18 => ?_)
    refine z_iconst C (z := 3) rfl rfl rfl (fun x19 ex19 => ?_)
    have q20 : x18.toNatClampNeg = 0 := nck (by omega)
    have q21 : x19.toNatClampNeg = 3 := nck (by omega)
    refine c_SI C a_X12_in rfl rfl rfl rfl rfl rfl rfl (Nat.le_of_ble_eq_true rfl) (Nat.le_of_ble_eq_true rfl) (Nat.le_of_ble_eq_true rfl) ?_
    rintro x22 _ _ ⟨o0x22, o1x22, p0x22, rfl, rfl⟩
    have gx22 := rg x22
    try simp only [q20, q21, e13, e16] at p0x22
    try have q0x22 := congrArg Int32.toInt p0x22
    refine b_if_eq C (t := 40) rfl rfl rfl (fun c23 => ?_) (fun c23 => ?_)
    · skip
      refine z_iconst C (z := -1) rfl rfl rfl (fun x24 ex24 => ?_)
      exact k_iret C rfl (Or.inl rfl) (Nat.le_of_ble_eq_true rfl) (Nat.le_of_ble_eq_true rfl) ⟨_, _, _, rfl, rfl, by omega, by omega, fun a1 h1 => by cases (R_r0_1.symm.trans h1); first | exact Or.inl ⟨by simp only [k0_r0_1_2]; omega, by rw [e16]; omega⟩ | exact Or.inr ⟨by simp only [k0_r0_1_2]; omega, by rw [e16]; omega, fun h1 h2 => by exfalso; omega, fun _ => by omega⟩ | exact Or.inr ⟨by simp only [k0_r0_1_2]; omega, by rw [e16]; omega, fun h1 h2 => by rw [ho, CM.j0 (W := [0]) (WA := []) (CM.cons S3 (CM.mono S12 (by decide) (by decide)) (by decide) (by decide)) R_r0_1 (by decide)], fun h => by exfalso; omega⟩, hI10, (CM.cons S3 (CM.mono S12 (by decide) (by decide)) (by decide) (by decide))⟩
    refine k_aload_n C rfl rfl rfl ?_
    refine k_iload_n C rfl rfl rfl ?_
    refine k_iload_n C rfl rfl rfl ?_
    refine c_VI C (a_X12_ofTable hI10 H_r0 (by omega) (by omega) (by omega) (by omega)) rfl rfl rfl rfl rfl ⟨_, rfl, rfl, T_r0, Nat.le_of_ble_eq_true rfl⟩ rfl rfl (Nat.le_of_ble_eq_true rfl) (Nat.le_of_ble_eq_true rfl) (Nat.le_of_ble_eq_true rfl) ?_
    rintro x25 _ _ ⟨o0x25, o1x25, p0x25, rfl, rfl⟩
    have p0x25 := p0x25 r0_1 R_r0_1
    have gx25 := rg x25
    try simp only [e13, e16] at p0x25
    try have q0x25 := congrArg Int32.toInt p0x25
    have ho := p0x25
    refine k_goto C (pc2 := 41) rfl rfl ?_
    exact k_iret C rfl (Or.inl rfl) (Nat.le_of_ble_eq_true rfl) (Nat.le_of_ble_eq_true rfl) ⟨_, _, _, rfl, rfl, by omega, by omega, fun a1 h1 => by cases (R_r0_1.symm.trans h1); first | exact Or.inl ⟨by simp only [k0_r0_1_2]; omega, by rw [e16]; omega⟩ | exact Or.inr ⟨by simp only [k0_r0_1_2]; omega, by rw [e16]; omega, fun h1 h2 => by exfalso; omega, fun _ => by omega⟩ | exact Or.inr ⟨by simp only [k0_r0_1_2]; omega, by rw [e16]; omega, fun h1 h2 => by rw [ho, CM.j0 (W := [0]) (WA := []) (CM.cons S3 (CM.mono S12 (by decide) (by decide)) (by decide) (by decide)) R_r0_1 (by decide)], fun h => by exfalso; omega⟩, hI10, (CM.cons S3 (CM.mono S12 (by decide) (by decide)) (by decide) (by decide))⟩
  refine z_iconst C (z := 0) rfl rfl rfl (fun x26 ex26 => ?_)
  refine k_goto C (pc2 := 41) rfl rfl ?_
  exact k_iret C rfl (Or.inl rfl) (Nat.le_of_ble_eq_true rfl) (Nat.le_of_ble_eq_true rfl) ⟨_, _, _, rfl, rfl, by omega, by omega, fun a1 h1 => by cases (R_r0_1.symm.trans h1); first | exact Or.inl ⟨by simp only [k0_r0_1_2]; omega, by rw [e16]; omega⟩ | exact Or.inr ⟨by simp only [k0_r0_1_2]; omega, by rw [e16]; omega, fun h1 h2 => by exfalso; omega, fun _ => by omega⟩ | exact Or.inr ⟨by simp only [k0_r0_1_2]; omega, by rw [e16]; omega, fun h1 h2 => by rw [ho, CM.j0 (W := [0]) (WA := []) (CM.cons S3 (CM.mono S12 (by decide) (by decide)) (by decide) (by decide)) R_r0_1 (by decide)], fun h => by exfalso; omega⟩, hI10, (CM.cons S3 (CM.mono S12 (by decide) (by decide)) (by decide) (by decide))⟩

