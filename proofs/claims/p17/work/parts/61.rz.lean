/-! the reference: stays: exactly -/
theorem PWJ.pe {a p : Int} : ∀ n, PmE p (PWI a p n) (POW a n)
  | 0 => PmE.rf
  | n + 1 => (PmE.tm _).tr ((PWJ.pe n).ml PmE.rf)
theorem PWJ.b {a p : Int} (ha : 0 ≤ a) (hp : 1 < p) : ∀ n, 0 ≤ PWI a p n ∧ PWI a p n < p
  | 0 => ⟨by show (0 : Int) ≤ 1; decide, hp⟩
  | n + 1 => ⟨Int.tmod_nonneg _ (Int.mul_nonneg (PWJ.b ha hp n).1 ha), Int.tmod_lt_of_pos _ (by omega)⟩
theorem PRE.pw {x a p n d : Int} (h : PWQ x a p n) (ha : PRE a p d) (hp : 1 < p) : PRE x p (POW d n.toNat) := by
  unfold PWQ at h
  have b := PWJ.b (p := p) ha.1 hp n.toNat
  rw [h]
  exact ⟨b.1, b.2, (PWJ.pe _).tr (POW.e ha.2.2 _)⟩
theorem PRE.de {x a b c d p : Int} (h : DTN x a b c d p) (ha : 0 ≤ a) (hb : 0 ≤ b) (hc : 0 ≤ c) (hd : 0 ≤ d) (hp : 0 < p) : PRE x p (dt p a b c d) := by
  unfold DTN at h
  have m1 := Int.tmod_lt_of_pos (a * d) hp
  have m2 := Int.tmod_lt_of_pos (b * c) hp
  have n1 := Int.tmod_nonneg p (Int.mul_nonneg ha hd)
  have n2 := Int.tmod_nonneg p (Int.mul_nonneg hb hc)
  refine ⟨by rw [h]; exact Int.tmod_nonneg _ (by omega), by rw [h]; exact Int.tmod_lt_of_pos _ hp, ?_⟩
  rw [h]
  refine (PmE.tm _).tr ?_
  have e1 : PmE p ((a * d).tmod p - (b * c).tmod p + p) ((a * d).tmod p - (b * c).tmod p) := by
    unfold PmE
    rw [show (a * d).tmod p - (b * c).tmod p + p = (a * d).tmod p - (b * c).tmod p + p * 1 from by omega, Int.add_mul_emod_self_left]
  refine e1.tr ?_
  have s : ∀ {u v u' v' : Int}, PmE p u u' → PmE p v v' → PmE p (u - v) (u' - v') := fun {u v u' v'} h1 h2 => by
    have k := h1.ad ((PmE.rf (x := (-1 : Int))).ml h2)
    rwa [show u + -1 * v = u - v from by omega, show u' + -1 * v' = u' - v' from by omega] at k
  unfold dt
  exact (s (PmE.tm _) (PmE.tm _)).tr ((s ((PmE.em a).ml (PmE.em d)) ((PmE.em b).ml (PmE.em c))).sy.tr (PmE.em _).sy)
theorem VRW.eq {I I' : IT} {dg nu r : Nat} {p : Int} {v : FVV} (h : VRW I dg nu r p v) (e4 : I' dg = I dg) (e5 : I' nu = I nu) : VRW I' dg nu r p v := h.sm (by rw [e4]) (fun k _ => by rw [e5])
theorem VRW.mx {I I' : IT} {dg nu a b : Nat} {p A B C D E E' : Int} {v : FVV} (hv : VRW I dg nu a p v) (hE : (I dg a).toInt = E) (hd : (I' dg b).toInt = E') (he : E' = E) (q : QN I' nu b (E' + 1) p) (m : MXE I I' nu a b E A B C D p) (hA : 0 ≤ A) (hB : 0 ≤ B) (hC : 0 ≤ C) (hD : 0 ≤ D) (hp : 0 < p) : VRW I' dg nu b p (v.1, PmX A B C D v.2 v.1.toNat) := by
  have e := hv.1
  rw [hE] at e
  subst he
  subst e
  refine ⟨hd, hv.2.1, hv.2.2.1, fun j hj => ?_⟩
  have hj : (j : Int) ≤ v.1 := hj
  have v0 := hv.2.1
  have z := m j hj
  have b := q j (by omega)
  have nn : 0 ≤ mxS p A B C D v.1.toNat (RI I nu a) (v.1.toNat + 1) j := mxS.p hp hA hB hC hD _ (fun k hk => (hv.2.2.2 k (by omega)).1)
  refine ⟨by rw [z]; exact nn, b.2, ?_⟩
  rw [z]
  exact (mxS.x (by omega)).tr (PmX.e PmE.rf PmE.rf PmE.rf PmE.rf v.1.toNat (fun k hk => (hv.2.2.2 k (by omega)).2.2) j)
theorem OVM.t {I I' : IT} {nu r : Nat} {p W t : Int} {g : Nat → Int} {x x' a b w : Int32} (h : RVX I nu r p W (OVM g (fun j => g j * t) x.toInt)) (oa : a.toInt = (I nu (41 * r + x.toNatClampNeg)).toInt) (hb : PRE b.toInt p t) (tm : TMD w.toInt a.toInt b.toInt p) (hP : PUTD I I' nu r x.toNatClampNeg w) (h0 : 0 ≤ x.toInt) (hW : x.toInt ≤ W) (hx : x'.toInt = x.toInt + 1) (hp : 0 < p) : RVX I' nu r p W (OVM g (fun j => g j * t) x'.toInt) := by
  have n0 := ncz h0
  refine h.u hP ?_ (fun k hk hn => ?_)
  · have ha := h.at oa h0 hW
    unfold OVM at ha
    rw [if_neg (by omega)] at ha
    unfold OVM
    rw [if_pos (by omega)]
    exact ha.m hb tm hp
  · unfold OVM
    by_cases c : (k : Int) < x.toInt
    · rw [if_pos c, if_pos (by omega)]; exact PmE.rf
    · rw [if_neg c, if_neg (by omega)]; exact PmE.rf
theorem HOK.g : ∀ (l : List (Int × Int)) (h : Int), HOK l h → h + HGL l = 1
  | [], h, q => by
    have q : h = 1 := q
    show h + 0 = 1; omega
  | x :: l, h, q => by
    have r := HOK.g l (h + HG1 x.1) q.2.2.2.2.2.2
    show h + (HG1 x.1 + HGL l) = 1; omega
theorem TRL.ge {w : Int} : ∀ (l : List (Int × Int)) (s : TSt) (h : Int), HOK l h → h = s.1 → GE1 s → -1 ≤ (TRL w l s).2 0
  | [], s, h, k, e, g => by
    have k : h = 1 := k
    exact g 0 (by omega)
  | x :: l, s, h, k, e, g => by
    obtain ⟨k1, k2, k3, k4, k5, k6, k7⟩ := k
    have n2 : 2 ≤ x.1 → x.1 ≤ 4 → 2 ≤ s.1 := fun a b => by have := (k6 a b).1; omega
    exact TRL.ge l (TR1 w x s) (h + HG1 x.1) k7 (by rw [TR1.h n2 k2]; omega) (TR1.ge g k3 n2 k2)
def TNW (W : Nat → Int32) : Prop := ∀ t : Nat, (t : Int) < (W 2).toInt → ∀ k : Nat, k < 4 → 0 ≤ (W (166 + 4 * t + k)).toInt ∧ (W (166 + 4 * t + k)).toInt < (W 0).toInt
theorem SYR.n0 {p w dt9 a b c d x : Int} {f : FVV} {l : List (Int × Int)} (hw : w < 0) (h1 : -1 ≤ w) (hx : x = 0) : IFF x (SYQ p w dt9 a b c d f l) := ⟨fun q => by omega, fun _ q => q.1 (by omega)⟩
theorem SYR.n1 {I : IT} {dg nu : Nat} {p w dt9 a b c d x y : Int} {f : FVV} {l : List (Int × Int)} (h : VPR I dg nu y p (VWF f l)) (hy : y = 0) (hx : x = 0) : IFF x (SYQ p w dt9 a b c d f l) := ⟨fun q => by omega, fun _ q => by
  obtain ⟨-, v, u, q1, -⟩ := q
  rw [h.1 hy] at q1; cases q1⟩
theorem SYR.n2 {I : IT} {dg nu : Nat} {p w dt9 a b c d x y : Int} {f : FVV} {l : List (Int × Int)} (h : VPR I dg nu y p (VWF (f.1, PmX a b c d f.2 f.1.toNat) l)) (hy : y = 0) (hx : x = 0) : IFF x (SYQ p w dt9 a b c d f l) := ⟨fun q => by omega, fun _ q => by
  obtain ⟨-, v, u, -, q1, -⟩ := q
  rw [h.1 hy] at q1; cases q1⟩
theorem SYR.y {I : IT} {dg nu : Nat} {p w dt9 a b c d x y z : Int} {f v : FVV} {l : List (Int × Int)} (hw : w ≠ -1) (e : VWF f l = some v) (h : VPR I dg nu z p (VWF (f.1, PmX a b c d f.2 f.1.toNat) l)) (hz : z = 1) (hk : VRW I dg nu 42 p (v.1, fun m => PmX a b c d v.2 v.1.toNat m * POW dt9 w.toNat)) (m : IFF y (RLK I dg nu 0 42)) (hx : x = 1 ∧ y = 1 ∨ x = 0 ∧ y = 0) : IFF x (SYQ p w dt9 a b c d f l) := by
  obtain ⟨u, h2, h3⟩ := h.2 hz
  have hk : VRW I dg nu 42 p (v.1, fun m => POW dt9 w.toNat * PmX a b c d v.2 v.1.toNat m) := hk.tr ⟨rfl, fun m _ => by show PmE p (_ * _) (_ * _); rw [Int.mul_comm]; exact PmE.rf⟩
  have fe := VRW.fe h3 hk
  rcases hx with ⟨x1, y1⟩ | ⟨x0, y0⟩
  · exact ⟨fun _ => ⟨hw, v, u, e, h2, fe.mp (m.1 y1)⟩, fun q => by omega⟩
  · refine ⟨fun q => by omega, fun _ q => m.2 y0 (fe.mpr ?_)⟩
    obtain ⟨-, v', u', q1, q2, q3⟩ := q
    rw [e] at q1; cases q1
    rw [h2] at q2; cases q2
    exact q3
theorem a_X12_stays_x {d : Nat} {T N : Nat → Nat} {I : IT} {L : LT} {R : RT} {A : Nat → Prop} {r0 : Nat} {n1 n2 n3 : Int32} (hI : IM R r0 I) (H_r0 : (h_MD T N R A) r0) (hp0 : ∀ a1, R r0 1 = some a1 → CNW (I a1)) (hp1 : ∀ a1, R r0 1 = some a1 → ∀ j : Nat, j < 8 → (j : Int) < (I a1 3).toInt → HOV (WSL (I a1) j) 0) (hp2 : ∀ a1, R r0 1 = some a1 → TNW (I a1)) : Ex (d + 9) 256 [.ref r0, .int n1, .int n2, .int n3] (T, N, I, L, R) 0 0 (pI T N R (fun x9 I9 L9 => (0 ≤ x9.toInt) ∧ (x9.toInt ≤ 1) ∧ (∀ a1, R r0 1 = some a1 → (n1.toInt < 0 ∨ (I a1 3).toInt ≤ n1.toInt ∨ n2.toInt < 0 ∨ (I a1 1).toInt ≤ n2.toInt ∨ n3.toInt < 0 ∨ (I a1 2).toInt ≤ n3.toInt) ∧ (I9 r0 0).toInt = 1 ∨ ¬ (n1.toInt < 0 ∨ (I a1 3).toInt ≤ n1.toInt ∨ n2.toInt < 0 ∨ (I a1 1).toInt ≤ n2.toInt ∨ n3.toInt < 0 ∨ (I a1 2).toInt ≤ n3.toInt) ∧ (I9 r0 0).toInt = 0 ∧ IFF x9.toInt (SYQ (I a1 0).toInt ((TRL 1 (WSL (I a1) n1.toNatClampNeg) (0, fun _ => 0)).2 0) (dt (I a1 0).toInt (I a1 (166 + 4 * n3.toNatClampNeg + 0)).toInt (I a1 (166 + 4 * n3.toNatClampNeg + 1)).toInt (I a1 (166 + 4 * n3.toNatClampNeg + 2)).toInt (I a1 (166 + 4 * n3.toNatClampNeg + 3)).toInt) (I a1 (166 + 4 * n3.toNatClampNeg + 0)).toInt (I a1 (166 + 4 * n3.toNatClampNeg + 1)).toInt (I a1 (166 + 4 * n3.toNatClampNeg + 2)).toInt (I a1 (166 + 4 * n3.toNatClampNeg + 3)).toInt ((I a1 (6 + 10 * n2.toNatClampNeg)).toInt, (fun k => (I a1 (7 + 10 * n2.toNatClampNeg + k)).toInt)) (WSL (I a1) n1.toNatClampNeg))) ∧ (IM R r0 I9 ∧ CM A R r0 [0, 6, 7, 8, 9] [4, 5, 20] I L I9 L9))) := by
  refine ⟨_, rfl, Nat.le_of_ble_eq_true rfl, fun V C S => ?_⟩
  show V 0 [(0, .ref r0), (1, .int n1), (2, .int n2), (3, .int n3)] [] (T, N, I, L, R) 0 0
  have gn1 := rg n1
  have gn2 := rg n2
  have gn3 := rg n3
  obtain ⟨T_r0, A_r0, ⟨r0_1, R_r0_1, H_r0_1⟩, ⟨r0_2, R_r0_2, H_r0_2⟩, ⟨r0_4, R_r0_4, H_r0_4⟩, ⟨r0_5, R_r0_5, H_r0_5⟩, ⟨r0_10, R_r0_10, H_r0_10⟩, ⟨r0_18, R_r0_18, H_r0_18⟩, ⟨r0_20, R_r0_20, H_r0_20⟩, ⟨r0_21, R_r0_21, H_r0_21⟩, ⟨r0_22, R_r0_22, H_r0_22⟩, ⟨r0_23, R_r0_23, H_r0_23⟩, ⟨r0_25, R_r0_25, H_r0_25⟩, ⟨r0_26, R_r0_26, H_r0_26⟩, ⟨r0_27, R_r0_27, H_r0_27⟩, ⟨r0_28, R_r0_28, H_r0_28⟩, ⟨r0_34, R_r0_34, H_r0_34⟩, J_r0, Y_r0⟩ := id H_r0
  have G_r0 : mF T R r0 := ⟨J_r0, Y_r0, T_r0⟩
  obtain ⟨w_r0_1_1, k0_r0_1_1⟩ : ∃ x, I r0_1 1 = x := ⟨_, rfl⟩
  have gw_r0_1_1 := rg w_r0_1_1
  have ow_r0_1_1 := IM.c1 hI R_r0_1 k0_r0_1_1
  obtain ⟨w_r0_1_2, k0_r0_1_2⟩ : ∃ x, I r0_1 2 = x := ⟨_, rfl⟩
  have gw_r0_1_2 := rg w_r0_1_2
  have ow_r0_1_2 := IM.c2 hI R_r0_1 k0_r0_1_2
  obtain ⟨w_r0_1_3, k0_r0_1_3⟩ : ∃ x, I r0_1 3 = x := ⟨_, rfl⟩
  have gw_r0_1_3 := rg w_r0_1_3
  have ow_r0_1_3 := IM.c3 hI R_r0_1 k0_r0_1_3
  obtain ⟨w_r0_1_0, k0_r0_1_0⟩ : ∃ x, I r0_1 0 = x := ⟨_, rfl⟩
  have gw_r0_1_0 := rg w_r0_1_0
  have ow_r0_1_0 := IM.pi hI R_r0_1 k0_r0_1_0
  obtain ⟨w_r0_1_E_6_10_n2_toNatClampNeg, k0_r0_1_E_6_10_n2_toNatClampNeg⟩ : ∃ x, I r0_1 (6 + 10 * n2.toNatClampNeg) = x := ⟨_, rfl⟩
  have gw_r0_1_E_6_10_n2_toNatClampNeg := rg w_r0_1_E_6_10_n2_toNatClampNeg
  have hp0 := hp0 r0_1 R_r0_1
  have hp1 := hp1 r0_1 R_r0_1
  have hp2 := hp2 r0_1 R_r0_1
  try simp only [k0_r0_1_1, k0_r0_1_2, k0_r0_1_3, k0_r0_1_0, k0_r0_1_E_6_10_n2_toNatClampNeg] at hp0
  try simp only [k0_r0_1_1, k0_r0_1_2, k0_r0_1_3, k0_r0_1_0, k0_r0_1_E_6_10_n2_toNatClampNeg] at hp1
  try simp only [k0_r0_1_1, k0_r0_1_2, k0_r0_1_3, k0_r0_1_0, k0_r0_1_E_6_10_n2_toNatClampNeg] at hp2
  refine k_aload_n C rfl rfl rfl ?_
  refine z_iconst C (z := 0) rfl rfl rfl (fun x1 ex1 => ?_)
  refine z_pI C rfl rfl rfl T_r0 (Or.inr rfl) rfl (fun I2 uI2 => ?_)
  have hI2 : IM R r0 I2 := IM.fld hI G_r0 ⟨(fun h => absurd h (by decide)), (fun h => absurd h (by decide)), (fun h => absurd h (by decide)), (fun h => absurd h (by decide)), (fun h => absurd h (by decide))⟩ uI2
  have S3 : CM A R r0 [0] [] I L I2 L := CM.f G_r0 A_r0 uI2
  have e4 := u2_n uI2 (mF.ne G_r0 R_r0_1) k0_r0_1_1
  have e5 := u2_n uI2 (mF.ne G_r0 R_r0_1) k0_r0_1_2
  have e6 := u2_n uI2 (mF.ne G_r0 R_r0_1) k0_r0_1_3
  have e7 := u2_n uI2 (mF.ne G_r0 R_r0_1) k0_r0_1_0
  have e8 := u2_n uI2 (mF.ne G_r0 R_r0_1) k0_r0_1_E_6_10_n2_toNatClampNeg
  have e9 := u2_e uI2
  refine k_aload_n C rfl rfl rfl ?_
  refine k_aload_n C rfl rfl rfl ?_
  refine k_iload_n C rfl rfl rfl ?_
  refine c_VI C (a_X12_noSigns_e hI2 H_r0) rfl rfl rfl rfl rfl ⟨_, rfl, rfl, T_r0, Nat.le_of_ble_eq_true rfl⟩ rfl rfl (Nat.le_of_ble_eq_true rfl) (Nat.le_of_ble_eq_true rfl) (Nat.le_of_ble_eq_true rfl) ?_
  rintro x10 _ _ ⟨o0x10, o1x10, p0x10, rfl, rfl⟩
  have p0x10 := p0x10 r0_1 R_r0_1
  have gx10 := rg x10
  try simp only [e4, e5, e6, e7, e8, e9, e6] at p0x10
  try have q0x10 := congrArg Int32.toInt p0x10
  refine b_if_ne C (t := 30) rfl rfl rfl (fun c11 => ?_) (fun c11 => ?_)
  · skip
    refine z_iconst C (z := 1) rfl rfl rfl (fun x12 ex12 => ?_)
    refine k_goto C (pc2 := 35) rfl rfl ?_
    refine z_iconst C (z := 1) rfl rfl rfl (fun x13 ex13 => ?_)
    have q14 : x12.toNatClampNeg = 1 := nck (by omega)
    have q15 : x13.toNatClampNeg = 1 := nck (by omega)
    refine c_VI C (a_X12_throwsIf_e hI2 H_r0 (by omega) (by omega)) rfl rfl rfl rfl rfl ⟨_, rfl, rfl, T_r0, Nat.le_of_ble_eq_true rfl⟩ rfl rfl (Nat.le_of_ble_eq_true rfl) (Nat.le_of_ble_eq_true rfl) (Nat.le_of_ble_eq_true rfl) ?_
    rintro x16 I17 L18 ⟨o0x16, o1x16, p0x16, p1x16, hI17, S19⟩
    have e20 := CM.j S19 R_r0_1 (by decide) e4
    have e21 := CM.j S19 R_r0_1 (by decide) e5
    have e22 := CM.j S19 R_r0_1 (by decide) e6
    have e23 := CM.j S19 R_r0_1 (by decide) e7
    have e24 := CM.j S19 R_r0_1 (by decide) e8
    have gx16 := rg x16
    obtain ⟨x26, e27⟩ : ∃ x, I17 r0 0 = x := ⟨_, rfl⟩
    have gx26 := rg x26
    try simp only [q14, q15, e4, e5, e6, e7, e8, e9, e27] at p0x16
    try have q0x16 := congrArg Int32.toInt p0x16
    try simp only [q14, q15, e4, e5, e6, e7, e8, e9, e27] at p1x16
    try have q1x16 := congrArg Int32.toInt p1x16
    refine b_if_eq C (t := 44) rfl rfl rfl (fun c28 => by exfalso; omega) (fun c28 => ?_)
    refine z_iconst C (z := 0) rfl rfl rfl (fun x29 ex29 => ?_)
    exact k_iret C rfl (Or.inr ⟨rfl, z01 (by omega) (by omega)⟩) (Nat.le_of_ble_eq_true rfl) (Nat.le_of_ble_eq_true rfl) ⟨_, _, _, rfl, rfl, by omega, by omega, fun a1 h1 => by cases (R_r0_1.symm.trans h1); exact Or.inl ⟨by simp only [k0_r0_1_1, k0_r0_1_2, k0_r0_1_3]; omega, by rw [e27]; omega⟩, hI17, (CM.cons S3 (CM.mono S19 (by decide) (by decide)) (by decide) (by decide))⟩
  refine k_aload_n C rfl rfl rfl ?_
  refine k_iload_n C rfl rfl rfl ?_
  refine c_VI C (a_X12_noForm_e hI2 H_r0) rfl rfl rfl rfl rfl ⟨_, rfl, rfl, T_r0, Nat.le_of_ble_eq_true rfl⟩ rfl rfl (Nat.le_of_ble_eq_true rfl) (Nat.le_of_ble_eq_true rfl) (Nat.le_of_ble_eq_true rfl) ?_
  rintro x30 _ _ ⟨o0x30, o1x30, p0x30, rfl, rfl⟩
  have p0x30 := p0x30 r0_1 R_r0_1
  have gx30 := rg x30
  try simp only [e4, e5, e6, e7, e8, e9, e4] at p0x30
  try have q0x30 := congrArg Int32.toInt p0x30
  refine b_if_ne C (t := 30) rfl rfl rfl (fun c31 => ?_) (fun c31 => ?_)
  · skip
    refine z_iconst C (z := 1) rfl rfl rfl (fun x32 ex32 => ?_)
    refine k_goto C (pc2 := 35) rfl rfl ?_
    refine z_iconst C (z := 1) rfl rfl rfl (fun x33 ex33 => ?_)
    have q34 : x32.toNatClampNeg = 1 := nck (by omega)
    have q35 : x33.toNatClampNeg = 1 := nck (by omega)
    refine c_VI C (a_X12_throwsIf_e hI2 H_r0 (by omega) (by omega)) rfl rfl rfl rfl rfl ⟨_, rfl, rfl, T_r0, Nat.le_of_ble_eq_true rfl⟩ rfl rfl (Nat.le_of_ble_eq_true rfl) (Nat.le_of_ble_eq_true rfl) (Nat.le_of_ble_eq_true rfl) ?_
    rintro x36 I37 L38 ⟨o0x36, o1x36, p0x36, p1x36, hI37, S39⟩
    have e40 := CM.j S39 R_r0_1 (by decide) e4
    have e41 := CM.j S39 R_r0_1 (by decide) e5
    have e42 := CM.j S39 R_r0_1 (by decide) e6
    have e43 := CM.j S39 R_r0_1 (by decide) e7
    have e44 := CM.j S39 R_r0_1 (by decide) e8
    have gx36 := rg x36
    obtain ⟨x46, e47⟩ : ∃ x, I37 r0 0 = x := ⟨_, rfl⟩
    have gx46 := rg x46
    try simp only [q34, q35, e4, e5, e6, e7, e8, e9, e47] at p0x36
    try have q0x36 := congrArg Int32.toInt p0x36
    try simp only [q34, q35, e4, e5, e6, e7, e8, e9, e47] at p1x36
    try have q1x36 := congrArg Int32.toInt p1x36
    refine b_if_eq C (t := 44) rfl rfl rfl (fun c48 => by exfalso; omega) (fun c48 => ?_)
    refine z_iconst C (z := 0) rfl rfl rfl (fun x49 ex49 => ?_)
    exact k_iret C rfl (Or.inr ⟨rfl, z01 (by omega) (by omega)⟩) (Nat.le_of_ble_eq_true rfl) (Nat.le_of_ble_eq_true rfl) ⟨_, _, _, rfl, rfl, by omega, by omega, fun a1 h1 => by cases (R_r0_1.symm.trans h1); exact Or.inl ⟨by simp only [k0_r0_1_1, k0_r0_1_2, k0_r0_1_3]; omega, by rw [e47]; omega⟩, hI37, (CM.cons S3 (CM.mono S39 (by decide) (by decide)) (by decide) (by decide))⟩
  refine k_aload_n C rfl rfl rfl ?_
  refine k_iload_n C rfl rfl rfl ?_
  refine c_VI C (a_X12_noTable_e hI2 H_r0) rfl rfl rfl rfl rfl ⟨_, rfl, rfl, T_r0, Nat.le_of_ble_eq_true rfl⟩ rfl rfl (Nat.le_of_ble_eq_true rfl) (Nat.le_of_ble_eq_true rfl) (Nat.le_of_ble_eq_true rfl) ?_
  rintro x50 _ _ ⟨o0x50, o1x50, p0x50, rfl, rfl⟩
  have p0x50 := p0x50 r0_1 R_r0_1
  have gx50 := rg x50
  try simp only [e4, e5, e6, e7, e8, e9, e5] at p0x50
  try have q0x50 := congrArg Int32.toInt p0x50
  refine b_if_eq C (t := 34) rfl rfl rfl (fun c51 => ?_) (fun c51 => ?_)
  · skip
    refine z_iconst C (z := 0) rfl rfl rfl (fun x52 ex52 => ?_)
    refine z_iconst C (z := 1) rfl rfl rfl (fun x53 ex53 => ?_)
    have q54 : x52.toNatClampNeg = 0 := nck (by omega)
    have q55 : x53.toNatClampNeg = 1 := nck (by omega)
    refine c_VI C (a_X12_throwsIf_e hI2 H_r0 (by omega) (by omega)) rfl rfl rfl rfl rfl ⟨_, rfl, rfl, T_r0, Nat.le_of_ble_eq_true rfl⟩ rfl rfl (Nat.le_of_ble_eq_true rfl) (Nat.le_of_ble_eq_true rfl) (Nat.le_of_ble_eq_true rfl) ?_
    rintro x56 I57 L58 ⟨o0x56, o1x56, p0x56, p1x56, hI57, S59⟩
    have e60 := CM.j S59 R_r0_1 (by decide) e4
    have e61 := CM.j S59 R_r0_1 (by decide) e5
    have e62 := CM.j S59 R_r0_1 (by decide) e6
    have e63 := CM.j S59 R_r0_1 (by decide) e7
    have e64 := CM.j S59 R_r0_1 (by decide) e8
    have gx56 := rg x56
    obtain ⟨x66, e67⟩ : ∃ x, I57 r0 0 = x := ⟨_, rfl⟩
    have gx66 := rg x66
    try simp only [q54, q55, e4, e5, e6, e7, e8, e9, e67] at p0x56
    try have q0x56 := congrArg Int32.toInt p0x56
    try simp only [q54, q55, e4, e5, e6, e7, e8, e9, e67] at p1x56
    try have q1x56 := congrArg Int32.toInt p1x56
    refine b_if_eq C (t := 44) rfl rfl rfl (fun c68 => ?_) (fun c68 => by exfalso; omega)
    refine k_aload_n C rfl rfl rfl ?_
    refine k_iload_n C rfl rfl rfl ?_
    refine z_iconst C (z := 1) rfl rfl rfl (fun x69 ex69 => ?_)
    have hw47 := CM.j0 (W := [0, 6, 7, 8, 9]) (WA := []) (CM.cons S3 (CM.mono S59 (by decide) (by decide)) (by decide) (by decide)) R_r0_1 (by decide)
    have hc47 := ex69
    have hn1 := ncz (x := n1) (by omega)
    have hn3 := ncz (x := n3) (by omega)
    have q70 : x69.toNatClampNeg = 1 := nck (by omega)
    refine c_VI C (a_X12_rankOf_x hI57 H_r0 (by omega) (by omega) (by omega) (by omega) (fun a1 h1 => by cases (R_r0_1.symm.trans h1); first | omega | (simp only [q70, e60, e61, e62, e63, e64, e67, and_true, true_and, or_true, true_or, and_false, false_and, or_false, false_or] <;> omega))) rfl rfl rfl rfl rfl ⟨_, rfl, rfl, T_r0, Nat.le_of_ble_eq_true rfl⟩ rfl rfl (Nat.le_of_ble_eq_true rfl) (Nat.le_of_ble_eq_true rfl) (Nat.le_of_ble_eq_true rfl) ?_
    rintro x71 I72 L73 ⟨p0x71, hI72, S74⟩
    have p0x71 := p0x71 r0_1 R_r0_1
    have e75 := CM.j S74 R_r0_1 (by decide) e60
    have e76 := CM.j S74 R_r0_1 (by decide) e61
    have e77 := CM.j S74 R_r0_1 (by decide) e62
    have e78 := CM.j S74 R_r0_1 (by decide) e63
    have e79 := CM.j S74 R_r0_1 (by decide) e64
    have e80 := CM.k S74 (by decide) e67
    have gx71 := rg x71
    try simp only [q70, e60, e61, e62, e63, e64, e67] at p0x71
    try have q0x71 := congrArg Int32.toInt p0x71
    have hrk := p0x71
    rw [hw47, hc47] at hrk
    have hov := (hp1 _ (ncn (by omega) (by omega)) (by (try simp only [k0_r0_1_3]); omega) : HOV (WSL (I r0_1) n1.toNatClampNeg) 0)
    have hrk := hrk (by have z9 := HOK.g _ _ hov.1; omega)
    have hr1 : -1 ≤ x71.toInt := (by rw [hrk]; exact TRL.ge _ (0, fun _ => 0) 0 hov.1 rfl (fun j hj => absurd hj (Nat.not_lt_zero _)))
    obtain ⟨wt, hwt⟩ : ∃ w, x71.toInt = w := ⟨_, rfl⟩
    rw [hwt] at hrk
    refine k_istore C (lw := [(4, .int x71), (0, .ref r0), (1, .int n1), (2, .int n2), (3, .int n3)]) rfl rfl (Nat.le_of_ble_eq_true rfl) rfl ?_
    refine k_aload_n C rfl rfl rfl ?_
    refine z_bipush C (z := 44) rfl rfl rfl (fun x81 ex81 => ?_)
    refine k_iload_n C rfl rfl rfl ?_
    have hw56 := CM.j0 (W := [0, 6, 7, 8, 9]) (WA := [20]) (CM.cons S3 (CM.cons S59 (CM.mono S74 (by decide) (by decide)) (by decide) (by decide)) (by decide) (by decide)) R_r0_1 (by decide)
    have q82 : x81.toNatClampNeg = 44 := nck (by omega)
    refine c_VV C (a_X12_takes_e hI72 H_r0 (by omega) (by omega) (by omega) (by omega)) rfl rfl rfl rfl rfl ⟨_, rfl, rfl, T_r0, Nat.le_of_ble_eq_true rfl⟩ rfl rfl (Nat.le_of_ble_eq_true rfl) (Nat.le_of_ble_eq_true rfl) (Nat.le_of_ble_eq_true rfl) ?_
    rintro I84 L85 ⟨p0v83, p1v83, p2v83, p3v83, p4v83, p5v83, hI84, S86⟩
    have p0v83 := p0v83 r0_4 R_r0_4
    have p1v83 := p1v83 r0_1 r0_4 R_r0_1 R_r0_4
    have p2v83 := p2v83 r0_1 r0_4 r0_5 R_r0_1 R_r0_4 R_r0_5
    have p3v83 := p3v83 r0_1 r0_4 r0_5 R_r0_1 R_r0_4 R_r0_5
    have p4v83 := p4v83 r0_4 R_r0_4
    have p5v83 := p5v83 r0_5 R_r0_5
    try simp only [q82] at p4v83
    try simp only [q82] at p5v83
    have e87 := CM.j S86 R_r0_1 (by decide) e75
    have e88 := CM.j S86 R_r0_1 (by decide) e76
    have e89 := CM.j S86 R_r0_1 (by decide) e77
    have e90 := CM.j S86 R_r0_1 (by decide) e78
    have e91 := CM.j S86 R_r0_1 (by decide) e79
    have e92 := CM.k S86 (by decide) e80
    obtain ⟨x93, e94⟩ : ∃ x, I84 r0_4 44 = x := ⟨_, rfl⟩
    have gx93 := rg x93
    have ox93 := IM.dgR hI84 R_r0_4 e94
    try simp only [q82, e75, e76, e77, e78, e79, e80, e94] at p0v83
    try have q0v83 := congrArg Int32.toInt p0v83
    try simp only [q82, e75, e76, e77, e78, e79, e80, e94] at p1v83
    try have q1v83 := congrArg Int32.toInt p1v83
    try simp only [q82, e75, e76, e77, e78, e79, e80, e94] at p2v83
    try have q2v83 := congrArg Int32.toInt p2v83
    try simp only [q82, e75, e76, e77, e78, e79, e80, e94] at p3v83
    try have q3v83 := congrArg Int32.toInt p3v83
    have hd56 : (I84 r0_4 44).toInt = w_r0_1_E_6_10_n2_toNatClampNeg.toInt := (by rw [e94]; first | exact p1v83 | omega)
    have hT56 := TKE.w p3v83 hw56
    have hF56 : VRW I84 r0_4 r0_5 44 w_r0_1_0.toInt (w_r0_1_E_6_10_n2_toNatClampNeg.toInt, (fun k => (I r0_1 (7 + 10 * n2.toNatClampNeg + k)).toInt)) := VRW.tk hd56 (by omega) (fun k hk => by (rw [hT56 k (by omega), show 6 + 10 * n2.toNatClampNeg + 1 + k = 7 + 10 * n2.toNatClampNeg + k from by omega])) (CNW.g (f := n2) hp0 (congrArg Int32.toInt k0_r0_1_E_6_10_n2_toNatClampNeg) (congrArg Int32.toInt k0_r0_1_0) (by omega) (by rw [k0_r0_1_1]; omega))
    have hf56 := hF56.fq
    try rw [e94] at hf56
    refine k_iload C rfl rfl rfl ?_
    refine b_if_lt C (t := 72) rfl rfl rfl (fun c95 => ?_) (fun c95 => ?_)
    · skip
      refine z_iconst C (z := 0) rfl rfl rfl (fun x96 ex96 => ?_)
      exact k_iret C rfl (Or.inr ⟨rfl, z01 (by omega) (by omega)⟩) (Nat.le_of_ble_eq_true rfl) (Nat.le_of_ble_eq_true rfl) ⟨_, _, _, rfl, rfl, by omega, by omega, fun a1 h1 => by cases (R_r0_1.symm.trans h1); refine Or.inr ⟨by simp only [k0_r0_1_1, k0_r0_1_2, k0_r0_1_3]; omega, by rw [e92]; omega, ?_⟩; simp only [k0_r0_1_0, k0_r0_1_E_6_10_n2_toNatClampNeg]; rw [← hrk]; first | exact SYR.n1 hv1 (by omega) (by omega) | exact SYR.n0 (by omega) (by omega) (by omega), hI84, (CM.cons S3 (CM.cons S59 (CM.cons S74 (CM.mono S86 (by decide) (by decide)) (by decide) (by decide)) (by decide) (by decide)) (by decide) (by decide))⟩
    refine k_aload_n C rfl rfl rfl ?_
    refine k_iload_n C rfl rfl rfl ?_
    have hw66 := CM.j0 (W := [0, 6, 7, 8, 9]) (WA := [4, 5, 20]) (CM.cons S3 (CM.cons S59 (CM.cons S74 (CM.mono S86 (by decide) (by decide)) (by decide) (by decide)) (by decide) (by decide)) (by decide) (by decide)) R_r0_1 (by decide)
    have hk66 := e94
    refine c_VI C (a_X12_makes_x hI84 H_r0 (by omega) (by omega) (fun a1 h1 => by cases (R_r0_1.symm.trans h1); first | omega | (simp only [e87, e88, e89, e90, e91, e92, e94, and_true, true_and, or_true, true_or, and_false, false_and, or_false, false_or] <;> omega)) (fun a1 h1 => by cases (R_r0_1.symm.trans h1); rw [hw66]; exact hp1 _ (ncn (by omega) (by omega)) (by (try simp only [k0_r0_1_3]); omega)) (fun a1 a4 a5 h1 h4 h5 => by cases (R_r0_1.symm.trans h1); cases (R_r0_4.symm.trans h4); cases (R_r0_5.symm.trans h5); rw [e90]; exact hF56.cn) (fun a4 h4 => by cases (R_r0_4.symm.trans h4); exact ⟨by rw [hF56.1]; exact hF56.2.1, by rw [hF56.1]; exact hF56.2.2.1⟩)) rfl rfl rfl rfl rfl ⟨_, rfl, rfl, T_r0, Nat.le_of_ble_eq_true rfl⟩ rfl rfl (Nat.le_of_ble_eq_true rfl) (Nat.le_of_ble_eq_true rfl) (Nat.le_of_ble_eq_true rfl) ?_
    rintro x97 I98 L99 ⟨o0x97, o1x97, p0x97, p1x97, p2x97, p3x97, p4x97, hI98, S100⟩
    have p0x97 := p0x97 r0_1 r0_4 r0_5 R_r0_1 R_r0_4 R_r0_5
    have p1x97 := p1x97 r0_5 R_r0_5
    have p2x97 := p2x97 r0_4 R_r0_4
    have p3x97 := p3x97 r0_5 R_r0_5
    have p4x97 := p4x97 r0_4 R_r0_4
    have e101 := CM.j S100 R_r0_1 (by decide) e87
    have e102 := CM.j S100 R_r0_1 (by decide) e88
    have e103 := CM.j S100 R_r0_1 (by decide) e89
    have e104 := CM.j S100 R_r0_1 (by decide) e90
    have e105 := CM.j S100 R_r0_1 (by decide) e91
    have e106 := CM.k S100 (by decide) e92
    have gx97 := rg x97
    try simp only [e87, e88, e89, e90, e91, e92, e94] at p0x97
    try have q0x97 := congrArg Int32.toInt p0x97
    try simp only [e87, e88, e89, e90, e91, e92, e94] at p1x97
    try have q1x97 := congrArg Int32.toInt p1x97
    try simp only [e87, e88, e89, e90, e91, e92, e94] at p2x97
    try have q2x97 := congrArg Int32.toInt p2x97
    try simp only [e87, e88, e89, e90, e91, e92, e94] at p3x97
    try have q3x97 := congrArg Int32.toInt p3x97
    try simp only [e87, e88, e89, e90, e91, e92, e94] at p4x97
    try have q4x97 := congrArg Int32.toInt p4x97
    have hmk := p0x97
    rw [hw66] at hmk
    have hv1 := VPR.cg hmk (VWF.cg hf56 (by show (0 : Int) ≤ _; omega) hov)
    refine b_if_ne C (t := 74) rfl rfl rfl (fun c108 => ?_) (fun c108 => ?_)
    · skip
      refine k_aload_n C rfl rfl rfl ?_
      refine k_iload_n C rfl rfl rfl ?_
      have hw76 := CM.j0 (W := [0, 6, 7, 8, 9]) (WA := [4, 5, 20]) (CM.cons S3 (CM.cons S59 (CM.cons S74 (CM.cons S86 (CM.mono S100 (by decide) (by decide)) (by decide) (by decide)) (by decide) (by decide)) (by decide) (by decide)) (by decide) (by decide)) R_r0_1 (by decide)
      refine c_VV C (a_X12_tables_x hI98 H_r0 (by omega) (by omega)) rfl rfl rfl rfl rfl ⟨_, rfl, rfl, T_r0, Nat.le_of_ble_eq_true rfl⟩ rfl rfl (Nat.le_of_ble_eq_true rfl) (Nat.le_of_ble_eq_true rfl) (Nat.le_of_ble_eq_true rfl) ?_
      rintro I110 L111 ⟨p0v109, p1v109, p2v109, p3v109, hI110, S112⟩
      have p0v109 := p0v109 r0_1 R_r0_1
      have p1v109 := p1v109 r0_1 R_r0_1
      have p2v109 := p2v109 r0_1 R_r0_1
      have p3v109 := p3v109 r0_1 R_r0_1
      have e113 := CM.j S112 R_r0_1 (by decide) e101
      have e114 := CM.j S112 R_r0_1 (by decide) e102
      have e115 := CM.j S112 R_r0_1 (by decide) e103
      have e116 := CM.j S112 R_r0_1 (by decide) e104
      have e117 := CM.j S112 R_r0_1 (by decide) e105
      have e118 := CM.k S112 (by decide) e106
      obtain ⟨x119, e120⟩ : ∃ x, I110 r0 6 = x := ⟨_, rfl⟩
      have gx119 := rg x119
      have ox119 := IM.f6 hI110 e120
      obtain ⟨x121, e122⟩ : ∃ x, I110 r0 7 = x := ⟨_, rfl⟩
      have gx121 := rg x121
      have ox121 := IM.f7 hI110 e122
      obtain ⟨x123, e124⟩ : ∃ x, I110 r0 8 = x := ⟨_, rfl⟩
      have gx123 := rg x123
      have ox123 := IM.f8 hI110 e124
      obtain ⟨x125, e126⟩ : ∃ x, I110 r0 9 = x := ⟨_, rfl⟩
      have gx125 := rg x125
      have ox125 := IM.f9 hI110 e126
      try simp only [e101, e102, e103, e104, e105, e106, e120, e122, e124, e126] at p0v109
      try have q0v109 := congrArg Int32.toInt p0v109
      try simp only [e101, e102, e103, e104, e105, e106, e120, e122, e124, e126] at p1v109
      try have q1v109 := congrArg Int32.toInt p1v109
      try simp only [e101, e102, e103, e104, e105, e106, e120, e122, e124, e126] at p2v109
      try have q2v109 := congrArg Int32.toInt p2v109
      try simp only [e101, e102, e103, e104, e105, e106, e120, e122, e124, e126] at p3v109
      try have q3v109 := congrArg Int32.toInt p3v109
      obtain ⟨v, hvo, hvw⟩ := hv1.2 (by omega)
      have hvw := hvw.eq (CM.j0 S112 R_r0_4 (by decide)) (CM.j0 S112 R_r0_5 (by decide))
      have htn := hp2 n3.toNatClampNeg (by rw [k0_r0_1_2]; omega)
      have t6 : x119.toInt = (I r0_1 (166 + 4 * n3.toNatClampNeg + 0)).toInt := p0v109.trans (by rw [hw76])
      have hb0 := htn 0 (by decide)
      have t7 : x121.toInt = (I r0_1 (166 + 4 * n3.toNatClampNeg + 1)).toInt := p1v109.trans (by rw [hw76])
      have hb1 := htn 1 (by decide)
      have t8 : x123.toInt = (I r0_1 (166 + 4 * n3.toNatClampNeg + 2)).toInt := p2v109.trans (by rw [hw76])
      have hb2 := htn 2 (by decide)
      have t9 : x125.toInt = (I r0_1 (166 + 4 * n3.toNatClampNeg + 3)).toInt := p3v109.trans (by rw [hw76])
      have hb3 := htn 3 (by decide)
      refine k_aload_n C rfl rfl rfl ?_
      refine z_iconst C (z := 0) rfl rfl rfl (fun x127 ex127 => ?_)
      refine z_bipush C (z := 42) rfl rfl rfl (fun x128 ex128 => ?_)
      obtain ⟨x129, e130⟩ : ∃ x, I110 r0_4 0 = x := ⟨_, rfl⟩
      have gx129 := rg x129
      have ox129 := IM.dgR hI110 R_r0_4 e130
      have q131 : x127.toNatClampNeg = 0 := nck (by omega)
      have q132 : x128.toNatClampNeg = 42 := nck (by omega)
      refine c_VV C (a_X12_mixes_e hI110 H_r0 (by omega) (by omega) (by omega) (by omega) (by first | omega | (simp only [q131, q132, e113, e114, e115, e116, e117, e118, e120, e122, e124, e126, e130, and_true, true_and, or_true, true_or, and_false, false_and, or_false, false_or] <;> omega))) rfl rfl rfl rfl rfl ⟨_, rfl, rfl, T_r0, Nat.le_of_ble_eq_true rfl⟩ rfl rfl (Nat.le_of_ble_eq_true rfl) (Nat.le_of_ble_eq_true rfl) (Nat.le_of_ble_eq_true rfl) ?_
      rintro I134 L135 ⟨p0v133, p1v133, p2v133, p3v133, p4v133, hI134, S136⟩
      have p0v133 := p0v133 r0_4 R_r0_4
      have p1v133 := p1v133 r0_1 r0_4 r0_5 R_r0_1 R_r0_4 R_r0_5
      have p2v133 := p2v133 r0_1 r0_4 r0_5 R_r0_1 R_r0_4 R_r0_5
      have p3v133 := p3v133 r0_4 R_r0_4
      have p4v133 := p4v133 r0_5 R_r0_5
      try simp only [q131, q132] at p3v133
      try simp only [q131, q132] at p4v133
      have e137 := CM.j S136 R_r0_1 (by decide) e113
      have e138 := CM.j S136 R_r0_1 (by decide) e114
      have e139 := CM.j S136 R_r0_1 (by decide) e115
      have e140 := CM.j S136 R_r0_1 (by decide) e116
      have e141 := CM.j S136 R_r0_1 (by decide) e117
      have e142 := CM.k S136 (by decide) e118
      have e143 := CM.k S136 (by decide) e120
      have e144 := CM.k S136 (by decide) e122
      have e145 := CM.k S136 (by decide) e124
      have e146 := CM.k S136 (by decide) e126
      have e147 := (p3v133 0 (by first | decide | exact ncne (by omega) (by omega) (by omega) | exact nckn (by omega) (by omega) | exact (nckn (by omega) (by omega)).symm) (by first | decide | exact ncne (by omega) (by omega) (by omega) | exact nckn (by omega) (by omega) | exact (nckn (by omega) (by omega)).symm)).trans e130
      obtain ⟨x148, e149⟩ : ∃ x, I134 r0_4 42 = x := ⟨_, rfl⟩
      have gx148 := rg x148
      have ox148 := IM.dgR hI134 R_r0_4 e149
      try simp only [q131, q132, e113, e114, e115, e116, e117, e118, e120, e122, e124, e126, e130, e149] at p0v133
      try have q0v133 := congrArg Int32.toInt p0v133
      try simp only [q131, q132, e113, e114, e115, e116, e117, e118, e120, e122, e124, e126, e130, e149] at p1v133
      try have q1v133 := congrArg Int32.toInt p1v133
      try simp only [q131, q132, e113, e114, e115, e116, e117, e118, e120, e122, e124, e126, e130, e149] at p2v133
      try have q2v133 := congrArg Int32.toInt p2v133
      have hw83 := VRW.mx hvw (by rw [← (p3v133 0 (by decide) (by decide)), e147]) (congrArg Int32.toInt e149) p0v133 p1v133 p2v133 (by omega) (by omega) (by omega) (by omega) (by omega)
      rw [t6, t7, t8, t9] at hw83
      have hv83 : x148.toInt = v.1 := (by have z9 := hw83.1; rw [e149] at z9; exact z9)
      refine k_aload_n C rfl rfl rfl ?_
      refine k_aload_n C rfl rfl rfl ?_
      refine c_VI C (a_X12_detNow_e hI134 H_r0) rfl rfl rfl rfl rfl ⟨_, rfl, rfl, T_r0, Nat.le_of_ble_eq_true rfl⟩ rfl rfl (Nat.le_of_ble_eq_true rfl) (Nat.le_of_ble_eq_true rfl) (Nat.le_of_ble_eq_true rfl) ?_
      rintro x150 _ _ ⟨o0x150, o1x150, p0x150, rfl, rfl⟩
      have p0x150 := p0x150 r0_1 R_r0_1
      have gx150 := rg x150
      try simp only [e137, e138, e139, e140, e141, e142, e143, e144, e145, e146, e147, e149] at p0x150
      try have q0x150 := congrArg Int32.toInt p0x150
      have hdt := p0x150
      rw [t6, t7, t8, t9] at hdt
      have hde := PRE.de hdt hb0.1 hb1.1 hb2.1 hb3.1 (by omega)
      refine k_iload C rfl rfl rfl ?_
      refine c_VI C (a_X12_power hI134 H_r0 (by omega) (by omega)) rfl rfl rfl rfl rfl ⟨_, rfl, rfl, T_r0, Nat.le_of_ble_eq_true rfl⟩ rfl rfl (Nat.le_of_ble_eq_true rfl) (Nat.le_of_ble_eq_true rfl) (Nat.le_of_ble_eq_true rfl) ?_
      rintro x151 _ _ ⟨o0x151, o1x151, p0x151, rfl, rfl⟩
      have p0x151 := p0x151 r0_1 R_r0_1
      have gx151 := rg x151
      try simp only [e137, e138, e139, e140, e141, e142, e143, e144, e145, e146, e147, e149] at p0x151
      try have q0x151 := congrArg Int32.toInt p0x151
      have hpw := PRE.pw p0x151 hde (by omega)
      rw [hwt] at hpw
      refine k_istore C (lw := [(5, .int x151), (4, .int x71), (0, .ref r0), (1, .int n1), (2, .int n2), (3, .int n3)]) rfl rfl (Nat.le_of_ble_eq_true rfl) rfl ?_
      refine z_iconst C (z := 0) rfl rfl rfl (fun x152 ex152 => ?_)
      have J153 : ∀ (nn154 : Nat) (I155 : IT) (L156 : LT) (x157 : Int32), (MN (41 - x157.toInt) nn154) → (IM R r0 I155) → (CM A R r0 [] [5] I134 L135 I155 L156) → (0 ≤ x157.toInt) → (x157.toInt ≤ 41) → (RVX I155 r0_5 42 w_r0_1_0.toInt v.1 (OVM (PmX (I r0_1 (166 + 4 * n3.toNatClampNeg + 0)).toInt (I r0_1 (166 + 4 * n3.toNatClampNeg + 1)).toInt (I r0_1 (166 + 4 * n3.toNatClampNeg + 2)).toInt (I r0_1 (166 + 4 * n3.toNatClampNeg + 3)).toInt v.2 v.1.toNat) (fun j => (PmX (I r0_1 (166 + 4 * n3.toNatClampNeg + 0)).toInt (I r0_1 (166 + 4 * n3.toNatClampNeg + 1)).toInt (I r0_1 (166 + 4 * n3.toNatClampNeg + 2)).toInt (I r0_1 (166 + 4 * n3.toNatClampNeg + 3)).toInt v.2 v.1.toNat) j * POW (dt w_r0_1_0.toInt (I r0_1 (166 + 4 * n3.toNatClampNeg + 0)).toInt (I r0_1 (166 + 4 * n3.toNatClampNeg + 1)).toInt (I r0_1 (166 + 4 * n3.toNatClampNeg + 2)).toInt (I r0_1 (166 + 4 * n3.toNatClampNeg + 3)).toInt) wt.toNat) x157.toInt)) → V 101 [(0, .ref r0), (1, .int n1), (2, .int n2), (5, .int x151), (6, .int x157)] [] (T, N, I155, L156, R) 0 0 := by
        intro nn154
        induction nn154 using Nat.strongRecOn with
        | _ nn154 ihJ153 =>
          intro I155 L156 x157 hmnn154 hI161 S160 b158 b159 ff101_0
          have gx157 := rg x157
          have e162 := CM.j S160 R_r0_1 (by decide) e137
          have e163 := CM.j S160 R_r0_1 (by decide) e138
          have e164 := CM.j S160 R_r0_1 (by decide) e139
          have e165 := CM.j S160 R_r0_1 (by decide) e140
          have e166 := CM.j S160 R_r0_1 (by decide) e141
          have e167 := CM.k S160 (by decide) e142
          have e168 := CM.k S160 (by decide) e143
          have e169 := CM.k S160 (by decide) e144
          have e170 := CM.k S160 (by decide) e145
          have e171 := CM.k S160 (by decide) e146
          have e172 := CM.j S160 R_r0_4 (by decide) e147
          have e173 := CM.j S160 R_r0_4 (by decide) e149
          refine k_iload C rfl rfl rfl ?_
          refine k_aload_n C rfl rfl rfl ?_
          refine g_R C rfl rfl rfl T_r0 rfl R_r0_4 ?_
          refine z_bipush C (z := 42) rfl rfl rfl (fun x174 ex174 => ?_)
          obtain ⟨T_r0_4, N_r0_4, A_r0_4⟩ := id H_r0_4
          refine a_I C rfl rfl T_r0_4 (by rw [N_r0_4]; exact vpi (by omega) (by omega)) ((congrArg (I155 r0_4) (nck (n := 42) (by omega))).trans e173) ?_
          refine b_icmp_gt C (t := 141) rfl rfl rfl (fun c175 => ?_) (fun c175 => ?_)
          · skip
            refine k_aload_n C rfl rfl rfl ?_
            refine z_bipush C (z := 40) rfl rfl rfl (fun x176 ex176 => ?_)
            refine k_iload_n C rfl rfl rfl ?_
            have hw145 := CM.j0 (W := [0, 6, 7, 8, 9]) (WA := [4, 5, 20]) (CM.cons S3 (CM.cons S59 (CM.cons S74 (CM.cons S86 (CM.cons S100 (CM.cons S112 (CM.cons S136 (CM.mono S160 (by decide) (by decide)) (by decide) (by decide)) (by decide) (by decide)) (by decide) (by decide)) (by decide) (by decide)) (by decide) (by decide)) (by decide) (by decide)) (by decide) (by decide)) R_r0_1 (by decide)
            have hR : VRW I155 r0_4 r0_5 42 w_r0_1_0.toInt (v.1, fun j => (PmX (I r0_1 (166 + 4 * n3.toNatClampNeg + 0)).toInt (I r0_1 (166 + 4 * n3.toNatClampNeg + 1)).toInt (I r0_1 (166 + 4 * n3.toNatClampNeg + 2)).toInt (I r0_1 (166 + 4 * n3.toNatClampNeg + 3)).toInt v.2 v.1.toNat) j * POW (dt w_r0_1_0.toInt (I r0_1 (166 + 4 * n3.toNatClampNeg + 0)).toInt (I r0_1 (166 + 4 * n3.toNatClampNeg + 1)).toInt (I r0_1 (166 + 4 * n3.toNatClampNeg + 2)).toInt (I r0_1 (166 + 4 * n3.toNatClampNeg + 3)).toInt) wt.toNat) := ⟨by rw [e173]; exact hv83, hw83.2.1, hw83.2.2.1, OVM.e ff101_0 (by omega)⟩
            have q177 : x176.toNatClampNeg = 40 := nck (by omega)
            refine c_VV C (a_X12_takes_e hI161 H_r0 (by omega) (by omega) (by omega) (by omega)) rfl rfl rfl rfl rfl ⟨_, rfl, rfl, T_r0, Nat.le_of_ble_eq_true rfl⟩ rfl rfl (Nat.le_of_ble_eq_true rfl) (Nat.le_of_ble_eq_true rfl) (Nat.le_of_ble_eq_true rfl) ?_
            rintro I179 L180 ⟨p0v178, p1v178, p2v178, p3v178, p4v178, p5v178, hI179, S181⟩
            have p0v178 := p0v178 r0_4 R_r0_4
            have p1v178 := p1v178 r0_1 r0_4 R_r0_1 R_r0_4
            have p2v178 := p2v178 r0_1 r0_4 r0_5 R_r0_1 R_r0_4 R_r0_5
            have p3v178 := p3v178 r0_1 r0_4 r0_5 R_r0_1 R_r0_4 R_r0_5
            have p4v178 := p4v178 r0_4 R_r0_4
            have p5v178 := p5v178 r0_5 R_r0_5
            try simp only [q177] at p4v178
            try simp only [q177] at p5v178
            have e182 := CM.j S181 R_r0_1 (by decide) e162
            have e183 := CM.j S181 R_r0_1 (by decide) e163
            have e184 := CM.j S181 R_r0_1 (by decide) e164
            have e185 := CM.j S181 R_r0_1 (by decide) e165
            have e186 := CM.j S181 R_r0_1 (by decide) e166
            have e187 := CM.k S181 (by decide) e167
            have e188 := CM.k S181 (by decide) e168
            have e189 := CM.k S181 (by decide) e169
            have e190 := CM.k S181 (by decide) e170
            have e191 := CM.k S181 (by decide) e171
            have e192 := (p4v178 0 (by first | decide | exact ncne (by omega) (by omega) (by omega) | exact nckn (by omega) (by omega) | exact (nckn (by omega) (by omega)).symm)).trans e172
            have e193 := (p4v178 42 (by first | decide | exact ncne (by omega) (by omega) (by omega) | exact nckn (by omega) (by omega) | exact (nckn (by omega) (by omega)).symm)).trans e173
            obtain ⟨x194, e195⟩ : ∃ x, I179 r0_4 40 = x := ⟨_, rfl⟩
            have gx194 := rg x194
            have ox194 := IM.dgR hI179 R_r0_4 e195
            try simp only [q177, e162, e163, e164, e165, e166, e167, e168, e169, e170, e171, e172, e173, e195] at p0v178
            try have q0v178 := congrArg Int32.toInt p0v178
            try simp only [q177, e162, e163, e164, e165, e166, e167, e168, e169, e170, e171, e172, e173, e195] at p1v178
            try have q1v178 := congrArg Int32.toInt p1v178
            try simp only [q177, e162, e163, e164, e165, e166, e167, e168, e169, e170, e171, e172, e173, e195] at p2v178
            try have q2v178 := congrArg Int32.toInt p2v178
            try simp only [q177, e162, e163, e164, e165, e166, e167, e168, e169, e170, e171, e172, e173, e195] at p3v178
            try have q3v178 := congrArg Int32.toInt p3v178
            have hd145 : (I179 r0_4 40).toInt = w_r0_1_E_6_10_n2_toNatClampNeg.toInt := (by rw [e195]; first | exact p1v178 | omega)
            have hT145 := TKE.w p3v178 hw145
            have hF145 : VRW I179 r0_4 r0_5 40 w_r0_1_0.toInt (w_r0_1_E_6_10_n2_toNatClampNeg.toInt, (fun k => (I r0_1 (7 + 10 * n2.toNatClampNeg + k)).toInt)) := VRW.tk hd145 (by omega) (fun k hk => by (rw [hT145 k (by omega), show 6 + 10 * n2.toNatClampNeg + 1 + k = 7 + 10 * n2.toNatClampNeg + k from by omega])) (CNW.g (f := n2) hp0 (congrArg Int32.toInt k0_r0_1_E_6_10_n2_toNatClampNeg) (congrArg Int32.toInt k0_r0_1_0) (by omega) (by rw [k0_r0_1_1]; omega))
            have hR := hR.sm (p4v178 42 (by decide)) (fun k hk => p5v178 _ (by omega))
            refine k_aload_n C rfl rfl rfl ?_
            refine z_bipush C (z := 40) rfl rfl rfl (fun x196 ex196 => ?_)
            refine z_bipush C (z := 44) rfl rfl rfl (fun x197 ex197 => ?_)
            have hk153 := e195
            have q198 : x196.toNatClampNeg = 40 := nck (by omega)
            have q199 : x197.toNatClampNeg = 44 := nck (by omega)
            refine c_VV C (a_X12_mixes_e hI179 H_r0 (by omega) (by omega) (by omega) (by omega) (by first | omega | (simp only [q198, q199, e182, e183, e184, e185, e186, e187, e188, e189, e190, e191, e192, e193, e195, and_true, true_and, or_true, true_or, and_false, false_and, or_false, false_or] <;> omega))) rfl rfl rfl rfl rfl ⟨_, rfl, rfl, T_r0, Nat.le_of_ble_eq_true rfl⟩ rfl rfl (Nat.le_of_ble_eq_true rfl) (Nat.le_of_ble_eq_true rfl) (Nat.le_of_ble_eq_true rfl) ?_
            rintro I201 L202 ⟨p0v200, p1v200, p2v200, p3v200, p4v200, hI201, S203⟩
            have p0v200 := p0v200 r0_4 R_r0_4
            have p1v200 := p1v200 r0_1 r0_4 r0_5 R_r0_1 R_r0_4 R_r0_5
            have p2v200 := p2v200 r0_1 r0_4 r0_5 R_r0_1 R_r0_4 R_r0_5
            have p3v200 := p3v200 r0_4 R_r0_4
            have p4v200 := p4v200 r0_5 R_r0_5
            try simp only [q198, q199] at p3v200
            try simp only [q198, q199] at p4v200
            have e204 := CM.j S203 R_r0_1 (by decide) e182
            have e205 := CM.j S203 R_r0_1 (by decide) e183
            have e206 := CM.j S203 R_r0_1 (by decide) e184
            have e207 := CM.j S203 R_r0_1 (by decide) e185
            have e208 := CM.j S203 R_r0_1 (by decide) e186
            have e209 := CM.k S203 (by decide) e187
            have e210 := CM.k S203 (by decide) e188
            have e211 := CM.k S203 (by decide) e189
            have e212 := CM.k S203 (by decide) e190
            have e213 := CM.k S203 (by decide) e191
            have e214 := (p3v200 0 (by first | decide | exact ncne (by omega) (by omega) (by omega) | exact nckn (by omega) (by omega) | exact (nckn (by omega) (by omega)).symm) (by first | decide | exact ncne (by omega) (by omega) (by omega) | exact nckn (by omega) (by omega) | exact (nckn (by omega) (by omega)).symm)).trans e192
            have e215 := (p3v200 42 (by first | decide | exact ncne (by omega) (by omega) (by omega) | exact nckn (by omega) (by omega) | exact (nckn (by omega) (by omega)).symm) (by first | decide | exact ncne (by omega) (by omega) (by omega) | exact nckn (by omega) (by omega) | exact (nckn (by omega) (by omega)).symm)).trans e193
            have e216 := (p3v200 40 (by first | decide | exact ncne (by omega) (by omega) (by omega) | exact nckn (by omega) (by omega) | exact (nckn (by omega) (by omega)).symm) (by first | decide | exact ncne (by omega) (by omega) (by omega) | exact nckn (by omega) (by omega) | exact (nckn (by omega) (by omega)).symm)).trans e195
            obtain ⟨x217, e218⟩ : ∃ x, I201 r0_4 44 = x := ⟨_, rfl⟩
            have gx217 := rg x217
            have ox217 := IM.dgR hI201 R_r0_4 e218
            try simp only [q198, q199, e182, e183, e184, e185, e186, e187, e188, e189, e190, e191, e192, e193, e195, e218] at p0v200
            try have q0v200 := congrArg Int32.toInt p0v200
            try simp only [q198, q199, e182, e183, e184, e185, e186, e187, e188, e189, e190, e191, e192, e193, e195, e218] at p1v200
            try have q1v200 := congrArg Int32.toInt p1v200
            try simp only [q198, q199, e182, e183, e184, e185, e186, e187, e188, e189, e190, e191, e192, e193, e195, e218] at p2v200
            try have q2v200 := congrArg Int32.toInt p2v200
            have hwm := VRW.mx hF145 (congrArg Int32.toInt hk153) (congrArg Int32.toInt e218) p0v200 p1v200 p2v200 (by omega) (by omega) (by omega) (by omega) (by omega)
            rw [t6, t7, t8, t9] at hwm
            have hR := hR.sm (p3v200 42 (by decide) (by decide)) (fun k hk => p4v200 _ (by omega) (by omega))
            refine k_aload_n C rfl rfl rfl ?_
            refine k_iload_n C rfl rfl rfl ?_
            have hw158 := CM.j0 (W := [0, 6, 7, 8, 9]) (WA := [4, 5, 20]) (CM.cons S3 (CM.cons S59 (CM.cons S74 (CM.cons S86 (CM.cons S100 (CM.cons S112 (CM.cons S136 (CM.cons S160 (CM.cons S181 (CM.mono S203 (by decide) (by decide)) (by decide) (by decide)) (by decide) (by decide)) (by decide) (by decide)) (by decide) (by decide)) (by decide) (by decide)) (by decide) (by decide)) (by decide) (by decide)) (by decide) (by decide)) (by decide) (by decide)) R_r0_1 (by decide)
            have hk158 := e218
            have hk42 := e215
            refine c_VI C (a_X12_makes_x hI201 H_r0 (by omega) (by omega) (fun a1 h1 => by cases (R_r0_1.symm.trans h1); first | omega | (simp only [e204, e205, e206, e207, e208, e209, e210, e211, e212, e213, e214, e215, e216, e218, and_true, true_and, or_true, true_or, and_false, false_and, or_false, false_or] <;> omega)) (fun a1 h1 => by cases (R_r0_1.symm.trans h1); rw [hw158]; exact hp1 _ (ncn (by omega) (by omega)) (by (try simp only [k0_r0_1_3]); omega)) (fun a1 a4 a5 h1 h4 h5 => by cases (R_r0_1.symm.trans h1); cases (R_r0_4.symm.trans h4); cases (R_r0_5.symm.trans h5); rw [e207]; exact hwm.cn) (fun a4 h4 => by cases (R_r0_4.symm.trans h4); exact ⟨by rw [hwm.1]; exact hwm.2.1, by rw [hwm.1]; exact hwm.2.2.1⟩)) rfl rfl rfl rfl rfl ⟨_, rfl, rfl, T_r0, Nat.le_of_ble_eq_true rfl⟩ rfl rfl (Nat.le_of_ble_eq_true rfl) (Nat.le_of_ble_eq_true rfl) (Nat.le_of_ble_eq_true rfl) ?_
            rintro x219 I220 L221 ⟨o0x219, o1x219, p0x219, p1x219, p2x219, p3x219, p4x219, hI220, S222⟩
            have p0x219 := p0x219 r0_1 r0_4 r0_5 R_r0_1 R_r0_4 R_r0_5
            have p1x219 := p1x219 r0_5 R_r0_5
            have p2x219 := p2x219 r0_4 R_r0_4
            have p3x219 := p3x219 r0_5 R_r0_5
            have p4x219 := p4x219 r0_4 R_r0_4
            have e223 := CM.j S222 R_r0_1 (by decide) e204
            have e224 := CM.j S222 R_r0_1 (by decide) e205
            have e225 := CM.j S222 R_r0_1 (by decide) e206
            have e226 := CM.j S222 R_r0_1 (by decide) e207
            have e227 := CM.j S222 R_r0_1 (by decide) e208
            have e228 := CM.k S222 (by decide) e209
            have e229 := CM.k S222 (by decide) e210
            have e230 := CM.k S222 (by decide) e211
            have e231 := CM.k S222 (by decide) e212
            have e232 := CM.k S222 (by decide) e213
            have gx219 := rg x219
            try simp only [e204, e205, e206, e207, e208, e209, e210, e211, e212, e213, e214, e215, e216, e218] at p0x219
            try have q0x219 := congrArg Int32.toInt p0x219
            try simp only [e204, e205, e206, e207, e208, e209, e210, e211, e212, e213, e214, e215, e216, e218] at p1x219
            try have q1x219 := congrArg Int32.toInt p1x219
            try simp only [e204, e205, e206, e207, e208, e209, e210, e211, e212, e213, e214, e215, e216, e218] at p2x219
            try have q2x219 := congrArg Int32.toInt p2x219
            try simp only [e204, e205, e206, e207, e208, e209, e210, e211, e212, e213, e214, e215, e216, e218] at p3x219
            try have q3x219 := congrArg Int32.toInt p3x219
            try simp only [e204, e205, e206, e207, e208, e209, e210, e211, e212, e213, e214, e215, e216, e218] at p4x219
            try have q4x219 := congrArg Int32.toInt p4x219
            have hmk2 := p0x219
            rw [hw158] at hmk2
            have hfm := hwm.fq
            try rw [hk158] at hfm
            have hv2 := VPR.cg hmk2 (VWF.cg hfm (by show (0 : Int) ≤ _; omega) hov)
            have hR := hR.sm (p4x219.trans hk42.symm) p3x219
            refine b_if_eq C (t := 178) rfl rfl rfl (fun c237 => ?_) (fun c237 => ?_)
            · skip
              refine z_iconst C (z := 0) rfl rfl rfl (fun x238 ex238 => ?_)
              exact k_iret C rfl (Or.inr ⟨rfl, z01 (by omega) (by omega)⟩) (Nat.le_of_ble_eq_true rfl) (Nat.le_of_ble_eq_true rfl) ⟨_, _, _, rfl, rfl, by omega, by omega, fun a1 h1 => by cases (R_r0_1.symm.trans h1); refine Or.inr ⟨by simp only [k0_r0_1_1, k0_r0_1_2, k0_r0_1_3]; omega, by rw [e228]; omega, ?_⟩; simp only [k0_r0_1_0, k0_r0_1_E_6_10_n2_toNatClampNeg]; rw [← hrk]; first | exact SYR.n2 hv2 (by omega) (by omega) | exact SYR.y (by omega) hvo hv2 (by omega) hR hlk (by omega), hI220, (CM.cons S3 (CM.cons S59 (CM.cons S74 (CM.cons S86 (CM.cons S100 (CM.cons S112 (CM.cons S136 (CM.cons S160 (CM.cons S181 (CM.cons S203 (CM.mono S222 (by decide) (by decide)) (by decide) (by decide)) (by decide) (by decide)) (by decide) (by decide)) (by decide) (by decide)) (by decide) (by decide)) (by decide) (by decide)) (by decide) (by decide)) (by decide) (by decide)) (by decide) (by decide)) (by decide) (by decide))⟩
            refine k_aload_n C rfl rfl rfl ?_
            refine z_iconst C (z := 0) rfl rfl rfl (fun x239 ex239 => ?_)
            refine z_bipush C (z := 42) rfl rfl rfl (fun x240 ex240 => ?_)
            obtain ⟨x241, e242⟩ : ∃ x, I220 r0_4 0 = x := ⟨_, rfl⟩
            have gx241 := rg x241
            have ox241 := IM.dgR hI220 R_r0_4 e242
            obtain ⟨x243, e244⟩ : ∃ x, I220 r0_4 42 = x := ⟨_, rfl⟩
            have gx243 := rg x243
            have ox243 := IM.dgR hI220 R_r0_4 e244
            have q245 : x239.toNatClampNeg = 0 := nck (by omega)
            have q246 : x240.toNatClampNeg = 42 := nck (by omega)
            refine c_VI C (a_X12_isLike_e hI220 H_r0 (by omega) (by omega) (by omega) (by omega)) rfl rfl rfl rfl rfl ⟨_, rfl, rfl, T_r0, Nat.le_of_ble_eq_true rfl⟩ rfl rfl (Nat.le_of_ble_eq_true rfl) (Nat.le_of_ble_eq_true rfl) (Nat.le_of_ble_eq_true rfl) ?_
            rintro x247 _ _ ⟨o0x247, o1x247, p0x247, rfl, rfl⟩
            have p0x247 := p0x247 r0_4 r0_5 R_r0_4 R_r0_5
            have gx247 := rg x247
            try simp only [q245, q246, e223, e224, e225, e226, e227, e228, e229, e230, e231, e232, e242, e244] at p0x247
            try have q0x247 := congrArg Int32.toInt p0x247
            have hlk := p0x247
            refine b_if_eq C (t := 178) rfl rfl rfl (fun c248 => ?_) (fun c248 => ?_)
            · skip
              refine z_iconst C (z := 0) rfl rfl rfl (fun x249 ex249 => ?_)
              exact k_iret C rfl (Or.inr ⟨rfl, z01 (by omega) (by omega)⟩) (Nat.le_of_ble_eq_true rfl) (Nat.le_of_ble_eq_true rfl) ⟨_, _, _, rfl, rfl, by omega, by omega, fun a1 h1 => by cases (R_r0_1.symm.trans h1); refine Or.inr ⟨by simp only [k0_r0_1_1, k0_r0_1_2, k0_r0_1_3]; omega, by rw [e228]; omega, ?_⟩; simp only [k0_r0_1_0, k0_r0_1_E_6_10_n2_toNatClampNeg]; rw [← hrk]; first | exact SYR.n2 hv2 (by omega) (by omega) | exact SYR.y (by omega) hvo hv2 (by omega) hR hlk (by omega), hI220, (CM.cons S3 (CM.cons S59 (CM.cons S74 (CM.cons S86 (CM.cons S100 (CM.cons S112 (CM.cons S136 (CM.cons S160 (CM.cons S181 (CM.cons S203 (CM.mono S222 (by decide) (by decide)) (by decide) (by decide)) (by decide) (by decide)) (by decide) (by decide)) (by decide) (by decide)) (by decide) (by decide)) (by decide) (by decide)) (by decide) (by decide)) (by decide) (by decide)) (by decide) (by decide)) (by decide) (by decide))⟩
            refine z_iconst C (z := 1) rfl rfl rfl (fun x250 ex250 => ?_)
            refine k_goto C (pc2 := 179) rfl rfl ?_
            exact k_iret C rfl (Or.inr ⟨rfl, z01 (by omega) (by omega)⟩) (Nat.le_of_ble_eq_true rfl) (Nat.le_of_ble_eq_true rfl) ⟨_, _, _, rfl, rfl, by omega, by omega, fun a1 h1 => by cases (R_r0_1.symm.trans h1); refine Or.inr ⟨by simp only [k0_r0_1_1, k0_r0_1_2, k0_r0_1_3]; omega, by rw [e228]; omega, ?_⟩; simp only [k0_r0_1_0, k0_r0_1_E_6_10_n2_toNatClampNeg]; rw [← hrk]; first | exact SYR.n2 hv2 (by omega) (by omega) | exact SYR.y (by omega) hvo hv2 (by omega) hR hlk (by omega), hI220, (CM.cons S3 (CM.cons S59 (CM.cons S74 (CM.cons S86 (CM.cons S100 (CM.cons S112 (CM.cons S136 (CM.cons S160 (CM.cons S181 (CM.cons S203 (CM.mono S222 (by decide) (by decide)) (by decide) (by decide)) (by decide) (by decide)) (by decide) (by decide)) (by decide) (by decide)) (by decide) (by decide)) (by decide) (by decide)) (by decide) (by decide)) (by decide) (by decide)) (by decide) (by decide)) (by decide) (by decide))⟩
          refine k_aload_n C rfl rfl rfl ?_
          refine z_bipush C (z := 42) rfl rfl rfl (fun x251 ex251 => ?_)
          refine k_iload C rfl rfl rfl ?_
          refine k_aload_n C rfl rfl rfl ?_
          refine k_aload_n C rfl rfl rfl ?_
          refine z_bipush C (z := 42) rfl rfl rfl (fun x252 ex252 => ?_)
          refine k_iload C rfl rfl rfl ?_
          have q253 : x252.toNatClampNeg = 42 := nck (by omega)
          refine c_VI C (a_X12_of hI161 H_r0 (by omega) (by omega) (by omega) (by omega)) rfl rfl rfl rfl rfl ⟨_, rfl, rfl, T_r0, Nat.le_of_ble_eq_true rfl⟩ rfl rfl (Nat.le_of_ble_eq_true rfl) (Nat.le_of_ble_eq_true rfl) (Nat.le_of_ble_eq_true rfl) ?_
          rintro x254 _ _ ⟨o0x254, o1x254, p0x254, rfl, rfl⟩
          have p0x254 := p0x254 r0_5 R_r0_5
          have gx254 := rg x254
          try simp only [q253, e162, e163, e164, e165, e166, e167, e168, e169, e170, e171, e172, e173] at p0x254
          try have q0x254 := congrArg Int32.toInt p0x254
          have hO := p0x254
          refine k_iload C rfl rfl rfl ?_
          refine c_VI C (a_X12_times hI161 H_r0 (by omega) (by omega) (by omega) (by omega)) rfl rfl rfl rfl rfl ⟨_, rfl, rfl, T_r0, Nat.le_of_ble_eq_true rfl⟩ rfl rfl (Nat.le_of_ble_eq_true rfl) (Nat.le_of_ble_eq_true rfl) (Nat.le_of_ble_eq_true rfl) ?_
          rintro x255 _ _ ⟨o0x255, o1x255, p0x255, p1x255, p2x255, p3x255, rfl, rfl⟩
          have p0x255 := p0x255 r0_1 R_r0_1
          have p2x255 := p2x255 r0_1 R_r0_1
          have p3x255 := p3x255 r0_1 R_r0_1
          have gx255 := rg x255
          try simp only [e162, e163, e164, e165, e166, e167, e168, e169, e170, e171, e172, e173] at p0x255
          try have q0x255 := congrArg Int32.toInt p0x255
          try simp only [e162, e163, e164, e165, e166, e167, e168, e169, e170, e171, e172, e173] at p1x255
          try have q1x255 := congrArg Int32.toInt p1x255
          try simp only [e162, e163, e164, e165, e166, e167, e168, e169, e170, e171, e172, e173] at p2x255
          try have q2x255 := congrArg Int32.toInt p2x255
          try simp only [e162, e163, e164, e165, e166, e167, e168, e169, e170, e171, e172, e173] at p3x255
          try have q3x255 := congrArg Int32.toInt p3x255
          have hT := p3x255
          have q256 : x251.toNatClampNeg = 42 := nck (by omega)
          refine c_VV C (a_X12_put hI161 H_r0 (by omega) (by omega) (by omega) (by omega) (by omega) (by omega)) rfl rfl rfl rfl rfl ⟨_, rfl, rfl, T_r0, Nat.le_of_ble_eq_true rfl⟩ rfl rfl (Nat.le_of_ble_eq_true rfl) (Nat.le_of_ble_eq_true rfl) (Nat.le_of_ble_eq_true rfl) ?_
          rintro I258 L259 ⟨p0v257, p1v257, hI258, S260⟩
          have p0v257 := p0v257 r0_5 R_r0_5
          have p1v257 := p1v257 r0_5 R_r0_5
          try simp only [q256] at p1v257
          have e261 := CM.j S260 R_r0_1 (by decide) e162
          have e262 := CM.j S260 R_r0_1 (by decide) e163
          have e263 := CM.j S260 R_r0_1 (by decide) e164
          have e264 := CM.j S260 R_r0_1 (by decide) e165
          have e265 := CM.j S260 R_r0_1 (by decide) e166
          have e266 := CM.k S260 (by decide) e167
          have e267 := CM.k S260 (by decide) e168
          have e268 := CM.k S260 (by decide) e169
          have e269 := CM.k S260 (by decide) e170
          have e270 := CM.k S260 (by decide) e171
          have e271 := CM.j S260 R_r0_4 (by decide) e172
          have e272 := CM.j S260 R_r0_4 (by decide) e173
          try simp only [q256, e162, e163, e164, e165, e166, e167, e168, e169, e170, e171, e172, e173] at p0v257
          try have q0v257 := congrArg Int32.toInt p0v257
          have hP := p0v257
          refine z_iinc C (z := 1) (lw := fun x273 => [(6, .int x273), (0, .ref r0), (1, .int n1), (2, .int n2), (5, .int x151)]) rfl rfl rfl (Nat.le_of_ble_eq_true rfl) rfl ⟨by omega, by omega⟩ (fun _ => rfl) (fun x273 ex273 => ?_)
          show V 138 [(6, .int x273), (0, .ref r0), (1, .int n1), (2, .int n2), (5, .int x151)] _ _ _ _
          refine k_goto C (pc2 := 101) rfl rfl ?_
          refine k_sub S [(0, .ref r0), (1, .int n1), (2, .int n2), (5, .int x151), (6, .int x273)] (List.forall_mem_cons.mpr ⟨List.mem_of_getElem? (i := 1) rfl, List.forall_mem_cons.mpr ⟨List.mem_of_getElem? (i := 2) rfl, List.forall_mem_cons.mpr ⟨List.mem_of_getElem? (i := 3) rfl, List.forall_mem_cons.mpr ⟨List.mem_of_getElem? (i := 4) rfl, List.forall_mem_cons.mpr ⟨List.mem_of_getElem? (i := 0) rfl, fun _ h => nomatch h⟩⟩⟩⟩⟩) ?_
          exact ihJ153 _ (MN.lt hmnn154 (by omega) (by omega)) I258 L259 x273 rfl hI258 (CM.cons S160 (CM.mono S260 (by decide) (by decide)) (by decide) (by decide)) (by omega) (by omega) (by exact OVM.t ff101_0 hO hpw hT hP (by omega) (by omega) (by omega) (by omega))
      refine k_istore C (lw := [(6, .int x152), (5, .int x151), (4, .int x71), (0, .ref r0), (1, .int n1), (2, .int n2), (3, .int n3)]) rfl rfl (Nat.le_of_ble_eq_true rfl) rfl ?_
      refine k_sub S [(0, .ref r0), (1, .int n1), (2, .int n2), (5, .int x151), (6, .int x152)] (List.forall_mem_cons.mpr ⟨List.mem_of_getElem? (i := 3) rfl, List.forall_mem_cons.mpr ⟨List.mem_of_getElem? (i := 4) rfl, List.forall_mem_cons.mpr ⟨List.mem_of_getElem? (i := 5) rfl, List.forall_mem_cons.mpr ⟨List.mem_of_getElem? (i := 1) rfl, List.forall_mem_cons.mpr ⟨List.mem_of_getElem? (i := 0) rfl, fun _ h => nomatch h⟩⟩⟩⟩⟩) ?_
      exact J153 _ I134 L135 x152 rfl hI134 CM.rf (by omega) (by omega) (by exact OVM.z hw83.2.2.2 (by omega))
    refine z_iconst C (z := 0) rfl rfl rfl (fun x274 ex274 => ?_)
    exact k_iret C rfl (Or.inr ⟨rfl, z01 (by omega) (by omega)⟩) (Nat.le_of_ble_eq_true rfl) (Nat.le_of_ble_eq_true rfl) ⟨_, _, _, rfl, rfl, by omega, by omega, fun a1 h1 => by cases (R_r0_1.symm.trans h1); refine Or.inr ⟨by simp only [k0_r0_1_1, k0_r0_1_2, k0_r0_1_3]; omega, by rw [e106]; omega, ?_⟩; simp only [k0_r0_1_0, k0_r0_1_E_6_10_n2_toNatClampNeg]; rw [← hrk]; first | exact SYR.n1 hv1 (by omega) (by omega) | exact SYR.n0 (by omega) (by omega) (by omega), hI98, (CM.cons S3 (CM.cons S59 (CM.cons S74 (CM.cons S86 (CM.mono S100 (by decide) (by decide)) (by decide) (by decide)) (by decide) (by decide)) (by decide) (by decide)) (by decide) (by decide))⟩
  refine z_iconst C (z := 1) rfl rfl rfl (fun x275 ex275 => ?_)
  refine k_goto C (pc2 := 35) rfl rfl ?_
  refine z_iconst C (z := 1) rfl rfl rfl (fun x276 ex276 => ?_)
  have q277 : x275.toNatClampNeg = 1 := nck (by omega)
  have q278 : x276.toNatClampNeg = 1 := nck (by omega)
  refine c_VI C (a_X12_throwsIf_e hI2 H_r0 (by omega) (by omega)) rfl rfl rfl rfl rfl ⟨_, rfl, rfl, T_r0, Nat.le_of_ble_eq_true rfl⟩ rfl rfl (Nat.le_of_ble_eq_true rfl) (Nat.le_of_ble_eq_true rfl) (Nat.le_of_ble_eq_true rfl) ?_
  rintro x279 I280 L281 ⟨o0x279, o1x279, p0x279, p1x279, hI280, S282⟩
  have e283 := CM.j S282 R_r0_1 (by decide) e4
  have e284 := CM.j S282 R_r0_1 (by decide) e5
  have e285 := CM.j S282 R_r0_1 (by decide) e6
  have e286 := CM.j S282 R_r0_1 (by decide) e7
  have e287 := CM.j S282 R_r0_1 (by decide) e8
  have gx279 := rg x279
  obtain ⟨x289, e290⟩ : ∃ x, I280 r0 0 = x := ⟨_, rfl⟩
  have gx289 := rg x289
  try simp only [q277, q278, e4, e5, e6, e7, e8, e9, e290] at p0x279
  try have q0x279 := congrArg Int32.toInt p0x279
  try simp only [q277, q278, e4, e5, e6, e7, e8, e9, e290] at p1x279
  try have q1x279 := congrArg Int32.toInt p1x279
  refine b_if_eq C (t := 44) rfl rfl rfl (fun c291 => by exfalso; omega) (fun c291 => ?_)
  refine z_iconst C (z := 0) rfl rfl rfl (fun x292 ex292 => ?_)
  exact k_iret C rfl (Or.inr ⟨rfl, z01 (by omega) (by omega)⟩) (Nat.le_of_ble_eq_true rfl) (Nat.le_of_ble_eq_true rfl) ⟨_, _, _, rfl, rfl, by omega, by omega, fun a1 h1 => by cases (R_r0_1.symm.trans h1); exact Or.inl ⟨by simp only [k0_r0_1_1, k0_r0_1_2, k0_r0_1_3]; omega, by rw [e290]; omega⟩, hI280, (CM.cons S3 (CM.mono S282 (by decide) (by decide)) (by decide) (by decide))⟩

