/-! the reference: two values: exactly -/
theorem FQV.sy {p : Int} {v w : FVV} (h : FQV p v w) : FQV p w v := ⟨h.1.symm, fun m hm => (h.2 m (by have := h.1; omega)).sy⟩
theorem FQV.tr {p : Int} {u v w : FVV} (h : FQV p u v) (g : FQV p v w) : FQV p u w := ⟨h.1.trans g.1, fun m hm => (h.2 m hm).tr (g.2 m (by have := h.1; omega))⟩
theorem OQV.sy {p : Int} {a b : Option FVV} (h : OQV p a b) : OQV p b a := by
  rcases h with ⟨h1, h2⟩ | ⟨v, w, h1, h2, h3⟩
  · exact Or.inl ⟨h2, h1⟩
  · exact Or.inr ⟨w, v, h2, h1, h3.sy⟩
theorem OQV.tr {p : Int} {a b c : Option FVV} (h : OQV p a b) (g : OQV p b c) : OQV p a c := by
  rcases h with ⟨h1, h2⟩ | ⟨v, w, h1, h2, h3⟩
  · rcases g with ⟨g1, g2⟩ | ⟨v, w, g1, -⟩
    · exact Or.inl ⟨h1, g2⟩
    · rw [h2] at g1; cases g1
  · rcases g with ⟨g1, g2⟩ | ⟨v', w', g1, g2, g3⟩
    · rw [h2] at g1; cases g1
    · rw [h2] at g1; cases g1
      exact Or.inr ⟨v, w', h1, g2, h3.tr g3⟩
theorem OQV.cg {p : Int} {a a' b b' : Option FVV} (h : OQV p a a') (g : OQV p b b') : OQV p a b ↔ OQV p a' b' := ⟨fun q => h.sy.tr (q.tr g), fun q => h.tr (q.tr g.sy)⟩
theorem VRW.tk {I : IT} {dg nu r : Nat} {p D : Int} {g : Nat → Int} (hd : (I dg r).toInt = D) (h0 : 0 ≤ D ∧ D ≤ 40) (t : ∀ k : Nat, (k : Int) ≤ D → RI I nu r k = g k) (c : ∀ k : Nat, (k : Int) ≤ D → 0 ≤ g k ∧ g k < p) : VRW I dg nu r p (D, g) := ⟨hd, h0.1, h0.2, fun j hj => by
  rw [t j hj]; exact ⟨(c j hj).1, (c j hj).2, PmE.rf⟩⟩
theorem VRW.fe {I : IT} {dg nu a b : Nat} {p : Int} {v w : FVV} (hf : VRW I dg nu a p v) (hg : VRW I dg nu b p w) : RLK I dg nu a b ↔ FQV p v w := by
  obtain ⟨a1, a2, a3, a4⟩ := hf
  obtain ⟨b1, b2, b3, b4⟩ := hg
  refine ⟨fun e => ⟨by have := e.1; omega, fun m hm => ?_⟩, fun e => ⟨by have := e.1; omega, fun m hm => ?_⟩⟩
  · have z := e.2 m (by have := e.1; omega)
    have y1 := (a4 m hm).2.2
    have y2 := (b4 m (by have := e.1; omega)).2.2
    rw [z] at y1
    exact y1.sy.tr y2
  · have h1 := a4 m (by have := e.1; omega)
    have h2 := b4 m (by have := e.1; omega)
    exact (h1.2.2.tr ((e.2 m (by have := e.1; omega)).tr h2.2.2.sy)).eq h1.1 h1.2.1 h2.1 h2.2.1
theorem OVX.ne {I1 I2 : IT} {dg nu : Nat} {x y p : Int} {o1 o2 : Option FVV} (h1 : VPR I1 dg nu x p o1) (h2 : VPR I2 dg nu y p o2) (hx : 0 ≤ x ∧ x ≤ 1) (hy : 0 ≤ y ∧ y ≤ 1) (n : x ≠ y) : ¬ OQV p o1 o2 := fun q => by
  rcases q with ⟨q1, q2⟩ | ⟨v, w, q1, q2, -⟩
  · by_cases c : x = 1
    · obtain ⟨v, z, -⟩ := h1.2 c
      rw [q1] at z; cases z
    · obtain ⟨v, z, -⟩ := h2.2 (by omega)
      rw [q2] at z; cases z
  · by_cases c : x = 0
    · have z := h1.1 c
      rw [q1] at z; cases z
    · have z := h2.1 (by omega)
      rw [q2] at z; cases z
theorem OVX.nn {I1 I2 : IT} {dg nu : Nat} {x y p : Int} {o1 o2 : Option FVV} (h1 : VPR I1 dg nu x p o1) (h2 : VPR I2 dg nu y p o2) (hx : x = 0) (hy : y = 0) : OQV p o1 o2 := Or.inl ⟨h1.1 hx, h2.1 hy⟩
theorem OVX.ss {I2 : IT} {dg nu : Nat} {x y p : Int} {v : FVV} {o1 o2 : Option FVV} (e : o1 = some v) (hv : VRW I2 dg nu 42 p v) (h2 : VPR I2 dg nu x p o2) (hx : x = 1) (m : IFF y (RLK I2 dg nu 0 42)) : (y = 1 → OQV p o1 o2) ∧ (y = 0 → ¬ OQV p o1 o2) := by
  obtain ⟨w, z, z2⟩ := h2.2 hx
  have fe := VRW.fe z2 hv
  refine ⟨fun q => Or.inr ⟨v, w, e, z, (fe.mp (m.1 q)).sy⟩, fun q h => m.2 q (fe.mpr ?_)⟩
  rw [e, z] at h
  rcases h with ⟨h, -⟩ | ⟨v9, w9, h, h', h9⟩
  · cases h
  · cases h; cases h'; exact h9.sy
def AGW (W : Nat → Int32) (p d : Int) (ls lt : List (Int × Int)) (j : Nat) : Prop := (W (6 + 10 * j)).toInt = d → OQV p (VWF ((W (6 + 10 * j)).toInt, fun k => (W (7 + 10 * j + k)).toInt) ls) (VWF ((W (6 + 10 * j)).toInt, fun k => (W (7 + 10 * j + k)).toInt) lt)
theorem a_X12_agree_x {d : Nat} {T N : Nat → Nat} {I : IT} {L : LT} {R : RT} {A : Nat → Prop} {r0 : Nat} {n1 n2 n3 : Int32} (hI : IM R r0 I) (H_r0 : (h_MD T N R A) r0) (hp0 : ∀ a1, R r0 1 = some a1 → CNW (I a1)) (hp1 : ∀ a1, R r0 1 = some a1 → ∀ j : Nat, j < 8 → (j : Int) < (I a1 3).toInt → HOV (WSL (I a1) j) 0) : Ex (d + 9) 257 [.ref r0, .int n1, .int n2, .int n3] (T, N, I, L, R) 0 0 (pI T N R (fun x9 I9 L9 => (-1 ≤ x9.toInt) ∧ (x9.toInt ≤ 15) ∧ (∀ a1, R r0 1 = some a1 → (n1.toInt < 0 ∨ (I a1 3).toInt ≤ n1.toInt ∨ n2.toInt < 0 ∨ (I a1 3).toInt ≤ n2.toInt) ∧ (I9 r0 0).toInt = 1 ∨ ¬ (n1.toInt < 0 ∨ (I a1 3).toInt ≤ n1.toInt ∨ n2.toInt < 0 ∨ (I a1 3).toInt ≤ n2.toInt) ∧ (n3.toInt < 0 ∨ 8 < n3.toInt) ∧ (I9 r0 0).toInt = 2 ∨ ¬ (n1.toInt < 0 ∨ (I a1 3).toInt ≤ n1.toInt ∨ n2.toInt < 0 ∨ (I a1 3).toInt ≤ n2.toInt) ∧ ¬ (n3.toInt < 0 ∨ 8 < n3.toInt) ∧ (I9 r0 0).toInt = 0 ∧ AGQ (AGW (I a1) (I a1 0).toInt n3.toInt (WSL (I a1) n1.toNatClampNeg) (WSL (I a1) n2.toNatClampNeg)) (I a1 1).toInt x9.toInt) ∧ (IM R r0 I9 ∧ CM A R r0 [0] [4, 5] I L I9 L9))) := by
  refine ⟨_, rfl, Nat.le_of_ble_eq_true rfl, fun V C S => ?_⟩
  show V 0 [(0, .ref r0), (1, .int n1), (2, .int n2), (3, .int n3)] [] (T, N, I, L, R) 0 0
  have gn1 := rg n1
  have gn2 := rg n2
  have gn3 := rg n3
  obtain ⟨T_r0, A_r0, ⟨r0_1, R_r0_1, H_r0_1⟩, ⟨r0_2, R_r0_2, H_r0_2⟩, ⟨r0_4, R_r0_4, H_r0_4⟩, ⟨r0_5, R_r0_5, H_r0_5⟩, ⟨r0_10, R_r0_10, H_r0_10⟩, ⟨r0_18, R_r0_18, H_r0_18⟩, ⟨r0_20, R_r0_20, H_r0_20⟩, ⟨r0_21, R_r0_21, H_r0_21⟩, ⟨r0_22, R_r0_22, H_r0_22⟩, ⟨r0_23, R_r0_23, H_r0_23⟩, ⟨r0_25, R_r0_25, H_r0_25⟩, ⟨r0_26, R_r0_26, H_r0_26⟩, ⟨r0_27, R_r0_27, H_r0_27⟩, ⟨r0_28, R_r0_28, H_r0_28⟩, ⟨r0_34, R_r0_34, H_r0_34⟩, J_r0, Y_r0⟩ := id H_r0
  have G_r0 : mF T R r0 := ⟨J_r0, Y_r0, T_r0⟩
  obtain ⟨w_r0_1_1, k0_r0_1_1⟩ : ∃ x, I r0_1 1 = x := ⟨_, rfl⟩
  have gw_r0_1_1 := rg w_r0_1_1
  have ow_r0_1_1 := IM.c1 hI R_r0_1 k0_r0_1_1
  obtain ⟨w_r0_1_3, k0_r0_1_3⟩ : ∃ x, I r0_1 3 = x := ⟨_, rfl⟩
  have gw_r0_1_3 := rg w_r0_1_3
  have ow_r0_1_3 := IM.c3 hI R_r0_1 k0_r0_1_3
  obtain ⟨w_r0_1_0, k0_r0_1_0⟩ : ∃ x, I r0_1 0 = x := ⟨_, rfl⟩
  have gw_r0_1_0 := rg w_r0_1_0
  have ow_r0_1_0 := IM.pi hI R_r0_1 k0_r0_1_0
  have hp0 := hp0 r0_1 R_r0_1
  have hp1 := hp1 r0_1 R_r0_1
  try simp only [k0_r0_1_1, k0_r0_1_3, k0_r0_1_0] at hp0
  try simp only [k0_r0_1_1, k0_r0_1_3, k0_r0_1_0] at hp1
  refine k_aload_n C rfl rfl rfl ?_
  refine z_iconst C (z := 0) rfl rfl rfl (fun x1 ex1 => ?_)
  refine z_pI C rfl rfl rfl T_r0 (Or.inr rfl) rfl (fun I2 uI2 => ?_)
  have hI2 : IM R r0 I2 := IM.fld hI G_r0 ⟨(fun h => absurd h (by decide)), (fun h => absurd h (by decide)), (fun h => absurd h (by decide)), (fun h => absurd h (by decide)), (fun h => absurd h (by decide))⟩ uI2
  have S3 : CM A R r0 [0] [] I L I2 L := CM.f G_r0 A_r0 uI2
  have e4 := u2_n uI2 (mF.ne G_r0 R_r0_1) k0_r0_1_1
  have e5 := u2_n uI2 (mF.ne G_r0 R_r0_1) k0_r0_1_3
  have e6 := u2_n uI2 (mF.ne G_r0 R_r0_1) k0_r0_1_0
  have e7 := u2_e uI2
  refine k_aload_n C rfl rfl rfl ?_
  refine k_aload_n C rfl rfl rfl ?_
  refine k_iload_n C rfl rfl rfl ?_
  refine c_VI C (a_X12_noSigns_e hI2 H_r0) rfl rfl rfl rfl rfl ⟨_, rfl, rfl, T_r0, Nat.le_of_ble_eq_true rfl⟩ rfl rfl (Nat.le_of_ble_eq_true rfl) (Nat.le_of_ble_eq_true rfl) (Nat.le_of_ble_eq_true rfl) ?_
  rintro x8 _ _ ⟨o0x8, o1x8, p0x8, rfl, rfl⟩
  have p0x8 := p0x8 r0_1 R_r0_1
  have gx8 := rg x8
  try simp only [e4, e5, e6, e7, e5] at p0x8
  try have q0x8 := congrArg Int32.toInt p0x8
  refine b_if_ne C (t := 22) rfl rfl rfl (fun c9 => ?_) (fun c9 => ?_)
  · skip
    refine z_iconst C (z := 1) rfl rfl rfl (fun x10 ex10 => ?_)
    refine k_goto C (pc2 := 27) rfl rfl ?_
    refine z_iconst C (z := 1) rfl rfl rfl (fun x11 ex11 => ?_)
    have q12 : x10.toNatClampNeg = 1 := nck (by omega)
    have q13 : x11.toNatClampNeg = 1 := nck (by omega)
    refine c_VI C (a_X12_throwsIf_e hI2 H_r0 (by omega) (by omega)) rfl rfl rfl rfl rfl ⟨_, rfl, rfl, T_r0, Nat.le_of_ble_eq_true rfl⟩ rfl rfl (Nat.le_of_ble_eq_true rfl) (Nat.le_of_ble_eq_true rfl) (Nat.le_of_ble_eq_true rfl) ?_
    rintro x14 I15 L16 ⟨o0x14, o1x14, p0x14, p1x14, hI15, S17⟩
    have e18 := CM.j S17 R_r0_1 (by decide) e4
    have e19 := CM.j S17 R_r0_1 (by decide) e5
    have e20 := CM.j S17 R_r0_1 (by decide) e6
    have gx14 := rg x14
    obtain ⟨x22, e23⟩ : ∃ x, I15 r0 0 = x := ⟨_, rfl⟩
    have gx22 := rg x22
    try simp only [q12, q13, e4, e5, e6, e7, e23] at p0x14
    try have q0x14 := congrArg Int32.toInt p0x14
    try simp only [q12, q13, e4, e5, e6, e7, e23] at p1x14
    try have q1x14 := congrArg Int32.toInt p1x14
    refine b_if_ne C (t := 57) rfl rfl rfl (fun c24 => ?_) (fun c24 => by exfalso; omega)
    refine z_iconst C (z := 0) rfl rfl rfl (fun x25 ex25 => ?_)
    exact k_iret C rfl (Or.inl rfl) (Nat.le_of_ble_eq_true rfl) (Nat.le_of_ble_eq_true rfl) ⟨_, _, _, rfl, rfl, by omega, by omega, fun a1 h1 => by cases (R_r0_1.symm.trans h1); first | exact Or.inl ⟨by simp only [k0_r0_1_3]; omega, by rw [e23]; omega⟩ | exact Or.inr (Or.inl ⟨by simp only [k0_r0_1_3]; omega, by omega, by rw [e23]; omega⟩), hI15, (CM.cons S3 (CM.mono S17 (by decide) (by decide)) (by decide) (by decide))⟩
  refine k_aload_n C rfl rfl rfl ?_
  refine k_iload_n C rfl rfl rfl ?_
  refine c_VI C (a_X12_noSigns_e hI2 H_r0) rfl rfl rfl rfl rfl ⟨_, rfl, rfl, T_r0, Nat.le_of_ble_eq_true rfl⟩ rfl rfl (Nat.le_of_ble_eq_true rfl) (Nat.le_of_ble_eq_true rfl) (Nat.le_of_ble_eq_true rfl) ?_
  rintro x26 _ _ ⟨o0x26, o1x26, p0x26, rfl, rfl⟩
  have p0x26 := p0x26 r0_1 R_r0_1
  have gx26 := rg x26
  try simp only [e4, e5, e6, e7, e5] at p0x26
  try have q0x26 := congrArg Int32.toInt p0x26
  refine b_if_eq C (t := 26) rfl rfl rfl (fun c27 => ?_) (fun c27 => ?_)
  · skip
    refine z_iconst C (z := 0) rfl rfl rfl (fun x28 ex28 => ?_)
    refine z_iconst C (z := 1) rfl rfl rfl (fun x29 ex29 => ?_)
    have q30 : x28.toNatClampNeg = 0 := nck (by omega)
    have q31 : x29.toNatClampNeg = 1 := nck (by omega)
    refine c_VI C (a_X12_throwsIf_e hI2 H_r0 (by omega) (by omega)) rfl rfl rfl rfl rfl ⟨_, rfl, rfl, T_r0, Nat.le_of_ble_eq_true rfl⟩ rfl rfl (Nat.le_of_ble_eq_true rfl) (Nat.le_of_ble_eq_true rfl) (Nat.le_of_ble_eq_true rfl) ?_
    rintro x32 I33 L34 ⟨o0x32, o1x32, p0x32, p1x32, hI33, S35⟩
    have e36 := CM.j S35 R_r0_1 (by decide) e4
    have e37 := CM.j S35 R_r0_1 (by decide) e5
    have e38 := CM.j S35 R_r0_1 (by decide) e6
    have gx32 := rg x32
    obtain ⟨x40, e41⟩ : ∃ x, I33 r0 0 = x := ⟨_, rfl⟩
    have gx40 := rg x40
    try simp only [q30, q31, e4, e5, e6, e7, e41] at p0x32
    try have q0x32 := congrArg Int32.toInt p0x32
    try simp only [q30, q31, e4, e5, e6, e7, e41] at p1x32
    try have q1x32 := congrArg Int32.toInt p1x32
    refine b_if_ne C (t := 57) rfl rfl rfl (fun c42 => by exfalso; omega) (fun c42 => ?_)
    refine k_aload_n C rfl rfl rfl ?_
    refine k_iload_n C rfl rfl rfl ?_
    refine z_iconst C (z := 0) rfl rfl rfl (fun x43 ex43 => ?_)
    refine z_bipush C (z := 8) rfl rfl rfl (fun x44 ex44 => ?_)
    have q45 : x43.toNatClampNeg = 0 := nck (by omega)
    have q46 : x44.toNatClampNeg = 8 := nck (by omega)
    refine c_SI C a_X12_in rfl rfl rfl rfl rfl rfl rfl (Nat.le_of_ble_eq_true rfl) (Nat.le_of_ble_eq_true rfl) (Nat.le_of_ble_eq_true rfl) ?_
    rintro x47 _ _ ⟨o0x47, o1x47, p0x47, rfl, rfl⟩
    have gx47 := rg x47
    try simp only [q45, q46, e36, e37, e38, e41] at p0x47
    try have q0x47 := congrArg Int32.toInt p0x47
    refine b_if_ne C (t := 49) rfl rfl rfl (fun c48 => ?_) (fun c48 => ?_)
    · skip
      refine z_iconst C (z := 0) rfl rfl rfl (fun x49 ex49 => ?_)
      refine z_iconst C (z := 2) rfl rfl rfl (fun x50 ex50 => ?_)
      have q51 : x49.toNatClampNeg = 0 := nck (by omega)
      have q52 : x50.toNatClampNeg = 2 := nck (by omega)
      refine c_VI C (a_X12_throwsIf_e hI33 H_r0 (by omega) (by omega)) rfl rfl rfl rfl rfl ⟨_, rfl, rfl, T_r0, Nat.le_of_ble_eq_true rfl⟩ rfl rfl (Nat.le_of_ble_eq_true rfl) (Nat.le_of_ble_eq_true rfl) (Nat.le_of_ble_eq_true rfl) ?_
      rintro x53 I54 L55 ⟨o0x53, o1x53, p0x53, p1x53, hI54, S56⟩
      have e57 := CM.j S56 R_r0_1 (by decide) e36
      have e58 := CM.j S56 R_r0_1 (by decide) e37
      have e59 := CM.j S56 R_r0_1 (by decide) e38
      have gx53 := rg x53
      obtain ⟨x61, e62⟩ : ∃ x, I54 r0 0 = x := ⟨_, rfl⟩
      have gx61 := rg x61
      try simp only [q51, q52, e36, e37, e38, e41, e62] at p0x53
      try have q0x53 := congrArg Int32.toInt p0x53
      try simp only [q51, q52, e36, e37, e38, e41, e62] at p1x53
      try have q1x53 := congrArg Int32.toInt p1x53
      refine b_if_eq C (t := 59) rfl rfl rfl (fun c63 => ?_) (fun c63 => by exfalso; omega)
      refine z_iconst C (z := 0) rfl rfl rfl (fun x64 ex64 => ?_)
      have J65 : ∀ (nn66 : Nat) (I67 : IT) (L68 : LT) (x69 : Int32), (MN (16 - x69.toInt) nn66) → (IM R r0 I67) → (CM A R r0 [] [4, 5] I54 L55 I67 L68) → (0 ≤ x69.toInt) → (x69.toInt ≤ 16) → (AGI (AGW (I r0_1) w_r0_1_0.toInt n3.toInt (WSL (I r0_1) n1.toNatClampNeg) (WSL (I r0_1) n2.toNatClampNeg)) x69.toInt) → (x69.toInt ≤ w_r0_1_1.toInt) → V 62 [(0, .ref r0), (1, .int n1), (2, .int n2), (3, .int n3), (4, .int x69)] [] (T, N, I67, L68, R) 0 0 := by
        intro nn66
        induction nn66 using Nat.strongRecOn with
        | _ nn66 ihJ65 =>
          intro I67 L68 x69 hmnn66 hI73 S72 b70 b71 ff62_0 ff62_1
          have gx69 := rg x69
          have e74 := CM.j S72 R_r0_1 (by decide) e57
          have e75 := CM.j S72 R_r0_1 (by decide) e58
          have e76 := CM.j S72 R_r0_1 (by decide) e59
          have e77 := CM.k S72 (by decide) e62
          refine k_iload C rfl rfl rfl ?_
          refine k_aload_n C rfl rfl rfl ?_
          refine g_R C rfl rfl rfl T_r0 rfl R_r0_1 ?_
          refine z_iconst C (z := 1) rfl rfl rfl (fun x78 ex78 => ?_)
          obtain ⟨T_r0_1, N_r0_1, A_r0_1⟩ := id H_r0_1
          refine a_I C rfl rfl T_r0_1 (by rw [N_r0_1]; exact vpi (by omega) (by omega)) ((congrArg (I67 r0_1) (nck (n := 1) (by omega))).trans e74) ?_
          refine b_icmp_ge C (t := 151) rfl rfl rfl (fun c79 => ?_) (fun c79 => ?_)
          · skip
            refine z_iconst C (z := -1) rfl rfl rfl (fun x80 ex80 => ?_)
            exact k_iret C rfl (Or.inl rfl) (Nat.le_of_ble_eq_true rfl) (Nat.le_of_ble_eq_true rfl) ⟨_, _, _, rfl, rfl, by omega, by omega, fun a1 h1 => by cases (R_r0_1.symm.trans h1); refine Or.inr (Or.inr ⟨by simp only [k0_r0_1_3]; omega, by omega, by rw [e77]; omega, ?_⟩); simp only [k0_r0_1_0, k0_r0_1_1]; exact AGQ.n ff62_0 (by omega) (by omega), hI73, (CM.cons S3 (CM.cons S35 (CM.cons S56 (CM.mono S72 (by decide) (by decide)) (by decide) (by decide)) (by decide) (by decide)) (by decide) (by decide))⟩
          refine k_aload_n C rfl rfl rfl ?_
          refine k_iload C rfl rfl rfl ?_
          have hw76 := CM.j0 (W := [0]) (WA := [4, 5]) (CM.cons S3 (CM.cons S35 (CM.cons S56 (CM.mono S72 (by decide) (by decide)) (by decide) (by decide)) (by decide) (by decide)) (by decide) (by decide)) R_r0_1 (by decide)
          have hq76 : ∀ z, I67 r0_1 (6 + 10 * x69.toNatClampNeg) = z → (I r0_1 (6 + 10 * x69.toNatClampNeg)).toInt = z.toInt := fun z hz => by rw [← hw76, hz]
          have hn1 := ncz (x := n1) (by omega)
          have hn2 := ncz (x := n2) (by omega)
          refine c_VI C (a_X12_degreeOf hI73 H_r0 (by omega) (by omega)) rfl rfl rfl rfl rfl ⟨_, rfl, rfl, T_r0, Nat.le_of_ble_eq_true rfl⟩ rfl rfl (Nat.le_of_ble_eq_true rfl) (Nat.le_of_ble_eq_true rfl) (Nat.le_of_ble_eq_true rfl) ?_
          rintro x81 _ _ ⟨o0x81, o1x81, p0x81, rfl, rfl⟩
          have p0x81 := p0x81 r0_1 R_r0_1
          have gx81 := rg x81
          obtain ⟨x82, e83⟩ : ∃ x, I67 r0_1 (6 + 10 * x69.toNatClampNeg) = x := ⟨_, rfl⟩
          have gx82 := rg x82
          try simp only [e74, e75, e76, e77, e83] at p0x81
          try have q0x81 := congrArg Int32.toInt p0x81
          have hdg76 : (I r0_1 (6 + 10 * x69.toNatClampNeg)).toInt = x81.toInt := (by rw [hq76 _ (by assumption)]; omega)
          refine k_iload_n C rfl rfl rfl ?_
          refine b_icmp_eq C (t := 86) rfl rfl rfl (fun c84 => ?_) (fun c84 => ?_)
          · skip
            refine k_aload_n C rfl rfl rfl ?_
            refine z_bipush C (z := 44) rfl rfl rfl (fun x85 ex85 => ?_)
            refine k_iload C rfl rfl rfl ?_
            have hw91 := CM.j0 (W := [0]) (WA := [4, 5]) (CM.cons S3 (CM.cons S35 (CM.cons S56 (CM.mono S72 (by decide) (by decide)) (by decide) (by decide)) (by decide) (by decide)) (by decide) (by decide)) R_r0_1 (by decide)
            have hq91 : ∀ z, I67 r0_1 (6 + 10 * x69.toNatClampNeg) = z → (I r0_1 (6 + 10 * x69.toNatClampNeg)).toInt = z.toInt := fun z hz => by rw [← hw91, hz]
            have q86 : x85.toNatClampNeg = 44 := nck (by omega)
            refine c_VV C (a_X12_takes_e hI73 H_r0 (by omega) (by omega) (by omega) (by omega)) rfl rfl rfl rfl rfl ⟨_, rfl, rfl, T_r0, Nat.le_of_ble_eq_true rfl⟩ rfl rfl (Nat.le_of_ble_eq_true rfl) (Nat.le_of_ble_eq_true rfl) (Nat.le_of_ble_eq_true rfl) ?_
            rintro I88 L89 ⟨p0v87, p1v87, p2v87, p3v87, p4v87, p5v87, hI88, S90⟩
            have p0v87 := p0v87 r0_4 R_r0_4
            have p1v87 := p1v87 r0_1 r0_4 R_r0_1 R_r0_4
            have p2v87 := p2v87 r0_1 r0_4 r0_5 R_r0_1 R_r0_4 R_r0_5
            have p3v87 := p3v87 r0_1 r0_4 r0_5 R_r0_1 R_r0_4 R_r0_5
            have p4v87 := p4v87 r0_4 R_r0_4
            have p5v87 := p5v87 r0_5 R_r0_5
            try simp only [q86] at p4v87
            try simp only [q86] at p5v87
            have e91 := CM.j S90 R_r0_1 (by decide) e74
            have e92 := CM.j S90 R_r0_1 (by decide) e75
            have e93 := CM.j S90 R_r0_1 (by decide) e76
            have e94 := CM.k S90 (by decide) e77
            have e95 := CM.j S90 R_r0_1 (by decide) e83
            obtain ⟨x96, e97⟩ : ∃ x, I88 r0_4 44 = x := ⟨_, rfl⟩
            have gx96 := rg x96
            have ox96 := IM.dgR hI88 R_r0_4 e97
            try simp only [q86, e74, e75, e76, e77, e83, e97] at p0v87
            try have q0v87 := congrArg Int32.toInt p0v87
            try simp only [q86, e74, e75, e76, e77, e83, e97] at p1v87
            try have q1v87 := congrArg Int32.toInt p1v87
            try simp only [q86, e74, e75, e76, e77, e83, e97] at p2v87
            try have q2v87 := congrArg Int32.toInt p2v87
            try simp only [q86, e74, e75, e76, e77, e83, e97] at p3v87
            try have q3v87 := congrArg Int32.toInt p3v87
            have hdg91 : (I88 r0_4 44).toInt = (I r0_1 (6 + 10 * x69.toNatClampNeg)).toInt := (by rw [e97, hq91 _ (by assumption)]; exact p1v87)
            have hT91 := TKE.w p3v87 hw91
            have hF91 : VRW I88 r0_4 r0_5 44 w_r0_1_0.toInt ((I r0_1 (6 + 10 * x69.toNatClampNeg)).toInt, (fun k => (I r0_1 (7 + 10 * x69.toNatClampNeg + k)).toInt)) := VRW.tk hdg91 (by rw [hq91 _ (by assumption)]; omega) (fun k hk => by (rw [hT91 k (by rw [hq91 _ (by assumption)] at hk; omega), show 6 + 10 * x69.toNatClampNeg + 1 + k = 7 + 10 * x69.toNatClampNeg + k from by omega])) (CNW.g (f := x69) hp0 rfl (congrArg Int32.toInt k0_r0_1_0) (by omega) (by rw [k0_r0_1_1]; omega))
            have hf91 := hF91.fq
            try rw [e97] at hf91
            refine k_aload_n C rfl rfl rfl ?_
            refine k_iload_n C rfl rfl rfl ?_
            have hw96 := CM.j0 (W := [0]) (WA := [4, 5]) (CM.cons S3 (CM.cons S35 (CM.cons S56 (CM.cons S72 (CM.mono S90 (by decide) (by decide)) (by decide) (by decide)) (by decide) (by decide)) (by decide) (by decide)) (by decide) (by decide)) R_r0_1 (by decide)
            have hk96 := e97
            refine c_VI C (a_X12_makes_x hI88 H_r0 (by omega) (by omega) (fun a1 h1 => by cases (R_r0_1.symm.trans h1); first | omega | (simp only [e91, e92, e93, e94, e95, e97, and_true, true_and, or_true, true_or, and_false, false_and, or_false, false_or] <;> omega)) (fun a1 h1 => by cases (R_r0_1.symm.trans h1); rw [hw96]; exact hp1 _ (ncn (by omega) (by omega)) (by (try simp only [k0_r0_1_3]); omega)) (fun a1 a4 a5 h1 h4 h5 => by cases (R_r0_1.symm.trans h1); cases (R_r0_4.symm.trans h4); cases (R_r0_5.symm.trans h5); rw [e93]; exact hF91.cn) (fun a4 h4 => by cases (R_r0_4.symm.trans h4); exact ⟨by rw [hF91.1]; exact hF91.2.1, by rw [hF91.1]; exact hF91.2.2.1⟩)) rfl rfl rfl rfl rfl ⟨_, rfl, rfl, T_r0, Nat.le_of_ble_eq_true rfl⟩ rfl rfl (Nat.le_of_ble_eq_true rfl) (Nat.le_of_ble_eq_true rfl) (Nat.le_of_ble_eq_true rfl) ?_
            rintro x98 I99 L100 ⟨o0x98, o1x98, p0x98, p1x98, p2x98, p3x98, p4x98, hI99, S101⟩
            have p0x98 := p0x98 r0_1 r0_4 r0_5 R_r0_1 R_r0_4 R_r0_5
            have p1x98 := p1x98 r0_5 R_r0_5
            have p2x98 := p2x98 r0_4 R_r0_4
            have p3x98 := p3x98 r0_5 R_r0_5
            have p4x98 := p4x98 r0_4 R_r0_4
            have e102 := CM.j S101 R_r0_1 (by decide) e91
            have e103 := CM.j S101 R_r0_1 (by decide) e92
            have e104 := CM.j S101 R_r0_1 (by decide) e93
            have e105 := CM.k S101 (by decide) e94
            have e106 := CM.j S101 R_r0_1 (by decide) e95
            have gx98 := rg x98
            try simp only [e91, e92, e93, e94, e95, e97] at p0x98
            try have q0x98 := congrArg Int32.toInt p0x98
            try simp only [e91, e92, e93, e94, e95, e97] at p1x98
            try have q1x98 := congrArg Int32.toInt p1x98
            try simp only [e91, e92, e93, e94, e95, e97] at p2x98
            try have q2x98 := congrArg Int32.toInt p2x98
            try simp only [e91, e92, e93, e94, e95, e97] at p3x98
            try have q3x98 := congrArg Int32.toInt p3x98
            try simp only [e91, e92, e93, e94, e95, e97] at p4x98
            try have q4x98 := congrArg Int32.toInt p4x98
            have hmk := p0x98
            rw [hw96] at hmk
            have hv1 := VPR.cg hmk (VWF.cg hf91 (by show (0 : Int) ≤ _; omega) (hp1 _ (ncn (by omega) (by omega)) (by (try simp only [k0_r0_1_3]); omega) : HOV (WSL (I r0_1) n1.toNatClampNeg) 0))
            have hFc := hF91.sm (p2x98.trans hk96.symm) p1x98
            refine k_istore C (lw := [(5, .int x98), (0, .ref r0), (1, .int n1), (2, .int n2), (3, .int n3), (4, .int x69)]) rfl rfl (Nat.le_of_ble_eq_true rfl) rfl ?_
            refine k_iload C rfl rfl rfl ?_
            refine b_if_eq C (t := 113) rfl rfl rfl (fun c108 => ?_) (fun c108 => ?_)
            · skip
              refine k_aload_n C rfl rfl rfl ?_
              refine k_iload_n C rfl rfl rfl ?_
              have hw115 := CM.j0 (W := [0]) (WA := [4, 5]) (CM.cons S3 (CM.cons S35 (CM.cons S56 (CM.cons S72 (CM.cons S90 (CM.mono S101 (by decide) (by decide)) (by decide) (by decide)) (by decide) (by decide)) (by decide) (by decide)) (by decide) (by decide)) (by decide) (by decide)) R_r0_1 (by decide)
              try have hk115 := hUnknown
              refine c_VI C (a_X12_makes_x hI99 H_r0 (by omega) (by omega) (fun a1 h1 => by cases (R_r0_1.symm.trans h1); first | omega | (simp only [e102, e103, e104, e105, e106, and_true, true_and, or_true, true_or, and_false, false_and, or_false, false_or] <;> omega)) (fun a1 h1 => by cases (R_r0_1.symm.trans h1); rw [hw115]; exact hp1 _ (ncn (by omega) (by omega)) (by (try simp only [k0_r0_1_3]); omega)) (fun a1 a4 a5 h1 h4 h5 => by cases (R_r0_1.symm.trans h1); cases (R_r0_4.symm.trans h4); cases (R_r0_5.symm.trans h5); rw [e104]; exact hFc.cn) (fun a4 h4 => by cases (R_r0_4.symm.trans h4); exact ⟨by rw [hFc.1]; exact hFc.2.1, by rw [hFc.1]; exact hFc.2.2.1⟩)) rfl rfl rfl rfl rfl ⟨_, rfl, rfl, T_r0, Nat.le_of_ble_eq_true rfl⟩ rfl rfl (Nat.le_of_ble_eq_true rfl) (Nat.le_of_ble_eq_true rfl) (Nat.le_of_ble_eq_true rfl) ?_
              rintro x109 I110 L111 ⟨o0x109, o1x109, p0x109, p1x109, p2x109, p3x109, p4x109, hI110, S112⟩
              have p0x109 := p0x109 r0_1 r0_4 r0_5 R_r0_1 R_r0_4 R_r0_5
              have p1x109 := p1x109 r0_5 R_r0_5
              have p2x109 := p2x109 r0_4 R_r0_4
              have p3x109 := p3x109 r0_5 R_r0_5
              have p4x109 := p4x109 r0_4 R_r0_4
              have e113 := CM.j S112 R_r0_1 (by decide) e102
              have e114 := CM.j S112 R_r0_1 (by decide) e103
              have e115 := CM.j S112 R_r0_1 (by decide) e104
              have e116 := CM.k S112 (by decide) e105
              have e117 := CM.j S112 R_r0_1 (by decide) e106
              have gx109 := rg x109
              try simp only [e102, e103, e104, e105, e106] at p0x109
              try have q0x109 := congrArg Int32.toInt p0x109
              try simp only [e102, e103, e104, e105, e106] at p1x109
              try have q1x109 := congrArg Int32.toInt p1x109
              try simp only [e102, e103, e104, e105, e106] at p2x109
              try have q2x109 := congrArg Int32.toInt p2x109
              try simp only [e102, e103, e104, e105, e106] at p3x109
              try have q3x109 := congrArg Int32.toInt p3x109
              try simp only [e102, e103, e104, e105, e106] at p4x109
              try have q4x109 := congrArg Int32.toInt p4x109
              have hmk2 := p0x109
              rw [hw115] at hmk2
              have hv2 := VPR.cg hmk2 (VWF.cg hFc.fq (by rw [hFc.1]; exact hFc.2.1) (hp1 _ (ncn (by omega) (by omega)) (by (try simp only [k0_r0_1_3]); omega) : HOV (WSL (I r0_1) n2.toNatClampNeg) 0))
              try have hC := hC.sm (p4x109.trans hk115.symm) p3x109
              refine k_istore C (lw := [(6, .int x109), (5, .int x98), (0, .ref r0), (1, .int n1), (2, .int n2), (3, .int n3), (4, .int x69)]) rfl rfl (Nat.le_of_ble_eq_true rfl) rfl ?_
              refine k_iload C rfl rfl rfl ?_
              refine k_iload C rfl rfl rfl ?_
              refine b_icmp_ne C (t := 142) rfl rfl rfl (fun c118 => ?_) (fun c118 => ?_)
              · skip
                refine k_iload C rfl rfl rfl ?_
                exact k_iret C rfl (Or.inl rfl) (Nat.le_of_ble_eq_true rfl) (Nat.le_of_ble_eq_true rfl) ⟨_, _, _, rfl, rfl, by omega, by omega, fun a1 h1 => by cases (R_r0_1.symm.trans h1); refine Or.inr (Or.inr ⟨by simp only [k0_r0_1_3]; omega, by omega, by rw [e116]; omega, ?_⟩); simp only [k0_r0_1_0, k0_r0_1_1]; first | exact AGQ.y ff62_0 (fun q9 => OVX.ne hv1 hv2 (by omega) (by omega) (by omega) (q9 (by omega))) (by omega) (by omega) (by omega) | exact AGQ.y ff62_0 (fun q9 => hss.2 (by omega) (q9 (by omega))) (by omega) (by omega) (by omega), hI110, (CM.cons S3 (CM.cons S35 (CM.cons S56 (CM.cons S72 (CM.cons S90 (CM.cons S101 (CM.mono S112 (by decide) (by decide)) (by decide) (by decide)) (by decide) (by decide)) (by decide) (by decide)) (by decide) (by decide)) (by decide) (by decide)) (by decide) (by decide))⟩
              refine k_iload C rfl rfl rfl ?_
              refine b_if_eq C (t := 145) rfl rfl rfl (fun c119 => ?_) (fun c119 => by exfalso; omega)
              refine z_iinc C (z := 1) (lw := fun x120 => [(4, .int x120), (6, .int x109), (5, .int x98), (0, .ref r0), (1, .int n1), (2, .int n2), (3, .int n3)]) rfl rfl rfl (Nat.le_of_ble_eq_true rfl) rfl ⟨by omega, by omega⟩ (fun _ => rfl) (fun x120 ex120 => ?_)
              show V 148 [(4, .int x120), (6, .int x109), (5, .int x98), (0, .ref r0), (1, .int n1), (2, .int n2), (3, .int n3)] _ _ _ _
              refine k_goto C (pc2 := 62) rfl rfl ?_
              refine k_sub S [(0, .ref r0), (1, .int n1), (2, .int n2), (3, .int n3), (4, .int x120)] (List.forall_mem_cons.mpr ⟨List.mem_of_getElem? (i := 3) rfl, List.forall_mem_cons.mpr ⟨List.mem_of_getElem? (i := 4) rfl, List.forall_mem_cons.mpr ⟨List.mem_of_getElem? (i := 5) rfl, List.forall_mem_cons.mpr ⟨List.mem_of_getElem? (i := 6) rfl, List.forall_mem_cons.mpr ⟨List.mem_of_getElem? (i := 0) rfl, fun _ h => nomatch h⟩⟩⟩⟩⟩) ?_
              exact ihJ65 _ (MN.lt hmnn66 (by omega) (by omega)) I110 L111 x120 rfl hI110 (CM.cons S72 (CM.cons S90 (CM.cons S101 (CM.mono S112 (by decide) (by decide)) (by decide) (by decide)) (by decide) (by decide)) (by decide) (by decide)) (by omega) (by omega) (by first | exact AGI.s ff62_0 (fun _ => OVX.nn hv1 hv2 (by omega) (by omega)) (by omega) (by omega) | exact AGI.s ff62_0 (fun _ => hss.1 (by omega)) (by omega) (by omega) | exact AGI.s ff62_0 (fun q9 => by exfalso; omega) (by omega) (by omega)) (by omega)
            refine k_aload_n C rfl rfl rfl ?_
            refine z_iconst C (z := 0) rfl rfl rfl (fun x121 ex121 => ?_)
            refine z_bipush C (z := 42) rfl rfl rfl (fun x122 ex122 => ?_)
            obtain ⟨x123, e124⟩ : ∃ x, I99 r0_4 0 = x := ⟨_, rfl⟩
            have gx123 := rg x123
            have ox123 := IM.dgR hI99 R_r0_4 e124
            have q125 : x121.toNatClampNeg = 0 := nck (by omega)
            have q126 : x122.toNatClampNeg = 42 := nck (by omega)
            refine c_VV C (a_X12_copies hI99 H_r0 (by omega) (by omega) (by omega) (by omega) (by first | omega | (simp only [q125, q126, e102, e103, e104, e105, e106, e124, and_true, true_and, or_true, true_or, and_false, false_and, or_false, false_or] <;> omega))) rfl rfl rfl rfl rfl ⟨_, rfl, rfl, T_r0, Nat.le_of_ble_eq_true rfl⟩ rfl rfl (Nat.le_of_ble_eq_true rfl) (Nat.le_of_ble_eq_true rfl) (Nat.le_of_ble_eq_true rfl) ?_
            rintro I128 L129 ⟨p0v127, p1v127, p2v127, p3v127, hI128, S130⟩
            have p0v127 := p0v127 r0_4 R_r0_4
            have p1v127 := p1v127 r0_4 r0_5 R_r0_4 R_r0_5
            have p2v127 := p2v127 r0_4 R_r0_4
            have p3v127 := p3v127 r0_5 R_r0_5
            try simp only [q125, q126] at p2v127
            try simp only [q125, q126] at p3v127
            have e131 := CM.j S130 R_r0_1 (by decide) e102
            have e132 := CM.j S130 R_r0_1 (by decide) e103
            have e133 := CM.j S130 R_r0_1 (by decide) e104
            have e134 := CM.k S130 (by decide) e105
            have e135 := CM.j S130 R_r0_1 (by decide) e106
            have e136 := (p2v127 0 (by first | decide | exact ncne (by omega) (by omega) (by omega) | exact nckn (by omega) (by omega) | exact (nckn (by omega) (by omega)).symm)).trans e124
            obtain ⟨x137, e138⟩ : ∃ x, I128 r0_4 42 = x := ⟨_, rfl⟩
            have gx137 := rg x137
            have ox137 := IM.dgR hI128 R_r0_4 e138
            try simp only [q125, q126, e102, e103, e104, e105, e106, e124, e138] at p0v127
            try have q0v127 := congrArg Int32.toInt p0v127
            try simp only [q125, q126, e102, e103, e104, e105, e106, e124, e138] at p1v127
            try have q1v127 := congrArg Int32.toInt p1v127
            obtain ⟨v1, hv1o, hv1w⟩ := hv1.2 (by omega)
            have hC : VRW I128 r0_4 r0_5 42 w_r0_1_0.toInt v1 := VRW.cp (a := 0) hv1w (by rw [e138, ← (p2v127 0 (by decide)), e136]; exact p0v127) (by rw [← (p2v127 0 (by decide)), e136]; exact p1v127)
            have hFc := hFc.sm (p2v127 44 (by decide)) (fun k hk => p3v127 _ (by omega))
            refine k_aload_n C rfl rfl rfl ?_
            refine k_iload_n C rfl rfl rfl ?_
            have hw115 := CM.j0 (W := [0]) (WA := [4, 5]) (CM.cons S3 (CM.cons S35 (CM.cons S56 (CM.cons S72 (CM.cons S90 (CM.cons S101 (CM.mono S130 (by decide) (by decide)) (by decide) (by decide)) (by decide) (by decide)) (by decide) (by decide)) (by decide) (by decide)) (by decide) (by decide)) (by decide) (by decide)) R_r0_1 (by decide)
            try have hk115 := e138
            refine c_VI C (a_X12_makes_x hI128 H_r0 (by omega) (by omega) (fun a1 h1 => by cases (R_r0_1.symm.trans h1); first | omega | (simp only [e131, e132, e133, e134, e135, e136, e138, and_true, true_and, or_true, true_or, and_false, false_and, or_false, false_or] <;> omega)) (fun a1 h1 => by cases (R_r0_1.symm.trans h1); rw [hw115]; exact hp1 _ (ncn (by omega) (by omega)) (by (try simp only [k0_r0_1_3]); omega)) (fun a1 a4 a5 h1 h4 h5 => by cases (R_r0_1.symm.trans h1); cases (R_r0_4.symm.trans h4); cases (R_r0_5.symm.trans h5); rw [e133]; exact hFc.cn) (fun a4 h4 => by cases (R_r0_4.symm.trans h4); exact ⟨by rw [hFc.1]; exact hFc.2.1, by rw [hFc.1]; exact hFc.2.2.1⟩)) rfl rfl rfl rfl rfl ⟨_, rfl, rfl, T_r0, Nat.le_of_ble_eq_true rfl⟩ rfl rfl (Nat.le_of_ble_eq_true rfl) (Nat.le_of_ble_eq_true rfl) (Nat.le_of_ble_eq_true rfl) ?_
            rintro x139 I140 L141 ⟨o0x139, o1x139, p0x139, p1x139, p2x139, p3x139, p4x139, hI140, S142⟩
            have p0x139 := p0x139 r0_1 r0_4 r0_5 R_r0_1 R_r0_4 R_r0_5
            have p1x139 := p1x139 r0_5 R_r0_5
            have p2x139 := p2x139 r0_4 R_r0_4
            have p3x139 := p3x139 r0_5 R_r0_5
            have p4x139 := p4x139 r0_4 R_r0_4
            have e143 := CM.j S142 R_r0_1 (by decide) e131
            have e144 := CM.j S142 R_r0_1 (by decide) e132
            have e145 := CM.j S142 R_r0_1 (by decide) e133
            have e146 := CM.k S142 (by decide) e134
            have e147 := CM.j S142 R_r0_1 (by decide) e135
            have gx139 := rg x139
            try simp only [e131, e132, e133, e134, e135, e136, e138] at p0x139
            try have q0x139 := congrArg Int32.toInt p0x139
            try simp only [e131, e132, e133, e134, e135, e136, e138] at p1x139
            try have q1x139 := congrArg Int32.toInt p1x139
            try simp only [e131, e132, e133, e134, e135, e136, e138] at p2x139
            try have q2x139 := congrArg Int32.toInt p2x139
            try simp only [e131, e132, e133, e134, e135, e136, e138] at p3x139
            try have q3x139 := congrArg Int32.toInt p3x139
            try simp only [e131, e132, e133, e134, e135, e136, e138] at p4x139
            try have q4x139 := congrArg Int32.toInt p4x139
            have hmk2 := p0x139
            rw [hw115] at hmk2
            have hv2 := VPR.cg hmk2 (VWF.cg hFc.fq (by rw [hFc.1]; exact hFc.2.1) (hp1 _ (ncn (by omega) (by omega)) (by (try simp only [k0_r0_1_3]); omega) : HOV (WSL (I r0_1) n2.toNatClampNeg) 0))
            try have hC := hC.sm (p4x139.trans hk115.symm) p3x139
            refine k_istore C (lw := [(6, .int x139), (5, .int x98), (0, .ref r0), (1, .int n1), (2, .int n2), (3, .int n3), (4, .int x69)]) rfl rfl (Nat.le_of_ble_eq_true rfl) rfl ?_
            refine k_iload C rfl rfl rfl ?_
            refine k_iload C rfl rfl rfl ?_
            refine b_icmp_ne C (t := 142) rfl rfl rfl (fun c150 => ?_) (fun c150 => ?_)
            · skip
              refine k_iload C rfl rfl rfl ?_
              exact k_iret C rfl (Or.inl rfl) (Nat.le_of_ble_eq_true rfl) (Nat.le_of_ble_eq_true rfl) ⟨_, _, _, rfl, rfl, by omega, by omega, fun a1 h1 => by cases (R_r0_1.symm.trans h1); refine Or.inr (Or.inr ⟨by simp only [k0_r0_1_3]; omega, by omega, by rw [e146]; omega, ?_⟩); simp only [k0_r0_1_0, k0_r0_1_1]; first | exact AGQ.y ff62_0 (fun q9 => OVX.ne hv1 hv2 (by omega) (by omega) (by omega) (q9 (by omega))) (by omega) (by omega) (by omega) | exact AGQ.y ff62_0 (fun q9 => hss.2 (by omega) (q9 (by omega))) (by omega) (by omega) (by omega), hI140, (CM.cons S3 (CM.cons S35 (CM.cons S56 (CM.cons S72 (CM.cons S90 (CM.cons S101 (CM.cons S130 (CM.mono S142 (by decide) (by decide)) (by decide) (by decide)) (by decide) (by decide)) (by decide) (by decide)) (by decide) (by decide)) (by decide) (by decide)) (by decide) (by decide)) (by decide) (by decide))⟩
            refine k_iload C rfl rfl rfl ?_
            refine b_if_eq C (t := 145) rfl rfl rfl (fun c151 => by exfalso; omega) (fun c151 => ?_)
            refine k_aload_n C rfl rfl rfl ?_
            refine z_iconst C (z := 0) rfl rfl rfl (fun x152 ex152 => ?_)
            refine z_bipush C (z := 42) rfl rfl rfl (fun x153 ex153 => ?_)
            obtain ⟨x154, e155⟩ : ∃ x, I140 r0_4 0 = x := ⟨_, rfl⟩
            have gx154 := rg x154
            have ox154 := IM.dgR hI140 R_r0_4 e155
            obtain ⟨x156, e157⟩ : ∃ x, I140 r0_4 42 = x := ⟨_, rfl⟩
            have gx156 := rg x156
            have ox156 := IM.dgR hI140 R_r0_4 e157
            have q158 : x152.toNatClampNeg = 0 := nck (by omega)
            have q159 : x153.toNatClampNeg = 42 := nck (by omega)
            refine c_VI C (a_X12_isLike_e hI140 H_r0 (by omega) (by omega) (by omega) (by omega)) rfl rfl rfl rfl rfl ⟨_, rfl, rfl, T_r0, Nat.le_of_ble_eq_true rfl⟩ rfl rfl (Nat.le_of_ble_eq_true rfl) (Nat.le_of_ble_eq_true rfl) (Nat.le_of_ble_eq_true rfl) ?_
            rintro x160 _ _ ⟨o0x160, o1x160, p0x160, rfl, rfl⟩
            have p0x160 := p0x160 r0_4 r0_5 R_r0_4 R_r0_5
            have gx160 := rg x160
            try simp only [q158, q159, e143, e144, e145, e146, e147, e155, e157] at p0x160
            try have q0x160 := congrArg Int32.toInt p0x160
            have hlk := p0x160
            have hss := OVX.ss hv1o hC hv2 (by omega) hlk
            refine b_if_ne C (t := 145) rfl rfl rfl (fun c161 => ?_) (fun c161 => ?_)
            · skip
              refine z_iinc C (z := 1) (lw := fun x162 => [(4, .int x162), (6, .int x139), (5, .int x98), (0, .ref r0), (1, .int n1), (2, .int n2), (3, .int n3)]) rfl rfl rfl (Nat.le_of_ble_eq_true rfl) rfl ⟨by omega, by omega⟩ (fun _ => rfl) (fun x162 ex162 => ?_)
              show V 148 [(4, .int x162), (6, .int x139), (5, .int x98), (0, .ref r0), (1, .int n1), (2, .int n2), (3, .int n3)] _ _ _ _
              refine k_goto C (pc2 := 62) rfl rfl ?_
              refine k_sub S [(0, .ref r0), (1, .int n1), (2, .int n2), (3, .int n3), (4, .int x162)] (List.forall_mem_cons.mpr ⟨List.mem_of_getElem? (i := 3) rfl, List.forall_mem_cons.mpr ⟨List.mem_of_getElem? (i := 4) rfl, List.forall_mem_cons.mpr ⟨List.mem_of_getElem? (i := 5) rfl, List.forall_mem_cons.mpr ⟨List.mem_of_getElem? (i := 6) rfl, List.forall_mem_cons.mpr ⟨List.mem_of_getElem? (i := 0) rfl, fun _ h => nomatch h⟩⟩⟩⟩⟩) ?_
              exact ihJ65 _ (MN.lt hmnn66 (by omega) (by omega)) I140 L141 x162 rfl hI140 (CM.cons S72 (CM.cons S90 (CM.cons S101 (CM.cons S130 (CM.mono S142 (by decide) (by decide)) (by decide) (by decide)) (by decide) (by decide)) (by decide) (by decide)) (by decide) (by decide)) (by omega) (by omega) (by first | exact AGI.s ff62_0 (fun _ => OVX.nn hv1 hv2 (by omega) (by omega)) (by omega) (by omega) | exact AGI.s ff62_0 (fun _ => hss.1 (by omega)) (by omega) (by omega) | exact AGI.s ff62_0 (fun q9 => by exfalso; omega) (by omega) (by omega)) (by omega)
            refine k_iload C rfl rfl rfl ?_
            exact k_iret C rfl (Or.inl rfl) (Nat.le_of_ble_eq_true rfl) (Nat.le_of_ble_eq_true rfl) ⟨_, _, _, rfl, rfl, by omega, by omega, fun a1 h1 => by cases (R_r0_1.symm.trans h1); refine Or.inr (Or.inr ⟨by simp only [k0_r0_1_3]; omega, by omega, by rw [e146]; omega, ?_⟩); simp only [k0_r0_1_0, k0_r0_1_1]; first | exact AGQ.y ff62_0 (fun q9 => OVX.ne hv1 hv2 (by omega) (by omega) (by omega) (q9 (by omega))) (by omega) (by omega) (by omega) | exact AGQ.y ff62_0 (fun q9 => hss.2 (by omega) (q9 (by omega))) (by omega) (by omega) (by omega), hI140, (CM.cons S3 (CM.cons S35 (CM.cons S56 (CM.cons S72 (CM.cons S90 (CM.cons S101 (CM.cons S130 (CM.mono S142 (by decide) (by decide)) (by decide) (by decide)) (by decide) (by decide)) (by decide) (by decide)) (by decide) (by decide)) (by decide) (by decide)) (by decide) (by decide)) (by decide) (by decide))⟩
          refine k_goto C (pc2 := 145) rfl rfl ?_
          refine z_iinc C (z := 1) (lw := fun x163 => [(4, .int x163), (0, .ref r0), (1, .int n1), (2, .int n2), (3, .int n3)]) rfl rfl rfl (Nat.le_of_ble_eq_true rfl) rfl ⟨by omega, by omega⟩ (fun _ => rfl) (fun x163 ex163 => ?_)
          show V 148 [(4, .int x163), (0, .ref r0), (1, .int n1), (2, .int n2), (3, .int n3)] _ _ _ _
          refine k_goto C (pc2 := 62) rfl rfl ?_
          refine k_sub S [(0, .ref r0), (1, .int n1), (2, .int n2), (3, .int n3), (4, .int x163)] (List.forall_mem_cons.mpr ⟨List.mem_of_getElem? (i := 1) rfl, List.forall_mem_cons.mpr ⟨List.mem_of_getElem? (i := 2) rfl, List.forall_mem_cons.mpr ⟨List.mem_of_getElem? (i := 3) rfl, List.forall_mem_cons.mpr ⟨List.mem_of_getElem? (i := 4) rfl, List.forall_mem_cons.mpr ⟨List.mem_of_getElem? (i := 0) rfl, fun _ h => nomatch h⟩⟩⟩⟩⟩) ?_
          exact ihJ65 _ (MN.lt hmnn66 (by omega) (by omega)) I67 L68 x163 rfl hI73 (CM.mono S72 (by decide) (by decide)) (by omega) (by omega) (by first | exact AGI.s ff62_0 (fun _ => OVX.nn hv1 hv2 (by omega) (by omega)) (by omega) (by omega) | exact AGI.s ff62_0 (fun _ => hss.1 (by omega)) (by omega) (by omega) | exact AGI.s ff62_0 (fun q9 => by exfalso; omega) (by omega) (by omega)) (by omega)
      refine k_istore C (lw := [(4, .int x64), (0, .ref r0), (1, .int n1), (2, .int n2), (3, .int n3)]) rfl rfl (Nat.le_of_ble_eq_true rfl) rfl ?_
      refine k_sub S [(0, .ref r0), (1, .int n1), (2, .int n2), (3, .int n3), (4, .int x64)] (List.forall_mem_cons.mpr ⟨List.mem_of_getElem? (i := 1) rfl, List.forall_mem_cons.mpr ⟨List.mem_of_getElem? (i := 2) rfl, List.forall_mem_cons.mpr ⟨List.mem_of_getElem? (i := 3) rfl, List.forall_mem_cons.mpr ⟨List.mem_of_getElem? (i := 4) rfl, List.forall_mem_cons.mpr ⟨List.mem_of_getElem? (i := 0) rfl, fun _ h => nomatch h⟩⟩⟩⟩⟩) ?_
      exact J65 _ I54 L55 x64 rfl hI54 CM.rf (by omega) (by omega) (by exact AGI.z (by omega)) (by omega)
    refine z_iconst C (z := 1) rfl rfl rfl (fun x164 ex164 => ?_)
    refine k_goto C (pc2 := 50) rfl rfl ?_
    refine z_iconst C (z := 2) rfl rfl rfl (fun x165 ex165 => ?_)
    have q166 : x164.toNatClampNeg = 1 := nck (by omega)
    have q167 : x165.toNatClampNeg = 2 := nck (by omega)
    refine c_VI C (a_X12_throwsIf_e hI33 H_r0 (by omega) (by omega)) rfl rfl rfl rfl rfl ⟨_, rfl, rfl, T_r0, Nat.le_of_ble_eq_true rfl⟩ rfl rfl (Nat.le_of_ble_eq_true rfl) (Nat.le_of_ble_eq_true rfl) (Nat.le_of_ble_eq_true rfl) ?_
    rintro x168 I169 L170 ⟨o0x168, o1x168, p0x168, p1x168, hI169, S171⟩
    have e172 := CM.j S171 R_r0_1 (by decide) e36
    have e173 := CM.j S171 R_r0_1 (by decide) e37
    have e174 := CM.j S171 R_r0_1 (by decide) e38
    have gx168 := rg x168
    obtain ⟨x176, e177⟩ : ∃ x, I169 r0 0 = x := ⟨_, rfl⟩
    have gx176 := rg x176
    try simp only [q166, q167, e36, e37, e38, e41, e177] at p0x168
    try have q0x168 := congrArg Int32.toInt p0x168
    try simp only [q166, q167, e36, e37, e38, e41, e177] at p1x168
    try have q1x168 := congrArg Int32.toInt p1x168
    refine b_if_eq C (t := 59) rfl rfl rfl (fun c178 => by exfalso; omega) (fun c178 => ?_)
    refine z_iconst C (z := 0) rfl rfl rfl (fun x179 ex179 => ?_)
    exact k_iret C rfl (Or.inl rfl) (Nat.le_of_ble_eq_true rfl) (Nat.le_of_ble_eq_true rfl) ⟨_, _, _, rfl, rfl, by omega, by omega, fun a1 h1 => by cases (R_r0_1.symm.trans h1); first | exact Or.inl ⟨by simp only [k0_r0_1_3]; omega, by rw [e177]; omega⟩ | exact Or.inr (Or.inl ⟨by simp only [k0_r0_1_3]; omega, by omega, by rw [e177]; omega⟩), hI169, (CM.cons S3 (CM.cons S35 (CM.mono S171 (by decide) (by decide)) (by decide) (by decide)) (by decide) (by decide))⟩
  refine z_iconst C (z := 1) rfl rfl rfl (fun x180 ex180 => ?_)
  refine k_goto C (pc2 := 27) rfl rfl ?_
  refine z_iconst C (z := 1) rfl rfl rfl (fun x181 ex181 => ?_)
  have q182 : x180.toNatClampNeg = 1 := nck (by omega)
  have q183 : x181.toNatClampNeg = 1 := nck (by omega)
  refine c_VI C (a_X12_throwsIf_e hI2 H_r0 (by omega) (by omega)) rfl rfl rfl rfl rfl ⟨_, rfl, rfl, T_r0, Nat.le_of_ble_eq_true rfl⟩ rfl rfl (Nat.le_of_ble_eq_true rfl) (Nat.le_of_ble_eq_true rfl) (Nat.le_of_ble_eq_true rfl) ?_
  rintro x184 I185 L186 ⟨o0x184, o1x184, p0x184, p1x184, hI185, S187⟩
  have e188 := CM.j S187 R_r0_1 (by decide) e4
  have e189 := CM.j S187 R_r0_1 (by decide) e5
  have e190 := CM.j S187 R_r0_1 (by decide) e6
  have gx184 := rg x184
  obtain ⟨x192, e193⟩ : ∃ x, I185 r0 0 = x := ⟨_, rfl⟩
  have gx192 := rg x192
  try simp only [q182, q183, e4, e5, e6, e7, e193] at p0x184
  try have q0x184 := congrArg Int32.toInt p0x184
  try simp only [q182, q183, e4, e5, e6, e7, e193] at p1x184
  try have q1x184 := congrArg Int32.toInt p1x184
  refine b_if_ne C (t := 57) rfl rfl rfl (fun c194 => ?_) (fun c194 => by exfalso; omega)
  refine z_iconst C (z := 0) rfl rfl rfl (fun x195 ex195 => ?_)
  exact k_iret C rfl (Or.inl rfl) (Nat.le_of_ble_eq_true rfl) (Nat.le_of_ble_eq_true rfl) ⟨_, _, _, rfl, rfl, by omega, by omega, fun a1 h1 => by cases (R_r0_1.symm.trans h1); first | exact Or.inl ⟨by simp only [k0_r0_1_3]; omega, by rw [e193]; omega⟩ | exact Or.inr (Or.inl ⟨by simp only [k0_r0_1_3]; omega, by omega, by rw [e193]; omega⟩), hI185, (CM.cons S3 (CM.mono S187 (by decide) (by decide)) (by decide) (by decide))⟩

