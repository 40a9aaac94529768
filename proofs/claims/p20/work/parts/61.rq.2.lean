/-! on -/
set_option maxHeartbeats 8000000 in
theorem a_X12_readSum_g {d : Nat} {lq : Int} {mq : Nat} (hq0 : 0 ≤ lq) (hq5 : lq ≤ 5) (hqProduct : CR_Product (d + 9) lq mq) : CR_Sum (d + 10) lq mq := by
  intro T N I L R A r0 hI H_r0 hp0 hp1 hp2 hp3
  refine ⟨_, rfl, Nat.le_of_ble_eq_true rfl, fun V C S => ?_⟩
  show V 0 [(0, .ref r0)] [] (T, N, I, L, R) 0 0
  obtain ⟨T_r0, A_r0, ⟨r0_1, R_r0_1, H_r0_1⟩, ⟨r0_2, R_r0_2, H_r0_2⟩, ⟨r0_4, R_r0_4, H_r0_4⟩, ⟨r0_5, R_r0_5, H_r0_5⟩, ⟨r0_10, R_r0_10, H_r0_10⟩, ⟨r0_18, R_r0_18, H_r0_18⟩, ⟨r0_20, R_r0_20, H_r0_20⟩, ⟨r0_21, R_r0_21, H_r0_21⟩, ⟨r0_22, R_r0_22, H_r0_22⟩, ⟨r0_23, R_r0_23, H_r0_23⟩, ⟨r0_25, R_r0_25, H_r0_25⟩, ⟨r0_26, R_r0_26, H_r0_26⟩, ⟨r0_27, R_r0_27, H_r0_27⟩, ⟨r0_28, R_r0_28, H_r0_28⟩, ⟨r0_34, R_r0_34, H_r0_34⟩, J_r0, Y_r0⟩ := id H_r0
  have G_r0 : mF T R r0 := ⟨J_r0, Y_r0, T_r0⟩
  obtain ⟨w_r0_15, k0_r0_15⟩ : ∃ x, I r0 15 = x := ⟨_, rfl⟩
  have gw_r0_15 := rg w_r0_15
  have ow_r0_15 := IM.f15 hI k0_r0_15
  obtain ⟨w_r0_16, k0_r0_16⟩ : ∃ x, I r0 16 = x := ⟨_, rfl⟩
  have gw_r0_16 := rg w_r0_16
  have ow_r0_16 := IM.f16 hI k0_r0_16
  obtain ⟨w_r0_19, k0_r0_19⟩ : ∃ x, I r0 19 = x := ⟨_, rfl⟩
  have gw_r0_19 := rg w_r0_19
  obtain ⟨w_r0_12, k0_r0_12⟩ : ∃ x, I r0 12 = x := ⟨_, rfl⟩
  have gw_r0_12 := rg w_r0_12
  have ow_r0_12 := IM.f12 hI k0_r0_12
  obtain ⟨w_r0_13, k0_r0_13⟩ : ∃ x, I r0 13 = x := ⟨_, rfl⟩
  have gw_r0_13 := rg w_r0_13
  have ow_r0_13 := IM.f13 hI k0_r0_13
  have hp1 := hp1 r0_1 R_r0_1
  have hp2 := hp2 r0_1 R_r0_1
  have hp3 := hp3 r0_10 R_r0_10
  obtain ⟨g0, hg0⟩ : ∃ g, I r0_1 = g := ⟨_, rfl⟩
  have hg := hg0
  try simp only [hg0, k0_r0_15, k0_r0_16, k0_r0_19, k0_r0_12, k0_r0_13] at hp0
  try simp only [hg0, k0_r0_15, k0_r0_16, k0_r0_19, k0_r0_12, k0_r0_13] at hp1
  try simp only [hg0, k0_r0_15, k0_r0_16, k0_r0_19, k0_r0_12, k0_r0_13] at hp2
  try simp only [hg0, k0_r0_15, k0_r0_16, k0_r0_19, k0_r0_12, k0_r0_13] at hp3
  have hPD := hp1
  have hTB := hp3
  obtain ⟨cc, hcc⟩ : ∃ c, BCM (I r0_10) w_r0_13.toInt = c := ⟨_, rfl⟩
  have hc40 : C40 cc := by rw [← hcc]; exact BCM.c40 (by omega)
  obtain ⟨s0, hs0⟩ : ∃ s, RDM I r0 r0_1 = s := ⟨_, rfl⟩
  have hd1 := RDM.c1 hs0 k0_r0_12 (by omega)
  have hd2 := RDM.c2 hs0 k0_r0_16 (by omega)
  refine k_aload_n C rfl rfl rfl ?_
  have w1 := (CM.j0 (I := I) (L := L) (I' := I) (L' := L) (A := A) (W := [12, 14, 15, 16, 19]) (WA := [1]) CM.rf R_r0_10 (by decide))
  refine c_VI C (hqProduct hI H_r0 (by first | omega | (simp only [hg, k0_r0_15, k0_r0_16, k0_r0_19, k0_r0_12, k0_r0_13, and_true, true_and, or_true, true_or, and_false, false_and, or_false, false_or] <;> omega)) (fun a1 h1 => by cases (R_r0_1.symm.trans h1); simp only [hg, k0_r0_15, k0_r0_16, k0_r0_19, k0_r0_12, k0_r0_13]; exact hPD) (fun a1 h1 => by cases (R_r0_1.symm.trans h1); first | omega | (simp only [hg, k0_r0_15, k0_r0_16, k0_r0_19, k0_r0_12, k0_r0_13, and_true, true_and, or_true, true_or, and_false, false_and, or_false, false_or] <;> omega)) (fun a10 h10 => by cases (R_r0_10.symm.trans h10); rw [(CM.j0 (I := I) (L := L) (I' := I) (L' := L) (A := A) (W := [12, 14, 15, 16, 19]) (WA := [1]) CM.rf R_r0_10 (by decide))]; exact hTB)) rfl rfl rfl rfl rfl ⟨_, rfl, rfl, T_r0, Nat.le_of_ble_eq_true rfl⟩ rfl rfl (Nat.le_of_ble_eq_true rfl) (Nat.le_of_ble_eq_true rfl) (Nat.le_of_ble_eq_true rfl) ?_
  rintro x1 I2 L3 ⟨o0x1, o1x1, p0x1, p1x1, p2x1, p3x1, p4x1, hI2, S4⟩
  have p0x1 := p0x1 r0_1 R_r0_1
  have p1x1 := p1x1 r0_1 R_r0_1
  have p2x1 := p2x1 r0_1 r0_10 R_r0_1 R_r0_10
  have p4x1 := p4x1 r0_1 R_r0_1
  have F5 : ∀ r : Nat, r < 3606 → I2 r0_1 r = I r0_1 r := fun r z0 => p4x1 r z0
  have e10 := CM.k S4 (by decide) k0_r0_13
  have gx1 := rg x1
  obtain ⟨x11, e12⟩ : ∃ x, I2 r0 15 = x := ⟨_, rfl⟩
  have gx11 := rg x11
  have ox11 := IM.f15 hI2 e12
  obtain ⟨x13, e14⟩ : ∃ x, I2 r0 16 = x := ⟨_, rfl⟩
  have gx13 := rg x13
  have ox13 := IM.f16 hI2 e14
  obtain ⟨x15, e16⟩ : ∃ x, I2 r0 19 = x := ⟨_, rfl⟩
  have gx15 := rg x15
  obtain ⟨x17, e18⟩ : ∃ x, I2 r0 12 = x := ⟨_, rfl⟩
  have gx17 := rg x17
  have ox17 := IM.f12 hI2 e18
  obtain ⟨gS4, hgS4⟩ : ∃ g, I2 r0_1 = g := ⟨_, rfl⟩
  try simp only [k0_r0_15, k0_r0_16, k0_r0_19, k0_r0_12, k0_r0_13, e12, e14, e16, e18, hg, hgS4] at p0x1
  try have q0x1 := congrArg Int32.toInt p0x1
  try simp only [k0_r0_15, k0_r0_16, k0_r0_19, k0_r0_12, k0_r0_13, e12, e14, e16, e18, hg, hgS4] at p1x1
  try have q1x1 := congrArg Int32.toInt p1x1
  try simp only [k0_r0_15, k0_r0_16, k0_r0_19, k0_r0_12, k0_r0_13, e12, e14, e16, e18, hg, hgS4] at p2x1
  try have q2x1 := congrArg Int32.toInt p2x1
  try simp only [k0_r0_15, k0_r0_16, k0_r0_19, k0_r0_12, k0_r0_13, e12, e14, e16, e18, hg, hgS4] at p3x1
  try have q3x1 := congrArg Int32.toInt p3x1
  have hgo := hg
  have hg := hgS4
  have hP0 := p0x1
  have hP1 := p1x1
  have hy1 := p2x1
  (try rw [w1] at hy1)
  (try rw [hcc] at hy1)
  rw [hs0] at hy1
  obtain ⟨t1, ht1⟩ : ∃ t, RDM I2 r0 r0_1 = t := ⟨_, rfl⟩
  rw [ht1] at hy1
  have hc1 := RDM.c2 ht1 e14 (by omega)
  have J19 : ∀ (nn20 : Nat) (I21 : IT) (L22 : LT) (x26 : Int32) (x30 : Int32) (x34 : Int32) (x38 : Int32), (MN (40 - x30.toInt) nn20) → (IM R r0 I21) → (CM A R r0 [12, 14, 15, 16, 19] [1] I2 L3 I21 L22) → (∀ r : Nat, r < 3606 → I21 r0_1 r = I2 r0_1 r) → (I21 r0 15 = x26) → (lq ≤ x26.toInt) → (x26.toInt ≤ lq) → (I21 r0 16 = x30) → (0 ≤ x30.toInt) → (x30.toInt ≤ 40) → (I21 r0 19 = x34) → (0 ≤ x34.toInt) → (x34.toInt ≤ 199) → (I21 r0 12 = x38) → (0 ≤ x38.toInt) → (x38.toInt ≤ 400) → (PD (I21 r0_1) x34.toInt) → (w_r0_16.toInt + 1 ≤ x30.toInt) → (x34.toInt + 3 ≤ w_r0_19.toInt + 4 * (x30.toInt - w_r0_16.toInt) + (6 - lq)) → (Hgt (I21 r0_1) 3606 x34.toNatClampNeg = Hgt (I r0_1) 3606 w_r0_19.toNatClampNeg + 1) → (LP3 200 cc 43 2 (RPR 200 cc (RPT 200 cc mq)) (RSU 200 cc (RPT 200 cc mq) s0) (RDM I21 r0 r0_1)) → V 9 [(0, .ref r0)] [] (T, N, I21, L22, R) 0 0 := by
    intro nn20
    induction nn20 using Nat.strongRecOn with
    | _ nn20 ihJ19 =>
      intro I21 L22 x26 x30 x34 x38 hmnn20 hI24 S23 F25 e27 b28 b29 e31 b32 b33 e35 b36 b37 e39 b40 b41 ff9_0 ff9_1 ff9_2 ff9_3 ff9_4
      have gx26 := rg x26
      have gx30 := rg x30
      have gx34 := rg x34
      have gx38 := rg x38
      have e42 := CM.k S23 (by decide) e10
      obtain ⟨gL, hgL⟩ : ∃ g, I21 r0_1 = g := ⟨_, rfl⟩
      rw [hgL] at ff9_0
      rw [hgL, hg0] at ff9_3
      have hg := hgL
      have hPD := ff9_0
      obtain ⟨t9, ht9⟩ : ∃ t, RDM I21 r0 r0_1 = t := ⟨_, rfl⟩
      rw [ht9] at ff9_4
      refine k_aload_n C rfl rfl rfl ?_
      refine z_bipush C (z := 43) rfl rfl rfl (fun x43 ex43 => ?_)
      have w12 := (CM.j0 (I := I) (L := L) (I' := I21) (L' := L22) (A := A) (W := [12, 14, 15, 16, 19]) (WA := [1]) (CM.cons S4 (CM.mono S23 (by decide) (by decide)) (by decide) (by decide)) R_r0_10 (by decide))
      have hc9 := RDM.c2 ht9 e31 (by omega)
      have q44 : x43.toNatClampNeg = 43 := nck (by omega)
      refine c_VI C (a_X12_counts_x hI24 H_r0 (by omega) (by omega) (fun a10 h10 => by cases (R_r0_10.symm.trans h10); rw [(CM.j0 (I := I) (L := L) (I' := I21) (L' := L22) (A := A) (W := [12, 14, 15, 16, 19]) (WA := [1]) (CM.cons S4 (CM.mono S23 (by decide) (by decide)) (by decide) (by decide)) R_r0_10 (by decide))]; exact hTB)) rfl rfl rfl rfl rfl ⟨_, rfl, rfl, T_r0, Nat.le_of_ble_eq_true rfl⟩ rfl rfl (Nat.le_of_ble_eq_true rfl) (Nat.le_of_ble_eq_true rfl) (Nat.le_of_ble_eq_true rfl) ?_
      rintro x45 I46 L47 ⟨o0x45, o1x45, p0x45, p1x45, hI46, S48⟩
      have p1x45 := p1x45 r0_1 r0_10 R_r0_1 R_r0_10
      have e49 := CM.k S48 (by decide) e42
      have e50 := CM.k S48 (by decide) e27
      have e52 := CM.k S48 (by decide) e35
      have gx45 := rg x45
      obtain ⟨x54, e55⟩ : ∃ x, I46 r0 12 = x := ⟨_, rfl⟩
      have gx54 := rg x54
      have ox54 := IM.f12 hI46 e55
      obtain ⟨x56, e57⟩ : ∃ x, I46 r0 16 = x := ⟨_, rfl⟩
      have gx56 := rg x56
      have ox56 := IM.f16 hI46 e57
      have hg := (CM.j0 S48 R_r0_1 (by decide)).trans hg
      try simp only [q44, e42, e27, e31, e35, e39, e55, e57] at p0x45
      try have q0x45 := congrArg Int32.toInt p0x45
      try simp only [q44, e42, e27, e31, e35, e39, e55, e57] at p1x45
      try have q1x45 := congrArg Int32.toInt p1x45
      have h12 := p1x45
      (try rw [w12] at h12)
      (try rw [hcc] at h12)
      rw [ht9] at h12
      have h12 := h12.v (b := 43) (by omega)
      obtain ⟨t12, ht12⟩ : ∃ t, RDM I46 r0 r0_1 = t := ⟨_, rfl⟩
      rw [ht12] at h12
      refine b_if_eq C (t := 36) rfl rfl rfl (fun c58 => ?_) (fun c58 => ?_)
      · skip
        refine z_iconst C (z := 1) rfl rfl rfl (fun x59 ex59 => ?_)
        exact k_iret C rfl (Or.inr ⟨rfl, z01 (by omega) (by omega)⟩) (Nat.le_of_ble_eq_true rfl) (Nat.le_of_ble_eq_true rfl) ⟨_, _, _, rfl, rfl, by omega, by omega, fun a1 h1 => by cases (R_r0_1.symm.trans h1); first | (intro h; exfalso; omega) | (intro h; simp only [hg, hg0, e49, e50, e52, e55, e57, k0_r0_15, k0_r0_16, k0_r0_19, k0_r0_12, k0_r0_13]; omega), fun a1 h1 => by cases (R_r0_1.symm.trans h1); first | (intro h; exfalso; omega) | (intro h; simp only [hg, e49, e50, e52, e55, e57, k0_r0_15, k0_r0_16, k0_r0_19, k0_r0_12, k0_r0_13]; first | exact hPD | exact hP1 h | exact hP1 (by omega)), fun a1 a10 h1 h10 => by cases (R_r0_1.symm.trans h1); cases (R_r0_10.symm.trans h10); rw [k0_r0_13, hcc, hs0]; rw [ht12]; exact LP3.out ff9_4 hc40 h12 (by omega) (Or.inr rfl) (by omega), by first | omega | (intro h9; first | omega | (simp only [e49, e50, e52, e55, e57, k0_r0_15, k0_r0_16, k0_r0_19, k0_r0_12, k0_r0_13]; omega)), fun a1 h1 => by cases (R_r0_1.symm.trans h1); exact (fun r z0 => ((congrFun (CM.j0 S48 R_r0_1 (by decide)) r).trans ((F25 r z0).trans (F5 r z0)))), hI46, (CM.cons S4 (CM.cons S23 (CM.mono S48 (by decide) (by decide)) (by decide) (by decide)) (by decide) (by decide))⟩
      obtain ⟨l9, e9, c9, t12e⟩ := LP3.in ff9_4 h12 (by omega) (Or.inr rfl) (by omega)
      have hs12 := ht12.trans t12e
      refine k_aload_n C rfl rfl rfl ?_
      have w19 := (CM.j0 (I := I) (L := L) (I' := I46) (L' := L47) (A := A) (W := [12, 14, 15, 16, 19]) (WA := [1]) (CM.cons S4 (CM.cons S23 (CM.mono S48 (by decide) (by decide)) (by decide) (by decide)) (by decide) (by decide)) R_r0_10 (by decide))
      refine c_VI C (hqProduct hI46 H_r0 (by first | omega | (simp only [hg, e49, e50, e52, e55, e57, and_true, true_and, or_true, true_or, and_false, false_and, or_false, false_or] <;> omega)) (fun a1 h1 => by cases (R_r0_1.symm.trans h1); simp only [hg, e49, e50, e52, e55, e57]; exact hPD) (fun a1 h1 => by cases (R_r0_1.symm.trans h1); first | omega | (simp only [hg, e49, e50, e52, e55, e57, and_true, true_and, or_true, true_or, and_false, false_and, or_false, false_or] <;> omega)) (fun a10 h10 => by cases (R_r0_10.symm.trans h10); rw [(CM.j0 (I := I) (L := L) (I' := I46) (L' := L47) (A := A) (W := [12, 14, 15, 16, 19]) (WA := [1]) (CM.cons S4 (CM.cons S23 (CM.mono S48 (by decide) (by decide)) (by decide) (by decide)) (by decide) (by decide)) R_r0_10 (by decide))]; exact hTB)) rfl rfl rfl rfl rfl ⟨_, rfl, rfl, T_r0, Nat.le_of_ble_eq_true rfl⟩ rfl rfl (Nat.le_of_ble_eq_true rfl) (Nat.le_of_ble_eq_true rfl) (Nat.le_of_ble_eq_true rfl) ?_
      rintro x60 I61 L62 ⟨o0x60, o1x60, p0x60, p1x60, p2x60, p3x60, p4x60, hI61, S63⟩
      have p0x60 := p0x60 r0_1 R_r0_1
      have p1x60 := p1x60 r0_1 R_r0_1
      have p2x60 := p2x60 r0_1 r0_10 R_r0_1 R_r0_10
      have p4x60 := p4x60 r0_1 R_r0_1
      have F64 : ∀ r : Nat, r < 3606 → I61 r0_1 r = I46 r0_1 r := fun r z0 => p4x60 r z0
      have e65 := CM.k S63 (by decide) e49
      have gx60 := rg x60
      obtain ⟨x70, e71⟩ : ∃ x, I61 r0 15 = x := ⟨_, rfl⟩
      have gx70 := rg x70
      have ox70 := IM.f15 hI61 e71
      obtain ⟨x72, e73⟩ : ∃ x, I61 r0 16 = x := ⟨_, rfl⟩
      have gx72 := rg x72
      have ox72 := IM.f16 hI61 e73
      obtain ⟨x74, e75⟩ : ∃ x, I61 r0 19 = x := ⟨_, rfl⟩
      have gx74 := rg x74
      obtain ⟨x76, e77⟩ : ∃ x, I61 r0 12 = x := ⟨_, rfl⟩
      have gx76 := rg x76
      have ox76 := IM.f12 hI61 e77
      obtain ⟨gS63, hgS63⟩ : ∃ g, I61 r0_1 = g := ⟨_, rfl⟩
      try simp only [e49, e50, e52, e55, e57, e71, e73, e75, e77, hg, hgS63] at p0x60
      try have q0x60 := congrArg Int32.toInt p0x60
      try simp only [e49, e50, e52, e55, e57, e71, e73, e75, e77, hg, hgS63] at p1x60
      try have q1x60 := congrArg Int32.toInt p1x60
      try simp only [e49, e50, e52, e55, e57, e71, e73, e75, e77, hg, hgS63] at p2x60
      try have q2x60 := congrArg Int32.toInt p2x60
      try simp only [e49, e50, e52, e55, e57, e71, e73, e75, e77, hg, hgS63] at p3x60
      try have q3x60 := congrArg Int32.toInt p3x60
      have hgo := hg
      have hg := hgS63
      have hP0 := p0x60
      have hP1 := p1x60
      have h19 := p2x60
      (try rw [w19] at h19)
      (try rw [hcc] at h19)
      rw [hs12] at h19
      obtain ⟨t19, ht19⟩ : ∃ t, RDM I61 r0 r0_1 = t := ⟨_, rfl⟩
      rw [ht19] at h19
      have hc19 := RDM.c2 ht19 e73 (by omega)
      refine b_if_eq C (t := 34) rfl rfl rfl (fun c78 => ?_) (fun c78 => ?_)
      · skip
        refine z_iconst C (z := 0) rfl rfl rfl (fun x79 ex79 => ?_)
        exact k_iret C rfl (Or.inr ⟨rfl, z01 (by omega) (by omega)⟩) (Nat.le_of_ble_eq_true rfl) (Nat.le_of_ble_eq_true rfl) ⟨_, _, _, rfl, rfl, by omega, by omega, fun a1 h1 => by cases (R_r0_1.symm.trans h1); first | (intro h; exfalso; omega) | (intro h; simp only [hg, hg0, e65, e71, e73, e75, e77, k0_r0_15, k0_r0_16, k0_r0_19, k0_r0_12, k0_r0_13]; omega), fun a1 h1 => by cases (R_r0_1.symm.trans h1); first | (intro h; exfalso; omega) | (intro h; simp only [hg, e65, e71, e73, e75, e77, k0_r0_15, k0_r0_16, k0_r0_19, k0_r0_12, k0_r0_13]; first | exact hPD | exact hP1 h | exact hP1 (by omega)), fun a1 a10 h1 h10 => by cases (R_r0_1.symm.trans h1); cases (R_r0_10.symm.trans h10); rw [k0_r0_13, hcc, hs0]; first | (exfalso; omega) | exact RS3.f (by omega) (l9.no2 e9 c9 (h19.no (by omega))), by first | omega | (intro h9; first | omega | (simp only [e65, e71, e73, e75, e77, k0_r0_15, k0_r0_16, k0_r0_19, k0_r0_12, k0_r0_13]; omega)), fun a1 h1 => by cases (R_r0_1.symm.trans h1); exact (fun r z0 => ((F64 r z0).trans ((congrFun (CM.j0 S48 R_r0_1 (by decide)) r).trans ((F25 r z0).trans (F5 r z0))))), hI61, (CM.cons S4 (CM.cons S23 (CM.cons S48 (CM.mono S63 (by decide) (by decide)) (by decide) (by decide)) (by decide) (by decide)) (by decide) (by decide))⟩
      have hPD := hP1 (by omega)
      have hPq := hP0 (by omega)
      refine k_aload_n C rfl rfl rfl ?_
      refine z_iconst C (z := 2) rfl rfl rfl (fun x80 ex80 => ?_)
      refine z_iconst C (z := 0) rfl rfl rfl (fun x81 ex81 => ?_)
      have hl28 := RDM.c3 ht19 e75 (by omega)
      have q82 : x80.toNatClampNeg = 2 := nck (by omega)
      have q83 : x81.toNatClampNeg = 0 := nck (by omega)
      refine c_VI C (a_X12_emits_x hI61 H_r0 (by omega) (by omega) (by omega) (by omega) (by first | omega | (simp only [q82, q83, hg, e65, e71, e73, e75, e77, and_true, true_and, or_true, true_or, and_false, false_and, or_false, false_or] <;> omega)) (by first | omega | (simp only [q82, q83, hg, e65, e71, e73, e75, e77, and_true, true_and, or_true, true_or, and_false, false_and, or_false, false_or] <;> omega))) rfl rfl rfl rfl rfl ⟨_, rfl, rfl, T_r0, Nat.le_of_ble_eq_true rfl⟩ rfl rfl (Nat.le_of_ble_eq_true rfl) (Nat.le_of_ble_eq_true rfl) (Nat.le_of_ble_eq_true rfl) ?_
      rintro x84 I85 L86 ⟨o0x84, o1x84, p0x84, p1x84, p2x84, p3x84, hI85, S87⟩
      have p0x84 := p0x84 r0_1 R_r0_1
      have p2x84 := p2x84 r0_1 R_r0_1
      have p3x84 := p3x84 r0_1 R_r0_1
      have F88 : ∀ r : Nat, r < 3606 → I85 r0_1 r = I61 r0_1 r := fun r z0 => p3x84 r z0
      have e89 := CM.k S87 (by decide) e65
      have e90 := CM.k S87 (by decide) e71
      have e91 := CM.k S87 (by decide) e73
      have e93 := CM.k S87 (by decide) e77
      have gx84 := rg x84
      obtain ⟨x94, e95⟩ : ∃ x, I85 r0 19 = x := ⟨_, rfl⟩
      have gx94 := rg x94
      obtain ⟨gS87, hgS87⟩ : ∃ g, I85 r0_1 = g := ⟨_, rfl⟩
      try simp only [q82, q83, e65, e71, e73, e75, e77, e95, hg, hgS87] at p0x84
      try have q0x84 := congrArg Int32.toInt p0x84
      try simp only [q82, q83, e65, e71, e73, e75, e77, e95, hg, hgS87] at p1x84
      try have q1x84 := congrArg Int32.toInt p1x84
      try simp only [q82, q83, e65, e71, e73, e75, e77, e95, hg, hgS87] at p2x84
      try have q2x84 := congrArg Int32.toInt p2x84
      have hgo := hg
      have hg := hgS87
      have hE := p0x84
      have hPD := PD.em hPD hE (by omega) (by omega) ⟨by omega, by omega⟩ ⟨by omega, by omega⟩ ⟨by omega, by omega⟩ (fun _ => by omega) (fun _ _ => by omega) (fun _ => by omega)
      have hHH := Hgt.e2 hE (by omega) (by omega) ⟨by omega, by omega⟩
      have h28 := p2x84
      rw [ht19] at h28
      have h28e := RDM.em (M := 200) (k := 2) (n := 0) h28 (by omega) (by omega) (by omega)
      refine b_if_ne C (t := 9) rfl rfl rfl (fun c96 => ?_) (fun c96 => by exfalso; omega)
      refine k_sub S [(0, .ref r0)] (List.forall_mem_cons.mpr ⟨List.mem_of_getElem? (i := 0) rfl, fun _ h => nomatch h⟩) ?_
      exact ihJ19 _ (MN.lt hmnn20 (by omega) (by omega)) I85 L86 x70 x72 x94 x76 rfl hI85 (CM.cons S23 (CM.cons S48 (CM.cons S63 (CM.mono S87 (by decide) (by decide)) (by decide) (by decide)) (by decide) (by decide)) (by decide) (by decide)) (fun r z0 => ((F88 r z0).trans ((F64 r z0).trans ((congrFun (CM.j0 S48 R_r0_1 (by decide)) r).trans (F25 r z0))))) e90 (by omega) (by omega) e91 (by omega) (by omega) e95 (by omega) (by omega) e93 (by omega) (by omega) (by rw [hg]; exact hPD) (by omega) (by omega) (by rw [hg, hg0]; omega) (by rw [h28e]; exact LP3.s l9 e9 c9 (h19.y (by omega)) (by omega) (by omega) rfl)
  refine b_if_ne C (t := 9) rfl rfl rfl (fun c97 => ?_) (fun c97 => ?_)
  · skip
    have hPD := hP1 (by omega)
    have hPq := hP0 (by omega)
    refine k_sub S [(0, .ref r0)] (List.forall_mem_cons.mpr ⟨List.mem_of_getElem? (i := 0) rfl, fun _ h => nomatch h⟩) ?_
    exact J19 _ I2 L3 x11 x13 x15 x17 rfl hI2 CM.rf (fun r z0 => rfl) e12 (by omega) (by omega) e14 (by omega) (by omega) e16 (by omega) (by omega) e18 (by omega) (by omega) (by rw [hg]; exact hPD) (by omega) (by omega) (by rw [hg, hg0]; omega) (by rw [ht1]; exact LP3.z (hy1.y (by omega)) rfl (by omega))
  refine z_iconst C (z := 0) rfl rfl rfl (fun x98 ex98 => ?_)
  exact k_iret C rfl (Or.inr ⟨rfl, z01 (by omega) (by omega)⟩) (Nat.le_of_ble_eq_true rfl) (Nat.le_of_ble_eq_true rfl) ⟨_, _, _, rfl, rfl, by omega, by omega, fun a1 h1 => by cases (R_r0_1.symm.trans h1); first | (intro h; exfalso; omega) | (intro h; simp only [hg, hg0, e10, e12, e14, e16, e18, k0_r0_15, k0_r0_16, k0_r0_19, k0_r0_12, k0_r0_13]; omega), fun a1 h1 => by cases (R_r0_1.symm.trans h1); first | (intro h; exfalso; omega) | (intro h; simp only [hg, e10, e12, e14, e16, e18, k0_r0_15, k0_r0_16, k0_r0_19, k0_r0_12, k0_r0_13]; first | exact hPD | exact hP1 h | exact hP1 (by omega)), fun a1 a10 h1 h10 => by cases (R_r0_1.symm.trans h1); cases (R_r0_10.symm.trans h10); rw [k0_r0_13, hcc, hs0]; exact RS3.f (by omega) (by unfold RSU; rw [hy1.no (by omega)]; rfl), by first | omega | (intro h9; first | omega | (simp only [e10, e12, e14, e16, e18, k0_r0_15, k0_r0_16, k0_r0_19, k0_r0_12, k0_r0_13]; omega)), fun a1 h1 => by cases (R_r0_1.symm.trans h1); exact (fun r z0 => (F5 r z0)), hI2, (CM.mono S4 (by decide) (by decide))⟩

theorem a_X12_readUnit_6_c {d : Nat} : CR_Unit (d + 4) 6 0 := by
  intro T N I L R A r0 hI H_r0 hp0 hp1 hp2 hp3
  exact a_X12_readUnit_6_x hI H_r0 hp0 hp1 hp2 hp3
theorem a_X12_readSum_6_c {d : Nat} : CR_Sum (d + 6) 6 0 := by
  intro T N I L R A r0 hI H_r0 hp0 hp1 hp2 hp3
  exact a_X12_readSum_6_x hI H_r0 hp0 hp1 hp2 hp3
theorem a_X12_readOverlap_5_c {d : Nat} : CR_Overlap (d + 7) 5 0 := a_X12_readOverlap_g (d := d + 0) (lq := 5) (lq' := 6) (kq := 0) (by decide) (by decide) (by decide) (a_X12_readSum_6_c (d := d + 0))
theorem a_X12_readUnit_5_c {d : Nat} : CR_Unit (d + 8) 5 1 := a_X12_readUnit_g (d := d + 0) (lq := 5) (lq' := 6) (kq := 0) (by decide) (by decide) (by decide) (a_X12_readOverlap_5_c (d := d)) (a_X12_readSum_6_c (d := d + 1)) (a_X12_readUnit_6_c (d := d + 3))
theorem a_X12_readProduct_5_c {d : Nat} : CR_Product (d + 9) 5 1 := a_X12_readProduct_g (d := d + 0) (lq := 5) (mq := 1) (by decide) (by decide) (a_X12_readUnit_5_c (d := d))
theorem a_X12_readSum_5_c {d : Nat} : CR_Sum (d + 10) 5 1 := a_X12_readSum_g (d := d + 0) (lq := 5) (mq := 1) (by decide) (by decide) (a_X12_readProduct_5_c (d := d))
theorem a_X12_readOverlap_4_c {d : Nat} : CR_Overlap (d + 11) 4 1 := a_X12_readOverlap_g (d := d + 4) (lq := 4) (lq' := 5) (kq := 1) (by decide) (by decide) (by decide) (a_X12_readSum_5_c (d := d + 0))
theorem a_X12_readUnit_4_c {d : Nat} : CR_Unit (d + 12) 4 2 := a_X12_readUnit_g (d := d + 4) (lq := 4) (lq' := 5) (kq := 1) (by decide) (by decide) (by decide) (a_X12_readOverlap_4_c (d := d)) (a_X12_readSum_5_c (d := d + 1)) (a_X12_readUnit_5_c (d := d + 3))
theorem a_X12_readProduct_4_c {d : Nat} : CR_Product (d + 13) 4 2 := a_X12_readProduct_g (d := d + 4) (lq := 4) (mq := 2) (by decide) (by decide) (a_X12_readUnit_4_c (d := d))
theorem a_X12_readSum_4_c {d : Nat} : CR_Sum (d + 14) 4 2 := a_X12_readSum_g (d := d + 4) (lq := 4) (mq := 2) (by decide) (by decide) (a_X12_readProduct_4_c (d := d))
theorem a_X12_readOverlap_3_c {d : Nat} : CR_Overlap (d + 15) 3 2 := a_X12_readOverlap_g (d := d + 8) (lq := 3) (lq' := 4) (kq := 2) (by decide) (by decide) (by decide) (a_X12_readSum_4_c (d := d + 0))
theorem a_X12_readUnit_3_c {d : Nat} : CR_Unit (d + 16) 3 3 := a_X12_readUnit_g (d := d + 8) (lq := 3) (lq' := 4) (kq := 2) (by decide) (by decide) (by decide) (a_X12_readOverlap_3_c (d := d)) (a_X12_readSum_4_c (d := d + 1)) (a_X12_readUnit_4_c (d := d + 3))
theorem a_X12_readProduct_3_c {d : Nat} : CR_Product (d + 17) 3 3 := a_X12_readProduct_g (d := d + 8) (lq := 3) (mq := 3) (by decide) (by decide) (a_X12_readUnit_3_c (d := d))
theorem a_X12_readSum_3_c {d : Nat} : CR_Sum (d + 18) 3 3 := a_X12_readSum_g (d := d + 8) (lq := 3) (mq := 3) (by decide) (by decide) (a_X12_readProduct_3_c (d := d))
theorem a_X12_readOverlap_2_c {d : Nat} : CR_Overlap (d + 19) 2 3 := a_X12_readOverlap_g (d := d + 12) (lq := 2) (lq' := 3) (kq := 3) (by decide) (by decide) (by decide) (a_X12_readSum_3_c (d := d + 0))
theorem a_X12_readUnit_2_c {d : Nat} : CR_Unit (d + 20) 2 4 := a_X12_readUnit_g (d := d + 12) (lq := 2) (lq' := 3) (kq := 3) (by decide) (by decide) (by decide) (a_X12_readOverlap_2_c (d := d)) (a_X12_readSum_3_c (d := d + 1)) (a_X12_readUnit_3_c (d := d + 3))
theorem a_X12_readProduct_2_c {d : Nat} : CR_Product (d + 21) 2 4 := a_X12_readProduct_g (d := d + 12) (lq := 2) (mq := 4) (by decide) (by decide) (a_X12_readUnit_2_c (d := d))
theorem a_X12_readSum_2_c {d : Nat} : CR_Sum (d + 22) 2 4 := a_X12_readSum_g (d := d + 12) (lq := 2) (mq := 4) (by decide) (by decide) (a_X12_readProduct_2_c (d := d))
theorem a_X12_readOverlap_1_c {d : Nat} : CR_Overlap (d + 23) 1 4 := a_X12_readOverlap_g (d := d + 16) (lq := 1) (lq' := 2) (kq := 4) (by decide) (by decide) (by decide) (a_X12_readSum_2_c (d := d + 0))
theorem a_X12_readUnit_1_c {d : Nat} : CR_Unit (d + 24) 1 5 := a_X12_readUnit_g (d := d + 16) (lq := 1) (lq' := 2) (kq := 4) (by decide) (by decide) (by decide) (a_X12_readOverlap_1_c (d := d)) (a_X12_readSum_2_c (d := d + 1)) (a_X12_readUnit_2_c (d := d + 3))
theorem a_X12_readProduct_1_c {d : Nat} : CR_Product (d + 25) 1 5 := a_X12_readProduct_g (d := d + 16) (lq := 1) (mq := 5) (by decide) (by decide) (a_X12_readUnit_1_c (d := d))
theorem a_X12_readSum_1_c {d : Nat} : CR_Sum (d + 26) 1 5 := a_X12_readSum_g (d := d + 16) (lq := 1) (mq := 5) (by decide) (by decide) (a_X12_readProduct_1_c (d := d))
theorem a_X12_readOverlap_0_c {d : Nat} : CR_Overlap (d + 27) 0 5 := a_X12_readOverlap_g (d := d + 20) (lq := 0) (lq' := 1) (kq := 5) (by decide) (by decide) (by decide) (a_X12_readSum_1_c (d := d + 0))
theorem a_X12_readUnit_0_c {d : Nat} : CR_Unit (d + 28) 0 6 := a_X12_readUnit_g (d := d + 20) (lq := 0) (lq' := 1) (kq := 5) (by decide) (by decide) (by decide) (a_X12_readOverlap_0_c (d := d)) (a_X12_readSum_1_c (d := d + 1)) (a_X12_readUnit_1_c (d := d + 3))
theorem a_X12_readProduct_0_c {d : Nat} : CR_Product (d + 29) 0 6 := a_X12_readProduct_g (d := d + 20) (lq := 0) (mq := 6) (by decide) (by decide) (a_X12_readUnit_0_c (d := d))
theorem a_X12_readSum_0_c {d : Nat} : CR_Sum (d + 30) 0 6 := a_X12_readSum_g (d := d + 20) (lq := 0) (mq := 6) (by decide) (by decide) (a_X12_readProduct_0_c (d := d))
theorem a_X12_readSum_0_x {d : Nat} {T N : Nat → Nat} {I : IT} {L : LT} {R : RT} {A : Nat → Prop} {r0 : Nat} (hI : IM R r0 I) (H_r0 : (h_MD T N R A) r0) (hp0 : (I r0 15).toInt = 0) (hp1 : ∀ a1, R r0 1 = some a1 → PD (I a1) (I r0 19).toInt) (hp2 : ∀ a1, R r0 1 = some a1 → 0 ≤ (I r0 19).toInt ∧ 0 ≤ Hgt (I a1) 3606 (I r0 19).toNatClampNeg ∧ Hgt (I a1) 3606 (I r0 19).toNatClampNeg ≤ (I r0 16).toInt ∧ (I r0 19).toInt + 4 * (40 - (I r0 16).toInt) + (6 - 0) ≤ 166) (hp3 : ∀ a10, R r0 10 = some a10 → TBY (I a10)) : Ex (d + 30) 228 [.ref r0] (T, N, I, L, R) 0 0 (pI T N R (fun x9 I9 L9 => (0 ≤ x9.toInt) ∧ (x9.toInt ≤ 1) ∧ (∀ a1, R r0 1 = some a1 → x9.toInt = 1 → (I9 r0 15).toInt = 0 ∧ (I r0 16).toInt + 1 ≤ (I9 r0 16).toInt ∧ 0 ≤ (I9 r0 19).toInt ∧ (I9 r0 19).toInt + 3 ≤ (I r0 19).toInt + 4 * ((I9 r0 16).toInt - (I r0 16).toInt) + (6 - 0) ∧ Hgt (I9 a1) 3606 (I9 r0 19).toNatClampNeg = Hgt (I a1) 3606 (I r0 19).toNatClampNeg + 1) ∧ (∀ a1, R r0 1 = some a1 → x9.toInt = 1 → PD (I9 a1) (I9 r0 19).toInt) ∧ (∀ a1 a10, R r0 1 = some a1 → R r0 10 = some a10 → RS3 (BCM (I a10) (I r0 13).toInt) x9.toInt (RSU 200 (BCM (I a10) (I r0 13).toInt) (RPT 200 (BCM (I a10) (I r0 13).toInt) 6) (RDM I r0 a1)) (RDM I9 r0 a1)) ∧ (x9.toInt = 1 → (I9 r0 16).toInt ≤ 40) ∧ (∀ a1, R r0 1 = some a1 → ∀ r : Nat, r < 3606 → I9 a1 r = I a1 r) ∧ (IM R r0 I9 ∧ CM A R r0 [12, 14, 15, 16, 19] [1] I L I9 L9))) := a_X12_readSum_0_c (d := d) hI H_r0 hp0 hp1 hp2 hp3
