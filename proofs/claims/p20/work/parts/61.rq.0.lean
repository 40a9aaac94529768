/-! the reference: signs read, exactly -/
set_option maxHeartbeats 8000000 in
theorem a_X12_readOverlap_6_x {d : Nat} {T N : Nat → Nat} {I : IT} {L : LT} {R : RT} {A : Nat → Prop} {r0 : Nat} (hI : IM R r0 I) (H_r0 : (h_MD T N R A) r0) (hp0 : (I r0 15).toInt = 6) (hp1 : ∀ a1, R r0 1 = some a1 → PD (I a1) (I r0 19).toInt) (hp2 : ∀ a1, R r0 1 = some a1 → 0 ≤ (I r0 19).toInt ∧ 0 ≤ Hgt (I a1) 3606 (I r0 19).toNatClampNeg ∧ Hgt (I a1) 3606 (I r0 19).toNatClampNeg ≤ (I r0 16).toInt ∧ (I r0 19).toInt + 4 * (40 - (I r0 16).toInt) + (6 - 6) ≤ 166) (hp3 : ∀ a10, R r0 10 = some a10 → TBY (I a10)) : Ex (d + 2) 226 [.ref r0] (T, N, I, L, R) 0 0 (pI T N R (fun x9 I9 L9 => (0 ≤ x9.toInt) ∧ (x9.toInt ≤ 1) ∧ (∀ a1, R r0 1 = some a1 → x9.toInt = 1 → (I9 r0 15).toInt = 6 ∧ (I r0 16).toInt + 1 ≤ (I9 r0 16).toInt ∧ 0 ≤ (I9 r0 19).toInt ∧ (I9 r0 19).toInt + 3 ≤ (I r0 19).toInt + 4 * ((I9 r0 16).toInt - (I r0 16).toInt) + (6 - 6) ∧ Hgt (I9 a1) 3606 (I9 r0 19).toNatClampNeg = Hgt (I a1) 3606 (I r0 19).toNatClampNeg + 1) ∧ (∀ a1, R r0 1 = some a1 → x9.toInt = 1 → PD (I9 a1) (I9 r0 19).toInt) ∧ (∀ a1 a10, R r0 1 = some a1 → R r0 10 = some a10 → RS3 (BCM (I a10) (I r0 13).toInt) x9.toInt ((fun _ => (none : Option PSt)) (RDM I r0 a1)) (RDM I9 r0 a1)) ∧ (x9.toInt = 1 → (I9 r0 16).toInt ≤ 40) ∧ (∀ a1, R r0 1 = some a1 → ∀ r : Nat, r < 3606 → I9 a1 r = I a1 r) ∧ (IM R r0 I9 ∧ CM A R r0 [12, 14, 15, 16, 19] [1] I L I9 L9))) := by
  refine ⟨_, rfl, Nat.le_of_ble_eq_true rfl, fun V C S => ?_⟩
  show V 0 [(0, .ref r0)] [] (T, N, I, L, R) 0 0
  obtain ⟨T_r0, A_r0, ⟨r0_1, R_r0_1, H_r0_1⟩, ⟨r0_2, R_r0_2, H_r0_2⟩, ⟨r0_4, R_r0_4, H_r0_4⟩, ⟨r0_5, R_r0_5, H_r0_5⟩, ⟨r0_10, R_r0_10, H_r0_10⟩, ⟨r0_18, R_r0_18, H_r0_18⟩, ⟨r0_20, R_r0_20, H_r0_20⟩, ⟨r0_21, R_r0_21, H_r0_21⟩, ⟨r0_22, R_r0_22, H_r0_22⟩, ⟨r0_23, R_r0_23, H_r0_23⟩, ⟨r0_25, R_r0_25, H_r0_25⟩, ⟨r0_26, R_r0_26, H_r0_26⟩, ⟨r0_27, R_r0_27, H_r0_27⟩, ⟨r0_28, R_r0_28, H_r0_28⟩, ⟨r0_34, R_r0_34, H_r0_34⟩, J_r0, Y_r0⟩ := id H_r0
  have G_r0 : mF T R r0 := ⟨J_r0, Y_r0, T_r0⟩
  obtain ⟨w_r0_15, k0_r0_15⟩ : ∃ x, I r0 15 = x := ⟨_, rfl⟩
  have gw_r0_15 := rg w_r0_15
  have ow_r0_15 := IM.f15 hI k0_r0_15
  obtain ⟨w_r0_16, k0_r0_16⟩ : ∃ x, I r0 16 = x := ⟨_, rfl⟩
  have gw_r0_16 := rg w_r0_16
  have ow_r0_16 := IM.f16 hI k0_r0_16
  obtain ⟨w_r0_19, k0_r0_19⟩ : ∃ x, I r0 19 = x := ⟨_, rfl⟩
  have gw_r0_19 := rg w_r0_19
  obtain ⟨w_r0_12, k0_r0_12⟩ : ∃ x, I r0 12 = x := ⟨_, rfl⟩
  have gw_r0_12 := rg w_r0_12
  have ow_r0_12 := IM.f12 hI k0_r0_12
  obtain ⟨w_r0_13, k0_r0_13⟩ : ∃ x, I r0 13 = x := ⟨_, rfl⟩
  have gw_r0_13 := rg w_r0_13
  have ow_r0_13 := IM.f13 hI k0_r0_13
  have hp1 := hp1 r0_1 R_r0_1
  have hp2 := hp2 r0_1 R_r0_1
  have hp3 := hp3 r0_10 R_r0_10
  obtain ⟨g0, hg0⟩ : ∃ g, I r0_1 = g := ⟨_, rfl⟩
  have hg := hg0
  try simp only [hg0, k0_r0_15, k0_r0_16, k0_r0_19, k0_r0_12, k0_r0_13] at hp0
  try simp only [hg0, k0_r0_15, k0_r0_16, k0_r0_19, k0_r0_12, k0_r0_13] at hp1
  try simp only [hg0, k0_r0_15, k0_r0_16, k0_r0_19, k0_r0_12, k0_r0_13] at hp2
  try simp only [hg0, k0_r0_15, k0_r0_16, k0_r0_19, k0_r0_12, k0_r0_13] at hp3
  have hPD := hp1
  have hTB := hp3
  obtain ⟨cc, hcc⟩ : ∃ c, BCM (I r0_10) w_r0_13.toInt = c := ⟨_, rfl⟩
  have hc40 : C40 cc := by rw [← hcc]; exact BCM.c40 (by omega)
  obtain ⟨s0, hs0⟩ : ∃ s, RDM I r0 r0_1 = s := ⟨_, rfl⟩
  have hd1 := RDM.c1 hs0 k0_r0_12 (by omega)
  have hd2 := RDM.c2 hs0 k0_r0_16 (by omega)
  refine k_aload_n C rfl rfl rfl ?_
  refine g_I C rfl rfl rfl T_r0 rfl k0_r0_16 ?_
  refine z_bipush C (z := 40) rfl rfl rfl (fun x1 ex1 => ?_)
  refine b_icmp_eq C (t := 16) rfl rfl rfl (fun c2 => ?_) (fun c2 => ?_)
  · skip
    refine z_iconst C (z := 0) rfl rfl rfl (fun x3 ex3 => ?_)
    exact k_iret C rfl (Or.inr ⟨rfl, z01 (by omega) (by omega)⟩) (Nat.le_of_ble_eq_true rfl) (Nat.le_of_ble_eq_true rfl) ⟨_, _, _, rfl, rfl, by omega, by omega, fun a1 h1 => by cases (R_r0_1.symm.trans h1); first | (intro h; exfalso; omega) | (intro h; simp only [hg, hg0, k0_r0_15, k0_r0_16, k0_r0_19, k0_r0_12, k0_r0_13]; omega), fun a1 h1 => by cases (R_r0_1.symm.trans h1); first | (intro h; exfalso; omega) | (intro h; simp only [hg, k0_r0_15, k0_r0_16, k0_r0_19, k0_r0_12, k0_r0_13]; first | exact hPD | exact hP1 h | exact hP1 (by omega)), fun a1 a10 h1 h10 => by cases (R_r0_1.symm.trans h1); cases (R_r0_10.symm.trans h10); rw [k0_r0_13, hcc, hs0]; exact RS3.f (by omega) rfl, by first | omega | (intro h9; first | omega | (simp only [k0_r0_15, k0_r0_16, k0_r0_19, k0_r0_12, k0_r0_13]; omega)), fun a1 h1 => by cases (R_r0_1.symm.trans h1); exact (fun r z0 => rfl), hI, CM.rf⟩
  refine k_aload_n C rfl rfl rfl ?_
  refine c_VI C (a_X12_deeper_x hI H_r0) rfl rfl rfl rfl rfl ⟨_, rfl, rfl, T_r0, Nat.le_of_ble_eq_true rfl⟩ rfl rfl (Nat.le_of_ble_eq_true rfl) (Nat.le_of_ble_eq_true rfl) (Nat.le_of_ble_eq_true rfl) ?_
  rintro x4 I5 L6 ⟨o0x4, o1x4, p0x4, p1x4, p2x4, hI5, S7⟩
  have p2x4 := p2x4 r0_1 R_r0_1
  have e9 := CM.k S7 (by decide) k0_r0_16
  have e10 := CM.k S7 (by decide) k0_r0_19
  have e11 := CM.k S7 (by decide) k0_r0_12
  have e12 := CM.k S7 (by decide) k0_r0_13
  have gx4 := rg x4
  obtain ⟨x13, e14⟩ : ∃ x, I5 r0 15 = x := ⟨_, rfl⟩
  have gx13 := rg x13
  have ox13 := IM.f15 hI5 e14
  have hg := (CM.j0 S7 R_r0_1 (by decide)).trans hg
  try simp only [k0_r0_15, k0_r0_16, k0_r0_19, k0_r0_12, k0_r0_13, e14] at p0x4
  try have q0x4 := congrArg Int32.toInt p0x4
  try simp only [k0_r0_15, k0_r0_16, k0_r0_19, k0_r0_12, k0_r0_13, e14] at p1x4
  try have q1x4 := congrArg Int32.toInt p1x4
  try simp only [k0_r0_15, k0_r0_16, k0_r0_19, k0_r0_12, k0_r0_13, e14] at p2x4
  try have q2x4 := congrArg Int32.toInt p2x4
  have hy10 := p2x4
  rw [hs0] at hy10
  refine b_if_ne C (t := 18) rfl rfl rfl (fun c15 => by exfalso; omega) (fun c15 => ?_)
  refine z_iconst C (z := 0) rfl rfl rfl (fun x16 ex16 => ?_)
  exact k_iret C rfl (Or.inr ⟨rfl, z01 (by omega) (by omega)⟩) (Nat.le_of_ble_eq_true rfl) (Nat.le_of_ble_eq_true rfl) ⟨_, _, _, rfl, rfl, by omega, by omega, fun a1 h1 => by cases (R_r0_1.symm.trans h1); first | (intro h; exfalso; omega) | (intro h; simp only [hg, hg0, e9, e10, e11, e12, e14, k0_r0_15, k0_r0_16, k0_r0_19, k0_r0_12, k0_r0_13]; omega), fun a1 h1 => by cases (R_r0_1.symm.trans h1); first | (intro h; exfalso; omega) | (intro h; simp only [hg, e9, e10, e11, e12, e14, k0_r0_15, k0_r0_16, k0_r0_19, k0_r0_12, k0_r0_13]; first | exact hPD | exact hP1 h | exact hP1 (by omega)), fun a1 a10 h1 h10 => by cases (R_r0_1.symm.trans h1); cases (R_r0_10.symm.trans h10); rw [k0_r0_13, hcc, hs0]; exact RS3.f (by omega) rfl, by first | omega | (intro h9; first | omega | (simp only [e9, e10, e11, e12, e14, k0_r0_15, k0_r0_16, k0_r0_19, k0_r0_12, k0_r0_13]; omega)), fun a1 h1 => by cases (R_r0_1.symm.trans h1); exact (fun r z0 => (congrFun (CM.j0 S7 R_r0_1 (by decide)) r)), hI5, (CM.mono S7 (by decide) (by decide))⟩

set_option maxHeartbeats 8000000 in
theorem a_X12_readUnit_6_x {d : Nat} {T N : Nat → Nat} {I : IT} {L : LT} {R : RT} {A : Nat → Prop} {r0 : Nat} (hI : IM R r0 I) (H_r0 : (h_MD T N R A) r0) (hp0 : (I r0 15).toInt = 6) (hp1 : ∀ a1, R r0 1 = some a1 → PD (I a1) (I r0 19).toInt) (hp2 : ∀ a1, R r0 1 = some a1 → 0 ≤ (I r0 19).toInt ∧ 0 ≤ Hgt (I a1) 3606 (I r0 19).toNatClampNeg ∧ Hgt (I a1) 3606 (I r0 19).toNatClampNeg ≤ (I r0 16).toInt ∧ (I r0 19).toInt + 4 * (40 - (I r0 16).toInt) + (6 - 6) ≤ 166) (hp3 : ∀ a10, R r0 10 = some a10 → TBY (I a10)) : Ex (d + 4) 229 [.ref r0] (T, N, I, L, R) 0 0 (pI T N R (fun x9 I9 L9 => (0 ≤ x9.toInt) ∧ (x9.toInt ≤ 1) ∧ (∀ a1, R r0 1 = some a1 → x9.toInt = 1 → (I9 r0 15).toInt = 6 ∧ (I r0 16).toInt + 1 ≤ (I9 r0 16).toInt ∧ 0 ≤ (I9 r0 19).toInt ∧ (I9 r0 19).toInt + 3 ≤ (I r0 19).toInt + 4 * ((I9 r0 16).toInt - (I r0 16).toInt) + (6 - 6) ∧ Hgt (I9 a1) 3606 (I9 r0 19).toNatClampNeg = Hgt (I a1) 3606 (I r0 19).toNatClampNeg + 1) ∧ (∀ a1, R r0 1 = some a1 → x9.toInt = 1 → PD (I9 a1) (I9 r0 19).toInt) ∧ (∀ a1 a10, R r0 1 = some a1 → R r0 10 = some a10 → RS3 (BCM (I a10) (I r0 13).toInt) x9.toInt (RPT 200 (BCM (I a10) (I r0 13).toInt) 0 (RDM I r0 a1)) (RDM I9 r0 a1)) ∧ (x9.toInt = 1 → (I9 r0 16).toInt ≤ 40) ∧ (∀ a1, R r0 1 = some a1 → ∀ r : Nat, r < 3606 → I9 a1 r = I a1 r) ∧ (IM R r0 I9 ∧ CM A R r0 [12, 14, 15, 16, 19] [1] I L I9 L9))) := by
  refine ⟨_, rfl, Nat.le_of_ble_eq_true rfl, fun V C S => ?_⟩
  show V 0 [(0, .ref r0)] [] (T, N, I, L, R) 0 0
  obtain ⟨T_r0, A_r0, ⟨r0_1, R_r0_1, H_r0_1⟩, ⟨r0_2, R_r0_2, H_r0_2⟩, ⟨r0_4, R_r0_4, H_r0_4⟩, ⟨r0_5, R_r0_5, H_r0_5⟩, ⟨r0_10, R_r0_10, H_r0_10⟩, ⟨r0_18, R_r0_18, H_r0_18⟩, ⟨r0_20, R_r0_20, H_r0_20⟩, ⟨r0_21, R_r0_21, H_r0_21⟩, ⟨r0_22, R_r0_22, H_r0_22⟩, ⟨r0_23, R_r0_23, H_r0_23⟩, ⟨r0_25, R_r0_25, H_r0_25⟩, ⟨r0_26, R_r0_26, H_r0_26⟩, ⟨r0_27, R_r0_27, H_r0_27⟩, ⟨r0_28, R_r0_28, H_r0_28⟩, ⟨r0_34, R_r0_34, H_r0_34⟩, J_r0, Y_r0⟩ := id H_r0
  have G_r0 : mF T R r0 := ⟨J_r0, Y_r0, T_r0⟩
  obtain ⟨w_r0_15, k0_r0_15⟩ : ∃ x, I r0 15 = x := ⟨_, rfl⟩
  have gw_r0_15 := rg w_r0_15
  have ow_r0_15 := IM.f15 hI k0_r0_15
  obtain ⟨w_r0_16, k0_r0_16⟩ : ∃ x, I r0 16 = x := ⟨_, rfl⟩
  have gw_r0_16 := rg w_r0_16
  have ow_r0_16 := IM.f16 hI k0_r0_16
  obtain ⟨w_r0_19, k0_r0_19⟩ : ∃ x, I r0 19 = x := ⟨_, rfl⟩
  have gw_r0_19 := rg w_r0_19
  obtain ⟨w_r0_12, k0_r0_12⟩ : ∃ x, I r0 12 = x := ⟨_, rfl⟩
  have gw_r0_12 := rg w_r0_12
  have ow_r0_12 := IM.f12 hI k0_r0_12
  obtain ⟨w_r0_13, k0_r0_13⟩ : ∃ x, I r0 13 = x := ⟨_, rfl⟩
  have gw_r0_13 := rg w_r0_13
  have ow_r0_13 := IM.f13 hI k0_r0_13
  have hp1 := hp1 r0_1 R_r0_1
  have hp2 := hp2 r0_1 R_r0_1
  have hp3 := hp3 r0_10 R_r0_10
  obtain ⟨g0, hg0⟩ : ∃ g, I r0_1 = g := ⟨_, rfl⟩
  have hg := hg0
  try simp only [hg0, k0_r0_15, k0_r0_16, k0_r0_19, k0_r0_12, k0_r0_13] at hp0
  try simp only [hg0, k0_r0_15, k0_r0_16, k0_r0_19, k0_r0_12, k0_r0_13] at hp1
  try simp only [hg0, k0_r0_15, k0_r0_16, k0_r0_19, k0_r0_12, k0_r0_13] at hp2
  try simp only [hg0, k0_r0_15, k0_r0_16, k0_r0_19, k0_r0_12, k0_r0_13] at hp3
  have hPD := hp1
  have hTB := hp3
  obtain ⟨cc, hcc⟩ : ∃ c, BCM (I r0_10) w_r0_13.toInt = c := ⟨_, rfl⟩
  have hc40 : C40 cc := by rw [← hcc]; exact BCM.c40 (by omega)
  obtain ⟨s0, hs0⟩ : ∃ s, RDM I r0 r0_1 = s := ⟨_, rfl⟩
  have hd1 := RDM.c1 hs0 k0_r0_12 (by omega)
  have hd2 := RDM.c2 hs0 k0_r0_16 (by omega)
  refine k_aload_n C rfl rfl rfl ?_
  refine z_bipush C (z := 45) rfl rfl rfl (fun x1 ex1 => ?_)
  have w3 := (CM.j0 (I := I) (L := L) (I' := I) (L' := L) (A := A) (W := [12, 14, 15, 16, 19]) (WA := [1]) CM.rf R_r0_10 (by decide))
  have q2 : x1.toNatClampNeg = 45 := nck (by omega)
  refine c_VI C (a_X12_has_x hI H_r0 (by omega) (by omega) (fun a10 h10 => by cases (R_r0_10.symm.trans h10); rw [(CM.j0 (I := I) (L := L) (I' := I) (L' := L) (A := A) (W := [12, 14, 15, 16, 19]) (WA := [1]) CM.rf R_r0_10 (by decide))]; exact hTB)) rfl rfl rfl rfl rfl ⟨_, rfl, rfl, T_r0, Nat.le_of_ble_eq_true rfl⟩ rfl rfl (Nat.le_of_ble_eq_true rfl) (Nat.le_of_ble_eq_true rfl) (Nat.le_of_ble_eq_true rfl) ?_
  rintro x3 I4 L5 ⟨o0x3, o1x3, p0x3, hI4, S6⟩
  have p0x3 := p0x3 r0_1 r0_10 R_r0_1 R_r0_10
  have e7 := CM.k S6 (by decide) k0_r0_15
  have e8 := CM.k S6 (by decide) k0_r0_16
  have e9 := CM.k S6 (by decide) k0_r0_19
  have e11 := CM.k S6 (by decide) k0_r0_13
  have gx3 := rg x3
  obtain ⟨x12, e13⟩ : ∃ x, I4 r0 12 = x := ⟨_, rfl⟩
  have gx12 := rg x12
  have ox12 := IM.f12 hI4 e13
  have hg := (CM.j0 S6 R_r0_1 (by decide)).trans hg
  try simp only [q2, k0_r0_15, k0_r0_16, k0_r0_19, k0_r0_12, k0_r0_13, e13] at p0x3
  try have q0x3 := congrArg Int32.toInt p0x3
  have h3 := p0x3
  (try rw [w3] at h3)
  (try rw [hcc] at h3)
  rw [hs0] at h3
  have h3 := h3.v (b := 45) (by omega)
  obtain ⟨t3, ht3⟩ : ∃ t, RDM I4 r0 r0_1 = t := ⟨_, rfl⟩
  rw [ht3] at h3
  refine b_if_eq C (t := 42) rfl rfl rfl (fun c14 => ?_) (fun c14 => ?_)
  · skip
    obtain ⟨n3, h3t⟩ := h3.n (by omega)
    have hs3 := ht3.trans h3t
    refine k_aload_n C rfl rfl rfl ?_
    refine z_bipush C (z := 40) rfl rfl rfl (fun x15 ex15 => ?_)
    have w45 := (CM.j0 (I := I) (L := L) (I' := I4) (L' := L5) (A := A) (W := [12, 14, 15, 16, 19]) (WA := [1]) (CM.mono S6 (by decide) (by decide)) R_r0_10 (by decide))
    have q16 : x15.toNatClampNeg = 40 := nck (by omega)
    refine c_VI C (a_X12_has_x hI4 H_r0 (by omega) (by omega) (fun a10 h10 => by cases (R_r0_10.symm.trans h10); rw [(CM.j0 (I := I) (L := L) (I' := I4) (L' := L5) (A := A) (W := [12, 14, 15, 16, 19]) (WA := [1]) (CM.mono S6 (by decide) (by decide)) R_r0_10 (by decide))]; exact hTB)) rfl rfl rfl rfl rfl ⟨_, rfl, rfl, T_r0, Nat.le_of_ble_eq_true rfl⟩ rfl rfl (Nat.le_of_ble_eq_true rfl) (Nat.le_of_ble_eq_true rfl) (Nat.le_of_ble_eq_true rfl) ?_
    rintro x17 I18 L19 ⟨o0x17, o1x17, p0x17, hI18, S20⟩
    have p0x17 := p0x17 r0_1 r0_10 R_r0_1 R_r0_10
    have e21 := CM.k S20 (by decide) e7
    have e22 := CM.k S20 (by decide) e8
    have e23 := CM.k S20 (by decide) e9
    have e24 := CM.k S20 (by decide) e11
    have gx17 := rg x17
    obtain ⟨x26, e27⟩ : ∃ x, I18 r0 12 = x := ⟨_, rfl⟩
    have gx26 := rg x26
    have ox26 := IM.f12 hI18 e27
    have hg := (CM.j0 S20 R_r0_1 (by decide)).trans hg
    try simp only [q16, e7, e8, e9, e11, e13, e27] at p0x17
    try have q0x17 := congrArg Int32.toInt p0x17
    have h45 := p0x17
    (try rw [w45] at h45)
    (try rw [hcc] at h45)
    rw [hs3] at h45
    have h45 := HSR.sk hc40 (h45.v (b := 40) (by omega))
    obtain ⟨t45, ht45⟩ : ∃ t, RDM I18 r0 r0_1 = t := ⟨_, rfl⟩
    rw [ht45] at h45
    refine b_if_eq C (t := 84) rfl rfl rfl (fun c28 => ?_) (fun c28 => ?_)
    · skip
      obtain ⟨n45, h45t⟩ := h45.n (by omega)
      have hs45 := ht45.trans h45t
      refine k_aload_n C rfl rfl rfl ?_
      refine z_bipush C (z := 91) rfl rfl rfl (fun x29 ex29 => ?_)
      have w87 := (CM.j0 (I := I) (L := L) (I' := I18) (L' := L19) (A := A) (W := [12, 14, 15, 16, 19]) (WA := [1]) (CM.cons S6 (CM.mono S20 (by decide) (by decide)) (by decide) (by decide)) R_r0_10 (by decide))
      have q30 : x29.toNatClampNeg = 91 := nck (by omega)
      refine c_VI C (a_X12_has_x hI18 H_r0 (by omega) (by omega) (fun a10 h10 => by cases (R_r0_10.symm.trans h10); rw [(CM.j0 (I := I) (L := L) (I' := I18) (L' := L19) (A := A) (W := [12, 14, 15, 16, 19]) (WA := [1]) (CM.cons S6 (CM.mono S20 (by decide) (by decide)) (by decide) (by decide)) R_r0_10 (by decide))]; exact hTB)) rfl rfl rfl rfl rfl ⟨_, rfl, rfl, T_r0, Nat.le_of_ble_eq_true rfl⟩ rfl rfl (Nat.le_of_ble_eq_true rfl) (Nat.le_of_ble_eq_true rfl) (Nat.le_of_ble_eq_true rfl) ?_
      rintro x31 I32 L33 ⟨o0x31, o1x31, p0x31, hI32, S34⟩
      have p0x31 := p0x31 r0_1 r0_10 R_r0_1 R_r0_10
      have e35 := CM.k S34 (by decide) e21
      have e36 := CM.k S34 (by decide) e22
      have e37 := CM.k S34 (by decide) e23
      have e38 := CM.k S34 (by decide) e24
      have gx31 := rg x31
      obtain ⟨x40, e41⟩ : ∃ x, I32 r0 12 = x := ⟨_, rfl⟩
      have gx40 := rg x40
      have ox40 := IM.f12 hI32 e41
      have hg := (CM.j0 S34 R_r0_1 (by decide)).trans hg
      try simp only [q30, e21, e22, e23, e24, e27, e41] at p0x31
      try have q0x31 := congrArg Int32.toInt p0x31
      have h87 := p0x31
      (try rw [w87] at h87)
      (try rw [hcc] at h87)
      rw [hs45] at h87
      have h87 := HSR.sk hc40 (h87.v (b := 91) (by omega))
      obtain ⟨t87, ht87⟩ : ∃ t, RDM I32 r0 r0_1 = t := ⟨_, rfl⟩
      rw [ht87] at h87
      refine b_if_eq C (t := 98) rfl rfl rfl (fun c42 => ?_) (fun c42 => ?_)
      · skip
        obtain ⟨n87, h87t⟩ := h87.n (by omega)
        have hs87 := ht87.trans h87t
        refine k_aload_n C rfl rfl rfl ?_
        have w99 := (CM.j0 (I := I) (L := L) (I' := I32) (L' := L33) (A := A) (W := [12, 14, 15, 16, 19]) (WA := [1]) (CM.cons S6 (CM.cons S20 (CM.mono S34 (by decide) (by decide)) (by decide) (by decide)) (by decide) (by decide)) R_r0_10 (by decide))
        refine c_VV C (a_X12_blanks_x hI32 H_r0 (fun a10 h10 => by cases (R_r0_10.symm.trans h10); rw [(CM.j0 (I := I) (L := L) (I' := I32) (L' := L33) (A := A) (W := [12, 14, 15, 16, 19]) (WA := [1]) (CM.cons S6 (CM.cons S20 (CM.mono S34 (by decide) (by decide)) (by decide) (by decide)) (by decide) (by decide)) R_r0_10 (by decide))]; exact hTB)) rfl rfl rfl rfl rfl ⟨_, rfl, rfl, T_r0, Nat.le_of_ble_eq_true rfl⟩ rfl rfl (Nat.le_of_ble_eq_true rfl) (Nat.le_of_ble_eq_true rfl) (Nat.le_of_ble_eq_true rfl) ?_
        rintro I44 L45 ⟨p0v43, p1v43, hI44, S46⟩
        have p0v43 := p0v43 r0_1 r0_10 R_r0_1 R_r0_10
        have e47 := CM.k S46 (by decide) e35
        have e48 := CM.k S46 (by decide) e36
        have e49 := CM.k S46 (by decide) e37
        have e50 := CM.k S46 (by decide) e38
        obtain ⟨x52, e53⟩ : ∃ x, I44 r0 12 = x := ⟨_, rfl⟩
        have gx52 := rg x52
        have ox52 := IM.f12 hI44 e53
        obtain ⟨x54, e55⟩ : ∃ x, I44 r0 14 = x := ⟨_, rfl⟩
        have gx54 := rg x54
        have ox54 := IM.f14 hI44 e55
        have hg := (CM.j0 S46 R_r0_1 (by decide)).trans hg
        try simp only [e35, e36, e37, e38, e41, e53, e55] at p0v43
        try have q0v43 := congrArg Int32.toInt p0v43
        try simp only [e35, e36, e37, e38, e41, e53, e55] at p1v43
        try have q1v43 := congrArg Int32.toInt p1v43
        have h99 := p0v43
        (try rw [w99] at h99)
        (try rw [hcc] at h99)
        rw [hs87] at h99
        rw [show SKP cc (SKP cc s0.1, s0.2).1 = SKP cc s0.1 from SKP.sk hc40 _] at h99
        have hq99 : x52.toInt = ((SKP cc s0.1 : Nat) : Int) := RDM.c1 h99 e53 (by omega)
        have hb99 : x54.toInt = ((SKP cc s0.1 : Nat) : Int) := by omega
        have hc99 := RDM.c2 h99 e48 (by omega)
        refine k_aload_n C rfl rfl rfl ?_
        refine z_bipush C (z := 48) rfl rfl rfl (fun x56 ex56 => ?_)
        refine z_bipush C (z := 57) rfl rfl rfl (fun x57 ex57 => ?_)
        have w107 := (CM.j0 (I := I) (L := L) (I' := I44) (L' := L45) (A := A) (W := [12, 14, 15, 16, 19]) (WA := [1]) (CM.cons S6 (CM.cons S20 (CM.cons S34 (CM.mono S46 (by decide) (by decide)) (by decide) (by decide)) (by decide) (by decide)) (by decide) (by decide)) R_r0_10 (by decide))
        have q58 : x56.toNatClampNeg = 48 := nck (by omega)
        have q59 : x57.toNatClampNeg = 57 := nck (by omega)
        refine c_VI C (a_X12_isAt_x hI44 H_r0 (by omega) (by omega) (by omega) (by omega) (fun a10 h10 => by cases (R_r0_10.symm.trans h10); rw [(CM.j0 (I := I) (L := L) (I' := I44) (L' := L45) (A := A) (W := [12, 14, 15, 16, 19]) (WA := [1]) (CM.cons S6 (CM.cons S20 (CM.cons S34 (CM.mono S46 (by decide) (by decide)) (by decide) (by decide)) (by decide) (by decide)) (by decide) (by decide)) R_r0_10 (by decide))]; exact hTB)) rfl rfl rfl rfl rfl ⟨_, rfl, rfl, T_r0, Nat.le_of_ble_eq_true rfl⟩ rfl rfl (Nat.le_of_ble_eq_true rfl) (Nat.le_of_ble_eq_true rfl) (Nat.le_of_ble_eq_true rfl) ?_
        rintro x60 _ _ ⟨o0x60, o1x60, p0x60, p1x60, rfl, rfl⟩
        have p1x60 := p1x60 r0_10 R_r0_10
        have gx60 := rg x60
        try simp only [q58, q59, e47, e48, e49, e50, e53, e55] at p0x60
        try have q0x60 := congrArg Int32.toInt p0x60
        try simp only [q58, q59, e47, e48, e49, e50, e53, e55] at p1x60
        try have q1x60 := congrArg Int32.toInt p1x60
        have h107 := p1x60
        (try rw [w107] at h107)
        rw [hcc, show x52.toInt.toNat = SKP cc s0.1 from by omega] at h107
        have J61 : ∀ (nn62 : Nat) (I63 : IT) (L64 : LT) (x67 : Int32), (MN (400 - x67.toInt) nn62) → (IM R r0 I63) → (CM A R r0 [12] [] I44 L45 I63 L64) → (I63 r0 12 = x67) → (0 ≤ x67.toInt) → (x67.toInt ≤ 400) → (LTB cc (SKP cc s0.1) x67.toInt.toNat) → (((SKP cc s0.1 : Nat) : Int) ≤ x67.toInt) → (¬ (48 ≤ cc (SKP cc s0.1) ∧ cc (SKP cc s0.1) ≤ 57)) → V 161 [(0, .ref r0)] [] (T, N, I63, L64, R) 0 0 := by
          intro nn62
          induction nn62 using Nat.strongRecOn with
          | _ nn62 ihJ61 =>
            intro I63 L64 x67 hmnn62 hI66 S65 e68 b69 b70 ff161_0 ff161_1 ff161_2
            have gx67 := rg x67
            have e71 := CM.k S65 (by decide) e47
            have e72 := CM.k S65 (by decide) e48
            have e73 := CM.k S65 (by decide) e49
            have e74 := CM.k S65 (by decide) e50
            have e75 := CM.k S65 (by decide) e55
            have hg := (CM.j0 S65 R_r0_1 (by decide)).trans hg
            obtain ⟨k161, hk161⟩ : ∃ k : Nat, k = x67.toInt.toNat := ⟨_, rfl⟩
            rw [← hk161] at ff161_0
            refine k_aload_n C rfl rfl rfl ?_
            refine z_bipush C (z := 97) rfl rfl rfl (fun x76 ex76 => ?_)
            refine z_bipush C (z := 122) rfl rfl rfl (fun x77 ex77 => ?_)
            have w166 := (CM.j0 (I := I) (L := L) (I' := I63) (L' := L64) (A := A) (W := [12, 14, 15, 16, 19]) (WA := [1]) (CM.cons S6 (CM.cons S20 (CM.cons S34 (CM.cons S46 (CM.mono S65 (by decide) (by decide)) (by decide) (by decide)) (by decide) (by decide)) (by decide) (by decide)) (by decide) (by decide)) R_r0_10 (by decide))
            have q78 : x76.toNatClampNeg = 97 := nck (by omega)
            have q79 : x77.toNatClampNeg = 122 := nck (by omega)
            refine c_VI C (a_X12_isAt_x hI66 H_r0 (by omega) (by omega) (by omega) (by omega) (fun a10 h10 => by cases (R_r0_10.symm.trans h10); rw [(CM.j0 (I := I) (L := L) (I' := I63) (L' := L64) (A := A) (W := [12, 14, 15, 16, 19]) (WA := [1]) (CM.cons S6 (CM.cons S20 (CM.cons S34 (CM.cons S46 (CM.mono S65 (by decide) (by decide)) (by decide) (by decide)) (by decide) (by decide)) (by decide) (by decide)) (by decide) (by decide)) R_r0_10 (by decide))]; exact hTB)) rfl rfl rfl rfl rfl ⟨_, rfl, rfl, T_r0, Nat.le_of_ble_eq_true rfl⟩ rfl rfl (Nat.le_of_ble_eq_true rfl) (Nat.le_of_ble_eq_true rfl) (Nat.le_of_ble_eq_true rfl) ?_
            rintro x80 _ _ ⟨o0x80, o1x80, p0x80, p1x80, rfl, rfl⟩
            have p1x80 := p1x80 r0_10 R_r0_10
            have gx80 := rg x80
            try simp only [q78, q79, e71, e72, e73, e74, e75, e68] at p0x80
            try have q0x80 := congrArg Int32.toInt p0x80
            try simp only [q78, q79, e71, e72, e73, e74, e75, e68] at p1x80
            try have q1x80 := congrArg Int32.toInt p1x80
            have h166 := p1x80
            (try rw [w166] at h166)
            rw [hcc, ← hk161] at h166
            refine b_if_eq C (t := 185) rfl rfl rfl (fun c81 => ?_) (fun c81 => ?_)
            · skip
              refine k_aload_n C rfl rfl rfl ?_
              refine g_I C rfl rfl rfl T_r0 rfl e68 ?_
              refine k_aload_n C rfl rfl rfl ?_
              refine g_I C rfl rfl rfl T_r0 rfl e75 ?_
              refine z_isub C rfl rfl ⟨by omega, by omega⟩ (fun x82 ex82 => ?_)
              refine z_iconst C (z := 1) rfl rfl rfl (fun x83 ex83 => ?_)
              refine b_icmp_ne C (t := 221) rfl rfl rfl (fun c84 => ?_) (fun c84 => ?_)
              · skip
                have hno := LTB.no (M := 200) (k := 0) (s := s0) ff161_0 rfl ff161_2 n3 n45 n87 (fun q => (h166.2 (by omega)) (by omega)) (by omega)
                refine z_iconst C (z := 0) rfl rfl rfl (fun x85 ex85 => ?_)
                exact k_iret C rfl (Or.inr ⟨rfl, z01 (by omega) (by omega)⟩) (Nat.le_of_ble_eq_true rfl) (Nat.le_of_ble_eq_true rfl) ⟨_, _, _, rfl, rfl, by omega, by omega, fun a1 h1 => by cases (R_r0_1.symm.trans h1); first | (intro h; exfalso; omega) | (intro h; simp only [hg, hg0, e71, e72, e73, e74, e75, e68, k0_r0_15, k0_r0_16, k0_r0_19, k0_r0_12, k0_r0_13]; omega), fun a1 h1 => by cases (R_r0_1.symm.trans h1); first | (intro h; exfalso; omega) | (intro h; simp only [hg, e71, e72, e73, e74, e75, e68, k0_r0_15, k0_r0_16, k0_r0_19, k0_r0_12, k0_r0_13]; first | exact hPD | exact hP1 h | exact hP1 (by omega)), fun a1 a10 h1 h10 => by cases (R_r0_1.symm.trans h1); cases (R_r0_10.symm.trans h10); rw [k0_r0_13, hcc, hs0]; exact RS3.f (by omega) hno, by first | omega | (intro h9; first | omega | (simp only [e71, e72, e73, e74, e75, e68, k0_r0_15, k0_r0_16, k0_r0_19, k0_r0_12, k0_r0_13]; omega)), fun a1 h1 => by cases (R_r0_1.symm.trans h1); exact (fun r z0 => ((congrFun (CM.j0 S65 R_r0_1 (by decide)) r).trans ((congrFun (CM.j0 S46 R_r0_1 (by decide)) r).trans ((congrFun (CM.j0 S34 R_r0_1 (by decide)) r).trans ((congrFun (CM.j0 S20 R_r0_1 (by decide)) r).trans (congrFun (CM.j0 S6 R_r0_1 (by decide)) r)))))), hI66, (CM.cons S6 (CM.cons S20 (CM.cons S34 (CM.cons S46 (CM.mono S65 (by decide) (by decide)) (by decide) (by decide)) (by decide) (by decide)) (by decide) (by decide)) (by decide) (by decide))⟩
              have hle := ff161_0.2 (SKP cc s0.1) (Nat.le_refl _) (by omega)
              have hlt := BCM.lt (f := I r0_10) (m := w_r0_13.toInt) (j := SKP cc s0.1) (v := cc (SKP cc s0.1)) (by rw [hcc]) (by omega)
              refine k_aload_n C rfl rfl rfl ?_
              refine g_R C rfl rfl rfl T_r0 rfl R_r0_10 ?_
              refine k_aload_n C rfl rfl rfl ?_
              refine g_I C rfl rfl rfl T_r0 rfl e75 ?_
              obtain ⟨T_r0_10, N_r0_10, A_r0_10⟩ := id H_r0_10
              refine z_aB C rfl rfl T_r0_10 N_r0_10 (by omega) (by omega) (fun x86 ex86 => ?_)
              have gx86 := rg x86
              have hb206 := ex86
              have hbc := BCM.ab (m := w_r0_13.toInt) (j := SKP cc s0.1) hTB (CM.j0 (I := I) (L := L) (I' := I63) (L' := L64) (A := A) (W := [12, 14, 15, 16, 19]) (WA := [1]) (CM.cons S6 (CM.cons S20 (CM.cons S34 (CM.cons S46 (CM.mono S65 (by decide) (by decide)) (by decide) (by decide)) (by decide) (by decide)) (by decide) (by decide)) (by decide) (by decide)) R_r0_10 (by decide)) hb206 (by omega) (by omega) (by omega)
              rw [hcc] at hbc
              refine z_bipush C (z := 102) rfl rfl rfl (fun x87 ex87 => ?_)
              refine b_icmp_ne C (t := 221) rfl rfl rfl (fun c88 => ?_) (fun c88 => ?_)
              · skip
                have hno := LTB.nf (M := 200) (k := 0) (s := s0) rfl ff161_2 n3 n45 n87 (by omega)
                refine z_iconst C (z := 0) rfl rfl rfl (fun x89 ex89 => ?_)
                exact k_iret C rfl (Or.inr ⟨rfl, z01 (by omega) (by omega)⟩) (Nat.le_of_ble_eq_true rfl) (Nat.le_of_ble_eq_true rfl) ⟨_, _, _, rfl, rfl, by omega, by omega, fun a1 h1 => by cases (R_r0_1.symm.trans h1); first | (intro h; exfalso; omega) | (intro h; simp only [hg, hg0, e71, e72, e73, e74, e75, e68, ex86, k0_r0_15, k0_r0_16, k0_r0_19, k0_r0_12, k0_r0_13]; omega), fun a1 h1 => by cases (R_r0_1.symm.trans h1); first | (intro h; exfalso; omega) | (intro h; simp only [hg, e71, e72, e73, e74, e75, e68, ex86, k0_r0_15, k0_r0_16, k0_r0_19, k0_r0_12, k0_r0_13]; first | exact hPD | exact hP1 h | exact hP1 (by omega)), fun a1 a10 h1 h10 => by cases (R_r0_1.symm.trans h1); cases (R_r0_10.symm.trans h10); rw [k0_r0_13, hcc, hs0]; exact RS3.f (by omega) hno, by first | omega | (intro h9; first | omega | (simp only [e71, e72, e73, e74, e75, e68, ex86, k0_r0_15, k0_r0_16, k0_r0_19, k0_r0_12, k0_r0_13]; omega)), fun a1 h1 => by cases (R_r0_1.symm.trans h1); exact (fun r z0 => ((congrFun (CM.j0 S65 R_r0_1 (by decide)) r).trans ((congrFun (CM.j0 S46 R_r0_1 (by decide)) r).trans ((congrFun (CM.j0 S34 R_r0_1 (by decide)) r).trans ((congrFun (CM.j0 S20 R_r0_1 (by decide)) r).trans (congrFun (CM.j0 S6 R_r0_1 (by decide)) r)))))), hI66, (CM.cons S6 (CM.cons S20 (CM.cons S34 (CM.cons S46 (CM.mono S65 (by decide) (by decide)) (by decide) (by decide)) (by decide) (by decide)) (by decide) (by decide)) (by decide) (by decide))⟩
              have hs161 := RDM.nx hs0 (I1 := I63) (by rw [e73, k0_r0_19]) (hg.trans hg0.symm) (p := k161) (c := s0.2.1) (by rw [e68]; omega) (by rw [e72]; omega)
              refine k_aload_n C rfl rfl rfl ?_
              refine g_I C rfl rfl rfl T_r0 rfl e72 ?_
              refine z_bipush C (z := 40) rfl rfl rfl (fun x90 ex90 => ?_)
              refine b_icmp_ne C (t := 223) rfl rfl rfl (fun c91 => ?_) (fun c91 => ?_)
              · skip
                refine k_aload_n C rfl rfl rfl ?_
                refine k_dup C rfl rfl rfl ?_
                refine g_I C rfl rfl rfl T_r0 rfl e72 ?_
                refine z_iconst C (z := 1) rfl rfl rfl (fun x92 ex92 => ?_)
                refine z_iadd C rfl rfl ⟨by omega, by omega⟩ (fun x93 ex93 => ?_)
                refine z_pI C rfl rfl rfl T_r0 (Or.inr rfl) rfl (fun I94 uI94 => ?_)
                have hI94 : IM R r0 I94 := IM.fld hI66 G_r0 ⟨(fun h => absurd h (by decide)), (fun h => absurd h (by decide)), (fun _ => ⟨by omega, by omega⟩), (fun h => absurd h (by decide)), (fun h => absurd h (by decide))⟩ uI94
                have S95 : CM A R r0 [16] [] I63 L64 I94 L64 := CM.f G_r0 A_r0 uI94
                have e96 := u2_j uI94 (by first | decide | exact ncne (by omega) (by omega) (by omega) | exact nckn (by omega) (by omega) | exact (nckn (by omega) (by omega)).symm) e71
                have e98 := u2_j uI94 (by first | decide | exact ncne (by omega) (by omega) (by omega) | exact nckn (by omega) (by omega) | exact (nckn (by omega) (by omega)).symm) e73
                have e99 := u2_j uI94 (by first | decide | exact ncne (by omega) (by omega) (by omega) | exact nckn (by omega) (by omega) | exact (nckn (by omega) (by omega)).symm) e74
                have e100 := u2_j uI94 (by first | decide | exact ncne (by omega) (by omega) (by omega) | exact nckn (by omega) (by omega) | exact (nckn (by omega) (by omega)).symm) e75
                have e101 := u2_j uI94 (by first | decide | exact ncne (by omega) (by omega) (by omega) | exact nckn (by omega) (by omega) | exact (nckn (by omega) (by omega)).symm) e68
                have e102 := u2_n uI94 (mF.ne G_r0 R_r0_10) ex86
                have e103 := u2_e uI94
                have hg := (CM.j0 S95 R_r0_1 (by decide)).trans hg
                have hu230 := uI94
                have hs230 := RDM.u16 (c := s0.2.1 + 1) hs161 hu230 (mF.ne G_r0 R_r0_1) (by omega)
                refine k_aload_n C rfl rfl rfl ?_
                refine z_iconst C (z := 0) rfl rfl rfl (fun x104 ex104 => ?_)
                refine z_iconst C (z := 0) rfl rfl rfl (fun x105 ex105 => ?_)
                have hl236 : w_r0_19.toInt = (s0.2.2.length : Int) := RDM.c3 (s := (k161, s0.2.1 + 1, s0.2.2)) hs230 e98 (by omega)
                have q106 : x104.toNatClampNeg = 0 := nck (by omega)
                have q107 : x105.toNatClampNeg = 0 := nck (by omega)
                refine c_VI C (a_X12_emits_x hI94 H_r0 (by omega) (by omega) (by omega) (by omega) (by first | omega | (simp only [q106, q107, hg, e96, e98, e99, e100, e101, e102, e103, and_true, true_and, or_true, true_or, and_false, false_and, or_false, false_or] <;> omega)) (by first | omega | (simp only [q106, q107, hg, e96, e98, e99, e100, e101, e102, e103, and_true, true_and, or_true, true_or, and_false, false_and, or_false, false_or] <;> omega))) rfl rfl rfl rfl rfl ⟨_, rfl, rfl, T_r0, Nat.le_of_ble_eq_true rfl⟩ rfl rfl (Nat.le_of_ble_eq_true rfl) (Nat.le_of_ble_eq_true rfl) (Nat.le_of_ble_eq_true rfl) ?_
                rintro x108 I109 L110 ⟨o0x108, o1x108, p0x108, p1x108, p2x108, p3x108, hI109, S111⟩
                have p0x108 := p0x108 r0_1 R_r0_1
                have p2x108 := p2x108 r0_1 R_r0_1
                have p3x108 := p3x108 r0_1 R_r0_1
                have F112 : ∀ r : Nat, r < 3606 → I109 r0_1 r = I94 r0_1 r := fun r z0 => p3x108 r z0
                have e113 := CM.k S111 (by decide) e96
                have e115 := CM.k S111 (by decide) e99
                have e116 := CM.k S111 (by decide) e100
                have e117 := CM.k S111 (by decide) e101
                have e118 := CM.j S111 R_r0_10 (by decide) e102
                have e119 := CM.k S111 (by decide) e103
                have gx108 := rg x108
                obtain ⟨x120, e121⟩ : ∃ x, I109 r0 19 = x := ⟨_, rfl⟩
                have gx120 := rg x120
                obtain ⟨gS111, hgS111⟩ : ∃ g, I109 r0_1 = g := ⟨_, rfl⟩
                try simp only [q106, q107, e96, e98, e99, e100, e101, e102, e103, e121, hg, hgS111] at p0x108
                try have q0x108 := congrArg Int32.toInt p0x108
                try simp only [q106, q107, e96, e98, e99, e100, e101, e102, e103, e121, hg, hgS111] at p1x108
                try have q1x108 := congrArg Int32.toInt p1x108
                try simp only [q106, q107, e96, e98, e99, e100, e101, e102, e103, e121, hg, hgS111] at p2x108
                try have q2x108 := congrArg Int32.toInt p2x108
                have hgo := hg
                have hg := hgS111
                have hE := p0x108
                have hPD := PD.em hPD hE (by omega) (by omega) ⟨by omega, by omega⟩ ⟨by omega, by omega⟩ ⟨by omega, by omega⟩ (fun _ => by omega) (fun _ _ => by omega) (fun _ => by omega)
                have hHH := Hgt.e1 hE (by omega) (by omega) (by omega)
                have h236 := p2x108
                rw [hs230] at h236
                exact k_iret C rfl (Or.inr ⟨rfl, z01 (by omega) (by omega)⟩) (Nat.le_of_ble_eq_true rfl) (Nat.le_of_ble_eq_true rfl) ⟨_, _, _, rfl, rfl, by omega, by omega, fun a1 h1 => by cases (R_r0_1.symm.trans h1); first | (intro h; exfalso; omega) | (intro h; simp only [hg, hg0, e113, e115, e116, e117, e118, e119, e121, k0_r0_15, k0_r0_16, k0_r0_19, k0_r0_12, k0_r0_13]; omega), fun a1 h1 => by cases (R_r0_1.symm.trans h1); first | (intro h; exfalso; omega) | (intro h; simp only [hg, e113, e115, e116, e117, e118, e119, e121, k0_r0_15, k0_r0_16, k0_r0_19, k0_r0_12, k0_r0_13]; first | exact hPD | exact hP1 h | exact hP1 (by omega)), fun a1 a10 h1 h10 => by cases (R_r0_1.symm.trans h1); cases (R_r0_10.symm.trans h10); rw [k0_r0_13, hcc, hs0]; exact LTB.f (p := SKP cc s0.1) (s := s0) hc40 rfl (by omega) (by omega) (fun q => (h166.2 (by omega)) (by rw [show k161 = SKP cc s0.1 + 1 from by omega]; omega)) (by rw [show SKP cc s0.1 + 1 = k161 from by omega]; exact RDM.em (M := 200) (s := (k161, s0.2.1 + 1, s0.2.2)) (k := 0) (n := 0) h236 (by omega) (by omega) (by show s0.2.2.length < 200; omega)) (by omega), by first | omega | (intro h9; first | omega | (simp only [e113, e115, e116, e117, e118, e119, e121, k0_r0_15, k0_r0_16, k0_r0_19, k0_r0_12, k0_r0_13]; omega)), fun a1 h1 => by cases (R_r0_1.symm.trans h1); exact (fun r z0 => ((F112 r z0).trans ((congrFun (CM.j0 S95 R_r0_1 (by decide)) r).trans ((congrFun (CM.j0 S65 R_r0_1 (by decide)) r).trans ((congrFun (CM.j0 S46 R_r0_1 (by decide)) r).trans ((congrFun (CM.j0 S34 R_r0_1 (by decide)) r).trans ((congrFun (CM.j0 S20 R_r0_1 (by decide)) r).trans (congrFun (CM.j0 S6 R_r0_1 (by decide)) r)))))))), hI109, (CM.cons S6 (CM.cons S20 (CM.cons S34 (CM.cons S46 (CM.cons S65 (CM.cons S95 (CM.mono S111 (by decide) (by decide)) (by decide) (by decide)) (by decide) (by decide)) (by decide) (by decide)) (by decide) (by decide)) (by decide) (by decide)) (by decide) (by decide))⟩
              have hno := LTB.n4 (M := 200) (k := 0) (s := s0) (p := SKP cc s0.1) rfl (by omega) (by omega)
              refine z_iconst C (z := 0) rfl rfl rfl (fun x122 ex122 => ?_)
              exact k_iret C rfl (Or.inr ⟨rfl, z01 (by omega) (by omega)⟩) (Nat.le_of_ble_eq_true rfl) (Nat.le_of_ble_eq_true rfl) ⟨_, _, _, rfl, rfl, by omega, by omega, fun a1 h1 => by cases (R_r0_1.symm.trans h1); first | (intro h; exfalso; omega) | (intro h; simp only [hg, hg0, e71, e72, e73, e74, e75, e68, ex86, k0_r0_15, k0_r0_16, k0_r0_19, k0_r0_12, k0_r0_13]; omega), fun a1 h1 => by cases (R_r0_1.symm.trans h1); first | (intro h; exfalso; omega) | (intro h; simp only [hg, e71, e72, e73, e74, e75, e68, ex86, k0_r0_15, k0_r0_16, k0_r0_19, k0_r0_12, k0_r0_13]; first | exact hPD | exact hP1 h | exact hP1 (by omega)), fun a1 a10 h1 h10 => by cases (R_r0_1.symm.trans h1); cases (R_r0_10.symm.trans h10); rw [k0_r0_13, hcc, hs0]; exact RS3.f (by omega) hno, by first | omega | (intro h9; first | omega | (simp only [e71, e72, e73, e74, e75, e68, ex86, k0_r0_15, k0_r0_16, k0_r0_19, k0_r0_12, k0_r0_13]; omega)), fun a1 h1 => by cases (R_r0_1.symm.trans h1); exact (fun r z0 => ((congrFun (CM.j0 S65 R_r0_1 (by decide)) r).trans ((congrFun (CM.j0 S46 R_r0_1 (by decide)) r).trans ((congrFun (CM.j0 S34 R_r0_1 (by decide)) r).trans ((congrFun (CM.j0 S20 R_r0_1 (by decide)) r).trans (congrFun (CM.j0 S6 R_r0_1 (by decide)) r)))))), hI66, (CM.cons S6 (CM.cons S20 (CM.cons S34 (CM.cons S46 (CM.mono S65 (by decide) (by decide)) (by decide) (by decide)) (by decide) (by decide)) (by decide) (by decide)) (by decide) (by decide))⟩
            refine k_aload_n C rfl rfl rfl ?_
            refine k_dup C rfl rfl rfl ?_
            refine g_I C rfl rfl rfl T_r0 rfl e68 ?_
            refine z_iconst C (z := 1) rfl rfl rfl (fun x123 ex123 => ?_)
            refine z_iadd C rfl rfl ⟨by omega, by omega⟩ (fun x124 ex124 => ?_)
            refine z_pI C rfl rfl rfl T_r0 (Or.inr rfl) rfl (fun I125 uI125 => ?_)
            have hI125 : IM R r0 I125 := IM.fld hI66 G_r0 ⟨(fun _ => ⟨by omega, by omega⟩), (fun h => absurd h (by decide)), (fun h => absurd h (by decide)), (fun h => absurd h (by decide)), (fun h => absurd h (by decide))⟩ uI125
            have S126 : CM A R r0 [12] [] I63 L64 I125 L64 := CM.f G_r0 A_r0 uI125
            have e127 := u2_j uI125 (by first | decide | exact ncne (by omega) (by omega) (by omega) | exact nckn (by omega) (by omega) | exact (nckn (by omega) (by omega)).symm) e71
            have e128 := u2_j uI125 (by first | decide | exact ncne (by omega) (by omega) (by omega) | exact nckn (by omega) (by omega) | exact (nckn (by omega) (by omega)).symm) e72
            have e129 := u2_j uI125 (by first | decide | exact ncne (by omega) (by omega) (by omega) | exact nckn (by omega) (by omega) | exact (nckn (by omega) (by omega)).symm) e73
            have e130 := u2_j uI125 (by first | decide | exact ncne (by omega) (by omega) (by omega) | exact nckn (by omega) (by omega) | exact (nckn (by omega) (by omega)).symm) e74
            have e131 := u2_j uI125 (by first | decide | exact ncne (by omega) (by omega) (by omega) | exact nckn (by omega) (by omega) | exact (nckn (by omega) (by omega)).symm) e75
            have e133 := u2_e uI125
            have hg := (CM.j0 S126 R_r0_1 (by decide)).trans hg
            refine k_goto C (pc2 := 161) rfl rfl ?_
            refine k_sub S [(0, .ref r0)] (List.forall_mem_cons.mpr ⟨List.mem_of_getElem? (i := 0) rfl, fun _ h => nomatch h⟩) ?_
            exact ihJ61 _ (MN.lt hmnn62 (by omega) (by omega)) I125 L64 x124 rfl hI125 (CM.cons S65 (CM.mono S126 (by decide) (by decide)) (by decide) (by decide)) e133 (by omega) (by omega) (by exact LTB.s ff161_0 (by have q := h166.1 (by omega); omega) (by omega)) (by omega) (by exact ff161_2)
        refine b_if_eq C (t := 161) rfl rfl rfl (fun c134 => ?_) (fun c134 => ?_)
        · skip
          have hnd9 : ¬ (48 ≤ cc (SKP cc s0.1) ∧ cc (SKP cc s0.1) ≤ 57) := fun q => (h107.2 (by omega)) (by omega)
          refine k_sub S [(0, .ref r0)] (List.forall_mem_cons.mpr ⟨List.mem_of_getElem? (i := 0) rfl, fun _ h => nomatch h⟩) ?_
          exact J61 _ I44 L45 x52 rfl hI44 CM.rf e53 (by omega) (by omega) (by exact LTB.z (by omega)) (by omega) (by exact hnd9)
        have hdg : 48 ≤ cc (SKP cc s0.1) ∧ cc (SKP cc s0.1) ≤ 57 := by have q := h107.1 (by omega); omega
        refine k_aload_n C rfl rfl rfl ?_
        refine g_I C rfl rfl rfl T_r0 rfl e48 ?_
        refine z_bipush C (z := 40) rfl rfl rfl (fun x135 ex135 => ?_)
        refine b_icmp_ne C (t := 124) rfl rfl rfl (fun c136 => ?_) (fun c136 => ?_)
        · skip
          refine k_aload_n C rfl rfl rfl ?_
          refine k_dup C rfl rfl rfl ?_
          refine g_I C rfl rfl rfl T_r0 rfl e48 ?_
          refine z_iconst C (z := 1) rfl rfl rfl (fun x137 ex137 => ?_)
          refine z_iadd C rfl rfl ⟨by omega, by omega⟩ (fun x138 ex138 => ?_)
          refine z_pI C rfl rfl rfl T_r0 (Or.inr rfl) rfl (fun I139 uI139 => ?_)
          have hI139 : IM R r0 I139 := IM.fld hI44 G_r0 ⟨(fun h => absurd h (by decide)), (fun h => absurd h (by decide)), (fun _ => ⟨by omega, by omega⟩), (fun h => absurd h (by decide)), (fun h => absurd h (by decide))⟩ uI139
          have S140 : CM A R r0 [16] [] I44 L45 I139 L45 := CM.f G_r0 A_r0 uI139
          have e141 := u2_j uI139 (by first | decide | exact ncne (by omega) (by omega) (by omega) | exact nckn (by omega) (by omega) | exact (nckn (by omega) (by omega)).symm) e47
          have e143 := u2_j uI139 (by first | decide | exact ncne (by omega) (by omega) (by omega) | exact nckn (by omega) (by omega) | exact (nckn (by omega) (by omega)).symm) e49
          have e144 := u2_j uI139 (by first | decide | exact ncne (by omega) (by omega) (by omega) | exact nckn (by omega) (by omega) | exact (nckn (by omega) (by omega)).symm) e50
          have e145 := u2_j uI139 (by first | decide | exact ncne (by omega) (by omega) (by omega) | exact nckn (by omega) (by omega) | exact (nckn (by omega) (by omega)).symm) e53
          have e146 := u2_j uI139 (by first | decide | exact ncne (by omega) (by omega) (by omega) | exact nckn (by omega) (by omega) | exact (nckn (by omega) (by omega)).symm) e55
          have e147 := u2_e uI139
          have hg := (CM.j0 S140 R_r0_1 (by decide)).trans hg
          have hu131 := uI139
          refine k_aload_n C rfl rfl rfl ?_
          refine z_sipush C (z := 999) rfl rfl rfl (fun x148 ex148 => ?_)
          have w138 := (CM.j0 (I := I) (L := L) (I' := I139) (L' := L45) (A := A) (W := [12, 14, 15, 16, 19]) (WA := [1]) (CM.cons S6 (CM.cons S20 (CM.cons S34 (CM.cons S46 (CM.mono S140 (by decide) (by decide)) (by decide) (by decide)) (by decide) (by decide)) (by decide) (by decide)) (by decide) (by decide)) R_r0_10 (by decide))
          have q149 : x148.toNatClampNeg = 999 := nck (by omega)
          refine c_VI C (a_X12_number_x hI139 H_r0 (by omega) (by omega) (fun a10 h10 => by cases (R_r0_10.symm.trans h10); rw [(CM.j0 (I := I) (L := L) (I' := I139) (L' := L45) (A := A) (W := [12, 14, 15, 16, 19]) (WA := [1]) (CM.cons S6 (CM.cons S20 (CM.cons S34 (CM.cons S46 (CM.mono S140 (by decide) (by decide)) (by decide) (by decide)) (by decide) (by decide)) (by decide) (by decide)) (by decide) (by decide)) R_r0_10 (by decide))]; exact hTB)) rfl rfl rfl rfl rfl ⟨_, rfl, rfl, T_r0, Nat.le_of_ble_eq_true rfl⟩ rfl rfl (Nat.le_of_ble_eq_true rfl) (Nat.le_of_ble_eq_true rfl) (Nat.le_of_ble_eq_true rfl) ?_
          rintro x150 I151 L152 ⟨o0x150, p0x150, p1x150, p2x150, hI151, S153⟩
          have p1x150 := p1x150 r0_1 r0_10 R_r0_1 R_r0_10
          have e154 := CM.k S153 (by decide) e141
          have e155 := CM.k S153 (by decide) e143
          have e156 := CM.k S153 (by decide) e144
          have e159 := CM.k S153 (by decide) e147
          have gx150 := rg x150
          obtain ⟨x160, e161⟩ : ∃ x, I151 r0 12 = x := ⟨_, rfl⟩
          have gx160 := rg x160
          have ox160 := IM.f12 hI151 e161
          have hg := (CM.j0 S153 R_r0_1 (by decide)).trans hg
          try simp only [q149, e141, e143, e144, e145, e146, e147, e161] at p0x150
          try have q0x150 := congrArg Int32.toInt p0x150
          try simp only [q149, e141, e143, e144, e145, e146, e147, e161] at p1x150
          try have q1x150 := congrArg Int32.toInt p1x150
          try simp only [q149, e141, e143, e144, e145, e146, e147, e161] at p2x150
          try have q2x150 := congrArg Int32.toInt p2x150
          have h138 := p1x150
          (try rw [w138] at h138)
          (try rw [hcc] at h138)
          rw [RDM.u16 (c := s0.2.1 + 1) h99 hu131 (mF.ne G_r0 R_r0_1) (by omega)] at h138
          have h138 := h138.v (b := 999) (by omega)
          obtain ⟨t138, ht138⟩ : ∃ t, RDM I151 r0 r0_1 = t := ⟨_, rfl⟩
          rw [ht138] at h138
          refine k_istore_n C (lw := [(1, .int x150), (0, .ref r0)]) rfl rfl (Nat.le_of_ble_eq_true rfl) rfl ?_
          refine k_iload_n C rfl rfl rfl ?_
          refine b_if_lt C (t := 159) rfl rfl rfl (fun c162 => ?_) (fun c162 => ?_)
          · skip
            have hno := RNB.no (M := 200) (k := 0) (s := s0) hc40 hdg h138 (by omega)
            refine z_iconst C (z := 0) rfl rfl rfl (fun x163 ex163 => ?_)
            exact k_iret C rfl (Or.inr ⟨rfl, z01 (by omega) (by omega)⟩) (Nat.le_of_ble_eq_true rfl) (Nat.le_of_ble_eq_true rfl) ⟨_, _, _, rfl, rfl, by omega, by omega, fun a1 h1 => by cases (R_r0_1.symm.trans h1); first | (intro h; exfalso; omega) | (intro h; simp only [hg, hg0, e154, e155, e156, e159, e161, k0_r0_15, k0_r0_16, k0_r0_19, k0_r0_12, k0_r0_13]; omega), fun a1 h1 => by cases (R_r0_1.symm.trans h1); first | (intro h; exfalso; omega) | (intro h; simp only [hg, e154, e155, e156, e159, e161, k0_r0_15, k0_r0_16, k0_r0_19, k0_r0_12, k0_r0_13]; first | exact hPD | exact hP1 h | exact hP1 (by omega)), fun a1 a10 h1 h10 => by cases (R_r0_1.symm.trans h1); cases (R_r0_10.symm.trans h10); rw [k0_r0_13, hcc, hs0]; first | exact RS3.f (by omega) hno | exact RS3.t (by omega) (RNB.yes (s := s0) hc40 (by omega) hdg h138 (by omega) (RDM.em h149 (by omega) (by omega) (by omega))), by first | omega | (intro h9; first | omega | (simp only [e154, e155, e156, e159, e161, k0_r0_15, k0_r0_16, k0_r0_19, k0_r0_12, k0_r0_13]; omega)), fun a1 h1 => by cases (R_r0_1.symm.trans h1); exact (fun r z0 => ((congrFun (CM.j0 S153 R_r0_1 (by decide)) r).trans ((congrFun (CM.j0 S140 R_r0_1 (by decide)) r).trans ((congrFun (CM.j0 S46 R_r0_1 (by decide)) r).trans ((congrFun (CM.j0 S34 R_r0_1 (by decide)) r).trans ((congrFun (CM.j0 S20 R_r0_1 (by decide)) r).trans (congrFun (CM.j0 S6 R_r0_1 (by decide)) r))))))), hI151, (CM.cons S6 (CM.cons S20 (CM.cons S34 (CM.cons S46 (CM.cons S140 (CM.mono S153 (by decide) (by decide)) (by decide) (by decide)) (by decide) (by decide)) (by decide) (by decide)) (by decide) (by decide)) (by decide) (by decide))⟩
          refine k_aload_n C rfl rfl rfl ?_
          refine z_iconst C (z := 1) rfl rfl rfl (fun x164 ex164 => ?_)
          refine k_iload_n C rfl rfl rfl ?_
          have hl149 := RDM.c3 ht138 e155 (by omega)
          have q165 : x164.toNatClampNeg = 1 := nck (by omega)
          refine c_VI C (a_X12_emits_x hI151 H_r0 (by omega) (by omega) (by omega) (by omega) (by first | omega | (simp only [q165, hg, e154, e155, e156, e159, e161, and_true, true_and, or_true, true_or, and_false, false_and, or_false, false_or] <;> omega)) (by first | omega | (simp only [q165, hg, e154, e155, e156, e159, e161, and_true, true_and, or_true, true_or, and_false, false_and, or_false, false_or] <;> omega))) rfl rfl rfl rfl rfl ⟨_, rfl, rfl, T_r0, Nat.le_of_ble_eq_true rfl⟩ rfl rfl (Nat.le_of_ble_eq_true rfl) (Nat.le_of_ble_eq_true rfl) (Nat.le_of_ble_eq_true rfl) ?_
          rintro x166 I167 L168 ⟨o0x166, o1x166, p0x166, p1x166, p2x166, p3x166, hI167, S169⟩
          have p0x166 := p0x166 r0_1 R_r0_1
          have p2x166 := p2x166 r0_1 R_r0_1
          have p3x166 := p3x166 r0_1 R_r0_1
          have F170 : ∀ r : Nat, r < 3606 → I167 r0_1 r = I151 r0_1 r := fun r z0 => p3x166 r z0
          have e171 := CM.k S169 (by decide) e154
          have e173 := CM.k S169 (by decide) e156
          have e174 := CM.k S169 (by decide) e159
          have e175 := CM.k S169 (by decide) e161
          have gx166 := rg x166
          obtain ⟨x176, e177⟩ : ∃ x, I167 r0 19 = x := ⟨_, rfl⟩
          have gx176 := rg x176
          obtain ⟨gS169, hgS169⟩ : ∃ g, I167 r0_1 = g := ⟨_, rfl⟩
          try simp only [q165, e154, e155, e156, e159, e161, e177, hg, hgS169] at p0x166
          try have q0x166 := congrArg Int32.toInt p0x166
          try simp only [q165, e154, e155, e156, e159, e161, e177, hg, hgS169] at p1x166
          try have q1x166 := congrArg Int32.toInt p1x166
          try simp only [q165, e154, e155, e156, e159, e161, e177, hg, hgS169] at p2x166
          try have q2x166 := congrArg Int32.toInt p2x166
          have hgo := hg
          have hg := hgS169
          have hE := p0x166
          have hPD := PD.em hPD hE (by omega) (by omega) ⟨by omega, by omega⟩ ⟨by omega, by omega⟩ ⟨by omega, by omega⟩ (fun _ => by omega) (fun _ _ => by omega) (fun _ => by omega)
          have hHH := Hgt.e1 hE (by omega) (by omega) (by omega)
          have h149 := p2x166
          rw [ht138] at h149
          refine b_if_eq C (t := 159) rfl rfl rfl (fun c178 => by exfalso; omega) (fun c178 => ?_)
          refine z_iconst C (z := 1) rfl rfl rfl (fun x179 ex179 => ?_)
          refine k_goto C (pc2 := 160) rfl rfl ?_
          exact k_iret C rfl (Or.inr ⟨rfl, z01 (by omega) (by omega)⟩) (Nat.le_of_ble_eq_true rfl) (Nat.le_of_ble_eq_true rfl) ⟨_, _, _, rfl, rfl, by omega, by omega, fun a1 h1 => by cases (R_r0_1.symm.trans h1); first | (intro h; exfalso; omega) | (intro h; simp only [hg, hg0, e171, e173, e174, e175, e177, k0_r0_15, k0_r0_16, k0_r0_19, k0_r0_12, k0_r0_13]; omega), fun a1 h1 => by cases (R_r0_1.symm.trans h1); first | (intro h; exfalso; omega) | (intro h; simp only [hg, e171, e173, e174, e175, e177, k0_r0_15, k0_r0_16, k0_r0_19, k0_r0_12, k0_r0_13]; first | exact hPD | exact hP1 h | exact hP1 (by omega)), fun a1 a10 h1 h10 => by cases (R_r0_1.symm.trans h1); cases (R_r0_10.symm.trans h10); rw [k0_r0_13, hcc, hs0]; first | exact RS3.f (by omega) hno | exact RS3.t (by omega) (RNB.yes (s := s0) hc40 (by omega) hdg h138 (by omega) (RDM.em h149 (by omega) (by omega) (by omega))), by first | omega | (intro h9; first | omega | (simp only [e171, e173, e174, e175, e177, k0_r0_15, k0_r0_16, k0_r0_19, k0_r0_12, k0_r0_13]; omega)), fun a1 h1 => by cases (R_r0_1.symm.trans h1); exact (fun r z0 => ((F170 r z0).trans ((congrFun (CM.j0 S153 R_r0_1 (by decide)) r).trans ((congrFun (CM.j0 S140 R_r0_1 (by decide)) r).trans ((congrFun (CM.j0 S46 R_r0_1 (by decide)) r).trans ((congrFun (CM.j0 S34 R_r0_1 (by decide)) r).trans ((congrFun (CM.j0 S20 R_r0_1 (by decide)) r).trans (congrFun (CM.j0 S6 R_r0_1 (by decide)) r)))))))), hI167, (CM.cons S6 (CM.cons S20 (CM.cons S34 (CM.cons S46 (CM.cons S140 (CM.cons S153 (CM.mono S169 (by decide) (by decide)) (by decide) (by decide)) (by decide) (by decide)) (by decide) (by decide)) (by decide) (by decide)) (by decide) (by decide)) (by decide) (by decide))⟩
        refine z_iconst C (z := 0) rfl rfl rfl (fun x180 ex180 => ?_)
        exact k_iret C rfl (Or.inr ⟨rfl, z01 (by omega) (by omega)⟩) (Nat.le_of_ble_eq_true rfl) (Nat.le_of_ble_eq_true rfl) ⟨_, _, _, rfl, rfl, by omega, by omega, fun a1 h1 => by cases (R_r0_1.symm.trans h1); first | (intro h; exfalso; omega) | (intro h; simp only [hg, hg0, e47, e48, e49, e50, e53, e55, k0_r0_15, k0_r0_16, k0_r0_19, k0_r0_12, k0_r0_13]; omega), fun a1 h1 => by cases (R_r0_1.symm.trans h1); first | (intro h; exfalso; omega) | (intro h; simp only [hg, e47, e48, e49, e50, e53, e55, k0_r0_15, k0_r0_16, k0_r0_19, k0_r0_12, k0_r0_13]; first | exact hPD | exact hP1 h | exact hP1 (by omega)), fun a1 a10 h1 h10 => by cases (R_r0_1.symm.trans h1); cases (R_r0_10.symm.trans h10); rw [k0_r0_13, hcc, hs0]; exact RS3.f (by omega) ((RPT.d hdg).trans (RNB.n (s := (SKP cc s0.1, s0.2)) (show 40 ≤ s0.2.1 from by omega))), by first | omega | (intro h9; first | omega | (simp only [e47, e48, e49, e50, e53, e55, k0_r0_15, k0_r0_16, k0_r0_19, k0_r0_12, k0_r0_13]; omega)), fun a1 h1 => by cases (R_r0_1.symm.trans h1); exact (fun r z0 => ((congrFun (CM.j0 S46 R_r0_1 (by decide)) r).trans ((congrFun (CM.j0 S34 R_r0_1 (by decide)) r).trans ((congrFun (CM.j0 S20 R_r0_1 (by decide)) r).trans (congrFun (CM.j0 S6 R_r0_1 (by decide)) r))))), hI44, (CM.cons S6 (CM.cons S20 (CM.cons S34 (CM.mono S46 (by decide) (by decide)) (by decide) (by decide)) (by decide) (by decide)) (by decide) (by decide))⟩
      obtain ⟨n87, h87t⟩ := h87.y (by omega)
      have hs87 := ht87.trans h87t
      refine k_aload_n C rfl rfl rfl ?_
      have w94 := (CM.j0 (I := I) (L := L) (I' := I32) (L' := L33) (A := A) (W := [12, 14, 15, 16, 19]) (WA := [1]) (CM.cons S6 (CM.cons S20 (CM.mono S34 (by decide) (by decide)) (by decide) (by decide)) (by decide) (by decide)) R_r0_10 (by decide))
      refine c_VI C (a_X12_readOverlap_6_x hI32 H_r0 (by first | omega | (simp only [hg, e35, e36, e37, e38, e41, and_true, true_and, or_true, true_or, and_false, false_and, or_false, false_or] <;> omega)) (fun a1 h1 => by cases (R_r0_1.symm.trans h1); simp only [hg, e35, e36, e37, e38, e41]; exact hPD) (fun a1 h1 => by cases (R_r0_1.symm.trans h1); first | omega | (simp only [hg, e35, e36, e37, e38, e41, and_true, true_and, or_true, true_or, and_false, false_and, or_false, false_or] <;> omega)) (fun a10 h10 => by cases (R_r0_10.symm.trans h10); rw [(CM.j0 (I := I) (L := L) (I' := I32) (L' := L33) (A := A) (W := [12, 14, 15, 16, 19]) (WA := [1]) (CM.cons S6 (CM.cons S20 (CM.mono S34 (by decide) (by decide)) (by decide) (by decide)) (by decide) (by decide)) R_r0_10 (by decide))]; exact hTB)) rfl rfl rfl rfl rfl ⟨_, rfl, rfl, T_r0, Nat.le_of_ble_eq_true rfl⟩ rfl rfl (Nat.le_of_ble_eq_true rfl) (Nat.le_of_ble_eq_true rfl) (Nat.le_of_ble_eq_true rfl) ?_
      rintro x181 I182 L183 ⟨o0x181, o1x181, p0x181, p1x181, p2x181, p3x181, p4x181, hI182, S184⟩
      have p0x181 := p0x181 r0_1 R_r0_1
      have p1x181 := p1x181 r0_1 R_r0_1
      have p2x181 := p2x181 r0_1 r0_10 R_r0_1 R_r0_10
      have p4x181 := p4x181 r0_1 R_r0_1
      have F185 : ∀ r : Nat, r < 3606 → I182 r0_1 r = I32 r0_1 r := fun r z0 => p4x181 r z0
      have e189 := CM.k S184 (by decide) e38
      have gx181 := rg x181
      obtain ⟨x191, e192⟩ : ∃ x, I182 r0 15 = x := ⟨_, rfl⟩
      have gx191 := rg x191
      have ox191 := IM.f15 hI182 e192
      obtain ⟨x193, e194⟩ : ∃ x, I182 r0 16 = x := ⟨_, rfl⟩
      have gx193 := rg x193
      have ox193 := IM.f16 hI182 e194
      obtain ⟨x195, e196⟩ : ∃ x, I182 r0 19 = x := ⟨_, rfl⟩
      have gx195 := rg x195
      obtain ⟨x197, e198⟩ : ∃ x, I182 r0 12 = x := ⟨_, rfl⟩
      have gx197 := rg x197
      have ox197 := IM.f12 hI182 e198
      obtain ⟨gS184, hgS184⟩ : ∃ g, I182 r0_1 = g := ⟨_, rfl⟩
      try simp only [e35, e36, e37, e38, e41, e192, e194, e196, e198, hg, hgS184] at p0x181
      try have q0x181 := congrArg Int32.toInt p0x181
      try simp only [e35, e36, e37, e38, e41, e192, e194, e196, e198, hg, hgS184] at p1x181
      try have q1x181 := congrArg Int32.toInt p1x181
      try simp only [e35, e36, e37, e38, e41, e192, e194, e196, e198, hg, hgS184] at p2x181
      try have q2x181 := congrArg Int32.toInt p2x181
      try simp only [e35, e36, e37, e38, e41, e192, e194, e196, e198, hg, hgS184] at p3x181
      try have q3x181 := congrArg Int32.toInt p3x181
      have hgo := hg
      have hg := hgS184
      have hP0 := p0x181
      have hP1 := p1x181
      have h94 := p2x181
      (try rw [w94] at h94)
      (try rw [hcc] at h94)
      (try rw [hs87] at h94)
      exact k_iret C rfl (Or.inr ⟨rfl, z01 (by omega) (by omega)⟩) (Nat.le_of_ble_eq_true rfl) (Nat.le_of_ble_eq_true rfl) ⟨_, _, _, rfl, rfl, by omega, by omega, fun a1 h1 => by cases (R_r0_1.symm.trans h1); first | (intro h; exfalso; omega) | (intro h; simp only [hg, hg0, e189, e192, e194, e196, e198, k0_r0_15, k0_r0_16, k0_r0_19, k0_r0_12, k0_r0_13]; omega), fun a1 h1 => by cases (R_r0_1.symm.trans h1); first | (intro h; exfalso; omega) | (intro h; simp only [hg, e189, e192, e194, e196, e198, k0_r0_15, k0_r0_16, k0_r0_19, k0_r0_12, k0_r0_13]; first | exact hPD | exact hP1 h | exact hP1 (by omega)), fun a1 a10 h1 h10 => by cases (R_r0_1.symm.trans h1); cases (R_r0_10.symm.trans h10); rw [k0_r0_13, hcc, hs0]; exact h94.b (RPT.z (by omega) (by omega)), by first | omega | (intro h9; first | omega | (simp only [e189, e192, e194, e196, e198, k0_r0_15, k0_r0_16, k0_r0_19, k0_r0_12, k0_r0_13]; omega)), fun a1 h1 => by cases (R_r0_1.symm.trans h1); exact (fun r z0 => ((F185 r z0).trans ((congrFun (CM.j0 S34 R_r0_1 (by decide)) r).trans ((congrFun (CM.j0 S20 R_r0_1 (by decide)) r).trans (congrFun (CM.j0 S6 R_r0_1 (by decide)) r))))), hI182, (CM.cons S6 (CM.cons S20 (CM.cons S34 (CM.mono S184 (by decide) (by decide)) (by decide) (by decide)) (by decide) (by decide)) (by decide) (by decide))⟩
    obtain ⟨n45, h45t⟩ := h45.y (by omega)
    have hs45 := ht45.trans h45t
    refine k_aload_n C rfl rfl rfl ?_
    refine c_VI C (a_X12_deeper_x hI18 H_r0) rfl rfl rfl rfl rfl ⟨_, rfl, rfl, T_r0, Nat.le_of_ble_eq_true rfl⟩ rfl rfl (Nat.le_of_ble_eq_true rfl) (Nat.le_of_ble_eq_true rfl) (Nat.le_of_ble_eq_true rfl) ?_
    rintro x199 I200 L201 ⟨o0x199, o1x199, p0x199, p1x199, p2x199, hI200, S202⟩
    have p2x199 := p2x199 r0_1 R_r0_1
    have e204 := CM.k S202 (by decide) e22
    have e205 := CM.k S202 (by decide) e23
    have e206 := CM.k S202 (by decide) e24
    have e207 := CM.k S202 (by decide) e27
    have gx199 := rg x199
    obtain ⟨x208, e209⟩ : ∃ x, I200 r0 15 = x := ⟨_, rfl⟩
    have gx208 := rg x208
    have ox208 := IM.f15 hI200 e209
    have hg := (CM.j0 S202 R_r0_1 (by decide)).trans hg
    try simp only [e21, e22, e23, e24, e27, e209] at p0x199
    try have q0x199 := congrArg Int32.toInt p0x199
    try simp only [e21, e22, e23, e24, e27, e209] at p1x199
    try have q1x199 := congrArg Int32.toInt p1x199
    try simp only [e21, e22, e23, e24, e27, e209] at p2x199
    try have q2x199 := congrArg Int32.toInt p2x199
    have h52 := p2x199
    rw [hs45] at h52
    refine b_if_eq C (t := 65) rfl rfl rfl (fun c210 => ?_) (fun c210 => by exfalso; omega)
    refine z_iconst C (z := 0) rfl rfl rfl (fun x211 ex211 => ?_)
    exact k_iret C rfl (Or.inr ⟨rfl, z01 (by omega) (by omega)⟩) (Nat.le_of_ble_eq_true rfl) (Nat.le_of_ble_eq_true rfl) ⟨_, _, _, rfl, rfl, by omega, by omega, fun a1 h1 => by cases (R_r0_1.symm.trans h1); first | (intro h; exfalso; omega) | (intro h; simp only [hg, hg0, e204, e205, e206, e207, e209, k0_r0_15, k0_r0_16, k0_r0_19, k0_r0_12, k0_r0_13]; omega), fun a1 h1 => by cases (R_r0_1.symm.trans h1); first | (intro h; exfalso; omega) | (intro h; simp only [hg, e204, e205, e206, e207, e209, k0_r0_15, k0_r0_16, k0_r0_19, k0_r0_12, k0_r0_13]; first | exact hPD | exact hP1 h | exact hP1 (by omega)), fun a1 a10 h1 h10 => by cases (R_r0_1.symm.trans h1); cases (R_r0_10.symm.trans h10); rw [k0_r0_13, hcc, hs0]; exact RS3.f (by omega) (RPT.z (by omega) (by omega)), by first | omega | (intro h9; first | omega | (simp only [e204, e205, e206, e207, e209, k0_r0_15, k0_r0_16, k0_r0_19, k0_r0_12, k0_r0_13]; omega)), fun a1 h1 => by cases (R_r0_1.symm.trans h1); exact (fun r z0 => ((congrFun (CM.j0 S202 R_r0_1 (by decide)) r).trans ((congrFun (CM.j0 S20 R_r0_1 (by decide)) r).trans (congrFun (CM.j0 S6 R_r0_1 (by decide)) r)))), hI200, (CM.cons S6 (CM.cons S20 (CM.mono S202 (by decide) (by decide)) (by decide) (by decide)) (by decide) (by decide))⟩
  obtain ⟨n3, h3t⟩ := h3.y (by omega)
  have hs3 := ht3.trans h3t
  refine k_aload_n C rfl rfl rfl ?_
  refine c_VI C (a_X12_deeper_x hI4 H_r0) rfl rfl rfl rfl rfl ⟨_, rfl, rfl, T_r0, Nat.le_of_ble_eq_true rfl⟩ rfl rfl (Nat.le_of_ble_eq_true rfl) (Nat.le_of_ble_eq_true rfl) (Nat.le_of_ble_eq_true rfl) ?_
  rintro x212 I213 L214 ⟨o0x212, o1x212, p0x212, p1x212, p2x212, hI213, S215⟩
  have p2x212 := p2x212 r0_1 R_r0_1
  have e217 := CM.k S215 (by decide) e8
  have e218 := CM.k S215 (by decide) e9
  have e219 := CM.k S215 (by decide) e11
  have e220 := CM.k S215 (by decide) e13
  have gx212 := rg x212
  obtain ⟨x221, e222⟩ : ∃ x, I213 r0 15 = x := ⟨_, rfl⟩
  have gx221 := rg x221
  have ox221 := IM.f15 hI213 e222
  have hg := (CM.j0 S215 R_r0_1 (by decide)).trans hg
  try simp only [e7, e8, e9, e11, e13, e222] at p0x212
  try have q0x212 := congrArg Int32.toInt p0x212
  try simp only [e7, e8, e9, e11, e13, e222] at p1x212
  try have q1x212 := congrArg Int32.toInt p1x212
  try simp only [e7, e8, e9, e11, e13, e222] at p2x212
  try have q2x212 := congrArg Int32.toInt p2x212
  have hy10 := p2x212
  rw [hs3] at hy10
  refine b_if_eq C (t := 23) rfl rfl rfl (fun c223 => ?_) (fun c223 => by exfalso; omega)
  refine z_iconst C (z := 0) rfl rfl rfl (fun x224 ex224 => ?_)
  exact k_iret C rfl (Or.inr ⟨rfl, z01 (by omega) (by omega)⟩) (Nat.le_of_ble_eq_true rfl) (Nat.le_of_ble_eq_true rfl) ⟨_, _, _, rfl, rfl, by omega, by omega, fun a1 h1 => by cases (R_r0_1.symm.trans h1); first | (intro h; exfalso; omega) | (intro h; simp only [hg, hg0, e217, e218, e219, e220, e222, k0_r0_15, k0_r0_16, k0_r0_19, k0_r0_12, k0_r0_13]; omega), fun a1 h1 => by cases (R_r0_1.symm.trans h1); first | (intro h; exfalso; omega) | (intro h; simp only [hg, e217, e218, e219, e220, e222, k0_r0_15, k0_r0_16, k0_r0_19, k0_r0_12, k0_r0_13]; first | exact hPD | exact hP1 h | exact hP1 (by omega)), fun a1 a10 h1 h10 => by cases (R_r0_1.symm.trans h1); cases (R_r0_10.symm.trans h10); rw [k0_r0_13, hcc, hs0]; exact RS3.f (by omega) (RPT.z (by omega) (by omega)), by first | omega | (intro h9; first | omega | (simp only [e217, e218, e219, e220, e222, k0_r0_15, k0_r0_16, k0_r0_19, k0_r0_12, k0_r0_13]; omega)), fun a1 h1 => by cases (R_r0_1.symm.trans h1); exact (fun r z0 => ((congrFun (CM.j0 S215 R_r0_1 (by decide)) r).trans (congrFun (CM.j0 S6 R_r0_1 (by decide)) r))), hI213, (CM.cons S6 (CM.mono S215 (by decide) (by decide)) (by decide) (by decide))⟩

set_option maxHeartbeats 8000000 in
theorem a_X12_readProduct_6_x {d : Nat} {T N : Nat → Nat} {I : IT} {L : LT} {R : RT} {A : Nat → Prop} {r0 : Nat} (hI : IM R r0 I) (H_r0 : (h_MD T N R A) r0) (hp0 : (I r0 15).toInt = 6) (hp1 : ∀ a1, R r0 1 = some a1 → PD (I a1) (I r0 19).toInt) (hp2 : ∀ a1, R r0 1 = some a1 → 0 ≤ (I r0 19).toInt ∧ 0 ≤ Hgt (I a1) 3606 (I r0 19).toNatClampNeg ∧ Hgt (I a1) 3606 (I r0 19).toNatClampNeg ≤ (I r0 16).toInt ∧ (I r0 19).toInt + 4 * (40 - (I r0 16).toInt) + (6 - 6) ≤ 166) (hp3 : ∀ a10, R r0 10 = some a10 → TBY (I a10)) : Ex (d + 5) 227 [.ref r0] (T, N, I, L, R) 0 0 (pI T N R (fun x9 I9 L9 => (0 ≤ x9.toInt) ∧ (x9.toInt ≤ 1) ∧ (∀ a1, R r0 1 = some a1 → x9.toInt = 1 → (I9 r0 15).toInt = 6 ∧ (I r0 16).toInt + 1 ≤ (I9 r0 16).toInt ∧ 0 ≤ (I9 r0 19).toInt ∧ (I9 r0 19).toInt + 3 ≤ (I r0 19).toInt + 4 * ((I9 r0 16).toInt - (I r0 16).toInt) + (6 - 6) ∧ Hgt (I9 a1) 3606 (I9 r0 19).toNatClampNeg = Hgt (I a1) 3606 (I r0 19).toNatClampNeg + 1) ∧ (∀ a1, R r0 1 = some a1 → x9.toInt = 1 → PD (I9 a1) (I9 r0 19).toInt) ∧ (∀ a1 a10, R r0 1 = some a1 → R r0 10 = some a10 → RS3 (BCM (I a10) (I r0 13).toInt) x9.toInt (RPR 200 (BCM (I a10) (I r0 13).toInt) (RPT 200 (BCM (I a10) (I r0 13).toInt) 0) (RDM I r0 a1)) (RDM I9 r0 a1)) ∧ (x9.toInt = 1 → (I9 r0 16).toInt ≤ 40) ∧ (∀ a1, R r0 1 = some a1 → ∀ r : Nat, r < 3606 → I9 a1 r = I a1 r) ∧ (IM R r0 I9 ∧ CM A R r0 [12, 14, 15, 16, 19] [1] I L I9 L9))) := by
  refine ⟨_, rfl, Nat.le_of_ble_eq_true rfl, fun V C S => ?_⟩
  show V 0 [(0, .ref r0)] [] (T, N, I, L, R) 0 0
  obtain ⟨T_r0, A_r0, ⟨r0_1, R_r0_1, H_r0_1⟩, ⟨r0_2, R_r0_2, H_r0_2⟩, ⟨r0_4, R_r0_4, H_r0_4⟩, ⟨r0_5, R_r0_5, H_r0_5⟩, ⟨r0_10, R_r0_10, H_r0_10⟩, ⟨r0_18, R_r0_18, H_r0_18⟩, ⟨r0_20, R_r0_20, H_r0_20⟩, ⟨r0_21, R_r0_21, H_r0_21⟩, ⟨r0_22, R_r0_22, H_r0_22⟩, ⟨r0_23, R_r0_23, H_r0_23⟩, ⟨r0_25, R_r0_25, H_r0_25⟩, ⟨r0_26, R_r0_26, H_r0_26⟩, ⟨r0_27, R_r0_27, H_r0_27⟩, ⟨r0_28, R_r0_28, H_r0_28⟩, ⟨r0_34, R_r0_34, H_r0_34⟩, J_r0, Y_r0⟩ := id H_r0
  have G_r0 : mF T R r0 := ⟨J_r0, Y_r0, T_r0⟩
  obtain ⟨w_r0_15, k0_r0_15⟩ : ∃ x, I r0 15 = x := ⟨_, rfl⟩
  have gw_r0_15 := rg w_r0_15
  have ow_r0_15 := IM.f15 hI k0_r0_15
  obtain ⟨w_r0_16, k0_r0_16⟩ : ∃ x, I r0 16 = x := ⟨_, rfl⟩
  have gw_r0_16 := rg w_r0_16
  have ow_r0_16 := IM.f16 hI k0_r0_16
  obtain ⟨w_r0_19, k0_r0_19⟩ : ∃ x, I r0 19 = x := ⟨_, rfl⟩
  have gw_r0_19 := rg w_r0_19
  obtain ⟨w_r0_12, k0_r0_12⟩ : ∃ x, I r0 12 = x := ⟨_, rfl⟩
  have gw_r0_12 := rg w_r0_12
  have ow_r0_12 := IM.f12 hI k0_r0_12
  obtain ⟨w_r0_13, k0_r0_13⟩ : ∃ x, I r0 13 = x := ⟨_, rfl⟩
  have gw_r0_13 := rg w_r0_13
  have ow_r0_13 := IM.f13 hI k0_r0_13
  have hp1 := hp1 r0_1 R_r0_1
  have hp2 := hp2 r0_1 R_r0_1
  have hp3 := hp3 r0_10 R_r0_10
  obtain ⟨g0, hg0⟩ : ∃ g, I r0_1 = g := ⟨_, rfl⟩
  have hg := hg0
  try simp only [hg0, k0_r0_15, k0_r0_16, k0_r0_19, k0_r0_12, k0_r0_13] at hp0
  try simp only [hg0, k0_r0_15, k0_r0_16, k0_r0_19, k0_r0_12, k0_r0_13] at hp1
  try simp only [hg0, k0_r0_15, k0_r0_16, k0_r0_19, k0_r0_12, k0_r0_13] at hp2
  try simp only [hg0, k0_r0_15, k0_r0_16, k0_r0_19, k0_r0_12, k0_r0_13] at hp3
  have hPD := hp1
  have hTB := hp3
  obtain ⟨cc, hcc⟩ : ∃ c, BCM (I r0_10) w_r0_13.toInt = c := ⟨_, rfl⟩
  have hc40 : C40 cc := by rw [← hcc]; exact BCM.c40 (by omega)
  obtain ⟨s0, hs0⟩ : ∃ s, RDM I r0 r0_1 = s := ⟨_, rfl⟩
  have hd1 := RDM.c1 hs0 k0_r0_12 (by omega)
  have hd2 := RDM.c2 hs0 k0_r0_16 (by omega)
  refine k_aload_n C rfl rfl rfl ?_
  have w1 := (CM.j0 (I := I) (L := L) (I' := I) (L' := L) (A := A) (W := [12, 14, 15, 16, 19]) (WA := [1]) CM.rf R_r0_10 (by decide))
  refine c_VI C (a_X12_readUnit_6_x hI H_r0 (by first | omega | (simp only [hg, k0_r0_15, k0_r0_16, k0_r0_19, k0_r0_12, k0_r0_13, and_true, true_and, or_true, true_or, and_false, false_and, or_false, false_or] <;> omega)) (fun a1 h1 => by cases (R_r0_1.symm.trans h1); simp only [hg, k0_r0_15, k0_r0_16, k0_r0_19, k0_r0_12, k0_r0_13]; exact hPD) (fun a1 h1 => by cases (R_r0_1.symm.trans h1); first | omega | (simp only [hg, k0_r0_15, k0_r0_16, k0_r0_19, k0_r0_12, k0_r0_13, and_true, true_and, or_true, true_or, and_false, false_and, or_false, false_or] <;> omega)) (fun a10 h10 => by cases (R_r0_10.symm.trans h10); rw [(CM.j0 (I := I) (L := L) (I' := I) (L' := L) (A := A) (W := [12, 14, 15, 16, 19]) (WA := [1]) CM.rf R_r0_10 (by decide))]; exact hTB)) rfl rfl rfl rfl rfl ⟨_, rfl, rfl, T_r0, Nat.le_of_ble_eq_true rfl⟩ rfl rfl (Nat.le_of_ble_eq_true rfl) (Nat.le_of_ble_eq_true rfl) (Nat.le_of_ble_eq_true rfl) ?_
  rintro x1 I2 L3 ⟨o0x1, o1x1, p0x1, p1x1, p2x1, p3x1, p4x1, hI2, S4⟩
  have p0x1 := p0x1 r0_1 R_r0_1
  have p1x1 := p1x1 r0_1 R_r0_1
  have p2x1 := p2x1 r0_1 r0_10 R_r0_1 R_r0_10
  have p4x1 := p4x1 r0_1 R_r0_1
  have F5 : ∀ r : Nat, r < 3606 → I2 r0_1 r = I r0_1 r := fun r z0 => p4x1 r z0
  have e10 := CM.k S4 (by decide) k0_r0_13
  have gx1 := rg x1
  obtain ⟨x11, e12⟩ : ∃ x, I2 r0 15 = x := ⟨_, rfl⟩
  have gx11 := rg x11
  have ox11 := IM.f15 hI2 e12
  obtain ⟨x13, e14⟩ : ∃ x, I2 r0 16 = x := ⟨_, rfl⟩
  have gx13 := rg x13
  have ox13 := IM.f16 hI2 e14
  obtain ⟨x15, e16⟩ : ∃ x, I2 r0 19 = x := ⟨_, rfl⟩
  have gx15 := rg x15
  obtain ⟨x17, e18⟩ : ∃ x, I2 r0 12 = x := ⟨_, rfl⟩
  have gx17 := rg x17
  have ox17 := IM.f12 hI2 e18
  obtain ⟨gS4, hgS4⟩ : ∃ g, I2 r0_1 = g := ⟨_, rfl⟩
  try simp only [k0_r0_15, k0_r0_16, k0_r0_19, k0_r0_12, k0_r0_13, e12, e14, e16, e18, hg, hgS4] at p0x1
  try have q0x1 := congrArg Int32.toInt p0x1
  try simp only [k0_r0_15, k0_r0_16, k0_r0_19, k0_r0_12, k0_r0_13, e12, e14, e16, e18, hg, hgS4] at p1x1
  try have q1x1 := congrArg Int32.toInt p1x1
  try simp only [k0_r0_15, k0_r0_16, k0_r0_19, k0_r0_12, k0_r0_13, e12, e14, e16, e18, hg, hgS4] at p2x1
  try have q2x1 := congrArg Int32.toInt p2x1
  try simp only [k0_r0_15, k0_r0_16, k0_r0_19, k0_r0_12, k0_r0_13, e12, e14, e16, e18, hg, hgS4] at p3x1
  try have q3x1 := congrArg Int32.toInt p3x1
  have hgo := hg
  have hg := hgS4
  have hP0 := p0x1
  have hP1 := p1x1
  have hy1 := p2x1
  (try rw [w1] at hy1)
  (try rw [hcc] at hy1)
  rw [hs0] at hy1
  obtain ⟨t1, ht1⟩ : ∃ t, RDM I2 r0 r0_1 = t := ⟨_, rfl⟩
  rw [ht1] at hy1
  have hc1 := RDM.c2 ht1 e14 (by omega)
  have J19 : ∀ (nn20 : Nat) (I21 : IT) (L22 : LT) (x26 : Int32) (x30 : Int32) (x34 : Int32) (x38 : Int32), (MN (40 - x30.toInt) nn20) → (IM R r0 I21) → (CM A R r0 [12, 14, 15, 16, 19] [1] I2 L3 I21 L22) → (∀ r : Nat, r < 3606 → I21 r0_1 r = I2 r0_1 r) → (I21 r0 15 = x26) → (6 ≤ x26.toInt) → (x26.toInt ≤ 6) → (I21 r0 16 = x30) → (0 ≤ x30.toInt) → (x30.toInt ≤ 40) → (I21 r0 19 = x34) → (0 ≤ x34.toInt) → (x34.toInt ≤ 199) → (I21 r0 12 = x38) → (0 ≤ x38.toInt) → (x38.toInt ≤ 400) → (PD (I21 r0_1) x34.toInt) → (w_r0_16.toInt + 1 ≤ x30.toInt) → (x34.toInt + 3 ≤ w_r0_19.toInt + 4 * (x30.toInt - w_r0_16.toInt) + (6 - 6)) → (Hgt (I21 r0_1) 3606 x34.toNatClampNeg = Hgt (I r0_1) 3606 w_r0_19.toNatClampNeg + 1) → (LP3 200 cc 42 3 (RPT 200 cc 0) (RPR 200 cc (RPT 200 cc 0) s0) (RDM I21 r0 r0_1)) → V 9 [(0, .ref r0)] [] (T, N, I21, L22, R) 0 0 := by
    intro nn20
    induction nn20 using Nat.strongRecOn with
    | _ nn20 ihJ19 =>
      intro I21 L22 x26 x30 x34 x38 hmnn20 hI24 S23 F25 e27 b28 b29 e31 b32 b33 e35 b36 b37 e39 b40 b41 ff9_0 ff9_1 ff9_2 ff9_3 ff9_4
      have gx26 := rg x26
      have gx30 := rg x30
      have gx34 := rg x34
      have gx38 := rg x38
      have e42 := CM.k S23 (by decide) e10
      obtain ⟨gL, hgL⟩ : ∃ g, I21 r0_1 = g := ⟨_, rfl⟩
      rw [hgL] at ff9_0
      rw [hgL, hg0] at ff9_3
      have hg := hgL
      have hPD := ff9_0
      obtain ⟨t9, ht9⟩ : ∃ t, RDM I21 r0 r0_1 = t := ⟨_, rfl⟩
      rw [ht9] at ff9_4
      refine k_aload_n C rfl rfl rfl ?_
      refine z_bipush C (z := 42) rfl rfl rfl (fun x43 ex43 => ?_)
      have w12 := (CM.j0 (I := I) (L := L) (I' := I21) (L' := L22) (A := A) (W := [12, 14, 15, 16, 19]) (WA := [1]) (CM.cons S4 (CM.mono S23 (by decide) (by decide)) (by decide) (by decide)) R_r0_10 (by decide))
      have hc9 := RDM.c2 ht9 e31 (by omega)
      have q44 : x43.toNatClampNeg = 42 := nck (by omega)
      refine c_VI C (a_X12_counts_x hI24 H_r0 (by omega) (by omega) (fun a10 h10 => by cases (R_r0_10.symm.trans h10); rw [(CM.j0 (I := I) (L := L) (I' := I21) (L' := L22) (A := A) (W := [12, 14, 15, 16, 19]) (WA := [1]) (CM.cons S4 (CM.mono S23 (by decide) (by decide)) (by decide) (by decide)) R_r0_10 (by decide))]; exact hTB)) rfl rfl rfl rfl rfl ⟨_, rfl, rfl, T_r0, Nat.le_of_ble_eq_true rfl⟩ rfl rfl (Nat.le_of_ble_eq_true rfl) (Nat.le_of_ble_eq_true rfl) (Nat.le_of_ble_eq_true rfl) ?_
      rintro x45 I46 L47 ⟨o0x45, o1x45, p0x45, p1x45, hI46, S48⟩
      have p1x45 := p1x45 r0_1 r0_10 R_r0_1 R_r0_10
      have e49 := CM.k S48 (by decide) e42
      have e50 := CM.k S48 (by decide) e27
      have e52 := CM.k S48 (by decide) e35
      have gx45 := rg x45
      obtain ⟨x54, e55⟩ : ∃ x, I46 r0 12 = x := ⟨_, rfl⟩
      have gx54 := rg x54
      have ox54 := IM.f12 hI46 e55
      obtain ⟨x56, e57⟩ : ∃ x, I46 r0 16 = x := ⟨_, rfl⟩
      have gx56 := rg x56
      have ox56 := IM.f16 hI46 e57
      have hg := (CM.j0 S48 R_r0_1 (by decide)).trans hg
      try simp only [q44, e42, e27, e31, e35, e39, e55, e57] at p0x45
      try have q0x45 := congrArg Int32.toInt p0x45
      try simp only [q44, e42, e27, e31, e35, e39, e55, e57] at p1x45
      try have q1x45 := congrArg Int32.toInt p1x45
      have h12 := p1x45
      (try rw [w12] at h12)
      (try rw [hcc] at h12)
      rw [ht9] at h12
      have h12 := h12.v (b := 42) (by omega)
      obtain ⟨t12, ht12⟩ : ∃ t, RDM I46 r0 r0_1 = t := ⟨_, rfl⟩
      rw [ht12] at h12
      refine b_if_eq C (t := 36) rfl rfl rfl (fun c58 => ?_) (fun c58 => ?_)
      · skip
        refine z_iconst C (z := 1) rfl rfl rfl (fun x59 ex59 => ?_)
        exact k_iret C rfl (Or.inr ⟨rfl, z01 (by omega) (by omega)⟩) (Nat.le_of_ble_eq_true rfl) (Nat.le_of_ble_eq_true rfl) ⟨_, _, _, rfl, rfl, by omega, by omega, fun a1 h1 => by cases (R_r0_1.symm.trans h1); first | (intro h; exfalso; omega) | (intro h; simp only [hg, hg0, e49, e50, e52, e55, e57, k0_r0_15, k0_r0_16, k0_r0_19, k0_r0_12, k0_r0_13]; omega), fun a1 h1 => by cases (R_r0_1.symm.trans h1); first | (intro h; exfalso; omega) | (intro h; simp only [hg, e49, e50, e52, e55, e57, k0_r0_15, k0_r0_16, k0_r0_19, k0_r0_12, k0_r0_13]; first | exact hPD | exact hP1 h | exact hP1 (by omega)), fun a1 a10 h1 h10 => by cases (R_r0_1.symm.trans h1); cases (R_r0_10.symm.trans h10); rw [k0_r0_13, hcc, hs0]; rw [ht12]; exact LP3.out ff9_4 hc40 h12 (by omega) (Or.inl rfl) (by omega), by first | omega | (intro h9; first | omega | (simp only [e49, e50, e52, e55, e57, k0_r0_15, k0_r0_16, k0_r0_19, k0_r0_12, k0_r0_13]; omega)), fun a1 h1 => by cases (R_r0_1.symm.trans h1); exact (fun r z0 => ((congrFun (CM.j0 S48 R_r0_1 (by decide)) r).trans ((F25 r z0).trans (F5 r z0)))), hI46, (CM.cons S4 (CM.cons S23 (CM.mono S48 (by decide) (by decide)) (by decide) (by decide)) (by decide) (by decide))⟩
      obtain ⟨l9, e9, c9, t12e⟩ := LP3.in ff9_4 h12 (by omega) (Or.inl rfl) (by omega)
      have hs12 := ht12.trans t12e
      refine k_aload_n C rfl rfl rfl ?_
      have w19 := (CM.j0 (I := I) (L := L) (I' := I46) (L' := L47) (A := A) (W := [12, 14, 15, 16, 19]) (WA := [1]) (CM.cons S4 (CM.cons S23 (CM.mono S48 (by decide) (by decide)) (by decide) (by decide)) (by decide) (by decide)) R_r0_10 (by decide))
      refine c_VI C (a_X12_readUnit_6_x hI46 H_r0 (by first | omega | (simp only [hg, e49, e50, e52, e55, e57, and_true, true_and, or_true, true_or, and_false, false_and, or_false, false_or] <;> omega)) (fun a1 h1 => by cases (R_r0_1.symm.trans h1); simp only [hg, e49, e50, e52, e55, e57]; exact hPD) (fun a1 h1 => by cases (R_r0_1.symm.trans h1); first | omega | (simp only [hg, e49, e50, e52, e55, e57, and_true, true_and, or_true, true_or, and_false, false_and, or_false, false_or] <;> omega)) (fun a10 h10 => by cases (R_r0_10.symm.trans h10); rw [(CM.j0 (I := I) (L := L) (I' := I46) (L' := L47) (A := A) (W := [12, 14, 15, 16, 19]) (WA := [1]) (CM.cons S4 (CM.cons S23 (CM.mono S48 (by decide) (by decide)) (by decide) (by decide)) (by decide) (by decide)) R_r0_10 (by decide))]; exact hTB)) rfl rfl rfl rfl rfl ⟨_, rfl, rfl, T_r0, Nat.le_of_ble_eq_true rfl⟩ rfl rfl (Nat.le_of_ble_eq_true rfl) (Nat.le_of_ble_eq_true rfl) (Nat.le_of_ble_eq_true rfl) ?_
      rintro x60 I61 L62 ⟨o0x60, o1x60, p0x60, p1x60, p2x60, p3x60, p4x60, hI61, S63⟩
      have p0x60 := p0x60 r0_1 R_r0_1
      have p1x60 := p1x60 r0_1 R_r0_1
      have p2x60 := p2x60 r0_1 r0_10 R_r0_1 R_r0_10
      have p4x60 := p4x60 r0_1 R_r0_1
      have F64 : ∀ r : Nat, r < 3606 → I61 r0_1 r = I46 r0_1 r := fun r z0 => p4x60 r z0
      have e65 := CM.k S63 (by decide) e49
      have gx60 := rg x60
      obtain ⟨x70, e71⟩ : ∃ x, I61 r0 15 = x := ⟨_, rfl⟩
      have gx70 := rg x70
      have ox70 := IM.f15 hI61 e71
      obtain ⟨x72, e73⟩ : ∃ x, I61 r0 16 = x := ⟨_, rfl⟩
      have gx72 := rg x72
      have ox72 := IM.f16 hI61 e73
      obtain ⟨x74, e75⟩ : ∃ x, I61 r0 19 = x := ⟨_, rfl⟩
      have gx74 := rg x74
      obtain ⟨x76, e77⟩ : ∃ x, I61 r0 12 = x := ⟨_, rfl⟩
      have gx76 := rg x76
      have ox76 := IM.f12 hI61 e77
      obtain ⟨gS63, hgS63⟩ : ∃ g, I61 r0_1 = g := ⟨_, rfl⟩
      try simp only [e49, e50, e52, e55, e57, e71, e73, e75, e77, hg, hgS63] at p0x60
      try have q0x60 := congrArg Int32.toInt p0x60
      try simp only [e49, e50, e52, e55, e57, e71, e73, e75, e77, hg, hgS63] at p1x60
      try have q1x60 := congrArg Int32.toInt p1x60
      try simp only [e49, e50, e52, e55, e57, e71, e73, e75, e77, hg, hgS63] at p2x60
      try have q2x60 := congrArg Int32.toInt p2x60
      try simp only [e49, e50, e52, e55, e57, e71, e73, e75, e77, hg, hgS63] at p3x60
      try have q3x60 := congrArg Int32.toInt p3x60
      have hgo := hg
      have hg := hgS63
      have hP0 := p0x60
      have hP1 := p1x60
      have h19 := p2x60
      (try rw [w19] at h19)
      (try rw [hcc] at h19)
      rw [hs12] at h19
      obtain ⟨t19, ht19⟩ : ∃ t, RDM I61 r0 r0_1 = t := ⟨_, rfl⟩
      rw [ht19] at h19
      have hc19 := RDM.c2 ht19 e73 (by omega)
      refine b_if_eq C (t := 34) rfl rfl rfl (fun c78 => ?_) (fun c78 => ?_)
      · skip
        refine z_iconst C (z := 0) rfl rfl rfl (fun x79 ex79 => ?_)
        exact k_iret C rfl (Or.inr ⟨rfl, z01 (by omega) (by omega)⟩) (Nat.le_of_ble_eq_true rfl) (Nat.le_of_ble_eq_true rfl) ⟨_, _, _, rfl, rfl, by omega, by omega, fun a1 h1 => by cases (R_r0_1.symm.trans h1); first | (intro h; exfalso; omega) | (intro h; simp only [hg, hg0, e65, e71, e73, e75, e77, k0_r0_15, k0_r0_16, k0_r0_19, k0_r0_12, k0_r0_13]; omega), fun a1 h1 => by cases (R_r0_1.symm.trans h1); first | (intro h; exfalso; omega) | (intro h; simp only [hg, e65, e71, e73, e75, e77, k0_r0_15, k0_r0_16, k0_r0_19, k0_r0_12, k0_r0_13]; first | exact hPD | exact hP1 h | exact hP1 (by omega)), fun a1 a10 h1 h10 => by cases (R_r0_1.symm.trans h1); cases (R_r0_10.symm.trans h10); rw [k0_r0_13, hcc, hs0]; first | (exfalso; omega) | exact RS3.f (by omega) (l9.no2 e9 c9 (h19.no (by omega))), by first | omega | (intro h9; first | omega | (simp only [e65, e71, e73, e75, e77, k0_r0_15, k0_r0_16, k0_r0_19, k0_r0_12, k0_r0_13]; omega)), fun a1 h1 => by cases (R_r0_1.symm.trans h1); exact (fun r z0 => ((F64 r z0).trans ((congrFun (CM.j0 S48 R_r0_1 (by decide)) r).trans ((F25 r z0).trans (F5 r z0))))), hI61, (CM.cons S4 (CM.cons S23 (CM.cons S48 (CM.mono S63 (by decide) (by decide)) (by decide) (by decide)) (by decide) (by decide)) (by decide) (by decide))⟩
      have hPD := hP1 (by omega)
      have hPq := hP0 (by omega)
      refine k_aload_n C rfl rfl rfl ?_
      refine z_iconst C (z := 3) rfl rfl rfl (fun x80 ex80 => ?_)
      refine z_iconst C (z := 0) rfl rfl rfl (fun x81 ex81 => ?_)
      have hl28 := RDM.c3 ht19 e75 (by omega)
      have q82 : x80.toNatClampNeg = 3 := nck (by omega)
      have q83 : x81.toNatClampNeg = 0 := nck (by omega)
      refine c_VI C (a_X12_emits_x hI61 H_r0 (by omega) (by omega) (by omega) (by omega) (by first | omega | (simp only [q82, q83, hg, e65, e71, e73, e75, e77, and_true, true_and, or_true, true_or, and_false, false_and, or_false, false_or] <;> omega)) (by first | omega | (simp only [q82, q83, hg, e65, e71, e73, e75, e77, and_true, true_and, or_true, true_or, and_false, false_and, or_false, false_or] <;> omega))) rfl rfl rfl rfl rfl ⟨_, rfl, rfl, T_r0, Nat.le_of_ble_eq_true rfl⟩ rfl rfl (Nat.le_of_ble_eq_true rfl) (Nat.le_of_ble_eq_true rfl) (Nat.le_of_ble_eq_true rfl) ?_
      rintro x84 I85 L86 ⟨o0x84, o1x84, p0x84, p1x84, p2x84, p3x84, hI85, S87⟩
      have p0x84 := p0x84 r0_1 R_r0_1
      have p2x84 := p2x84 r0_1 R_r0_1
      have p3x84 := p3x84 r0_1 R_r0_1
      have F88 : ∀ r : Nat, r < 3606 → I85 r0_1 r = I61 r0_1 r := fun r z0 => p3x84 r z0
      have e89 := CM.k S87 (by decide) e65
      have e90 := CM.k S87 (by decide) e71
      have e91 := CM.k S87 (by decide) e73
      have e93 := CM.k S87 (by decide) e77
      have gx84 := rg x84
      obtain ⟨x94, e95⟩ : ∃ x, I85 r0 19 = x := ⟨_, rfl⟩
      have gx94 := rg x94
      obtain ⟨gS87, hgS87⟩ : ∃ g, I85 r0_1 = g := ⟨_, rfl⟩
      try simp only [q82, q83, e65, e71, e73, e75, e77, e95, hg, hgS87] at p0x84
      try have q0x84 := congrArg Int32.toInt p0x84
      try simp only [q82, q83, e65, e71, e73, e75, e77, e95, hg, hgS87] at p1x84
      try have q1x84 := congrArg Int32.toInt p1x84
      try simp only [q82, q83, e65, e71, e73, e75, e77, e95, hg, hgS87] at p2x84
      try have q2x84 := congrArg Int32.toInt p2x84
      have hgo := hg
      have hg := hgS87
      have hE := p0x84
      have hPD := PD.em hPD hE (by omega) (by omega) ⟨by omega, by omega⟩ ⟨by omega, by omega⟩ ⟨by omega, by omega⟩ (fun _ => by omega) (fun _ _ => by omega) (fun _ => by omega)
      have hHH := Hgt.e2 hE (by omega) (by omega) ⟨by omega, by omega⟩
      have h28 := p2x84
      rw [ht19] at h28
      have h28e := RDM.em (M := 200) (k := 3) (n := 0) h28 (by omega) (by omega) (by omega)
      refine b_if_ne C (t := 9) rfl rfl rfl (fun c96 => ?_) (fun c96 => by exfalso; omega)
      refine k_sub S [(0, .ref r0)] (List.forall_mem_cons.mpr ⟨List.mem_of_getElem? (i := 0) rfl, fun _ h => nomatch h⟩) ?_
      exact ihJ19 _ (MN.lt hmnn20 (by omega) (by omega)) I85 L86 x70 x72 x94 x76 rfl hI85 (CM.cons S23 (CM.cons S48 (CM.cons S63 (CM.mono S87 (by decide) (by decide)) (by decide) (by decide)) (by decide) (by decide)) (by decide) (by decide)) (fun r z0 => ((F88 r z0).trans ((F64 r z0).trans ((congrFun (CM.j0 S48 R_r0_1 (by decide)) r).trans (F25 r z0))))) e90 (by omega) (by omega) e91 (by omega) (by omega) e95 (by omega) (by omega) e93 (by omega) (by omega) (by rw [hg]; exact hPD) (by omega) (by omega) (by rw [hg, hg0]; omega) (by rw [h28e]; exact LP3.s l9 e9 c9 (h19.y (by omega)) (by omega) (by omega) rfl)
  refine b_if_ne C (t := 9) rfl rfl rfl (fun c97 => ?_) (fun c97 => ?_)
  · skip
    have hPD := hP1 (by omega)
    have hPq := hP0 (by omega)
    refine k_sub S [(0, .ref r0)] (List.forall_mem_cons.mpr ⟨List.mem_of_getElem? (i := 0) rfl, fun _ h => nomatch h⟩) ?_
    exact J19 _ I2 L3 x11 x13 x15 x17 rfl hI2 CM.rf (fun r z0 => rfl) e12 (by omega) (by omega) e14 (by omega) (by omega) e16 (by omega) (by omega) e18 (by omega) (by omega) (by rw [hg]; exact hPD) (by omega) (by omega) (by rw [hg, hg0]; omega) (by rw [ht1]; exact LP3.z (hy1.y (by omega)) rfl (by omega))
  refine z_iconst C (z := 0) rfl rfl rfl (fun x98 ex98 => ?_)
  exact k_iret C rfl (Or.inr ⟨rfl, z01 (by omega) (by omega)⟩) (Nat.le_of_ble_eq_true rfl) (Nat.le_of_ble_eq_true rfl) ⟨_, _, _, rfl, rfl, by omega, by omega, fun a1 h1 => by cases (R_r0_1.symm.trans h1); first | (intro h; exfalso; omega) | (intro h; simp only [hg, hg0, e10, e12, e14, e16, e18, k0_r0_15, k0_r0_16, k0_r0_19, k0_r0_12, k0_r0_13]; omega), fun a1 h1 => by cases (R_r0_1.symm.trans h1); first | (intro h; exfalso; omega) | (intro h; simp only [hg, e10, e12, e14, e16, e18, k0_r0_15, k0_r0_16, k0_r0_19, k0_r0_12, k0_r0_13]; first | exact hPD | exact hP1 h | exact hP1 (by omega)), fun a1 a10 h1 h10 => by cases (R_r0_1.symm.trans h1); cases (R_r0_10.symm.trans h10); rw [k0_r0_13, hcc, hs0]; exact RS3.f (by omega) (by unfold RPR; rw [hy1.no (by omega)]; rfl), by first | omega | (intro h9; first | omega | (simp only [e10, e12, e14, e16, e18, k0_r0_15, k0_r0_16, k0_r0_19, k0_r0_12, k0_r0_13]; omega)), fun a1 h1 => by cases (R_r0_1.symm.trans h1); exact (fun r z0 => (F5 r z0)), hI2, (CM.mono S4 (by decide) (by decide))⟩

set_option maxHeartbeats 8000000 in
theorem a_X12_readSum_6_x {d : Nat} {T N : Nat → Nat} {I : IT} {L : LT} {R : RT} {A : Nat → Prop} {r0 : Nat} (hI : IM R r0 I) (H_r0 : (h_MD T N R A) r0) (hp0 : (I r0 15).toInt = 6) (hp1 : ∀ a1, R r0 1 = some a1 → PD (I a1) (I r0 19).toInt) (hp2 : ∀ a1, R r0 1 = some a1 → 0 ≤ (I r0 19).toInt ∧ 0 ≤ Hgt (I a1) 3606 (I r0 19).toNatClampNeg ∧ Hgt (I a1) 3606 (I r0 19).toNatClampNeg ≤ (I r0 16).toInt ∧ (I r0 19).toInt + 4 * (40 - (I r0 16).toInt) + (6 - 6) ≤ 166) (hp3 : ∀ a10, R r0 10 = some a10 → TBY (I a10)) : Ex (d + 6) 228 [.ref r0] (T, N, I, L, R) 0 0 (pI T N R (fun x9 I9 L9 => (0 ≤ x9.toInt) ∧ (x9.toInt ≤ 1) ∧ (∀ a1, R r0 1 = some a1 → x9.toInt = 1 → (I9 r0 15).toInt = 6 ∧ (I r0 16).toInt + 1 ≤ (I9 r0 16).toInt ∧ 0 ≤ (I9 r0 19).toInt ∧ (I9 r0 19).toInt + 3 ≤ (I r0 19).toInt + 4 * ((I9 r0 16).toInt - (I r0 16).toInt) + (6 - 6) ∧ Hgt (I9 a1) 3606 (I9 r0 19).toNatClampNeg = Hgt (I a1) 3606 (I r0 19).toNatClampNeg + 1) ∧ (∀ a1, R r0 1 = some a1 → x9.toInt = 1 → PD (I9 a1) (I9 r0 19).toInt) ∧ (∀ a1 a10, R r0 1 = some a1 → R r0 10 = some a10 → RS3 (BCM (I a10) (I r0 13).toInt) x9.toInt (RSU 200 (BCM (I a10) (I r0 13).toInt) (RPT 200 (BCM (I a10) (I r0 13).toInt) 0) (RDM I r0 a1)) (RDM I9 r0 a1)) ∧ (x9.toInt = 1 → (I9 r0 16).toInt ≤ 40) ∧ (∀ a1, R r0 1 = some a1 → ∀ r : Nat, r < 3606 → I9 a1 r = I a1 r) ∧ (IM R r0 I9 ∧ CM A R r0 [12, 14, 15, 16, 19] [1] I L I9 L9))) := by
  refine ⟨_, rfl, Nat.le_of_ble_eq_true rfl, fun V C S => ?_⟩
  show V 0 [(0, .ref r0)] [] (T, N, I, L, R) 0 0
  obtain ⟨T_r0, A_r0, ⟨r0_1, R_r0_1, H_r0_1⟩, ⟨r0_2, R_r0_2, H_r0_2⟩, ⟨r0_4, R_r0_4, H_r0_4⟩, ⟨r0_5, R_r0_5, H_r0_5⟩, ⟨r0_10, R_r0_10, H_r0_10⟩, ⟨r0_18, R_r0_18, H_r0_18⟩, ⟨r0_20, R_r0_20, H_r0_20⟩, ⟨r0_21, R_r0_21, H_r0_21⟩, ⟨r0_22, R_r0_22, H_r0_22⟩, ⟨r0_23, R_r0_23, H_r0_23⟩, ⟨r0_25, R_r0_25, H_r0_25⟩, ⟨r0_26, R_r0_26, H_r0_26⟩, ⟨r0_27, R_r0_27, H_r0_27⟩, ⟨r0_28, R_r0_28, H_r0_28⟩, ⟨r0_34, R_r0_34, H_r0_34⟩, J_r0, Y_r0⟩ := id H_r0
  have G_r0 : mF T R r0 := ⟨J_r0, Y_r0, T_r0⟩
  obtain ⟨w_r0_15, k0_r0_15⟩ : ∃ x, I r0 15 = x := ⟨_, rfl⟩
  have gw_r0_15 := rg w_r0_15
  have ow_r0_15 := IM.f15 hI k0_r0_15
  obtain ⟨w_r0_16, k0_r0_16⟩ : ∃ x, I r0 16 = x := ⟨_, rfl⟩
  have gw_r0_16 := rg w_r0_16
  have ow_r0_16 := IM.f16 hI k0_r0_16
  obtain ⟨w_r0_19, k0_r0_19⟩ : ∃ x, I r0 19 = x := ⟨_, rfl⟩
  have gw_r0_19 := rg w_r0_19
  obtain ⟨w_r0_12, k0_r0_12⟩ : ∃ x, I r0 12 = x := ⟨_, rfl⟩
  have gw_r0_12 := rg w_r0_12
  have ow_r0_12 := IM.f12 hI k0_r0_12
  obtain ⟨w_r0_13, k0_r0_13⟩ : ∃ x, I r0 13 = x := ⟨_, rfl⟩
  have gw_r0_13 := rg w_r0_13
  have ow_r0_13 := IM.f13 hI k0_r0_13
  have hp1 := hp1 r0_1 R_r0_1
  have hp2 := hp2 r0_1 R_r0_1
  have hp3 := hp3 r0_10 R_r0_10
  obtain ⟨g0, hg0⟩ : ∃ g, I r0_1 = g := ⟨_, rfl⟩
  have hg := hg0
  try simp only [hg0, k0_r0_15, k0_r0_16, k0_r0_19, k0_r0_12, k0_r0_13] at hp0
  try simp only [hg0, k0_r0_15, k0_r0_16, k0_r0_19, k0_r0_12, k0_r0_13] at hp1
  try simp only [hg0, k0_r0_15, k0_r0_16, k0_r0_19, k0_r0_12, k0_r0_13] at hp2
  try simp only [hg0, k0_r0_15, k0_r0_16, k0_r0_19, k0_r0_12, k0_r0_13] at hp3
  have hPD := hp1
  have hTB := hp3
  obtain ⟨cc, hcc⟩ : ∃ c, BCM (I r0_10) w_r0_13.toInt = c := ⟨_, rfl⟩
  have hc40 : C40 cc := by rw [← hcc]; exact BCM.c40 (by omega)
  obtain ⟨s0, hs0⟩ : ∃ s, RDM I r0 r0_1 = s := ⟨_, rfl⟩
  have hd1 := RDM.c1 hs0 k0_r0_12 (by omega)
  have hd2 := RDM.c2 hs0 k0_r0_16 (by omega)
  refine k_aload_n C rfl rfl rfl ?_
  have w1 := (CM.j0 (I := I) (L := L) (I' := I) (L' := L) (A := A) (W := [12, 14, 15, 16, 19]) (WA := [1]) CM.rf R_r0_10 (by decide))
  refine c_VI C (a_X12_readProduct_6_x hI H_r0 (by first | omega | (simp only [hg, k0_r0_15, k0_r0_16, k0_r0_19, k0_r0_12, k0_r0_13, and_true, true_and, or_true, true_or, and_false, false_and, or_false, false_or] <;> omega)) (fun a1 h1 => by cases (R_r0_1.symm.trans h1); simp only [hg, k0_r0_15, k0_r0_16, k0_r0_19, k0_r0_12, k0_r0_13]; exact hPD) (fun a1 h1 => by cases (R_r0_1.symm.trans h1); first | omega | (simp only [hg, k0_r0_15, k0_r0_16, k0_r0_19, k0_r0_12, k0_r0_13, and_true, true_and, or_true, true_or, and_false, false_and, or_false, false_or] <;> omega)) (fun a10 h10 => by cases (R_r0_10.symm.trans h10); rw [(CM.j0 (I := I) (L := L) (I' := I) (L' := L) (A := A) (W := [12, 14, 15, 16, 19]) (WA := [1]) CM.rf R_r0_10 (by decide))]; exact hTB)) rfl rfl rfl rfl rfl ⟨_, rfl, rfl, T_r0, Nat.le_of_ble_eq_true rfl⟩ rfl rfl (Nat.le_of_ble_eq_true rfl) (Nat.le_of_ble_eq_true rfl) (Nat.le_of_ble_eq_true rfl) ?_
  rintro x1 I2 L3 ⟨o0x1, o1x1, p0x1, p1x1, p2x1, p3x1, p4x1, hI2, S4⟩
  have p0x1 := p0x1 r0_1 R_r0_1
  have p1x1 := p1x1 r0_1 R_r0_1
  have p2x1 := p2x1 r0_1 r0_10 R_r0_1 R_r0_10
  have p4x1 := p4x1 r0_1 R_r0_1
  have F5 : ∀ r : Nat, r < 3606 → I2 r0_1 r = I r0_1 r := fun r z0 => p4x1 r z0
  have e10 := CM.k S4 (by decide) k0_r0_13
  have gx1 := rg x1
  obtain ⟨x11, e12⟩ : ∃ x, I2 r0 15 = x := ⟨_, rfl⟩
  have gx11 := rg x11
  have ox11 := IM.f15 hI2 e12
  obtain ⟨x13, e14⟩ : ∃ x, I2 r0 16 = x := ⟨_, rfl⟩
  have gx13 := rg x13
  have ox13 := IM.f16 hI2 e14
  obtain ⟨x15, e16⟩ : ∃ x, I2 r0 19 = x := ⟨_, rfl⟩
  have gx15 := rg x15
  obtain ⟨x17, e18⟩ : ∃ x, I2 r0 12 = x := ⟨_, rfl⟩
  have gx17 := rg x17
  have ox17 := IM.f12 hI2 e18
  obtain ⟨gS4, hgS4⟩ : ∃ g, I2 r0_1 = g := ⟨_, rfl⟩
  try simp only [k0_r0_15, k0_r0_16, k0_r0_19, k0_r0_12, k0_r0_13, e12, e14, e16, e18, hg, hgS4] at p0x1
  try have q0x1 := congrArg Int32.toInt p0x1
  try simp only [k0_r0_15, k0_r0_16, k0_r0_19, k0_r0_12, k0_r0_13, e12, e14, e16, e18, hg, hgS4] at p1x1
  try have q1x1 := congrArg Int32.toInt p1x1
  try simp only [k0_r0_15, k0_r0_16, k0_r0_19, k0_r0_12, k0_r0_13, e12, e14, e16, e18, hg, hgS4] at p2x1
  try have q2x1 := congrArg Int32.toInt p2x1
  try simp only [k0_r0_15, k0_r0_16, k0_r0_19, k0_r0_12, k0_r0_13, e12, e14, e16, e18, hg, hgS4] at p3x1
  try have q3x1 := congrArg Int32.toInt p3x1
  have hgo := hg
  have hg := hgS4
  have hP0 := p0x1
  have hP1 := p1x1
  have hy1 := p2x1
  (try rw [w1] at hy1)
  (try rw [hcc] at hy1)
  rw [hs0] at hy1
  obtain ⟨t1, ht1⟩ : ∃ t, RDM I2 r0 r0_1 = t := ⟨_, rfl⟩
  rw [ht1] at hy1
  have hc1 := RDM.c2 ht1 e14 (by omega)
  have J19 : ∀ (nn20 : Nat) (I21 : IT) (L22 : LT) (x26 : Int32) (x30 : Int32) (x34 : Int32) (x38 : Int32), (MN (40 - x30.toInt) nn20) → (IM R r0 I21) → (CM A R r0 [12, 14, 15, 16, 19] [1] I2 L3 I21 L22) → (∀ r : Nat, r < 3606 → I21 r0_1 r = I2 r0_1 r) → (I21 r0 15 = x26) → (6 ≤ x26.toInt) → (x26.toInt ≤ 6) → (I21 r0 16 = x30) → (0 ≤ x30.toInt) → (x30.toInt ≤ 40) → (I21 r0 19 = x34) → (0 ≤ x34.toInt) → (x34.toInt ≤ 199) → (I21 r0 12 = x38) → (0 ≤ x38.toInt) → (x38.toInt ≤ 400) → (PD (I21 r0_1) x34.toInt) → (w_r0_16.toInt + 1 ≤ x30.toInt) → (x34.toInt + 3 ≤ w_r0_19.toInt + 4 * (x30.toInt - w_r0_16.toInt) + (6 - 6)) → (Hgt (I21 r0_1) 3606 x34.toNatClampNeg = Hgt (I r0_1) 3606 w_r0_19.toNatClampNeg + 1) → (LP3 200 cc 43 2 (RPR 200 cc (RPT 200 cc 0)) (RSU 200 cc (RPT 200 cc 0) s0) (RDM I21 r0 r0_1)) → V 9 [(0, .ref r0)] [] (T, N, I21, L22, R) 0 0 := by
    intro nn20
    induction nn20 using Nat.strongRecOn with
    | _ nn20 ihJ19 =>
      intro I21 L22 x26 x30 x34 x38 hmnn20 hI24 S23 F25 e27 b28 b29 e31 b32 b33 e35 b36 b37 e39 b40 b41 ff9_0 ff9_1 ff9_2 ff9_3 ff9_4
      have gx26 := rg x26
      have gx30 := rg x30
      have gx34 := rg x34
      have gx38 := rg x38
      have e42 := CM.k S23 (by decide) e10
      obtain ⟨gL, hgL⟩ : ∃ g, I21 r0_1 = g := ⟨_, rfl⟩
      rw [hgL] at ff9_0
      rw [hgL, hg0] at ff9_3
      have hg := hgL
      have hPD := ff9_0
      obtain ⟨t9, ht9⟩ : ∃ t, RDM I21 r0 r0_1 = t := ⟨_, rfl⟩
      rw [ht9] at ff9_4
      refine k_aload_n C rfl rfl rfl ?_
      refine z_bipush C (z := 43) rfl rfl rfl (fun x43 ex43 => ?_)
      have w12 := (CM.j0 (I := I) (L := L) (I' := I21) (L' := L22) (A := A) (W := [12, 14, 15, 16, 19]) (WA := [1]) (CM.cons S4 (CM.mono S23 (by decide) (by decide)) (by decide) (by decide)) R_r0_10 (by decide))
      have hc9 := RDM.c2 ht9 e31 (by omega)
      have q44 : x43.toNatClampNeg = 43 := nck (by omega)
      refine c_VI C (a_X12_counts_x hI24 H_r0 (by omega) (by omega) (fun a10 h10 => by cases (R_r0_10.symm.trans h10); rw [(CM.j0 (I := I) (L := L) (I' := I21) (L' := L22) (A := A) (W := [12, 14, 15, 16, 19]) (WA := [1]) (CM.cons S4 (CM.mono S23 (by decide) (by decide)) (by decide) (by decide)) R_r0_10 (by decide))]; exact hTB)) rfl rfl rfl rfl rfl ⟨_, rfl, rfl, T_r0, Nat.le_of_ble_eq_true rfl⟩ rfl rfl (Nat.le_of_ble_eq_true rfl) (Nat.le_of_ble_eq_true rfl) (Nat.le_of_ble_eq_true rfl) ?_
      rintro x45 I46 L47 ⟨o0x45, o1x45, p0x45, p1x45, hI46, S48⟩
      have p1x45 := p1x45 r0_1 r0_10 R_r0_1 R_r0_10
      have e49 := CM.k S48 (by decide) e42
      have e50 := CM.k S48 (by decide) e27
      have e52 := CM.k S48 (by decide) e35
      have gx45 := rg x45
      obtain ⟨x54, e55⟩ : ∃ x, I46 r0 12 = x := ⟨_, rfl⟩
      have gx54 := rg x54
      have ox54 := IM.f12 hI46 e55
      obtain ⟨x56, e57⟩ : ∃ x, I46 r0 16 = x := ⟨_, rfl⟩
      have gx56 := rg x56
      have ox56 := IM.f16 hI46 e57
      have hg := (CM.j0 S48 R_r0_1 (by decide)).trans hg
      try simp only [q44, e42, e27, e31, e35, e39, e55, e57] at p0x45
      try have q0x45 := congrArg Int32.toInt p0x45
      try simp only [q44, e42, e27, e31, e35, e39, e55, e57] at p1x45
      try have q1x45 := congrArg Int32.toInt p1x45
      have h12 := p1x45
      (try rw [w12] at h12)
      (try rw [hcc] at h12)
      rw [ht9] at h12
      have h12 := h12.v (b := 43) (by omega)
      obtain ⟨t12, ht12⟩ : ∃ t, RDM I46 r0 r0_1 = t := ⟨_, rfl⟩
      rw [ht12] at h12
      refine b_if_eq C (t := 36) rfl rfl rfl (fun c58 => ?_) (fun c58 => ?_)
      · skip
        refine z_iconst C (z := 1) rfl rfl rfl (fun x59 ex59 => ?_)
        exact k_iret C rfl (Or.inr ⟨rfl, z01 (by omega) (by omega)⟩) (Nat.le_of_ble_eq_true rfl) (Nat.le_of_ble_eq_true rfl) ⟨_, _, _, rfl, rfl, by omega, by omega, fun a1 h1 => by cases (R_r0_1.symm.trans h1); first | (intro h; exfalso; omega) | (intro h; simp only [hg, hg0, e49, e50, e52, e55, e57, k0_r0_15, k0_r0_16, k0_r0_19, k0_r0_12, k0_r0_13]; omega), fun a1 h1 => by cases (R_r0_1.symm.trans h1); first | (intro h; exfalso; omega) | (intro h; simp only [hg, e49, e50, e52, e55, e57, k0_r0_15, k0_r0_16, k0_r0_19, k0_r0_12, k0_r0_13]; first | exact hPD | exact hP1 h | exact hP1 (by omega)), fun a1 a10 h1 h10 => by cases (R_r0_1.symm.trans h1); cases (R_r0_10.symm.trans h10); rw [k0_r0_13, hcc, hs0]; rw [ht12]; exact LP3.out ff9_4 hc40 h12 (by omega) (Or.inr rfl) (by omega), by first | omega | (intro h9; first | omega | (simp only [e49, e50, e52, e55, e57, k0_r0_15, k0_r0_16, k0_r0_19, k0_r0_12, k0_r0_13]; omega)), fun a1 h1 => by cases (R_r0_1.symm.trans h1); exact (fun r z0 => ((congrFun (CM.j0 S48 R_r0_1 (by decide)) r).trans ((F25 r z0).trans (F5 r z0)))), hI46, (CM.cons S4 (CM.cons S23 (CM.mono S48 (by decide) (by decide)) (by decide) (by decide)) (by decide) (by decide))⟩
      obtain ⟨l9, e9, c9, t12e⟩ := LP3.in ff9_4 h12 (by omega) (Or.inr rfl) (by omega)
      have hs12 := ht12.trans t12e
      refine k_aload_n C rfl rfl rfl ?_
      have w19 := (CM.j0 (I := I) (L := L) (I' := I46) (L' := L47) (A := A) (W := [12, 14, 15, 16, 19]) (WA := [1]) (CM.cons S4 (CM.cons S23 (CM.mono S48 (by decide) (by decide)) (by decide) (by decide)) (by decide) (by decide)) R_r0_10 (by decide))
      refine c_VI C (a_X12_readProduct_6_x hI46 H_r0 (by first | omega | (simp only [hg, e49, e50, e52, e55, e57, and_true, true_and, or_true, true_or, and_false, false_and, or_false, false_or] <;> omega)) (fun a1 h1 => by cases (R_r0_1.symm.trans h1); simp only [hg, e49, e50, e52, e55, e57]; exact hPD) (fun a1 h1 => by cases (R_r0_1.symm.trans h1); first | omega | (simp only [hg, e49, e50, e52, e55, e57, and_true, true_and, or_true, true_or, and_false, false_and, or_false, false_or] <;> omega)) (fun a10 h10 => by cases (R_r0_10.symm.trans h10); rw [(CM.j0 (I := I) (L := L) (I' := I46) (L' := L47) (A := A) (W := [12, 14, 15, 16, 19]) (WA := [1]) (CM.cons S4 (CM.cons S23 (CM.mono S48 (by decide) (by decide)) (by decide) (by decide)) (by decide) (by decide)) R_r0_10 (by decide))]; exact hTB)) rfl rfl rfl rfl rfl ⟨_, rfl, rfl, T_r0, Nat.le_of_ble_eq_true rfl⟩ rfl rfl (Nat.le_of_ble_eq_true rfl) (Nat.le_of_ble_eq_true rfl) (Nat.le_of_ble_eq_true rfl) ?_
      rintro x60 I61 L62 ⟨o0x60, o1x60, p0x60, p1x60, p2x60, p3x60, p4x60, hI61, S63⟩
      have p0x60 := p0x60 r0_1 R_r0_1
      have p1x60 := p1x60 r0_1 R_r0_1
      have p2x60 := p2x60 r0_1 r0_10 R_r0_1 R_r0_10
      have p4x60 := p4x60 r0_1 R_r0_1
      have F64 : ∀ r : Nat, r < 3606 → I61 r0_1 r = I46 r0_1 r := fun r z0 => p4x60 r z0
      have e65 := CM.k S63 (by decide) e49
      have gx60 := rg x60
      obtain ⟨x70, e71⟩ : ∃ x, I61 r0 15 = x := ⟨_, rfl⟩
      have gx70 := rg x70
      have ox70 := IM.f15 hI61 e71
      obtain ⟨x72, e73⟩ : ∃ x, I61 r0 16 = x := ⟨_, rfl⟩
      have gx72 := rg x72
      have ox72 := IM.f16 hI61 e73
      obtain ⟨x74, e75⟩ : ∃ x, I61 r0 19 = x := ⟨_, rfl⟩
      have gx74 := rg x74
      obtain ⟨x76, e77⟩ : ∃ x, I61 r0 12 = x := ⟨_, rfl⟩
      have gx76 := rg x76
      have ox76 := IM.f12 hI61 e77
      obtain ⟨gS63, hgS63⟩ : ∃ g, I61 r0_1 = g := ⟨_, rfl⟩
      try simp only [e49, e50, e52, e55, e57, e71, e73, e75, e77, hg, hgS63] at p0x60
      try have q0x60 := congrArg Int32.toInt p0x60
      try simp only [e49, e50, e52, e55, e57, e71, e73, e75, e77, hg, hgS63] at p1x60
      try have q1x60 := congrArg Int32.toInt p1x60
      try simp only [e49, e50, e52, e55, e57, e71, e73, e75, e77, hg, hgS63] at p2x60
      try have q2x60 := congrArg Int32.toInt p2x60
      try simp only [e49, e50, e52, e55, e57, e71, e73, e75, e77, hg, hgS63] at p3x60
      try have q3x60 := congrArg Int32.toInt p3x60
      have hgo := hg
      have hg := hgS63
      have hP0 := p0x60
      have hP1 := p1x60
      have h19 := p2x60
      (try rw [w19] at h19)
      (try rw [hcc] at h19)
      rw [hs12] at h19
      obtain ⟨t19, ht19⟩ : ∃ t, RDM I61 r0 r0_1 = t := ⟨_, rfl⟩
      rw [ht19] at h19
      have hc19 := RDM.c2 ht19 e73 (by omega)
      refine b_if_eq C (t := 34) rfl rfl rfl (fun c78 => ?_) (fun c78 => ?_)
      · skip
        refine z_iconst C (z := 0) rfl rfl rfl (fun x79 ex79 => ?_)
        exact k_iret C rfl (Or.inr ⟨rfl, z01 (by omega) (by omega)⟩) (Nat.le_of_ble_eq_true rfl) (Nat.le_of_ble_eq_true rfl) ⟨_, _, _, rfl, rfl, by omega, by omega, fun a1 h1 => by cases (R_r0_1.symm.trans h1); first | (intro h; exfalso; omega) | (intro h; simp only [hg, hg0, e65, e71, e73, e75, e77, k0_r0_15, k0_r0_16, k0_r0_19, k0_r0_12, k0_r0_13]; omega), fun a1 h1 => by cases (R_r0_1.symm.trans h1); first | (intro h; exfalso; omega) | (intro h; simp only [hg, e65, e71, e73, e75, e77, k0_r0_15, k0_r0_16, k0_r0_19, k0_r0_12, k0_r0_13]; first | exact hPD | exact hP1 h | exact hP1 (by omega)), fun a1 a10 h1 h10 => by cases (R_r0_1.symm.trans h1); cases (R_r0_10.symm.trans h10); rw [k0_r0_13, hcc, hs0]; first | (exfalso; omega) | exact RS3.f (by omega) (l9.no2 e9 c9 (h19.no (by omega))), by first | omega | (intro h9; first | omega | (simp only [e65, e71, e73, e75, e77, k0_r0_15, k0_r0_16, k0_r0_19, k0_r0_12, k0_r0_13]; omega)), fun a1 h1 => by cases (R_r0_1.symm.trans h1); exact (fun r z0 => ((F64 r z0).trans ((congrFun (CM.j0 S48 R_r0_1 (by decide)) r).trans ((F25 r z0).trans (F5 r z0))))), hI61, (CM.cons S4 (CM.cons S23 (CM.cons S48 (CM.mono S63 (by decide) (by decide)) (by decide) (by decide)) (by decide) (by decide)) (by decide) (by decide))⟩
      have hPD := hP1 (by omega)
      have hPq := hP0 (by omega)
      refine k_aload_n C rfl rfl rfl ?_
      refine z_iconst C (z := 2) rfl rfl rfl (fun x80 ex80 => ?_)
      refine z_iconst C (z := 0) rfl rfl rfl (fun x81 ex81 => ?_)
      have hl28 := RDM.c3 ht19 e75 (by omega)
      have q82 : x80.toNatClampNeg = 2 := nck (by omega)
      have q83 : x81.toNatClampNeg = 0 := nck (by omega)
      refine c_VI C (a_X12_emits_x hI61 H_r0 (by omega) (by omega) (by omega) (by omega) (by first | omega | (simp only [q82, q83, hg, e65, e71, e73, e75, e77, and_true, true_and, or_true, true_or, and_false, false_and, or_false, false_or] <;> omega)) (by first | omega | (simp only [q82, q83, hg, e65, e71, e73, e75, e77, and_true, true_and, or_true, true_or, and_false, false_and, or_false, false_or] <;> omega))) rfl rfl rfl rfl rfl ⟨_, rfl, rfl, T_r0, Nat.le_of_ble_eq_true rfl⟩ rfl rfl (Nat.le_of_ble_eq_true rfl) (Nat.le_of_ble_eq_true rfl) (Nat.le_of_ble_eq_true rfl) ?_
      rintro x84 I85 L86 ⟨o0x84, o1x84, p0x84, p1x84, p2x84, p3x84, hI85, S87⟩
      have p0x84 := p0x84 r0_1 R_r0_1
      have p2x84 := p2x84 r0_1 R_r0_1
      have p3x84 := p3x84 r0_1 R_r0_1
      have F88 : ∀ r : Nat, r < 3606 → I85 r0_1 r = I61 r0_1 r := fun r z0 => p3x84 r z0
      have e89 := CM.k S87 (by decide) e65
      have e90 := CM.k S87 (by decide) e71
      have e91 := CM.k S87 (by decide) e73
      have e93 := CM.k S87 (by decide) e77
      have gx84 := rg x84
      obtain ⟨x94, e95⟩ : ∃ x, I85 r0 19 = x := ⟨_, rfl⟩
      have gx94 := rg x94
      obtain ⟨gS87, hgS87⟩ : ∃ g, I85 r0_1 = g := ⟨_, rfl⟩
      try simp only [q82, q83, e65, e71, e73, e75, e77, e95, hg, hgS87] at p0x84
      try have q0x84 := congrArg Int32.toInt p0x84
      try simp only [q82, q83, e65, e71, e73, e75, e77, e95, hg, hgS87] at p1x84
      try have q1x84 := congrArg Int32.toInt p1x84
      try simp only [q82, q83, e65, e71, e73, e75, e77, e95, hg, hgS87] at p2x84
      try have q2x84 := congrArg Int32.toInt p2x84
      have hgo := hg
      have hg := hgS87
      have hE := p0x84
      have hPD := PD.em hPD hE (by omega) (by omega) ⟨by omega, by omega⟩ ⟨by omega, by omega⟩ ⟨by omega, by omega⟩ (fun _ => by omega) (fun _ _ => by omega) (fun _ => by omega)
      have hHH := Hgt.e2 hE (by omega) (by omega) ⟨by omega, by omega⟩
      have h28 := p2x84
      rw [ht19] at h28
      have h28e := RDM.em (M := 200) (k := 2) (n := 0) h28 (by omega) (by omega) (by omega)
      refine b_if_ne C (t := 9) rfl rfl rfl (fun c96 => ?_) (fun c96 => by exfalso; omega)
      refine k_sub S [(0, .ref r0)] (List.forall_mem_cons.mpr ⟨List.mem_of_getElem? (i := 0) rfl, fun _ h => nomatch h⟩) ?_
      exact ihJ19 _ (MN.lt hmnn20 (by omega) (by omega)) I85 L86 x70 x72 x94 x76 rfl hI85 (CM.cons S23 (CM.cons S48 (CM.cons S63 (CM.mono S87 (by decide) (by decide)) (by decide) (by decide)) (by decide) (by decide)) (by decide) (by decide)) (fun r z0 => ((F88 r z0).trans ((F64 r z0).trans ((congrFun (CM.j0 S48 R_r0_1 (by decide)) r).trans (F25 r z0))))) e90 (by omega) (by omega) e91 (by omega) (by omega) e95 (by omega) (by omega) e93 (by omega) (by omega) (by rw [hg]; exact hPD) (by omega) (by omega) (by rw [hg, hg0]; omega) (by rw [h28e]; exact LP3.s l9 e9 c9 (h19.y (by omega)) (by omega) (by omega) rfl)
  refine b_if_ne C (t := 9) rfl rfl rfl (fun c97 => ?_) (fun c97 => ?_)
  · skip
    have hPD := hP1 (by omega)
    have hPq := hP0 (by omega)
    refine k_sub S [(0, .ref r0)] (List.forall_mem_cons.mpr ⟨List.mem_of_getElem? (i := 0) rfl, fun _ h => nomatch h⟩) ?_
    exact J19 _ I2 L3 x11 x13 x15 x17 rfl hI2 CM.rf (fun r z0 => rfl) e12 (by omega) (by omega) e14 (by omega) (by omega) e16 (by omega) (by omega) e18 (by omega) (by omega) (by rw [hg]; exact hPD) (by omega) (by omega) (by rw [hg, hg0]; omega) (by rw [ht1]; exact LP3.z (hy1.y (by omega)) rfl (by omega))
  refine z_iconst C (z := 0) rfl rfl rfl (fun x98 ex98 => ?_)
  exact k_iret C rfl (Or.inr ⟨rfl, z01 (by omega) (by omega)⟩) (Nat.le_of_ble_eq_true rfl) (Nat.le_of_ble_eq_true rfl) ⟨_, _, _, rfl, rfl, by omega, by omega, fun a1 h1 => by cases (R_r0_1.symm.trans h1); first | (intro h; exfalso; omega) | (intro h; simp only [hg, hg0, e10, e12, e14, e16, e18, k0_r0_15, k0_r0_16, k0_r0_19, k0_r0_12, k0_r0_13]; omega), fun a1 h1 => by cases (R_r0_1.symm.trans h1); first | (intro h; exfalso; omega) | (intro h; simp only [hg, e10, e12, e14, e16, e18, k0_r0_15, k0_r0_16, k0_r0_19, k0_r0_12, k0_r0_13]; first | exact hPD | exact hP1 h | exact hP1 (by omega)), fun a1 a10 h1 h10 => by cases (R_r0_1.symm.trans h1); cases (R_r0_10.symm.trans h10); rw [k0_r0_13, hcc, hs0]; exact RS3.f (by omega) (by unfold RSU; rw [hy1.no (by omega)]; rfl), by first | omega | (intro h9; first | omega | (simp only [e10, e12, e14, e16, e18, k0_r0_15, k0_r0_16, k0_r0_19, k0_r0_12, k0_r0_13]; omega)), fun a1 h1 => by cases (R_r0_1.symm.trans h1); exact (fun r z0 => (F5 r z0)), hI2, (CM.mono S4 (by decide) (by decide))⟩

def CR_Overlap (e : Nat) (lq : Int) (kq : Nat) : Prop := ∀ {T N : Nat → Nat} {I : IT} {L : LT} {R : RT} {A : Nat → Prop} {r0 : Nat} (hI : IM R r0 I) (H_r0 : (h_MD T N R A) r0) (hp0 : (I r0 15).toInt = lq) (hp1 : ∀ a1, R r0 1 = some a1 → PD (I a1) (I r0 19).toInt) (hp2 : ∀ a1, R r0 1 = some a1 → 0 ≤ (I r0 19).toInt ∧ 0 ≤ Hgt (I a1) 3606 (I r0 19).toNatClampNeg ∧ Hgt (I a1) 3606 (I r0 19).toNatClampNeg ≤ (I r0 16).toInt ∧ (I r0 19).toInt + 4 * (40 - (I r0 16).toInt) + (6 - lq) ≤ 166) (hp3 : ∀ a10, R r0 10 = some a10 → TBY (I a10)), Ex e 226 [.ref r0] (T, N, I, L, R) 0 0 (pI T N R (fun x9 I9 L9 => (0 ≤ x9.toInt) ∧ (x9.toInt ≤ 1) ∧ (∀ a1, R r0 1 = some a1 → x9.toInt = 1 → (I9 r0 15).toInt = lq ∧ (I r0 16).toInt + 1 ≤ (I9 r0 16).toInt ∧ 0 ≤ (I9 r0 19).toInt ∧ (I9 r0 19).toInt + 3 ≤ (I r0 19).toInt + 4 * ((I9 r0 16).toInt - (I r0 16).toInt) + (6 - lq) ∧ Hgt (I9 a1) 3606 (I9 r0 19).toNatClampNeg = Hgt (I a1) 3606 (I r0 19).toNatClampNeg + 1) ∧ (∀ a1, R r0 1 = some a1 → x9.toInt = 1 → PD (I9 a1) (I9 r0 19).toInt) ∧ (∀ a1 a10, R r0 1 = some a1 → R r0 10 = some a10 → RS3 (BCM (I a10) (I r0 13).toInt) x9.toInt (ROV2 200 (BCM (I a10) (I r0 13).toInt) (RSU 200 (BCM (I a10) (I r0 13).toInt) (RPT 200 (BCM (I a10) (I r0 13).toInt) kq)) (RDM I r0 a1)) (RDM I9 r0 a1)) ∧ (x9.toInt = 1 → (I9 r0 16).toInt ≤ 40) ∧ (∀ a1, R r0 1 = some a1 → ∀ r : Nat, r < 3606 → I9 a1 r = I a1 r) ∧ (IM R r0 I9 ∧ CM A R r0 [12, 14, 15, 16, 19] [1] I L I9 L9)))
def CR_Unit (e : Nat) (lq : Int) (mq : Nat) : Prop := ∀ {T N : Nat → Nat} {I : IT} {L : LT} {R : RT} {A : Nat → Prop} {r0 : Nat} (hI : IM R r0 I) (H_r0 : (h_MD T N R A) r0) (hp0 : (I r0 15).toInt = lq) (hp1 : ∀ a1, R r0 1 = some a1 → PD (I a1) (I r0 19).toInt) (hp2 : ∀ a1, R r0 1 = some a1 → 0 ≤ (I r0 19).toInt ∧ 0 ≤ Hgt (I a1) 3606 (I r0 19).toNatClampNeg ∧ Hgt (I a1) 3606 (I r0 19).toNatClampNeg ≤ (I r0 16).toInt ∧ (I r0 19).toInt + 4 * (40 - (I r0 16).toInt) + (6 - lq) ≤ 166) (hp3 : ∀ a10, R r0 10 = some a10 → TBY (I a10)), Ex e 229 [.ref r0] (T, N, I, L, R) 0 0 (pI T N R (fun x9 I9 L9 => (0 ≤ x9.toInt) ∧ (x9.toInt ≤ 1) ∧ (∀ a1, R r0 1 = some a1 → x9.toInt = 1 → (I9 r0 15).toInt = lq ∧ (I r0 16).toInt + 1 ≤ (I9 r0 16).toInt ∧ 0 ≤ (I9 r0 19).toInt ∧ (I9 r0 19).toInt + 3 ≤ (I r0 19).toInt + 4 * ((I9 r0 16).toInt - (I r0 16).toInt) + (6 - lq) ∧ Hgt (I9 a1) 3606 (I9 r0 19).toNatClampNeg = Hgt (I a1) 3606 (I r0 19).toNatClampNeg + 1) ∧ (∀ a1, R r0 1 = some a1 → x9.toInt = 1 → PD (I9 a1) (I9 r0 19).toInt) ∧ (∀ a1 a10, R r0 1 = some a1 → R r0 10 = some a10 → RS3 (BCM (I a10) (I r0 13).toInt) x9.toInt (RPT 200 (BCM (I a10) (I r0 13).toInt) mq (RDM I r0 a1)) (RDM I9 r0 a1)) ∧ (x9.toInt = 1 → (I9 r0 16).toInt ≤ 40) ∧ (∀ a1, R r0 1 = some a1 → ∀ r : Nat, r < 3606 → I9 a1 r = I a1 r) ∧ (IM R r0 I9 ∧ CM A R r0 [12, 14, 15, 16, 19] [1] I L I9 L9)))
def CR_Product (e : Nat) (lq : Int) (mq : Nat) : Prop := ∀ {T N : Nat → Nat} {I : IT} {L : LT} {R : RT} {A : Nat → Prop} {r0 : Nat} (hI : IM R r0 I) (H_r0 : (h_MD T N R A) r0) (hp0 : (I r0 15).toInt = lq) (hp1 : ∀ a1, R r0 1 = some a1 → PD (I a1) (I r0 19).toInt) (hp2 : ∀ a1, R r0 1 = some a1 → 0 ≤ (I r0 19).toInt ∧ 0 ≤ Hgt (I a1) 3606 (I r0 19).toNatClampNeg ∧ Hgt (I a1) 3606 (I r0 19).toNatClampNeg ≤ (I r0 16).toInt ∧ (I r0 19).toInt + 4 * (40 - (I r0 16).toInt) + (6 - lq) ≤ 166) (hp3 : ∀ a10, R r0 10 = some a10 → TBY (I a10)), Ex e 227 [.ref r0] (T, N, I, L, R) 0 0 (pI T N R (fun x9 I9 L9 => (0 ≤ x9.toInt) ∧ (x9.toInt ≤ 1) ∧ (∀ a1, R r0 1 = some a1 → x9.toInt = 1 → (I9 r0 15).toInt = lq ∧ (I r0 16).toInt + 1 ≤ (I9 r0 16).toInt ∧ 0 ≤ (I9 r0 19).toInt ∧ (I9 r0 19).toInt + 3 ≤ (I r0 19).toInt + 4 * ((I9 r0 16).toInt - (I r0 16).toInt) + (6 - lq) ∧ Hgt (I9 a1) 3606 (I9 r0 19).toNatClampNeg = Hgt (I a1) 3606 (I r0 19).toNatClampNeg + 1) ∧ (∀ a1, R r0 1 = some a1 → x9.toInt = 1 → PD (I9 a1) (I9 r0 19).toInt) ∧ (∀ a1 a10, R r0 1 = some a1 → R r0 10 = some a10 → RS3 (BCM (I a10) (I r0 13).toInt) x9.toInt (RPR 200 (BCM (I a10) (I r0 13).toInt) (RPT 200 (BCM (I a10) (I r0 13).toInt) mq) (RDM I r0 a1)) (RDM I9 r0 a1)) ∧ (x9.toInt = 1 → (I9 r0 16).toInt ≤ 40) ∧ (∀ a1, R r0 1 = some a1 → ∀ r : Nat, r < 3606 → I9 a1 r = I a1 r) ∧ (IM R r0 I9 ∧ CM A R r0 [12, 14, 15, 16, 19] [1] I L I9 L9)))
def CR_Sum (e : Nat) (lq : Int) (mq : Nat) : Prop := ∀ {T N : Nat → Nat} {I : IT} {L : LT} {R : RT} {A : Nat → Prop} {r0 : Nat} (hI : IM R r0 I) (H_r0 : (h_MD T N R A) r0) (hp0 : (I r0 15).toInt = lq) (hp1 : ∀ a1, R r0 1 = some a1 → PD (I a1) (I r0 19).toInt) (hp2 : ∀ a1, R r0 1 = some a1 → 0 ≤ (I r0 19).toInt ∧ 0 ≤ Hgt (I a1) 3606 (I r0 19).toNatClampNeg ∧ Hgt (I a1) 3606 (I r0 19).toNatClampNeg ≤ (I r0 16).toInt ∧ (I r0 19).toInt + 4 * (40 - (I r0 16).toInt) + (6 - lq) ≤ 166) (hp3 : ∀ a10, R r0 10 = some a10 → TBY (I a10)), Ex e 228 [.ref r0] (T, N, I, L, R) 0 0 (pI T N R (fun x9 I9 L9 => (0 ≤ x9.toInt) ∧ (x9.toInt ≤ 1) ∧ (∀ a1, R r0 1 = some a1 → x9.toInt = 1 → (I9 r0 15).toInt = lq ∧ (I r0 16).toInt + 1 ≤ (I9 r0 16).toInt ∧ 0 ≤ (I9 r0 19).toInt ∧ (I9 r0 19).toInt + 3 ≤ (I r0 19).toInt + 4 * ((I9 r0 16).toInt - (I r0 16).toInt) + (6 - lq) ∧ Hgt (I9 a1) 3606 (I9 r0 19).toNatClampNeg = Hgt (I a1) 3606 (I r0 19).toNatClampNeg + 1) ∧ (∀ a1, R r0 1 = some a1 → x9.toInt = 1 → PD (I9 a1) (I9 r0 19).toInt) ∧ (∀ a1 a10, R r0 1 = some a1 → R r0 10 = some a10 → RS3 (BCM (I a10) (I r0 13).toInt) x9.toInt (RSU 200 (BCM (I a10) (I r0 13).toInt) (RPT 200 (BCM (I a10) (I r0 13).toInt) mq) (RDM I r0 a1)) (RDM I9 r0 a1)) ∧ (x9.toInt = 1 → (I9 r0 16).toInt ≤ 40) ∧ (∀ a1, R r0 1 = some a1 → ∀ r : Nat, r < 3606 → I9 a1 r = I a1 r) ∧ (IM R r0 I9 ∧ CM A R r0 [12, 14, 15, 16, 19] [1] I L I9 L9)))
