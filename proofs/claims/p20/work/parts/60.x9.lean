/-! signs told, look, at, det, told: exactly -/
def DON (x D : Int) (f : Nat → Int) (k : Int) : Prop := (k = -1 → x = D) ∧ (k ≠ -1 → (k < 0 ∨ D < k) → x = -1) ∧ (0 ≤ k → k ≤ D → x = f k.toNat)
/-- a value by Horner's way: k of the numbers used -/
def HRV (x y : Int) (f : Nat → Int) : Nat → Int
  | 0 => 0
  | k + 1 => HRV x y f k * x + f k * POW y k
def WRT2 (s w p x y : Int) (f : Nat → Int) (k : Int) : Prop := PmE p s (HRV x y f k.toNat) ∧ PmE p w (POW y k.toNat)
theorem WRT2.z {s w p x y k : Int} {f : Nat → Int} (hs : s = 0) (hw : w = 1) (hk : k = 0) : WRT2 s w p x y f k := by
  subst hs; subst hw; subst hk
  exact ⟨PmE.rf, PmE.rf⟩
theorem WRT2.s {s w s' w' a u v t u2 k k' x y : Int32} {p D : Int} {f : Nat → Int} {l l2 : Int64} (h : WRT2 s.toInt w.toInt p x.toInt y.toInt f k.toInt) (g : GTD a.toInt D f k.toInt) (m1 : MXD u s x) (m2 : MXD v a w) (ad : ADX t u v) (el : l.toInt = t.toInt) (o1 : s'.toInt = l.toInt % p) (m3 : MXD u2 w y) (el2 : l2.toInt = u2.toInt) (o2 : w'.toInt = l2.toInt % p) (bs : 0 ≤ s.toInt ∧ s.toInt ≤ 18) (bw : 0 ≤ w.toInt ∧ w.toInt ≤ 18) (bx : 0 ≤ x.toInt ∧ x.toInt ≤ 18) (bb : 0 ≤ y.toInt ∧ y.toInt ≤ 18) (hf : ∀ j : Nat, (j : Int) ≤ D → 0 ≤ f j ∧ f j ≤ 18) (h0 : 0 ≤ k.toInt) (h1 : k.toInt ≤ D) (hk : k'.toInt = k.toInt + 1) : WRT2 s'.toInt w'.toInt p x.toInt y.toInt f k'.toInt := by
  have n0 := ncz h0
  have ga : a.toInt = f k.toNatClampNeg := g.i h0 h1
  have ba := hf k.toNatClampNeg (by omega)
  have q1 := m1 (by omega) (by omega) (by omega) (by omega)
  have q2 := m2 (by omega) (by omega) (by omega) (by omega)
  have q3 := m3 (by omega) (by omega) (by omega) (by omega)
  have r1 := mul_ab (u := s.toInt) (v := x.toInt) (by omega) (by omega) (by omega) (by omega)
  have r2 := mul_ab (u := a.toInt) (v := w.toInt) (by omega) (by omega) (by omega) (by omega)
  have q4 := ad (by omega) (by omega)
  have ek : k'.toInt.toNat = k.toInt.toNat + 1 := by omega
  unfold WRT2
  rw [ek, o1, el, q4, q1, q2, o2, el2, q3, ga]
  have e0 : k.toInt.toNat = k.toNatClampNeg := rfl
  rw [e0]
  have h1 : PmE p s.toInt (HRV x.toInt y.toInt f k.toNatClampNeg) := h.1
  have h2 : PmE p w.toInt (POW y.toInt k.toNatClampNeg) := h.2
  exact ⟨(PmE.em _).tr ((h1.ml PmE.rf).ad (PmE.rf.ml h2)), (PmE.em _).tr (h2.ml PmE.rf)⟩
theorem WRT2.e {s w p x y k D : Int} {f : Nat → Int} (h : WRT2 s w p x y f k) (hk : k = D + 1) : PmE p s (HRV x y f (D + 1).toNat) := by subst hk; exact h.1
theorem s_X8_nextSigns_x {d : Nat} {T N : Nat → Nat} {I : IT} {L : LT} {R : RT} {A B : Nat → Prop} {r0 : Nat} (hS : SUB B A) (hI : IX A T I) (H_r0 : (hs_St T N R A B) r0) (hp0 : 0 ≤ (I r0 3).toInt) : Ex (d + 2) 100 [.ref r0] (T, N, I, L, R) 0 0 (pR T N R (fun x9 I9 L9 => (∀ b, x9 = some b → (hs_Sg T N R A B) b) ∧ (NXD R x9 (rA R r0 10) (I r0 3) (I9 r0 3).toInt 8) ∧ (IX A T I9 ∧ Chg (SL [r0]) T [(9, 3)] I L I9 L9))) := by
  refine ⟨_, rfl, Nat.le_of_ble_eq_true rfl, fun V C S => ?_⟩
  show V 0 [(0, .ref r0)] [] (T, N, I, L, R) 0 0
  obtain ⟨T_r0, A_r0, B_r0, ⟨r0_6, R_r0_6, H_r0_6⟩, ⟨r0_7, R_r0_7, H_r0_7⟩, ⟨r0_8, R_r0_8, H_r0_8⟩, ⟨r0_9, R_r0_9, H_r0_9⟩, ⟨r0_10, R_r0_10, H_r0_10⟩⟩ := id H_r0
  have z_r0_6 : rA R r0 6 = r0_6 := rA_e R_r0_6
  have z_r0_7 : rA R r0 7 = r0_7 := rA_e R_r0_7
  have z_r0_8 : rA R r0 8 = r0_8 := rA_e R_r0_8
  have z_r0_9 : rA R r0 9 = r0_9 := rA_e R_r0_9
  have z_r0_10 : rA R r0 10 = r0_10 := rA_e R_r0_10
  try simp only [z_r0_6, z_r0_7, z_r0_8, z_r0_9, z_r0_10] at hp0
  obtain ⟨w_r0_3, k0_r0_3⟩ : ∃ x, I r0 3 = x := ⟨_, rfl⟩
  have gw_r0_3 := rg w_r0_3
  try simp only [k0_r0_3] at hp0
  refine k_aload_n C rfl rfl rfl ?_
  refine g_I C rfl rfl rfl T_r0 rfl k0_r0_3 ?_
  refine z_bipush C (z := 8) rfl rfl rfl (fun x1 ex1 => ?_)
  refine b_icmp_lt C (t := 11) rfl rfl rfl (fun c2 => ?_) (fun c2 => ?_)
  · skip
    refine k_aload_n C rfl rfl rfl ?_
    refine k_dup C rfl rfl rfl ?_
    refine g_I C rfl rfl rfl T_r0 rfl k0_r0_3 ?_
    refine z_iconst C (z := 1) rfl rfl rfl (fun x3 ex3 => ?_)
    refine z_iadd C rfl rfl ⟨by omega, by omega⟩ (fun x4 ex4 => ?_)
    refine z_pI C rfl rfl rfl T_r0 (Or.inr rfl) rfl (fun I5 uI5 => ?_)
    have hI5 : IX A T I5 := IX.f hI T_r0 (boX.tr (by decide) (by decide)) uI5
    have S6 : Chg (SL [r0]) T [(9, 3)] I L I5 L := Chg.f List.mem_cons_self T_r0 uI5
    have e7 := u2_e uI5
    refine k_aload_n C rfl rfl rfl ?_
    refine k_aload_n C rfl rfl rfl ?_
    refine g_I C rfl rfl rfl T_r0 rfl e7 ?_
    refine z_iconst C (z := 1) rfl rfl rfl (fun x8 ex8 => ?_)
    refine z_isub C rfl rfl ⟨by omega, by omega⟩ (fun x9 ex9 => ?_)
    refine c_VR C (s_X8_signsAt_x hS hI5 H_r0) rfl rfl rfl rfl rfl ⟨_, rfl, rfl, T_r0, Nat.le_of_ble_eq_true rfl⟩ rfl rfl (Nat.le_of_ble_eq_true rfl) (Nat.le_of_ble_eq_true rfl) (Nat.le_of_ble_eq_true rfl) ?_
    rintro yy10 _ _ ⟨hyy10, p0yy10, rfl, rfl⟩
    try simp only [z_r0_6, z_r0_7, z_r0_8, z_r0_9, z_r0_10] at p0yy10
    try simp only [e7] at p0yy10
    try have q0yy10 := congrArg Int32.toInt p0yy10
    have hfa := p0yy10
    exact k_aret C (x := yy10) rfl (Or.inl ⟨_, rfl⟩) (Nat.le_of_ble_eq_true rfl) (Nat.le_of_ble_eq_true rfl) ⟨_, _, _, rfl, rfl, hyy10, by (try simp only [z_r0_6, z_r0_7, z_r0_8, z_r0_9, z_r0_10]); rw [e7]; simp only [k0_r0_3]; exact NXD.p hfa (by omega) (by omega) (by omega), hI5, (by (try simp only [z_r0_6, z_r0_7, z_r0_8, z_r0_9, z_r0_10]); exact (Chg.mono (Chg.up S6 (List.forall_mem_cons.mpr ⟨List.mem_of_getElem? (i := 0) rfl, fun _ h => nomatch h⟩)) (by decide)))⟩
  refine k_null C rfl rfl ?_
  exact k_aret C (x := none) rfl (Or.inl ⟨_, rfl⟩) (Nat.le_of_ble_eq_true rfl) (Nat.le_of_ble_eq_true rfl) ⟨_, _, _, rfl, rfl, fz, by (try simp only [z_r0_6, z_r0_7, z_r0_8, z_r0_9, z_r0_10]); simp only [k0_r0_3]; exact NXD.z rfl rfl (by omega), hI, (by (try simp only [z_r0_6, z_r0_7, z_r0_8, z_r0_9, z_r0_10]); exact Chg.rf)⟩

theorem s_X11_field_x {d : Nat} {T N : Nat → Nat} {I : IT} {L : LT} {R : RT} {A B : Nat → Prop} {r0 : Nat} {n1 : Int32} (hS : SUB B A) (hI : IX A T I) (H_r0 : (hs_LF T N R A B) r0) : Ex (d + 1) 128 [.ref r0, .int n1] (T, N, I, L, R) 1 6 (pW2 [0, 1] T N R (pV T N R (fun I9 L9 => ((n1.toInt = 11 ∨ n1.toInt = 13 ∨ n1.toInt = 17 ∨ n1.toInt = 19) ∧ (I (rA R r0 1) 1).toInt ≤ 0 ∧ (I (rA R r0 1) 2).toInt ≤ 0) ∧ ((I9 (rA R r0 1) 0).toInt = n1.toInt) ∧ (IX A T I9 ∧ Chg (SL [(rA R r0 1)]) T [(9, 0)] I L I9 L9))) (fun e9 I9 L9 => (IX A T I9 ∧ Chg (SL [(rA R r0 1)]) T [(9, 0)] I L I9 L9) ∧ (e9 = 0 → ¬ (n1.toInt = 11 ∨ n1.toInt = 13 ∨ n1.toInt = 17 ∨ n1.toInt = 19)) ∧ (e9 = 0 → ∀ a k, I9 a k = I a k) ∧ (e9 = 1 → (n1.toInt = 11 ∨ n1.toInt = 13 ∨ n1.toInt = 17 ∨ n1.toInt = 19) ∧ (0 < (I (rA R r0 1) 1).toInt ∨ 0 < (I (rA R r0 1) 2).toInt)) ∧ (e9 = 1 → ∀ a k, I9 a k = I a k))) := by
  refine ⟨_, rfl, Nat.le_of_ble_eq_true rfl, fun V C S => ?_⟩
  show V 0 [(0, .ref r0), (1, .int n1)] [] (T, N, I, L, R) 0 0
  have gn1 := rg n1
  obtain ⟨T_r0, A_r0, B_r0, ⟨r0_0, R_r0_0, H_r0_0⟩, ⟨r0_1, R_r0_1, H_r0_1⟩, ⟨r0_2, R_r0_2, H_r0_2⟩, ⟨r0_5, R_r0_5, H_r0_5⟩, ⟨r0_6, R_r0_6, H_r0_6⟩, ⟨r0_7, R_r0_7, H_r0_7⟩, ⟨r0_8, R_r0_8, H_r0_8⟩, ⟨r0_9, R_r0_9, H_r0_9⟩, ⟨r0_10, R_r0_10, H_r0_10⟩, ⟨r0_11, R_r0_11, H_r0_11⟩, ⟨r0_12, R_r0_12, H_r0_12⟩, ⟨r0_13, R_r0_13, H_r0_13⟩⟩ := id H_r0
  have z_r0_0 : rA R r0 0 = r0_0 := rA_e R_r0_0
  have z_r0_1 : rA R r0 1 = r0_1 := rA_e R_r0_1
  have z_r0_2 : rA R r0 2 = r0_2 := rA_e R_r0_2
  have z_r0_5 : rA R r0 5 = r0_5 := rA_e R_r0_5
  have z_r0_6 : rA R r0 6 = r0_6 := rA_e R_r0_6
  have z_r0_7 : rA R r0 7 = r0_7 := rA_e R_r0_7
  have z_r0_8 : rA R r0 8 = r0_8 := rA_e R_r0_8
  have z_r0_9 : rA R r0 9 = r0_9 := rA_e R_r0_9
  have z_r0_10 : rA R r0 10 = r0_10 := rA_e R_r0_10
  have z_r0_11 : rA R r0 11 = r0_11 := rA_e R_r0_11
  have z_r0_12 : rA R r0 12 = r0_12 := rA_e R_r0_12
  have z_r0_13 : rA R r0 13 = r0_13 := rA_e R_r0_13
  obtain ⟨T_r0_1, A_r0_1, B_r0_1, ⟨r0_1_6, R_r0_1_6, H_r0_1_6⟩, ⟨r0_1_7, R_r0_1_7, H_r0_1_7⟩, ⟨r0_1_8, R_r0_1_8, H_r0_1_8⟩, ⟨r0_1_9, R_r0_1_9, H_r0_1_9⟩, ⟨r0_1_10, R_r0_1_10, H_r0_1_10⟩⟩ := id H_r0_1
  have z_r0_1_6 : rA R r0_1 6 = r0_1_6 := rA_e R_r0_1_6
  have z_r0_1_7 : rA R r0_1 7 = r0_1_7 := rA_e R_r0_1_7
  have z_r0_1_8 : rA R r0_1 8 = r0_1_8 := rA_e R_r0_1_8
  have z_r0_1_9 : rA R r0_1 9 = r0_1_9 := rA_e R_r0_1_9
  have z_r0_1_10 : rA R r0_1 10 = r0_1_10 := rA_e R_r0_1_10
  obtain ⟨w_r0_1_1, k0_r0_1_1⟩ : ∃ x, I r0_1 1 = x := ⟨_, rfl⟩
  have gw_r0_1_1 := rg w_r0_1_1
  obtain ⟨w_r0_1_2, k0_r0_1_2⟩ : ∃ x, I r0_1 2 = x := ⟨_, rfl⟩
  have gw_r0_1_2 := rg w_r0_1_2
  refine k_iload_n C rfl rfl rfl ?_
  refine z_bipush C (z := 11) rfl rfl rfl (fun x1 ex1 => ?_)
  refine b_icmp_eq C (t := 32) rfl rfl rfl (fun c2 => ?_) (fun c2 => ?_)
  · skip
    refine k_aload_n C rfl rfl rfl ?_
    refine g_R C rfl rfl rfl T_r0 rfl R_r0_1 ?_
    refine g_I C rfl rfl rfl T_r0_1 rfl k0_r0_1_1 ?_
    refine b_if_gt C (t := 52) rfl rfl rfl (fun c3 => ?_) (fun c3 => ?_)
    · skip
      exact k_throw C rfl rfl rfl rfl rfl rfl (Nat.le_of_ble_eq_true rfl) (Nat.le_of_ble_eq_true rfl) (Nat.le_of_ble_eq_true rfl) (Or.inr ⟨_, _, _, (by decide : 1 ∈ [0, 1]), rfl, rfl, ⟨⟨hI, (by (try simp only [z_r0_0, z_r0_1, z_r0_2, z_r0_5, z_r0_6, z_r0_7, z_r0_8, z_r0_9, z_r0_10, z_r0_11, z_r0_12, z_r0_13, z_r0_1_6, z_r0_1_7, z_r0_1_8, z_r0_1_9, z_r0_1_10]); exact Chg.rf)⟩, (fun h9 => absurd h9 (by decide)), (fun h9 => absurd h9 (by decide)), (fun _ => by simp only [z_r0_0, z_r0_1, z_r0_2, z_r0_5, z_r0_6, z_r0_7, z_r0_8, z_r0_9, z_r0_10, z_r0_11, z_r0_12, z_r0_13, z_r0_1_6, z_r0_1_7, z_r0_1_8, z_r0_1_9, z_r0_1_10, k0_r0_1_1, k0_r0_1_2]; omega), (fun _ => by exact fun _ _ => rfl)⟩⟩)
    refine k_aload_n C rfl rfl rfl ?_
    refine g_R C rfl rfl rfl T_r0 rfl R_r0_1 ?_
    refine g_I C rfl rfl rfl T_r0_1 rfl k0_r0_1_2 ?_
    refine b_if_le C (t := 60) rfl rfl rfl (fun c4 => ?_) (fun c4 => ?_)
    · skip
      refine k_aload_n C rfl rfl rfl ?_
      refine g_R C rfl rfl rfl T_r0 rfl R_r0_1 ?_
      refine k_iload_n C rfl rfl rfl ?_
      refine z_pI C rfl rfl rfl T_r0_1 (Or.inr rfl) rfl (fun I5 uI5 => ?_)
      have hI5 : IX A T I5 := IX.f hI T_r0_1 ⟨fun h => absurd h (by decide), fun _ _ => ⟨by omega, by omega⟩⟩ uI5
      have S6 : Chg (SL [r0_1]) T [(9, 0)] I L I5 L := Chg.f List.mem_cons_self T_r0_1 uI5
      have e7 := u2_j uI5 (by decide) k0_r0_1_1
      have e8 := u2_j uI5 (by decide) k0_r0_1_2
      have e9 := u2_e uI5
      exact k_vret C rfl rfl (Nat.le_of_ble_eq_true rfl) (Nat.le_of_ble_eq_true rfl) (Or.inl ⟨_, _, rfl, rfl, by (try simp only [z_r0_0, z_r0_1, z_r0_2, z_r0_5, z_r0_6, z_r0_7, z_r0_8, z_r0_9, z_r0_10, z_r0_11, z_r0_12, z_r0_13, z_r0_1_6, z_r0_1_7, z_r0_1_8, z_r0_1_9, z_r0_1_10]); simp only [k0_r0_1_1, k0_r0_1_2]; omega, by (try simp only [z_r0_0, z_r0_1, z_r0_2, z_r0_5, z_r0_6, z_r0_7, z_r0_8, z_r0_9, z_r0_10, z_r0_11, z_r0_12, z_r0_13, z_r0_1_6, z_r0_1_7, z_r0_1_8, z_r0_1_9, z_r0_1_10]); rw [e9], hI5, (by (try simp only [z_r0_0, z_r0_1, z_r0_2, z_r0_5, z_r0_6, z_r0_7, z_r0_8, z_r0_9, z_r0_10, z_r0_11, z_r0_12, z_r0_13, z_r0_1_6, z_r0_1_7, z_r0_1_8, z_r0_1_9, z_r0_1_10]); exact (Chg.mono (Chg.up S6 (List.forall_mem_cons.mpr ⟨List.mem_of_getElem? (i := 0) rfl, fun _ h => nomatch h⟩)) (by decide)))⟩)
    exact k_throw C rfl rfl rfl rfl rfl rfl (Nat.le_of_ble_eq_true rfl) (Nat.le_of_ble_eq_true rfl) (Nat.le_of_ble_eq_true rfl) (Or.inr ⟨_, _, _, (by decide : 1 ∈ [0, 1]), rfl, rfl, ⟨⟨hI, (by (try simp only [z_r0_0, z_r0_1, z_r0_2, z_r0_5, z_r0_6, z_r0_7, z_r0_8, z_r0_9, z_r0_10, z_r0_11, z_r0_12, z_r0_13, z_r0_1_6, z_r0_1_7, z_r0_1_8, z_r0_1_9, z_r0_1_10]); exact Chg.rf)⟩, (fun h9 => absurd h9 (by decide)), (fun h9 => absurd h9 (by decide)), (fun _ => by simp only [z_r0_0, z_r0_1, z_r0_2, z_r0_5, z_r0_6, z_r0_7, z_r0_8, z_r0_9, z_r0_10, z_r0_11, z_r0_12, z_r0_13, z_r0_1_6, z_r0_1_7, z_r0_1_8, z_r0_1_9, z_r0_1_10, k0_r0_1_1, k0_r0_1_2]; omega), (fun _ => by exact fun _ _ => rfl)⟩⟩)
  refine k_iload_n C rfl rfl rfl ?_
  refine z_bipush C (z := 13) rfl rfl rfl (fun x10 ex10 => ?_)
  refine b_icmp_eq C (t := 32) rfl rfl rfl (fun c11 => ?_) (fun c11 => ?_)
  · skip
    refine k_aload_n C rfl rfl rfl ?_
    refine g_R C rfl rfl rfl T_r0 rfl R_r0_1 ?_
    refine g_I C rfl rfl rfl T_r0_1 rfl k0_r0_1_1 ?_
    refine b_if_gt C (t := 52) rfl rfl rfl (fun c12 => ?_) (fun c12 => ?_)
    · skip
      exact k_throw C rfl rfl rfl rfl rfl rfl (Nat.le_of_ble_eq_true rfl) (Nat.le_of_ble_eq_true rfl) (Nat.le_of_ble_eq_true rfl) (Or.inr ⟨_, _, _, (by decide : 1 ∈ [0, 1]), rfl, rfl, ⟨⟨hI, (by (try simp only [z_r0_0, z_r0_1, z_r0_2, z_r0_5, z_r0_6, z_r0_7, z_r0_8, z_r0_9, z_r0_10, z_r0_11, z_r0_12, z_r0_13, z_r0_1_6, z_r0_1_7, z_r0_1_8, z_r0_1_9, z_r0_1_10]); exact Chg.rf)⟩, (fun h9 => absurd h9 (by decide)), (fun h9 => absurd h9 (by decide)), (fun _ => by simp only [z_r0_0, z_r0_1, z_r0_2, z_r0_5, z_r0_6, z_r0_7, z_r0_8, z_r0_9, z_r0_10, z_r0_11, z_r0_12, z_r0_13, z_r0_1_6, z_r0_1_7, z_r0_1_8, z_r0_1_9, z_r0_1_10, k0_r0_1_1, k0_r0_1_2]; omega), (fun _ => by exact fun _ _ => rfl)⟩⟩)
    refine k_aload_n C rfl rfl rfl ?_
    refine g_R C rfl rfl rfl T_r0 rfl R_r0_1 ?_
    refine g_I C rfl rfl rfl T_r0_1 rfl k0_r0_1_2 ?_
    refine b_if_le C (t := 60) rfl rfl rfl (fun c13 => ?_) (fun c13 => ?_)
    · skip
      refine k_aload_n C rfl rfl rfl ?_
      refine g_R C rfl rfl rfl T_r0 rfl R_r0_1 ?_
      refine k_iload_n C rfl rfl rfl ?_
      refine z_pI C rfl rfl rfl T_r0_1 (Or.inr rfl) rfl (fun I14 uI14 => ?_)
      have hI14 : IX A T I14 := IX.f hI T_r0_1 ⟨fun h => absurd h (by decide), fun _ _ => ⟨by omega, by omega⟩⟩ uI14
      have S15 : Chg (SL [r0_1]) T [(9, 0)] I L I14 L := Chg.f List.mem_cons_self T_r0_1 uI14
      have e16 := u2_j uI14 (by decide) k0_r0_1_1
      have e17 := u2_j uI14 (by decide) k0_r0_1_2
      have e18 := u2_e uI14
      exact k_vret C rfl rfl (Nat.le_of_ble_eq_true rfl) (Nat.le_of_ble_eq_true rfl) (Or.inl ⟨_, _, rfl, rfl, by (try simp only [z_r0_0, z_r0_1, z_r0_2, z_r0_5, z_r0_6, z_r0_7, z_r0_8, z_r0_9, z_r0_10, z_r0_11, z_r0_12, z_r0_13, z_r0_1_6, z_r0_1_7, z_r0_1_8, z_r0_1_9, z_r0_1_10]); simp only [k0_r0_1_1, k0_r0_1_2]; omega, by (try simp only [z_r0_0, z_r0_1, z_r0_2, z_r0_5, z_r0_6, z_r0_7, z_r0_8, z_r0_9, z_r0_10, z_r0_11, z_r0_12, z_r0_13, z_r0_1_6, z_r0_1_7, z_r0_1_8, z_r0_1_9, z_r0_1_10]); rw [e18], hI14, (by (try simp only [z_r0_0, z_r0_1, z_r0_2, z_r0_5, z_r0_6, z_r0_7, z_r0_8, z_r0_9, z_r0_10, z_r0_11, z_r0_12, z_r0_13, z_r0_1_6, z_r0_1_7, z_r0_1_8, z_r0_1_9, z_r0_1_10]); exact (Chg.mono (Chg.up S15 (List.forall_mem_cons.mpr ⟨List.mem_of_getElem? (i := 0) rfl, fun _ h => nomatch h⟩)) (by decide)))⟩)
    exact k_throw C rfl rfl rfl rfl rfl rfl (Nat.le_of_ble_eq_true rfl) (Nat.le_of_ble_eq_true rfl) (Nat.le_of_ble_eq_true rfl) (Or.inr ⟨_, _, _, (by decide : 1 ∈ [0, 1]), rfl, rfl, ⟨⟨hI, (by (try simp only [z_r0_0, z_r0_1, z_r0_2, z_r0_5, z_r0_6, z_r0_7, z_r0_8, z_r0_9, z_r0_10, z_r0_11, z_r0_12, z_r0_13, z_r0_1_6, z_r0_1_7, z_r0_1_8, z_r0_1_9, z_r0_1_10]); exact Chg.rf)⟩, (fun h9 => absurd h9 (by decide)), (fun h9 => absurd h9 (by decide)), (fun _ => by simp only [z_r0_0, z_r0_1, z_r0_2, z_r0_5, z_r0_6, z_r0_7, z_r0_8, z_r0_9, z_r0_10, z_r0_11, z_r0_12, z_r0_13, z_r0_1_6, z_r0_1_7, z_r0_1_8, z_r0_1_9, z_r0_1_10, k0_r0_1_1, k0_r0_1_2]; omega), (fun _ => by exact fun _ _ => rfl)⟩⟩)
  refine k_iload_n C rfl rfl rfl ?_
  refine z_bipush C (z := 17) rfl rfl rfl (fun x19 ex19 => ?_)
  refine b_icmp_eq C (t := 32) rfl rfl rfl (fun c20 => ?_) (fun c20 => ?_)
  · skip
    refine k_aload_n C rfl rfl rfl ?_
    refine g_R C rfl rfl rfl T_r0 rfl R_r0_1 ?_
    refine g_I C rfl rfl rfl T_r0_1 rfl k0_r0_1_1 ?_
    refine b_if_gt C (t := 52) rfl rfl rfl (fun c21 => ?_) (fun c21 => ?_)
    · skip
      exact k_throw C rfl rfl rfl rfl rfl rfl (Nat.le_of_ble_eq_true rfl) (Nat.le_of_ble_eq_true rfl) (Nat.le_of_ble_eq_true rfl) (Or.inr ⟨_, _, _, (by decide : 1 ∈ [0, 1]), rfl, rfl, ⟨⟨hI, (by (try simp only [z_r0_0, z_r0_1, z_r0_2, z_r0_5, z_r0_6, z_r0_7, z_r0_8, z_r0_9, z_r0_10, z_r0_11, z_r0_12, z_r0_13, z_r0_1_6, z_r0_1_7, z_r0_1_8, z_r0_1_9, z_r0_1_10]); exact Chg.rf)⟩, (fun h9 => absurd h9 (by decide)), (fun h9 => absurd h9 (by decide)), (fun _ => by simp only [z_r0_0, z_r0_1, z_r0_2, z_r0_5, z_r0_6, z_r0_7, z_r0_8, z_r0_9, z_r0_10, z_r0_11, z_r0_12, z_r0_13, z_r0_1_6, z_r0_1_7, z_r0_1_8, z_r0_1_9, z_r0_1_10, k0_r0_1_1, k0_r0_1_2]; omega), (fun _ => by exact fun _ _ => rfl)⟩⟩)
    refine k_aload_n C rfl rfl rfl ?_
    refine g_R C rfl rfl rfl T_r0 rfl R_r0_1 ?_
    refine g_I C rfl rfl rfl T_r0_1 rfl k0_r0_1_2 ?_
    refine b_if_le C (t := 60) rfl rfl rfl (fun c22 => ?_) (fun c22 => ?_)
    · skip
      refine k_aload_n C rfl rfl rfl ?_
      refine g_R C rfl rfl rfl T_r0 rfl R_r0_1 ?_
      refine k_iload_n C rfl rfl rfl ?_
      refine z_pI C rfl rfl rfl T_r0_1 (Or.inr rfl) rfl (fun I23 uI23 => ?_)
      have hI23 : IX A T I23 := IX.f hI T_r0_1 ⟨fun h => absurd h (by decide), fun _ _ => ⟨by omega, by omega⟩⟩ uI23
      have S24 : Chg (SL [r0_1]) T [(9, 0)] I L I23 L := Chg.f List.mem_cons_self T_r0_1 uI23
      have e25 := u2_j uI23 (by decide) k0_r0_1_1
      have e26 := u2_j uI23 (by decide) k0_r0_1_2
      have e27 := u2_e uI23
      exact k_vret C rfl rfl (Nat.le_of_ble_eq_true rfl) (Nat.le_of_ble_eq_true rfl) (Or.inl ⟨_, _, rfl, rfl, by (try simp only [z_r0_0, z_r0_1, z_r0_2, z_r0_5, z_r0_6, z_r0_7, z_r0_8, z_r0_9, z_r0_10, z_r0_11, z_r0_12, z_r0_13, z_r0_1_6, z_r0_1_7, z_r0_1_8, z_r0_1_9, z_r0_1_10]); simp only [k0_r0_1_1, k0_r0_1_2]; omega, by (try simp only [z_r0_0, z_r0_1, z_r0_2, z_r0_5, z_r0_6, z_r0_7, z_r0_8, z_r0_9, z_r0_10, z_r0_11, z_r0_12, z_r0_13, z_r0_1_6, z_r0_1_7, z_r0_1_8, z_r0_1_9, z_r0_1_10]); rw [e27], hI23, (by (try simp only [z_r0_0, z_r0_1, z_r0_2, z_r0_5, z_r0_6, z_r0_7, z_r0_8, z_r0_9, z_r0_10, z_r0_11, z_r0_12, z_r0_13, z_r0_1_6, z_r0_1_7, z_r0_1_8, z_r0_1_9, z_r0_1_10]); exact (Chg.mono (Chg.up S24 (List.forall_mem_cons.mpr ⟨List.mem_of_getElem? (i := 0) rfl, fun _ h => nomatch h⟩)) (by decide)))⟩)
    exact k_throw C rfl rfl rfl rfl rfl rfl (Nat.le_of_ble_eq_true rfl) (Nat.le_of_ble_eq_true rfl) (Nat.le_of_ble_eq_true rfl) (Or.inr ⟨_, _, _, (by decide : 1 ∈ [0, 1]), rfl, rfl, ⟨⟨hI, (by (try simp only [z_r0_0, z_r0_1, z_r0_2, z_r0_5, z_r0_6, z_r0_7, z_r0_8, z_r0_9, z_r0_10, z_r0_11, z_r0_12, z_r0_13, z_r0_1_6, z_r0_1_7, z_r0_1_8, z_r0_1_9, z_r0_1_10]); exact Chg.rf)⟩, (fun h9 => absurd h9 (by decide)), (fun h9 => absurd h9 (by decide)), (fun _ => by simp only [z_r0_0, z_r0_1, z_r0_2, z_r0_5, z_r0_6, z_r0_7, z_r0_8, z_r0_9, z_r0_10, z_r0_11, z_r0_12, z_r0_13, z_r0_1_6, z_r0_1_7, z_r0_1_8, z_r0_1_9, z_r0_1_10, k0_r0_1_1, k0_r0_1_2]; omega), (fun _ => by exact fun _ _ => rfl)⟩⟩)
  refine k_iload_n C rfl rfl rfl ?_
  refine z_bipush C (z := 19) rfl rfl rfl (fun x28 ex28 => ?_)
  refine b_icmp_eq C (t := 32) rfl rfl rfl (fun c29 => ?_) (fun c29 => ?_)
  · skip
    refine k_aload_n C rfl rfl rfl ?_
    refine g_R C rfl rfl rfl T_r0 rfl R_r0_1 ?_
    refine g_I C rfl rfl rfl T_r0_1 rfl k0_r0_1_1 ?_
    refine b_if_gt C (t := 52) rfl rfl rfl (fun c30 => ?_) (fun c30 => ?_)
    · skip
      exact k_throw C rfl rfl rfl rfl rfl rfl (Nat.le_of_ble_eq_true rfl) (Nat.le_of_ble_eq_true rfl) (Nat.le_of_ble_eq_true rfl) (Or.inr ⟨_, _, _, (by decide : 1 ∈ [0, 1]), rfl, rfl, ⟨⟨hI, (by (try simp only [z_r0_0, z_r0_1, z_r0_2, z_r0_5, z_r0_6, z_r0_7, z_r0_8, z_r0_9, z_r0_10, z_r0_11, z_r0_12, z_r0_13, z_r0_1_6, z_r0_1_7, z_r0_1_8, z_r0_1_9, z_r0_1_10]); exact Chg.rf)⟩, (fun h9 => absurd h9 (by decide)), (fun h9 => absurd h9 (by decide)), (fun _ => by simp only [z_r0_0, z_r0_1, z_r0_2, z_r0_5, z_r0_6, z_r0_7, z_r0_8, z_r0_9, z_r0_10, z_r0_11, z_r0_12, z_r0_13, z_r0_1_6, z_r0_1_7, z_r0_1_8, z_r0_1_9, z_r0_1_10, k0_r0_1_1, k0_r0_1_2]; omega), (fun _ => by exact fun _ _ => rfl)⟩⟩)
    refine k_aload_n C rfl rfl rfl ?_
    refine g_R C rfl rfl rfl T_r0 rfl R_r0_1 ?_
    refine g_I C rfl rfl rfl T_r0_1 rfl k0_r0_1_2 ?_
    refine b_if_le C (t := 60) rfl rfl rfl (fun c31 => ?_) (fun c31 => ?_)
    · skip
      refine k_aload_n C rfl rfl rfl ?_
      refine g_R C rfl rfl rfl T_r0 rfl R_r0_1 ?_
      refine k_iload_n C rfl rfl rfl ?_
      refine z_pI C rfl rfl rfl T_r0_1 (Or.inr rfl) rfl (fun I32 uI32 => ?_)
      have hI32 : IX A T I32 := IX.f hI T_r0_1 ⟨fun h => absurd h (by decide), fun _ _ => ⟨by omega, by omega⟩⟩ uI32
      have S33 : Chg (SL [r0_1]) T [(9, 0)] I L I32 L := Chg.f List.mem_cons_self T_r0_1 uI32
      have e34 := u2_j uI32 (by decide) k0_r0_1_1
      have e35 := u2_j uI32 (by decide) k0_r0_1_2
      have e36 := u2_e uI32
      exact k_vret C rfl rfl (Nat.le_of_ble_eq_true rfl) (Nat.le_of_ble_eq_true rfl) (Or.inl ⟨_, _, rfl, rfl, by (try simp only [z_r0_0, z_r0_1, z_r0_2, z_r0_5, z_r0_6, z_r0_7, z_r0_8, z_r0_9, z_r0_10, z_r0_11, z_r0_12, z_r0_13, z_r0_1_6, z_r0_1_7, z_r0_1_8, z_r0_1_9, z_r0_1_10]); simp only [k0_r0_1_1, k0_r0_1_2]; omega, by (try simp only [z_r0_0, z_r0_1, z_r0_2, z_r0_5, z_r0_6, z_r0_7, z_r0_8, z_r0_9, z_r0_10, z_r0_11, z_r0_12, z_r0_13, z_r0_1_6, z_r0_1_7, z_r0_1_8, z_r0_1_9, z_r0_1_10]); rw [e36], hI32, (by (try simp only [z_r0_0, z_r0_1, z_r0_2, z_r0_5, z_r0_6, z_r0_7, z_r0_8, z_r0_9, z_r0_10, z_r0_11, z_r0_12, z_r0_13, z_r0_1_6, z_r0_1_7, z_r0_1_8, z_r0_1_9, z_r0_1_10]); exact (Chg.mono (Chg.up S33 (List.forall_mem_cons.mpr ⟨List.mem_of_getElem? (i := 0) rfl, fun _ h => nomatch h⟩)) (by decide)))⟩)
    exact k_throw C rfl rfl rfl rfl rfl rfl (Nat.le_of_ble_eq_true rfl) (Nat.le_of_ble_eq_true rfl) (Nat.le_of_ble_eq_true rfl) (Or.inr ⟨_, _, _, (by decide : 1 ∈ [0, 1]), rfl, rfl, ⟨⟨hI, (by (try simp only [z_r0_0, z_r0_1, z_r0_2, z_r0_5, z_r0_6, z_r0_7, z_r0_8, z_r0_9, z_r0_10, z_r0_11, z_r0_12, z_r0_13, z_r0_1_6, z_r0_1_7, z_r0_1_8, z_r0_1_9, z_r0_1_10]); exact Chg.rf)⟩, (fun h9 => absurd h9 (by decide)), (fun h9 => absurd h9 (by decide)), (fun _ => by simp only [z_r0_0, z_r0_1, z_r0_2, z_r0_5, z_r0_6, z_r0_7, z_r0_8, z_r0_9, z_r0_10, z_r0_11, z_r0_12, z_r0_13, z_r0_1_6, z_r0_1_7, z_r0_1_8, z_r0_1_9, z_r0_1_10, k0_r0_1_1, k0_r0_1_2]; omega), (fun _ => by exact fun _ _ => rfl)⟩⟩)
  exact k_throw C rfl rfl rfl rfl rfl rfl (Nat.le_of_ble_eq_true rfl) (Nat.le_of_ble_eq_true rfl) (Nat.le_of_ble_eq_true rfl) (Or.inr ⟨_, _, _, (by decide : 0 ∈ [0, 1]), rfl, rfl, ⟨⟨hI, (by (try simp only [z_r0_0, z_r0_1, z_r0_2, z_r0_5, z_r0_6, z_r0_7, z_r0_8, z_r0_9, z_r0_10, z_r0_11, z_r0_12, z_r0_13, z_r0_1_6, z_r0_1_7, z_r0_1_8, z_r0_1_9, z_r0_1_10]); exact Chg.rf)⟩, (fun _ => by omega), (fun _ => by exact fun _ _ => rfl), (fun h9 => absurd h9 (by decide)), (fun h9 => absurd h9 (by decide))⟩⟩)

theorem s_X11_end_x {d : Nat} {T N : Nat → Nat} {I : IT} {L : LT} {R : RT} {A B : Nat → Prop} {r0 : Nat} {n1 : Int32} (hS : SUB B A) (hI : IX A T I) (H_r0 : (hs_LF T N R A B) r0) : Ex (d + 1) 127 [.ref r0, .int n1] (T, N, I, L, R) 0 0 (pI T N R (fun x9 I9 L9 => (0 ≤ x9.toInt) ∧ (x9.toInt ≤ 1) ∧ ((n1.toInt < 0 ∨ (I (rA R r0 0) 1).toInt < n1.toInt) ∧ x9.toInt = 0 ∧ (I9 (rA R r0 0) 1).toInt = (I (rA R r0 0) 1).toInt ∨ 0 ≤ n1.toInt ∧ n1.toInt ≤ (I (rA R r0 0) 1).toInt ∧ x9.toInt = 1 ∧ (I9 (rA R r0 0) 1).toInt = n1.toInt) ∧ (IX A T I9 ∧ Chg (SL [(rA R r0 0)]) T [(5, 1)] I L I9 L9))) := by
  refine ⟨_, rfl, Nat.le_of_ble_eq_true rfl, fun V C S => ?_⟩
  show V 0 [(0, .ref r0), (1, .int n1)] [] (T, N, I, L, R) 0 0
  have gn1 := rg n1
  obtain ⟨T_r0, A_r0, B_r0, ⟨r0_0, R_r0_0, H_r0_0⟩, ⟨r0_1, R_r0_1, H_r0_1⟩, ⟨r0_2, R_r0_2, H_r0_2⟩, ⟨r0_5, R_r0_5, H_r0_5⟩, ⟨r0_6, R_r0_6, H_r0_6⟩, ⟨r0_7, R_r0_7, H_r0_7⟩, ⟨r0_8, R_r0_8, H_r0_8⟩, ⟨r0_9, R_r0_9, H_r0_9⟩, ⟨r0_10, R_r0_10, H_r0_10⟩, ⟨r0_11, R_r0_11, H_r0_11⟩, ⟨r0_12, R_r0_12, H_r0_12⟩, ⟨r0_13, R_r0_13, H_r0_13⟩⟩ := id H_r0
  have z_r0_0 : rA R r0 0 = r0_0 := rA_e R_r0_0
  have z_r0_1 : rA R r0 1 = r0_1 := rA_e R_r0_1
  have z_r0_2 : rA R r0 2 = r0_2 := rA_e R_r0_2
  have z_r0_5 : rA R r0 5 = r0_5 := rA_e R_r0_5
  have z_r0_6 : rA R r0 6 = r0_6 := rA_e R_r0_6
  have z_r0_7 : rA R r0 7 = r0_7 := rA_e R_r0_7
  have z_r0_8 : rA R r0 8 = r0_8 := rA_e R_r0_8
  have z_r0_9 : rA R r0 9 = r0_9 := rA_e R_r0_9
  have z_r0_10 : rA R r0 10 = r0_10 := rA_e R_r0_10
  have z_r0_11 : rA R r0 11 = r0_11 := rA_e R_r0_11
  have z_r0_12 : rA R r0 12 = r0_12 := rA_e R_r0_12
  have z_r0_13 : rA R r0 13 = r0_13 := rA_e R_r0_13
  obtain ⟨T_r0_0, A_r0_0, B_r0_0, ⟨r0_0_0, R_r0_0_0, H_r0_0_0⟩, ⟨r0_0_2, R_r0_0_2, H_r0_0_2⟩⟩ := id H_r0_0
  have z_r0_0_0 : rA R r0_0 0 = r0_0_0 := rA_e R_r0_0_0
  have z_r0_0_2 : rA R r0_0 2 = r0_0_2 := rA_e R_r0_0_2
  obtain ⟨w_r0_0_1, k0_r0_0_1⟩ : ∃ x, I r0_0 1 = x := ⟨_, rfl⟩
  have gw_r0_0_1 := rg w_r0_0_1
  refine k_iload_n C rfl rfl rfl ?_
  refine b_if_lt C (t := 15) rfl rfl rfl (fun c1 => ?_) (fun c1 => ?_)
  · skip
    refine z_iconst C (z := 0) rfl rfl rfl (fun x2 ex2 => ?_)
    exact k_iret C rfl (Or.inr ⟨rfl, z01 (by omega) (by omega)⟩) (Nat.le_of_ble_eq_true rfl) (Nat.le_of_ble_eq_true rfl) ⟨_, _, _, rfl, rfl, by omega, by omega, by (try simp only [z_r0_0, z_r0_1, z_r0_2, z_r0_5, z_r0_6, z_r0_7, z_r0_8, z_r0_9, z_r0_10, z_r0_11, z_r0_12, z_r0_13, z_r0_0_0, z_r0_0_2]); simp only [k0_r0_0_1, and_true]; omega, hI, (by (try simp only [z_r0_0, z_r0_1, z_r0_2, z_r0_5, z_r0_6, z_r0_7, z_r0_8, z_r0_9, z_r0_10, z_r0_11, z_r0_12, z_r0_13, z_r0_0_0, z_r0_0_2]); exact Chg.rf)⟩
  refine k_iload_n C rfl rfl rfl ?_
  refine k_aload_n C rfl rfl rfl ?_
  refine g_R C rfl rfl rfl T_r0 rfl R_r0_0 ?_
  refine g_I C rfl rfl rfl T_r0_0 rfl k0_r0_0_1 ?_
  refine b_icmp_le C (t := 17) rfl rfl rfl (fun c3 => ?_) (fun c3 => ?_)
  · skip
    refine k_aload_n C rfl rfl rfl ?_
    refine g_R C rfl rfl rfl T_r0 rfl R_r0_0 ?_
    refine k_iload_n C rfl rfl rfl ?_
    refine z_pI C rfl rfl rfl T_r0_0 (Or.inr rfl) rfl (fun I4 uI4 => ?_)
    have hI4 : IX A T I4 := IX.f hI T_r0_0 (boX.tr (by decide) (by decide)) uI4
    have S5 : Chg (SL [r0_0]) T [(5, 1)] I L I4 L := Chg.f List.mem_cons_self T_r0_0 uI4
    have e6 := u2_e uI4
    refine z_iconst C (z := 1) rfl rfl rfl (fun x7 ex7 => ?_)
    exact k_iret C rfl (Or.inr ⟨rfl, z01 (by omega) (by omega)⟩) (Nat.le_of_ble_eq_true rfl) (Nat.le_of_ble_eq_true rfl) ⟨_, _, _, rfl, rfl, by omega, by omega, by (try simp only [z_r0_0, z_r0_1, z_r0_2, z_r0_5, z_r0_6, z_r0_7, z_r0_8, z_r0_9, z_r0_10, z_r0_11, z_r0_12, z_r0_13, z_r0_0_0, z_r0_0_2]); have h9 := e6; simp only [h9, k0_r0_0_1, and_true]; omega, hI4, (by (try simp only [z_r0_0, z_r0_1, z_r0_2, z_r0_5, z_r0_6, z_r0_7, z_r0_8, z_r0_9, z_r0_10, z_r0_11, z_r0_12, z_r0_13, z_r0_0_0, z_r0_0_2]); exact (Chg.mono (Chg.up S5 (List.forall_mem_cons.mpr ⟨List.mem_of_getElem? (i := 0) rfl, fun _ h => nomatch h⟩)) (by decide)))⟩
  refine z_iconst C (z := 0) rfl rfl rfl (fun x8 ex8 => ?_)
  exact k_iret C rfl (Or.inr ⟨rfl, z01 (by omega) (by omega)⟩) (Nat.le_of_ble_eq_true rfl) (Nat.le_of_ble_eq_true rfl) ⟨_, _, _, rfl, rfl, by omega, by omega, by (try simp only [z_r0_0, z_r0_1, z_r0_2, z_r0_5, z_r0_6, z_r0_7, z_r0_8, z_r0_9, z_r0_10, z_r0_11, z_r0_12, z_r0_13, z_r0_0_0, z_r0_0_2]); simp only [k0_r0_0_1, and_true]; omega, hI, (by (try simp only [z_r0_0, z_r0_1, z_r0_2, z_r0_5, z_r0_6, z_r0_7, z_r0_8, z_r0_9, z_r0_10, z_r0_11, z_r0_12, z_r0_13, z_r0_0_0, z_r0_0_2]); exact Chg.rf)⟩

