/-! the reference: what is told, exactly -/
def dtR (p a b c d : Int) : Int := (((a % p) * (d % p)).tmod p - ((b % p) * (c % p)).tmod p + p).tmod p
theorem DTN.r {x a b c d p u v w z : Int} (h : DTN x a b c d p) (ha : a = u % p) (hb : b = v % p) (hc : c = w % p) (hd : d = z % p) : x = dtR p u v w z := by
  subst ha; subst hb; subst hc; subst hd; exact h
def CPA (I9 I : IT) (b a : Nat) : Prop := ∀ r, r < 3606 → I9 b r = I a r
theorem CPA.of {I9 I : IT} {b a : Nat} {n : Int} (h : CPW I9 a b n) (hn : 3606 ≤ n) (e : I9 a = I a) : CPA I9 I b a := fun r hr => by rw [h r (by omega), e]
theorem CPA.rf {I9 I : IT} {a : Nat} (e : I9 a = I a) : CPA I9 I a a := fun r _ => by rw [e]
def BKD (I9 I : IT) (w im : Nat) (x f : Int) : Prop := (x = 0 ∧ f = 0 ∧ CPA I9 I w w) ∨ (x = 1 ∧ f ≠ 0 ∧ CPA I9 I w im)
def TBD (dt c c9 t x : Int) : Prop := (dt = 0 ∧ t = 1 ∧ c9 = c) ∨ (dt ≠ 0 ∧ c = 8 ∧ t = 2 ∧ c9 = c) ∨ (dt ≠ 0 ∧ c < 8 ∧ t = 0 ∧ x = c ∧ c9 = c + 1)
theorem a_X12_mod_e {d : Nat} {T N : Nat → Nat} {I : IT} {L : LT} {R : RT} {A : Nat → Prop} {r0 : Nat} {l1 : Int64} (hI : IM R r0 I) (H_r0 : (h_MD T N R A) r0) : Ex (d + 3) 192 [.ref r0, .long l1] (T, N, I, L, R) 0 0 (pI T N R (fun x9 I9 L9 => (0 ≤ x9.toInt) ∧ (x9.toInt ≤ 18) ∧ (∀ a1, R r0 1 = some a1 → x9.toInt < (I a1 0).toInt) ∧ (∀ a1, R r0 1 = some a1 → x9.toInt = l1.toInt % (I a1 0).toInt) ∧ (I = I9 ∧ L = L9))) := by
  refine ⟨_, rfl, Nat.le_of_ble_eq_true rfl, fun V C S => ?_⟩
  show V 0 [(0, .ref r0), (1, .long l1)] [] (T, N, I, L, R) 0 0
  have T_r0 := H_r0.1
  refine k_lload_n C rfl rfl rfl ?_
  refine k_aload_n C rfl rfl rfl ?_
  refine c_VI C (a_X12_p hI H_r0) rfl rfl rfl rfl rfl ⟨_, rfl, rfl, T_r0, Nat.le_of_ble_eq_true rfl⟩ rfl rfl (Nat.le_of_ble_eq_true rfl) (Nat.le_of_ble_eq_true rfl) (Nat.le_of_ble_eq_true rfl) ?_
  rintro x1 _ _ ⟨b0, b1, hp, rfl, rfl⟩
  refine z_i2l C rfl rfl (fun w e => ?_)
  refine c_SL C (e_fmL (by omega)) rfl rfl rfl rfl rfl rfl rfl (Nat.le_of_ble_eq_true rfl) (Nat.le_of_ble_eq_true rfl) (Nat.le_of_ble_eq_true rfl) ?_
  rintro y _ _ ⟨hI8, hL9, h⟩
  have hI8 := hI8.symm; subst hI8; have hL9 := hL9.symm; subst hL9
  have h2 := md_lt h (by omega)
  refine k_l2i C rfl rfl ?_
  have h3 := l2i_eq (x := y) ⟨by omega, by omega⟩
  exact k_iret C rfl (Or.inl rfl) (Nat.le_of_ble_eq_true rfl) (Nat.le_of_ble_eq_true rfl) ⟨_, _, _, rfl, rfl, by omega, by omega, fun a1 h1 => by have := hp a1 h1; omega, fun a1 h1 => by rw [h3, h, e, hp a1 h1], rfl, rfl⟩
theorem a_X12_throwsIf_e {d : Nat} {T N : Nat → Nat} {I : IT} {L : LT} {R : RT} {A : Nat → Prop} {r0 : Nat} {n1 n2 : Int32} (hI : IM R r0 I) (H_r0 : (h_MD T N R A) r0) (b0_n1 : 0 ≤ n1.toInt) (b1_n1 : n1.toInt ≤ 1) : Ex (d + 1) 178 [.ref r0, .int n1, .int n2] (T, N, I, L, R) 0 0 (pI T N R (fun x9 I9 L9 => (0 ≤ x9.toInt) ∧ (x9.toInt ≤ 1) ∧ (x9.toInt = n1.toInt) ∧ (n1.toInt = 1 ∧ (I9 r0 0).toInt = n2.toInt ∨ n1.toInt = 0 ∧ (I9 r0 0).toInt = (I r0 0).toInt) ∧ (IM R r0 I9 ∧ CM A R r0 [0] [] I L I9 L9))) := by
  refine ⟨_, rfl, Nat.le_of_ble_eq_true rfl, fun V C S => ?_⟩
  show V 0 [(0, .ref r0), (1, .int n1), (2, .int n2)] [] (T, N, I, L, R) 0 0
  have gn1 := rg n1
  have gn2 := rg n2
  obtain ⟨T_r0, A_r0, ⟨r0_1, R_r0_1, H_r0_1⟩, ⟨r0_2, R_r0_2, H_r0_2⟩, ⟨r0_4, R_r0_4, H_r0_4⟩, ⟨r0_5, R_r0_5, H_r0_5⟩, ⟨r0_10, R_r0_10, H_r0_10⟩, ⟨r0_18, R_r0_18, H_r0_18⟩, ⟨r0_20, R_r0_20, H_r0_20⟩, ⟨r0_21, R_r0_21, H_r0_21⟩, ⟨r0_22, R_r0_22, H_r0_22⟩, ⟨r0_23, R_r0_23, H_r0_23⟩, ⟨r0_25, R_r0_25, H_r0_25⟩, ⟨r0_26, R_r0_26, H_r0_26⟩, ⟨r0_27, R_r0_27, H_r0_27⟩, ⟨r0_28, R_r0_28, H_r0_28⟩, ⟨r0_34, R_r0_34, H_r0_34⟩, J_r0, Y_r0⟩ := id H_r0
  have G_r0 : mF T R r0 := ⟨J_r0, Y_r0, T_r0⟩
  obtain ⟨w_r0_0, k0_r0_0⟩ : ∃ x, I r0 0 = x := ⟨_, rfl⟩
  have gw_r0_0 := rg w_r0_0
  refine k_iload_n C rfl rfl rfl ?_
  refine b_if_eq C (t := 9) rfl rfl rfl (fun c1 => ?_) (fun c1 => ?_)
  · skip
    refine k_iload_n C rfl rfl rfl ?_
    exact k_iret C rfl (Or.inr ⟨rfl, z01 (by omega) (by omega)⟩) (Nat.le_of_ble_eq_true rfl) (Nat.le_of_ble_eq_true rfl) ⟨_, _, _, rfl, rfl, by omega, by omega, by first | omega | (simp only [k0_r0_0, and_true, true_and, or_true, true_or, and_false, false_and, or_false, false_or] <;> omega), by first | omega | (simp only [k0_r0_0, and_true, true_and, or_true, true_or, and_false, false_and, or_false, false_or] <;> omega), hI, CM.rf⟩
  refine k_aload_n C rfl rfl rfl ?_
  refine k_iload_n C rfl rfl rfl ?_
  refine z_pI C rfl rfl rfl T_r0 (Or.inr rfl) rfl (fun I2 uI2 => ?_)
  have hI2 : IM R r0 I2 := IM.fld hI G_r0 ⟨(fun h => absurd h (by decide)), (fun h => absurd h (by decide)), (fun h => absurd h (by decide)), (fun h => absurd h (by decide)), (fun h => absurd h (by decide))⟩ uI2
  have S3 : CM A R r0 [0] [] I L I2 L := CM.f G_r0 A_r0 uI2
  have e5 := u2_e uI2
  refine k_iload_n C rfl rfl rfl ?_
  exact k_iret C rfl (Or.inr ⟨rfl, z01 (by omega) (by omega)⟩) (Nat.le_of_ble_eq_true rfl) (Nat.le_of_ble_eq_true rfl) ⟨_, _, _, rfl, rfl, by omega, by omega, by first | omega | (simp only [e5, k0_r0_0, and_true, true_and, or_true, true_or, and_false, false_and, or_false, false_or] <;> omega), by first | omega | (simp only [e5, k0_r0_0, and_true, true_and, or_true, true_or, and_false, false_and, or_false, false_or] <;> omega), hI2, (CM.mono S3 (by decide) (by decide))⟩

theorem a_X12_noForm_e {d : Nat} {T N : Nat → Nat} {I : IT} {L : LT} {R : RT} {A : Nat → Prop} {r0 : Nat} {n1 : Int32} (hI : IM R r0 I) (H_r0 : (h_MD T N R A) r0) : Ex (d + 2) 184 [.ref r0, .int n1] (T, N, I, L, R) 0 0 (pI T N R (fun x9 I9 L9 => (0 ≤ x9.toInt) ∧ (x9.toInt ≤ 1) ∧ (∀ a1, R r0 1 = some a1 → x9.toInt = 1 ∧ (n1.toInt < 0 ∨ (I a1 1).toInt ≤ n1.toInt) ∨ x9.toInt = 0 ∧ 0 ≤ n1.toInt ∧ n1.toInt < (I a1 1).toInt) ∧ (I = I9 ∧ L = L9))) := by
  refine ⟨_, rfl, Nat.le_of_ble_eq_true rfl, fun V C S => ?_⟩
  show V 0 [(0, .ref r0), (1, .int n1)] [] (T, N, I, L, R) 0 0
  have gn1 := rg n1
  obtain ⟨T_r0, A_r0, ⟨r0_1, R_r0_1, H_r0_1⟩, ⟨r0_2, R_r0_2, H_r0_2⟩, ⟨r0_4, R_r0_4, H_r0_4⟩, ⟨r0_5, R_r0_5, H_r0_5⟩, ⟨r0_10, R_r0_10, H_r0_10⟩, ⟨r0_18, R_r0_18, H_r0_18⟩, ⟨r0_20, R_r0_20, H_r0_20⟩, ⟨r0_21, R_r0_21, H_r0_21⟩, ⟨r0_22, R_r0_22, H_r0_22⟩, ⟨r0_23, R_r0_23, H_r0_23⟩, ⟨r0_25, R_r0_25, H_r0_25⟩, ⟨r0_26, R_r0_26, H_r0_26⟩, ⟨r0_27, R_r0_27, H_r0_27⟩, ⟨r0_28, R_r0_28, H_r0_28⟩, ⟨r0_34, R_r0_34, H_r0_34⟩, J_r0, Y_r0⟩ := id H_r0
  have G_r0 : mF T R r0 := ⟨J_r0, Y_r0, T_r0⟩
  obtain ⟨w_r0_1_1, k0_r0_1_1⟩ : ∃ x, I r0_1 1 = x := ⟨_, rfl⟩
  have gw_r0_1_1 := rg w_r0_1_1
  have ow_r0_1_1 := IM.c1 hI R_r0_1 k0_r0_1_1
  refine k_iload_n C rfl rfl rfl ?_
  refine z_iconst C (z := 0) rfl rfl rfl (fun x1 ex1 => ?_)
  refine k_aload_n C rfl rfl rfl ?_
  refine g_R C rfl rfl rfl T_r0 rfl R_r0_1 ?_
  refine z_iconst C (z := 1) rfl rfl rfl (fun x2 ex2 => ?_)
  obtain ⟨T_r0_1, N_r0_1, A_r0_1⟩ := id H_r0_1
  refine a_I C rfl rfl T_r0_1 (by rw [N_r0_1]; exact vpi (by omega) (by omega)) ((congrArg (I r0_1) (nck (n := 1) (by omega))).trans k0_r0_1_1) ?_
  refine z_iconst C (z := 1) rfl rfl rfl (fun x3 ex3 => ?_)
  refine z_isub C rfl rfl ⟨by omega, by omega⟩ (fun x4 ex4 => ?_)
  have q5 : x1.toNatClampNeg = 0 := nck (by omega)
  refine c_SI C a_X12_in rfl rfl rfl rfl rfl rfl rfl (Nat.le_of_ble_eq_true rfl) (Nat.le_of_ble_eq_true rfl) (Nat.le_of_ble_eq_true rfl) ?_
  rintro x6 _ _ ⟨o0x6, o1x6, p0x6, rfl, rfl⟩
  have gx6 := rg x6
  try simp only [q5, k0_r0_1_1] at p0x6
  try have q0x6 := congrArg Int32.toInt p0x6
  refine b_if_ne C (t := 20) rfl rfl rfl (fun c7 => ?_) (fun c7 => ?_)
  · skip
    refine z_iconst C (z := 0) rfl rfl rfl (fun x8 ex8 => ?_)
    exact k_iret C rfl (Or.inr ⟨rfl, z01 (by omega) (by omega)⟩) (Nat.le_of_ble_eq_true rfl) (Nat.le_of_ble_eq_true rfl) ⟨_, _, _, rfl, rfl, by omega, by omega, fun a1 h1 => by cases (R_r0_1.symm.trans h1); first | omega | (simp only [k0_r0_1_1, and_true, true_and, or_true, true_or, and_false, false_and, or_false, false_or] <;> omega), rfl, rfl⟩
  refine z_iconst C (z := 1) rfl rfl rfl (fun x9 ex9 => ?_)
  refine k_goto C (pc2 := 21) rfl rfl ?_
  exact k_iret C rfl (Or.inr ⟨rfl, z01 (by omega) (by omega)⟩) (Nat.le_of_ble_eq_true rfl) (Nat.le_of_ble_eq_true rfl) ⟨_, _, _, rfl, rfl, by omega, by omega, fun a1 h1 => by cases (R_r0_1.symm.trans h1); first | omega | (simp only [k0_r0_1_1, and_true, true_and, or_true, true_or, and_false, false_and, or_false, false_or] <;> omega), rfl, rfl⟩

theorem a_X12_noTable_e {d : Nat} {T N : Nat → Nat} {I : IT} {L : LT} {R : RT} {A : Nat → Prop} {r0 : Nat} {n1 : Int32} (hI : IM R r0 I) (H_r0 : (h_MD T N R A) r0) : Ex (d + 2) 185 [.ref r0, .int n1] (T, N, I, L, R) 0 0 (pI T N R (fun x9 I9 L9 => (0 ≤ x9.toInt) ∧ (x9.toInt ≤ 1) ∧ (∀ a1, R r0 1 = some a1 → x9.toInt = 1 ∧ (n1.toInt < 0 ∨ (I a1 2).toInt ≤ n1.toInt) ∨ x9.toInt = 0 ∧ 0 ≤ n1.toInt ∧ n1.toInt < (I a1 2).toInt) ∧ (I = I9 ∧ L = L9))) := by
  refine ⟨_, rfl, Nat.le_of_ble_eq_true rfl, fun V C S => ?_⟩
  show V 0 [(0, .ref r0), (1, .int n1)] [] (T, N, I, L, R) 0 0
  have gn1 := rg n1
  obtain ⟨T_r0, A_r0, ⟨r0_1, R_r0_1, H_r0_1⟩, ⟨r0_2, R_r0_2, H_r0_2⟩, ⟨r0_4, R_r0_4, H_r0_4⟩, ⟨r0_5, R_r0_5, H_r0_5⟩, ⟨r0_10, R_r0_10, H_r0_10⟩, ⟨r0_18, R_r0_18, H_r0_18⟩, ⟨r0_20, R_r0_20, H_r0_20⟩, ⟨r0_21, R_r0_21, H_r0_21⟩, ⟨r0_22, R_r0_22, H_r0_22⟩, ⟨r0_23, R_r0_23, H_r0_23⟩, ⟨r0_25, R_r0_25, H_r0_25⟩, ⟨r0_26, R_r0_26, H_r0_26⟩, ⟨r0_27, R_r0_27, H_r0_27⟩, ⟨r0_28, R_r0_28, H_r0_28⟩, ⟨r0_34, R_r0_34, H_r0_34⟩, J_r0, Y_r0⟩ := id H_r0
  have G_r0 : mF T R r0 := ⟨J_r0, Y_r0, T_r0⟩
  obtain ⟨w_r0_1_2, k0_r0_1_2⟩ : ∃ x, I r0_1 2 = x := ⟨_, rfl⟩
  have gw_r0_1_2 := rg w_r0_1_2
  have ow_r0_1_2 := IM.c2 hI R_r0_1 k0_r0_1_2
  refine k_iload_n C rfl rfl rfl ?_
  refine z_iconst C (z := 0) rfl rfl rfl (fun x1 ex1 => ?_)
  refine k_aload_n C rfl rfl rfl ?_
  refine g_R C rfl rfl rfl T_r0 rfl R_r0_1 ?_
  refine z_iconst C (z := 2) rfl rfl rfl (fun x2 ex2 => ?_)
  obtain ⟨T_r0_1, N_r0_1, A_r0_1⟩ := id H_r0_1
  refine a_I C rfl rfl T_r0_1 (by rw [N_r0_1]; exact vpi (by omega) (by omega)) ((congrArg (I r0_1) (nck (n := 2) (by omega))).trans k0_r0_1_2) ?_
  refine z_iconst C (z := 1) rfl rfl rfl (fun x3 ex3 => ?_)
  refine z_isub C rfl rfl ⟨by omega, by omega⟩ (fun x4 ex4 => ?_)
  have q5 : x1.toNatClampNeg = 0 := nck (by omega)
  refine c_SI C a_X12_in rfl rfl rfl rfl rfl rfl rfl (Nat.le_of_ble_eq_true rfl) (Nat.le_of_ble_eq_true rfl) (Nat.le_of_ble_eq_true rfl) ?_
  rintro x6 _ _ ⟨o0x6, o1x6, p0x6, rfl, rfl⟩
  have gx6 := rg x6
  try simp only [q5, k0_r0_1_2] at p0x6
  try have q0x6 := congrArg Int32.toInt p0x6
  refine b_if_ne C (t := 20) rfl rfl rfl (fun c7 => ?_) (fun c7 => ?_)
  · skip
    refine z_iconst C (z := 0) rfl rfl rfl (fun x8 ex8 => ?_)
    exact k_iret C rfl (Or.inr ⟨rfl, z01 (by omega) (by omega)⟩) (Nat.le_of_ble_eq_true rfl) (Nat.le_of_ble_eq_true rfl) ⟨_, _, _, rfl, rfl, by omega, by omega, fun a1 h1 => by cases (R_r0_1.symm.trans h1); first | omega | (simp only [k0_r0_1_2, and_true, true_and, or_true, true_or, and_false, false_and, or_false, false_or] <;> omega), rfl, rfl⟩
  refine z_iconst C (z := 1) rfl rfl rfl (fun x9 ex9 => ?_)
  refine k_goto C (pc2 := 21) rfl rfl ?_
  exact k_iret C rfl (Or.inr ⟨rfl, z01 (by omega) (by omega)⟩) (Nat.le_of_ble_eq_true rfl) (Nat.le_of_ble_eq_true rfl) ⟨_, _, _, rfl, rfl, by omega, by omega, fun a1 h1 => by cases (R_r0_1.symm.trans h1); first | omega | (simp only [k0_r0_1_2, and_true, true_and, or_true, true_or, and_false, false_and, or_false, false_or] <;> omega), rfl, rfl⟩

theorem a_X12_end_e {d : Nat} {T N : Nat → Nat} {I : IT} {L : LT} {R : RT} {A : Nat → Prop} {r0 : Nat} {n1 : Int32} (hI : IM R r0 I) (H_r0 : (h_MD T N R A) r0) : Ex (d + 1) 217 [.ref r0, .int n1] (T, N, I, L, R) 0 0 (pI T N R (fun x9 I9 L9 => (0 ≤ x9.toInt) ∧ (x9.toInt ≤ 1) ∧ ((n1.toInt < 0 ∨ (I r0 11).toInt < n1.toInt) ∧ x9.toInt = 0 ∧ (I9 r0 11).toInt = (I r0 11).toInt ∨ 0 ≤ n1.toInt ∧ n1.toInt ≤ (I r0 11).toInt ∧ x9.toInt = 1 ∧ (I9 r0 11).toInt = n1.toInt) ∧ (IM R r0 I9 ∧ CM A R r0 [0, 11] [] I L I9 L9))) := by
  refine ⟨_, rfl, Nat.le_of_ble_eq_true rfl, fun V C S => ?_⟩
  show V 0 [(0, .ref r0), (1, .int n1)] [] (T, N, I, L, R) 0 0
  have gn1 := rg n1
  obtain ⟨T_r0, A_r0, ⟨r0_1, R_r0_1, H_r0_1⟩, ⟨r0_2, R_r0_2, H_r0_2⟩, ⟨r0_4, R_r0_4, H_r0_4⟩, ⟨r0_5, R_r0_5, H_r0_5⟩, ⟨r0_10, R_r0_10, H_r0_10⟩, ⟨r0_18, R_r0_18, H_r0_18⟩, ⟨r0_20, R_r0_20, H_r0_20⟩, ⟨r0_21, R_r0_21, H_r0_21⟩, ⟨r0_22, R_r0_22, H_r0_22⟩, ⟨r0_23, R_r0_23, H_r0_23⟩, ⟨r0_25, R_r0_25, H_r0_25⟩, ⟨r0_26, R_r0_26, H_r0_26⟩, ⟨r0_27, R_r0_27, H_r0_27⟩, ⟨r0_28, R_r0_28, H_r0_28⟩, ⟨r0_34, R_r0_34, H_r0_34⟩, J_r0, Y_r0⟩ := id H_r0
  have G_r0 : mF T R r0 := ⟨J_r0, Y_r0, T_r0⟩
  obtain ⟨w_r0_11, k0_r0_11⟩ : ∃ x, I r0 11 = x := ⟨_, rfl⟩
  have gw_r0_11 := rg w_r0_11
  have ow_r0_11 := IM.f11 hI k0_r0_11
  refine k_aload_n C rfl rfl rfl ?_
  refine z_iconst C (z := 0) rfl rfl rfl (fun x1 ex1 => ?_)
  refine z_pI C rfl rfl rfl T_r0 (Or.inr rfl) rfl (fun I2 uI2 => ?_)
  have hI2 : IM R r0 I2 := IM.fld hI G_r0 ⟨(fun h => absurd h (by decide)), (fun h => absurd h (by decide)), (fun h => absurd h (by decide)), (fun h => absurd h (by decide)), (fun h => absurd h (by decide))⟩ uI2
  have S3 : CM A R r0 [0] [] I L I2 L := CM.f G_r0 A_r0 uI2
  have e4 := u2_j uI2 (by first | decide | exact ncne (by omega) (by omega) (by omega) | exact nckn (by omega) (by omega) | exact (nckn (by omega) (by omega)).symm) k0_r0_11
  have e5 := u2_e uI2
  refine k_iload_n C rfl rfl rfl ?_
  refine b_if_lt C (t := 17) rfl rfl rfl (fun c6 => ?_) (fun c6 => ?_)
  · skip
    refine z_iconst C (z := 0) rfl rfl rfl (fun x7 ex7 => ?_)
    exact k_iret C rfl (Or.inr ⟨rfl, z01 (by omega) (by omega)⟩) (Nat.le_of_ble_eq_true rfl) (Nat.le_of_ble_eq_true rfl) ⟨_, _, _, rfl, rfl, by omega, by omega, by first | omega | (simp only [e4, e5, k0_r0_11, and_true, true_and, or_true, true_or, and_false, false_and, or_false, false_or] <;> omega), hI2, (CM.mono S3 (by decide) (by decide))⟩
  refine k_iload_n C rfl rfl rfl ?_
  refine k_aload_n C rfl rfl rfl ?_
  refine g_I C rfl rfl rfl T_r0 rfl e4 ?_
  refine b_icmp_le C (t := 19) rfl rfl rfl (fun c8 => ?_) (fun c8 => ?_)
  · skip
    refine k_aload_n C rfl rfl rfl ?_
    refine k_iload_n C rfl rfl rfl ?_
    refine z_pI C rfl rfl rfl T_r0 (Or.inr rfl) rfl (fun I9 uI9 => ?_)
    have hI9 : IM R r0 I9 := IM.fld hI2 G_r0 ⟨(fun _ => ⟨by omega, by omega⟩), (fun h => absurd h (by decide)), (fun h => absurd h (by decide)), (fun h => absurd h (by decide)), (fun h => absurd h (by decide))⟩ uI9
    have S10 : CM A R r0 [11] [] I2 L I9 L := CM.f G_r0 A_r0 uI9
    have e12 := u2_j uI9 (by first | decide | exact ncne (by omega) (by omega) (by omega) | exact nckn (by omega) (by omega) | exact (nckn (by omega) (by omega)).symm) e5
    have e13 := u2_e uI9
    refine z_iconst C (z := 1) rfl rfl rfl (fun x14 ex14 => ?_)
    exact k_iret C rfl (Or.inr ⟨rfl, z01 (by omega) (by omega)⟩) (Nat.le_of_ble_eq_true rfl) (Nat.le_of_ble_eq_true rfl) ⟨_, _, _, rfl, rfl, by omega, by omega, by first | omega | (simp only [e12, e13, k0_r0_11, and_true, true_and, or_true, true_or, and_false, false_and, or_false, false_or] <;> omega), hI9, (CM.cons S3 (CM.mono S10 (by decide) (by decide)) (by decide) (by decide))⟩
  refine z_iconst C (z := 0) rfl rfl rfl (fun x15 ex15 => ?_)
  exact k_iret C rfl (Or.inr ⟨rfl, z01 (by omega) (by omega)⟩) (Nat.le_of_ble_eq_true rfl) (Nat.le_of_ble_eq_true rfl) ⟨_, _, _, rfl, rfl, by omega, by omega, by first | omega | (simp only [e4, e5, k0_r0_11, and_true, true_and, or_true, true_or, and_false, false_and, or_false, false_or] <;> omega), hI2, (CM.mono S3 (by decide) (by decide))⟩

theorem a_X12_uses_e {d : Nat} {T N : Nat → Nat} {I : IT} {L : LT} {R : RT} {A : Nat → Prop} {r0 : Nat} (hI : IM R r0 I) (H_r0 : (h_MD T N R A) r0) : Ex (d + 1) 230 [.ref r0] (T, N, I, L, R) 0 0 (pV T N R (fun I9 L9 => ((I9 r0 13).toInt = (I r0 11).toInt) ∧ ((I9 r0 11).toInt = 0) ∧ ((I9 r0 0).toInt = 0) ∧ (IM R r0 I9 ∧ CM A R r0 [0, 11, 12, 13] [] I L I9 L9))) := by
  refine ⟨_, rfl, Nat.le_of_ble_eq_true rfl, fun V C S => ?_⟩
  show V 0 [(0, .ref r0)] [] (T, N, I, L, R) 0 0
  obtain ⟨T_r0, A_r0, ⟨r0_1, R_r0_1, H_r0_1⟩, ⟨r0_2, R_r0_2, H_r0_2⟩, ⟨r0_4, R_r0_4, H_r0_4⟩, ⟨r0_5, R_r0_5, H_r0_5⟩, ⟨r0_10, R_r0_10, H_r0_10⟩, ⟨r0_18, R_r0_18, H_r0_18⟩, ⟨r0_20, R_r0_20, H_r0_20⟩, ⟨r0_21, R_r0_21, H_r0_21⟩, ⟨r0_22, R_r0_22, H_r0_22⟩, ⟨r0_23, R_r0_23, H_r0_23⟩, ⟨r0_25, R_r0_25, H_r0_25⟩, ⟨r0_26, R_r0_26, H_r0_26⟩, ⟨r0_27, R_r0_27, H_r0_27⟩, ⟨r0_28, R_r0_28, H_r0_28⟩, ⟨r0_34, R_r0_34, H_r0_34⟩, J_r0, Y_r0⟩ := id H_r0
  have G_r0 : mF T R r0 := ⟨J_r0, Y_r0, T_r0⟩
  obtain ⟨w_r0_11, k0_r0_11⟩ : ∃ x, I r0 11 = x := ⟨_, rfl⟩
  have gw_r0_11 := rg w_r0_11
  have ow_r0_11 := IM.f11 hI k0_r0_11
  refine k_aload_n C rfl rfl rfl ?_
  refine z_iconst C (z := 0) rfl rfl rfl (fun x1 ex1 => ?_)
  refine z_pI C rfl rfl rfl T_r0 (Or.inr rfl) rfl (fun I2 uI2 => ?_)
  have hI2 : IM R r0 I2 := IM.fld hI G_r0 ⟨(fun h => absurd h (by decide)), (fun h => absurd h (by decide)), (fun h => absurd h (by decide)), (fun h => absurd h (by decide)), (fun h => absurd h (by decide))⟩ uI2
  have S3 : CM A R r0 [0] [] I L I2 L := CM.f G_r0 A_r0 uI2
  have e4 := u2_j uI2 (by first | decide | exact ncne (by omega) (by omega) (by omega) | exact nckn (by omega) (by omega) | exact (nckn (by omega) (by omega)).symm) k0_r0_11
  have e5 := u2_e uI2
  refine k_aload_n C rfl rfl rfl ?_
  refine k_aload_n C rfl rfl rfl ?_
  refine g_I C rfl rfl rfl T_r0 rfl e4 ?_
  refine z_pI C rfl rfl rfl T_r0 (Or.inr rfl) rfl (fun I6 uI6 => ?_)
  have hI6 : IM R r0 I6 := IM.fld hI2 G_r0 ⟨(fun _ => ⟨by omega, by omega⟩), (fun h => absurd h (by decide)), (fun h => absurd h (by decide)), (fun h => absurd h (by decide)), (fun h => absurd h (by decide))⟩ uI6
  have S7 : CM A R r0 [13] [] I2 L I6 L := CM.f G_r0 A_r0 uI6
  have e8 := u2_j uI6 (by first | decide | exact ncne (by omega) (by omega) (by omega) | exact nckn (by omega) (by omega) | exact (nckn (by omega) (by omega)).symm) e4
  have e9 := u2_j uI6 (by first | decide | exact ncne (by omega) (by omega) (by omega) | exact nckn (by omega) (by omega) | exact (nckn (by omega) (by omega)).symm) e5
  have e10 := u2_e uI6
  refine k_aload_n C rfl rfl rfl ?_
  refine z_iconst C (z := 0) rfl rfl rfl (fun x11 ex11 => ?_)
  refine z_pI C rfl rfl rfl T_r0 (Or.inr rfl) rfl (fun I12 uI12 => ?_)
  have hI12 : IM R r0 I12 := IM.fld hI6 G_r0 ⟨(fun _ => ⟨by omega, by omega⟩), (fun h => absurd h (by decide)), (fun h => absurd h (by decide)), (fun h => absurd h (by decide)), (fun h => absurd h (by decide))⟩ uI12
  have S13 : CM A R r0 [11] [] I6 L I12 L := CM.f G_r0 A_r0 uI12
  have e15 := u2_j uI12 (by first | decide | exact ncne (by omega) (by omega) (by omega) | exact nckn (by omega) (by omega) | exact (nckn (by omega) (by omega)).symm) e9
  have e16 := u2_j uI12 (by first | decide | exact ncne (by omega) (by omega) (by omega) | exact nckn (by omega) (by omega) | exact (nckn (by omega) (by omega)).symm) e10
  have e17 := u2_e uI12
  refine k_aload_n C rfl rfl rfl ?_
  refine z_iconst C (z := 0) rfl rfl rfl (fun x18 ex18 => ?_)
  refine z_pI C rfl rfl rfl T_r0 (Or.inr rfl) rfl (fun I19 uI19 => ?_)
  have hI19 : IM R r0 I19 := IM.fld hI12 G_r0 ⟨(fun _ => ⟨by omega, by omega⟩), (fun h => absurd h (by decide)), (fun h => absurd h (by decide)), (fun h => absurd h (by decide)), (fun h => absurd h (by decide))⟩ uI19
  have S20 : CM A R r0 [12] [] I12 L I19 L := CM.f G_r0 A_r0 uI19
  have e21 := u2_j uI19 (by first | decide | exact ncne (by omega) (by omega) (by omega) | exact nckn (by omega) (by omega) | exact (nckn (by omega) (by omega)).symm) e15
  have e22 := u2_j uI19 (by first | decide | exact ncne (by omega) (by omega) (by omega) | exact nckn (by omega) (by omega) | exact (nckn (by omega) (by omega)).symm) e16
  have e23 := u2_j uI19 (by first | decide | exact ncne (by omega) (by omega) (by omega) | exact nckn (by omega) (by omega) | exact (nckn (by omega) (by omega)).symm) e17
  have e24 := u2_e uI19
  exact k_vret C rfl rfl (Nat.le_of_ble_eq_true rfl) (Nat.le_of_ble_eq_true rfl) ⟨_, _, rfl, rfl, by first | omega | (simp only [e21, e22, e23, e24, k0_r0_11, and_true, true_and, or_true, true_or, and_false, false_and, or_false, false_or] <;> omega), by first | omega | (simp only [e21, e22, e23, e24, k0_r0_11, and_true, true_and, or_true, true_or, and_false, false_and, or_false, false_or] <;> omega), by first | omega | (simp only [e21, e22, e23, e24, k0_r0_11, and_true, true_and, or_true, true_or, and_false, false_and, or_false, false_or] <;> omega), hI19, (CM.cons S3 (CM.cons S7 (CM.cons S13 (CM.mono S20 (by decide) (by decide)) (by decide) (by decide)) (by decide) (by decide)) (by decide) (by decide))⟩

theorem a_X12_field_e {d : Nat} {T N : Nat → Nat} {I : IT} {L : LT} {R : RT} {A : Nat → Prop} {r0 : Nat} {n1 : Int32} (hI : IM R r0 I) (H_r0 : (h_MD T N R A) r0) : Ex (d + 2) 232 [.ref r0, .int n1] (T, N, I, L, R) 0 0 (pV T N R (fun I9 L9 => (∀ a1, R r0 1 = some a1 → (I a1 4).toInt + (I a1 5).toInt ≤ 40 → (I9 a1 4).toInt + (I9 a1 5).toInt ≤ 40) ∧ (∀ a1, R r0 1 = some a1 → ¬ (n1.toInt = 11 ∨ n1.toInt = 13 ∨ n1.toInt = 17 ∨ n1.toInt = 19) ∧ (I9 r0 0).toInt = 1 ∧ (I9 a1 0).toInt = (I a1 0).toInt ∨ (n1.toInt = 11 ∨ n1.toInt = 13 ∨ n1.toInt = 17 ∨ n1.toInt = 19) ∧ 0 < (I a1 1).toInt + (I a1 2).toInt ∧ (I9 r0 0).toInt = 2 ∧ (I9 a1 0).toInt = (I a1 0).toInt ∨ (n1.toInt = 11 ∨ n1.toInt = 13 ∨ n1.toInt = 17 ∨ n1.toInt = 19) ∧ (I a1 1).toInt + (I a1 2).toInt ≤ 0 ∧ (I9 r0 0).toInt = 0 ∧ (I9 a1 0).toInt = n1.toInt) ∧ (∀ a1, R r0 1 = some a1 → ∀ r : Nat, r ≠ 0 → I9 a1 r = I a1 r) ∧ (IM R r0 I9 ∧ CM A R r0 [0] [1] I L I9 L9))) := by
  refine ⟨_, rfl, Nat.le_of_ble_eq_true rfl, fun V C S => ?_⟩
  show V 0 [(0, .ref r0), (1, .int n1)] [] (T, N, I, L, R) 0 0
  have gn1 := rg n1
  obtain ⟨T_r0, A_r0, ⟨r0_1, R_r0_1, H_r0_1⟩, ⟨r0_2, R_r0_2, H_r0_2⟩, ⟨r0_4, R_r0_4, H_r0_4⟩, ⟨r0_5, R_r0_5, H_r0_5⟩, ⟨r0_10, R_r0_10, H_r0_10⟩, ⟨r0_18, R_r0_18, H_r0_18⟩, ⟨r0_20, R_r0_20, H_r0_20⟩, ⟨r0_21, R_r0_21, H_r0_21⟩, ⟨r0_22, R_r0_22, H_r0_22⟩, ⟨r0_23, R_r0_23, H_r0_23⟩, ⟨r0_25, R_r0_25, H_r0_25⟩, ⟨r0_26, R_r0_26, H_r0_26⟩, ⟨r0_27, R_r0_27, H_r0_27⟩, ⟨r0_28, R_r0_28, H_r0_28⟩, ⟨r0_34, R_r0_34, H_r0_34⟩, J_r0, Y_r0⟩ := id H_r0
  have G_r0 : mF T R r0 := ⟨J_r0, Y_r0, T_r0⟩
  obtain ⟨w_r0_1_0, k0_r0_1_0⟩ : ∃ x, I r0_1 0 = x := ⟨_, rfl⟩
  have gw_r0_1_0 := rg w_r0_1_0
  have ow_r0_1_0 := IM.pi hI R_r0_1 k0_r0_1_0
  obtain ⟨w_r0_1_1, k0_r0_1_1⟩ : ∃ x, I r0_1 1 = x := ⟨_, rfl⟩
  have gw_r0_1_1 := rg w_r0_1_1
  have ow_r0_1_1 := IM.c1 hI R_r0_1 k0_r0_1_1
  obtain ⟨w_r0_1_2, k0_r0_1_2⟩ : ∃ x, I r0_1 2 = x := ⟨_, rfl⟩
  have gw_r0_1_2 := rg w_r0_1_2
  have ow_r0_1_2 := IM.c2 hI R_r0_1 k0_r0_1_2
  obtain ⟨w_r0_1_3, k0_r0_1_3⟩ : ∃ x, I r0_1 3 = x := ⟨_, rfl⟩
  have gw_r0_1_3 := rg w_r0_1_3
  have ow_r0_1_3 := IM.c3 hI R_r0_1 k0_r0_1_3
  obtain ⟨w_r0_1_4, k0_r0_1_4⟩ : ∃ x, I r0_1 4 = x := ⟨_, rfl⟩
  have gw_r0_1_4 := rg w_r0_1_4
  have ow_r0_1_4 := IM.c4 hI R_r0_1 k0_r0_1_4
  obtain ⟨w_r0_1_5, k0_r0_1_5⟩ : ∃ x, I r0_1 5 = x := ⟨_, rfl⟩
  have gw_r0_1_5 := rg w_r0_1_5
  have ow_r0_1_5 := IM.c5 hI R_r0_1 k0_r0_1_5
  refine k_aload_n C rfl rfl rfl ?_
  refine z_iconst C (z := 0) rfl rfl rfl (fun x1 ex1 => ?_)
  refine z_pI C rfl rfl rfl T_r0 (Or.inr rfl) rfl (fun I2 uI2 => ?_)
  have hI2 : IM R r0 I2 := IM.fld hI G_r0 ⟨(fun h => absurd h (by decide)), (fun h => absurd h (by decide)), (fun h => absurd h (by decide)), (fun h => absurd h (by decide)), (fun h => absurd h (by decide))⟩ uI2
  have S3 : CM A R r0 [0] [] I L I2 L := CM.f G_r0 A_r0 uI2
  have e4 := u2_n uI2 (mF.ne G_r0 R_r0_1) k0_r0_1_0
  have e5 := u2_n uI2 (mF.ne G_r0 R_r0_1) k0_r0_1_1
  have e6 := u2_n uI2 (mF.ne G_r0 R_r0_1) k0_r0_1_2
  have e7 := u2_n uI2 (mF.ne G_r0 R_r0_1) k0_r0_1_3
  have e8 := u2_n uI2 (mF.ne G_r0 R_r0_1) k0_r0_1_4
  have e9 := u2_n uI2 (mF.ne G_r0 R_r0_1) k0_r0_1_5
  have e10 := u2_e uI2
  refine k_aload_n C rfl rfl rfl ?_
  refine k_iload_n C rfl rfl rfl ?_
  refine z_bipush C (z := 11) rfl rfl rfl (fun x11 ex11 => ?_)
  refine b_icmp_eq C (t := 34) rfl rfl rfl (fun c12 => ?_) (fun c12 => ?_)
  · skip
    refine z_iconst C (z := 0) rfl rfl rfl (fun x13 ex13 => ?_)
    refine z_iconst C (z := 1) rfl rfl rfl (fun x14 ex14 => ?_)
    have q15 : x13.toNatClampNeg = 0 := nck (by omega)
    have q16 : x14.toNatClampNeg = 1 := nck (by omega)
    refine c_VI C (a_X12_throwsIf_e hI2 H_r0 (by omega) (by omega)) rfl rfl rfl rfl rfl ⟨_, rfl, rfl, T_r0, Nat.le_of_ble_eq_true rfl⟩ rfl rfl (Nat.le_of_ble_eq_true rfl) (Nat.le_of_ble_eq_true rfl) (Nat.le_of_ble_eq_true rfl) ?_
    rintro x17 I18 L19 ⟨o0x17, o1x17, p0x17, p1x17, hI18, S20⟩
    have e21 := CM.j S20 R_r0_1 (by decide) e4
    have e22 := CM.j S20 R_r0_1 (by decide) e5
    have e23 := CM.j S20 R_r0_1 (by decide) e6
    have e24 := CM.j S20 R_r0_1 (by decide) e7
    have e25 := CM.j S20 R_r0_1 (by decide) e8
    have e26 := CM.j S20 R_r0_1 (by decide) e9
    have gx17 := rg x17
    obtain ⟨x28, e29⟩ : ∃ x, I18 r0 0 = x := ⟨_, rfl⟩
    have gx28 := rg x28
    try simp only [q15, q16, e4, e5, e6, e7, e8, e9, e10, e29] at p0x17
    try have q0x17 := congrArg Int32.toInt p0x17
    try simp only [q15, q16, e4, e5, e6, e7, e8, e9, e10, e29] at p1x17
    try have q1x17 := congrArg Int32.toInt p1x17
    refine b_if_ne C (t := 71) rfl rfl rfl (fun c30 => by exfalso; omega) (fun c30 => ?_)
    refine k_aload_n C rfl rfl rfl ?_
    refine k_aload_n C rfl rfl rfl ?_
    refine g_R C rfl rfl rfl T_r0 rfl R_r0_1 ?_
    refine z_iconst C (z := 1) rfl rfl rfl (fun x31 ex31 => ?_)
    obtain ⟨T_r0_1, N_r0_1, A_r0_1⟩ := id H_r0_1
    refine a_I C rfl rfl T_r0_1 (by rw [N_r0_1]; exact vpi (by omega) (by omega)) ((congrArg (I18 r0_1) (nck (n := 1) (by omega))).trans e22) ?_
    refine k_aload_n C rfl rfl rfl ?_
    refine g_R C rfl rfl rfl T_r0 rfl R_r0_1 ?_
    refine z_iconst C (z := 2) rfl rfl rfl (fun x32 ex32 => ?_)
    refine a_I C rfl rfl T_r0_1 (by rw [N_r0_1]; exact vpi (by omega) (by omega)) ((congrArg (I18 r0_1) (nck (n := 2) (by omega))).trans e23) ?_
    refine z_iadd C rfl rfl ⟨by omega, by omega⟩ (fun x33 ex33 => ?_)
    refine b_if_le C (t := 63) rfl rfl rfl (fun c34 => ?_) (fun c34 => ?_)
    · skip
      refine z_iconst C (z := 0) rfl rfl rfl (fun x35 ex35 => ?_)
      refine z_iconst C (z := 2) rfl rfl rfl (fun x36 ex36 => ?_)
      have q37 : x35.toNatClampNeg = 0 := nck (by omega)
      have q38 : x36.toNatClampNeg = 2 := nck (by omega)
      refine c_VI C (a_X12_throwsIf_e hI18 H_r0 (by omega) (by omega)) rfl rfl rfl rfl rfl ⟨_, rfl, rfl, T_r0, Nat.le_of_ble_eq_true rfl⟩ rfl rfl (Nat.le_of_ble_eq_true rfl) (Nat.le_of_ble_eq_true rfl) (Nat.le_of_ble_eq_true rfl) ?_
      rintro x39 I40 L41 ⟨o0x39, o1x39, p0x39, p1x39, hI40, S42⟩
      have e43 := CM.j S42 R_r0_1 (by decide) e21
      have e44 := CM.j S42 R_r0_1 (by decide) e22
      have e45 := CM.j S42 R_r0_1 (by decide) e23
      have e46 := CM.j S42 R_r0_1 (by decide) e24
      have e47 := CM.j S42 R_r0_1 (by decide) e25
      have e48 := CM.j S42 R_r0_1 (by decide) e26
      have gx39 := rg x39
      obtain ⟨x50, e51⟩ : ∃ x, I40 r0 0 = x := ⟨_, rfl⟩
      have gx50 := rg x50
      try simp only [q37, q38, e21, e22, e23, e24, e25, e26, e29, e51] at p0x39
      try have q0x39 := congrArg Int32.toInt p0x39
      try simp only [q37, q38, e21, e22, e23, e24, e25, e26, e29, e51] at p1x39
      try have q1x39 := congrArg Int32.toInt p1x39
      refine b_if_eq C (t := 72) rfl rfl rfl (fun c52 => ?_) (fun c52 => by exfalso; omega)
      refine k_aload_n C rfl rfl rfl ?_
      refine g_R C rfl rfl rfl T_r0 rfl R_r0_1 ?_
      refine z_iconst C (z := 0) rfl rfl rfl (fun x53 ex53 => ?_)
      refine k_iload_n C rfl rfl rfl ?_
      refine z_sI C rfl rfl T_r0_1 N_r0_1 (by omega) (by omega) (fun I54 uI54 => ?_)
      have uI54 : I54 = u2 I40 r0_1 0 (n1) := by rw [uI54, nck (n := 0) (by omega)]
      have hI54 : IM R r0 I54 := IM.arr hI40 G_r0 R_r0_1 ⟨(fun h => absurd h (by decide)), (fun h => absurd h (by decide)), (fun h => absurd h (by decide))⟩ (fun _ => WOK.p (IM.w hI40 R_r0_1) (by rw [e44]; omega) (by omega)) uI54
      have S55 : CM A R r0 [] [1] I40 L41 I54 L41 := CM.a G_r0 R_r0_1 A_r0_1 uI54
      have F56 : ∀ r : Nat, r ≠ 0 → I54 r0_1 r = I40 r0_1 r := fun r z0 => by rw [uI54]; exact u2_k (by have h2 := ncz (x := x53) (by omega); omega)
      have e58 := u2_j uI54 (by first | decide | exact ncne (by omega) (by omega) (by omega) | exact nckn (by omega) (by omega) | exact (nckn (by omega) (by omega)).symm) e44
      have e59 := u2_j uI54 (by first | decide | exact ncne (by omega) (by omega) (by omega) | exact nckn (by omega) (by omega) | exact (nckn (by omega) (by omega)).symm) e45
      have e60 := u2_j uI54 (by first | decide | exact ncne (by omega) (by omega) (by omega) | exact nckn (by omega) (by omega) | exact (nckn (by omega) (by omega)).symm) e46
      have e61 := u2_j uI54 (by first | decide | exact ncne (by omega) (by omega) (by omega) | exact nckn (by omega) (by omega) | exact (nckn (by omega) (by omega)).symm) e47
      have e62 := u2_j uI54 (by first | decide | exact ncne (by omega) (by omega) (by omega) | exact nckn (by omega) (by omega) | exact (nckn (by omega) (by omega)).symm) e48
      have e63 := u2_n uI54 (fun e => (mF.ne G_r0 R_r0_1) e.symm) e51
      have e64 := u2_e uI54
      exact k_vret C rfl rfl (Nat.le_of_ble_eq_true rfl) (Nat.le_of_ble_eq_true rfl) ⟨_, _, rfl, rfl, fun a1 h1 => by cases (R_r0_1.symm.trans h1); first | omega | (simp only [e58, e59, e60, e61, e62, e63, e64, k0_r0_1_0, k0_r0_1_1, k0_r0_1_2, k0_r0_1_3, k0_r0_1_4, k0_r0_1_5, and_true, true_and, or_true, true_or, and_false, false_and, or_false, false_or] <;> omega), fun a1 h1 => by cases (R_r0_1.symm.trans h1); first | omega | (simp only [e58, e59, e60, e61, e62, e63, e64, k0_r0_1_0, k0_r0_1_1, k0_r0_1_2, k0_r0_1_3, k0_r0_1_4, k0_r0_1_5, and_true, true_and, or_true, true_or, and_false, false_and, or_false, false_or] <;> omega), fun a1 h1 => by cases (R_r0_1.symm.trans h1); exact (fun r z0 => ((F56 r z0).trans ((congrFun (CM.j0 S42 R_r0_1 (by decide)) r).trans ((congrFun (CM.j0 S20 R_r0_1 (by decide)) r).trans (congrFun (CM.j0 S3 R_r0_1 (by decide)) r))))), hI54, (CM.cons S3 (CM.cons S20 (CM.cons S42 (CM.mono S55 (by decide) (by decide)) (by decide) (by decide)) (by decide) (by decide)) (by decide) (by decide))⟩
    refine z_iconst C (z := 1) rfl rfl rfl (fun x65 ex65 => ?_)
    refine k_goto C (pc2 := 64) rfl rfl ?_
    refine z_iconst C (z := 2) rfl rfl rfl (fun x66 ex66 => ?_)
    have q67 : x65.toNatClampNeg = 1 := nck (by omega)
    have q68 : x66.toNatClampNeg = 2 := nck (by omega)
    refine c_VI C (a_X12_throwsIf_e hI18 H_r0 (by omega) (by omega)) rfl rfl rfl rfl rfl ⟨_, rfl, rfl, T_r0, Nat.le_of_ble_eq_true rfl⟩ rfl rfl (Nat.le_of_ble_eq_true rfl) (Nat.le_of_ble_eq_true rfl) (Nat.le_of_ble_eq_true rfl) ?_
    rintro x69 I70 L71 ⟨o0x69, o1x69, p0x69, p1x69, hI70, S72⟩
    have e73 := CM.j S72 R_r0_1 (by decide) e21
    have e74 := CM.j S72 R_r0_1 (by decide) e22
    have e75 := CM.j S72 R_r0_1 (by decide) e23
    have e76 := CM.j S72 R_r0_1 (by decide) e24
    have e77 := CM.j S72 R_r0_1 (by decide) e25
    have e78 := CM.j S72 R_r0_1 (by decide) e26
    have gx69 := rg x69
    obtain ⟨x80, e81⟩ : ∃ x, I70 r0 0 = x := ⟨_, rfl⟩
    have gx80 := rg x80
    try simp only [q67, q68, e21, e22, e23, e24, e25, e26, e29, e81] at p0x69
    try have q0x69 := congrArg Int32.toInt p0x69
    try simp only [q67, q68, e21, e22, e23, e24, e25, e26, e29, e81] at p1x69
    try have q1x69 := congrArg Int32.toInt p1x69
    refine b_if_eq C (t := 72) rfl rfl rfl (fun c82 => by exfalso; omega) (fun c82 => ?_)
    exact k_vret C rfl rfl (Nat.le_of_ble_eq_true rfl) (Nat.le_of_ble_eq_true rfl) ⟨_, _, rfl, rfl, fun a1 h1 => by cases (R_r0_1.symm.trans h1); first | omega | (simp only [e73, e74, e75, e76, e77, e78, e81, k0_r0_1_0, k0_r0_1_1, k0_r0_1_2, k0_r0_1_3, k0_r0_1_4, k0_r0_1_5, and_true, true_and, or_true, true_or, and_false, false_and, or_false, false_or] <;> omega), fun a1 h1 => by cases (R_r0_1.symm.trans h1); first | omega | (simp only [e73, e74, e75, e76, e77, e78, e81, k0_r0_1_0, k0_r0_1_1, k0_r0_1_2, k0_r0_1_3, k0_r0_1_4, k0_r0_1_5, and_true, true_and, or_true, true_or, and_false, false_and, or_false, false_or] <;> omega), fun a1 h1 => by cases (R_r0_1.symm.trans h1); exact (fun r z0 => ((congrFun (CM.j0 S72 R_r0_1 (by decide)) r).trans ((congrFun (CM.j0 S20 R_r0_1 (by decide)) r).trans (congrFun (CM.j0 S3 R_r0_1 (by decide)) r)))), hI70, (CM.cons S3 (CM.cons S20 (CM.mono S72 (by decide) (by decide)) (by decide) (by decide)) (by decide) (by decide))⟩
  refine k_iload_n C rfl rfl rfl ?_
  refine z_bipush C (z := 13) rfl rfl rfl (fun x83 ex83 => ?_)
  refine b_icmp_eq C (t := 34) rfl rfl rfl (fun c84 => ?_) (fun c84 => ?_)
  · skip
    refine z_iconst C (z := 0) rfl rfl rfl (fun x85 ex85 => ?_)
    refine z_iconst C (z := 1) rfl rfl rfl (fun x86 ex86 => ?_)
    have q87 : x85.toNatClampNeg = 0 := nck (by omega)
    have q88 : x86.toNatClampNeg = 1 := nck (by omega)
    refine c_VI C (a_X12_throwsIf_e hI2 H_r0 (by omega) (by omega)) rfl rfl rfl rfl rfl ⟨_, rfl, rfl, T_r0, Nat.le_of_ble_eq_true rfl⟩ rfl rfl (Nat.le_of_ble_eq_true rfl) (Nat.le_of_ble_eq_true rfl) (Nat.le_of_ble_eq_true rfl) ?_
    rintro x89 I90 L91 ⟨o0x89, o1x89, p0x89, p1x89, hI90, S92⟩
    have e93 := CM.j S92 R_r0_1 (by decide) e4
    have e94 := CM.j S92 R_r0_1 (by decide) e5
    have e95 := CM.j S92 R_r0_1 (by decide) e6
    have e96 := CM.j S92 R_r0_1 (by decide) e7
    have e97 := CM.j S92 R_r0_1 (by decide) e8
    have e98 := CM.j S92 R_r0_1 (by decide) e9
    have gx89 := rg x89
    obtain ⟨x100, e101⟩ : ∃ x, I90 r0 0 = x := ⟨_, rfl⟩
    have gx100 := rg x100
    try simp only [q87, q88, e4, e5, e6, e7, e8, e9, e10, e101] at p0x89
    try have q0x89 := congrArg Int32.toInt p0x89
    try simp only [q87, q88, e4, e5, e6, e7, e8, e9, e10, e101] at p1x89
    try have q1x89 := congrArg Int32.toInt p1x89
    refine b_if_ne C (t := 71) rfl rfl rfl (fun c102 => by exfalso; omega) (fun c102 => ?_)
    refine k_aload_n C rfl rfl rfl ?_
    refine k_aload_n C rfl rfl rfl ?_
    refine g_R C rfl rfl rfl T_r0 rfl R_r0_1 ?_
    refine z_iconst C (z := 1) rfl rfl rfl (fun x103 ex103 => ?_)
    obtain ⟨T_r0_1, N_r0_1, A_r0_1⟩ := id H_r0_1
    refine a_I C rfl rfl T_r0_1 (by rw [N_r0_1]; exact vpi (by omega) (by omega)) ((congrArg (I90 r0_1) (nck (n := 1) (by omega))).trans e94) ?_
    refine k_aload_n C rfl rfl rfl ?_
    refine g_R C rfl rfl rfl T_r0 rfl R_r0_1 ?_
    refine z_iconst C (z := 2) rfl rfl rfl (fun x104 ex104 => ?_)
    refine a_I C rfl rfl T_r0_1 (by rw [N_r0_1]; exact vpi (by omega) (by omega)) ((congrArg (I90 r0_1) (nck (n := 2) (by omega))).trans e95) ?_
    refine z_iadd C rfl rfl ⟨by omega, by omega⟩ (fun x105 ex105 => ?_)
    refine b_if_le C (t := 63) rfl rfl rfl (fun c106 => ?_) (fun c106 => ?_)
    · skip
      refine z_iconst C (z := 0) rfl rfl rfl (fun x107 ex107 => ?_)
      refine z_iconst C (z := 2) rfl rfl rfl (fun x108 ex108 => ?_)
      have q109 : x107.toNatClampNeg = 0 := nck (by omega)
      have q110 : x108.toNatClampNeg = 2 := nck (by omega)
      refine c_VI C (a_X12_throwsIf_e hI90 H_r0 (by omega) (by omega)) rfl rfl rfl rfl rfl ⟨_, rfl, rfl, T_r0, Nat.le_of_ble_eq_true rfl⟩ rfl rfl (Nat.le_of_ble_eq_true rfl) (Nat.le_of_ble_eq_true rfl) (Nat.le_of_ble_eq_true rfl) ?_
      rintro x111 I112 L113 ⟨o0x111, o1x111, p0x111, p1x111, hI112, S114⟩
      have e115 := CM.j S114 R_r0_1 (by decide) e93
      have e116 := CM.j S114 R_r0_1 (by decide) e94
      have e117 := CM.j S114 R_r0_1 (by decide) e95
      have e118 := CM.j S114 R_r0_1 (by decide) e96
      have e119 := CM.j S114 R_r0_1 (by decide) e97
      have e120 := CM.j S114 R_r0_1 (by decide) e98
      have gx111 := rg x111
      obtain ⟨x122, e123⟩ : ∃ x, I112 r0 0 = x := ⟨_, rfl⟩
      have gx122 := rg x122
      try simp only [q109, q110, e93, e94, e95, e96, e97, e98, e101, e123] at p0x111
      try have q0x111 := congrArg Int32.toInt p0x111
      try simp only [q109, q110, e93, e94, e95, e96, e97, e98, e101, e123] at p1x111
      try have q1x111 := congrArg Int32.toInt p1x111
      refine b_if_eq C (t := 72) rfl rfl rfl (fun c124 => ?_) (fun c124 => by exfalso; omega)
      refine k_aload_n C rfl rfl rfl ?_
      refine g_R C rfl rfl rfl T_r0 rfl R_r0_1 ?_
      refine z_iconst C (z := 0) rfl rfl rfl (fun x125 ex125 => ?_)
      refine k_iload_n C rfl rfl rfl ?_
      refine z_sI C rfl rfl T_r0_1 N_r0_1 (by omega) (by omega) (fun I126 uI126 => ?_)
      have uI126 : I126 = u2 I112 r0_1 0 (n1) := by rw [uI126, nck (n := 0) (by omega)]
      have hI126 : IM R r0 I126 := IM.arr hI112 G_r0 R_r0_1 ⟨(fun h => absurd h (by decide)), (fun h => absurd h (by decide)), (fun h => absurd h (by decide))⟩ (fun _ => WOK.p (IM.w hI112 R_r0_1) (by rw [e116]; omega) (by omega)) uI126
      have S127 : CM A R r0 [] [1] I112 L113 I126 L113 := CM.a G_r0 R_r0_1 A_r0_1 uI126
      have F128 : ∀ r : Nat, r ≠ 0 → I126 r0_1 r = I112 r0_1 r := fun r z0 => by rw [uI126]; exact u2_k (by have h2 := ncz (x := x125) (by omega); omega)
      have e130 := u2_j uI126 (by first | decide | exact ncne (by omega) (by omega) (by omega) | exact nckn (by omega) (by omega) | exact (nckn (by omega) (by omega)).symm) e116
      have e131 := u2_j uI126 (by first | decide | exact ncne (by omega) (by omega) (by omega) | exact nckn (by omega) (by omega) | exact (nckn (by omega) (by omega)).symm) e117
      have e132 := u2_j uI126 (by first | decide | exact ncne (by omega) (by omega) (by omega) | exact nckn (by omega) (by omega) | exact (nckn (by omega) (by omega)).symm) e118
      have e133 := u2_j uI126 (by first | decide | exact ncne (by omega) (by omega) (by omega) | exact nckn (by omega) (by omega) | exact (nckn (by omega) (by omega)).symm) e119
      have e134 := u2_j uI126 (by first | decide | exact ncne (by omega) (by omega) (by omega) | exact nckn (by omega) (by omega) | exact (nckn (by omega) (by omega)).symm) e120
      have e135 := u2_n uI126 (fun e => (mF.ne G_r0 R_r0_1) e.symm) e123
      have e136 := u2_e uI126
      exact k_vret C rfl rfl (Nat.le_of_ble_eq_true rfl) (Nat.le_of_ble_eq_true rfl) ⟨_, _, rfl, rfl, fun a1 h1 => by cases (R_r0_1.symm.trans h1); first | omega | (simp only [e130, e131, e132, e133, e134, e135, e136, k0_r0_1_0, k0_r0_1_1, k0_r0_1_2, k0_r0_1_3, k0_r0_1_4, k0_r0_1_5, and_true, true_and, or_true, true_or, and_false, false_and, or_false, false_or] <;> omega), fun a1 h1 => by cases (R_r0_1.symm.trans h1); first | omega | (simp only [e130, e131, e132, e133, e134, e135, e136, k0_r0_1_0, k0_r0_1_1, k0_r0_1_2, k0_r0_1_3, k0_r0_1_4, k0_r0_1_5, and_true, true_and, or_true, true_or, and_false, false_and, or_false, false_or] <;> omega), fun a1 h1 => by cases (R_r0_1.symm.trans h1); exact (fun r z0 => ((F128 r z0).trans ((congrFun (CM.j0 S114 R_r0_1 (by decide)) r).trans ((congrFun (CM.j0 S92 R_r0_1 (by decide)) r).trans (congrFun (CM.j0 S3 R_r0_1 (by decide)) r))))), hI126, (CM.cons S3 (CM.cons S92 (CM.cons S114 (CM.mono S127 (by decide) (by decide)) (by decide) (by decide)) (by decide) (by decide)) (by decide) (by decide))⟩
    refine z_iconst C (z := 1) rfl rfl rfl (fun x137 ex137 => ?_)
    refine k_goto C (pc2 := 64) rfl rfl ?_
    refine z_iconst C (z := 2) rfl rfl rfl (fun x138 ex138 => ?_)
    have q139 : x137.toNatClampNeg = 1 := nck (by omega)
    have q140 : x138.toNatClampNeg = 2 := nck (by omega)
    refine c_VI C (a_X12_throwsIf_e hI90 H_r0 (by omega) (by omega)) rfl rfl rfl rfl rfl ⟨_, rfl, rfl, T_r0, Nat.le_of_ble_eq_true rfl⟩ rfl rfl (Nat.le_of_ble_eq_true rfl) (Nat.le_of_ble_eq_true rfl) (Nat.le_of_ble_eq_true rfl) ?_
    rintro x141 I142 L143 ⟨o0x141, o1x141, p0x141, p1x141, hI142, S144⟩
    have e145 := CM.j S144 R_r0_1 (by decide) e93
    have e146 := CM.j S144 R_r0_1 (by decide) e94
    have e147 := CM.j S144 R_r0_1 (by decide) e95
    have e148 := CM.j S144 R_r0_1 (by decide) e96
    have e149 := CM.j S144 R_r0_1 (by decide) e97
    have e150 := CM.j S144 R_r0_1 (by decide) e98
    have gx141 := rg x141
    obtain ⟨x152, e153⟩ : ∃ x, I142 r0 0 = x := ⟨_, rfl⟩
    have gx152 := rg x152
    try simp only [q139, q140, e93, e94, e95, e96, e97, e98, e101, e153] at p0x141
    try have q0x141 := congrArg Int32.toInt p0x141
    try simp only [q139, q140, e93, e94, e95, e96, e97, e98, e101, e153] at p1x141
    try have q1x141 := congrArg Int32.toInt p1x141
    refine b_if_eq C (t := 72) rfl rfl rfl (fun c154 => by exfalso; omega) (fun c154 => ?_)
    exact k_vret C rfl rfl (Nat.le_of_ble_eq_true rfl) (Nat.le_of_ble_eq_true rfl) ⟨_, _, rfl, rfl, fun a1 h1 => by cases (R_r0_1.symm.trans h1); first | omega | (simp only [e145, e146, e147, e148, e149, e150, e153, k0_r0_1_0, k0_r0_1_1, k0_r0_1_2, k0_r0_1_3, k0_r0_1_4, k0_r0_1_5, and_true, true_and, or_true, true_or, and_false, false_and, or_false, false_or] <;> omega), fun a1 h1 => by cases (R_r0_1.symm.trans h1); first | omega | (simp only [e145, e146, e147, e148, e149, e150, e153, k0_r0_1_0, k0_r0_1_1, k0_r0_1_2, k0_r0_1_3, k0_r0_1_4, k0_r0_1_5, and_true, true_and, or_true, true_or, and_false, false_and, or_false, false_or] <;> omega), fun a1 h1 => by cases (R_r0_1.symm.trans h1); exact (fun r z0 => ((congrFun (CM.j0 S144 R_r0_1 (by decide)) r).trans ((congrFun (CM.j0 S92 R_r0_1 (by decide)) r).trans (congrFun (CM.j0 S3 R_r0_1 (by decide)) r)))), hI142, (CM.cons S3 (CM.cons S92 (CM.mono S144 (by decide) (by decide)) (by decide) (by decide)) (by decide) (by decide))⟩
  refine k_iload_n C rfl rfl rfl ?_
  refine z_bipush C (z := 17) rfl rfl rfl (fun x155 ex155 => ?_)
  refine b_icmp_eq C (t := 34) rfl rfl rfl (fun c156 => ?_) (fun c156 => ?_)
  · skip
    refine z_iconst C (z := 0) rfl rfl rfl (fun x157 ex157 => ?_)
    refine z_iconst C (z := 1) rfl rfl rfl (fun x158 ex158 => ?_)
    have q159 : x157.toNatClampNeg = 0 := nck (by omega)
    have q160 : x158.toNatClampNeg = 1 := nck (by omega)
    refine c_VI C (a_X12_throwsIf_e hI2 H_r0 (by omega) (by omega)) rfl rfl rfl rfl rfl ⟨_, rfl, rfl, T_r0, Nat.le_of_ble_eq_true rfl⟩ rfl rfl (Nat.le_of_ble_eq_true rfl) (Nat.le_of_ble_eq_true rfl) (Nat.le_of_ble_eq_true rfl) ?_
    rintro x161 I162 L163 ⟨o0x161, o1x161, p0x161, p1x161, hI162, S164⟩
    have e165 := CM.j S164 R_r0_1 (by decide) e4
    have e166 := CM.j S164 R_r0_1 (by decide) e5
    have e167 := CM.j S164 R_r0_1 (by decide) e6
    have e168 := CM.j S164 R_r0_1 (by decide) e7
    have e169 := CM.j S164 R_r0_1 (by decide) e8
    have e170 := CM.j S164 R_r0_1 (by decide) e9
    have gx161 := rg x161
    obtain ⟨x172, e173⟩ : ∃ x, I162 r0 0 = x := ⟨_, rfl⟩
    have gx172 := rg x172
    try simp only [q159, q160, e4, e5, e6, e7, e8, e9, e10, e173] at p0x161
    try have q0x161 := congrArg Int32.toInt p0x161
    try simp only [q159, q160, e4, e5, e6, e7, e8, e9, e10, e173] at p1x161
    try have q1x161 := congrArg Int32.toInt p1x161
    refine b_if_ne C (t := 71) rfl rfl rfl (fun c174 => by exfalso; omega) (fun c174 => ?_)
    refine k_aload_n C rfl rfl rfl ?_
    refine k_aload_n C rfl rfl rfl ?_
    refine g_R C rfl rfl rfl T_r0 rfl R_r0_1 ?_
    refine z_iconst C (z := 1) rfl rfl rfl (fun x175 ex175 => ?_)
    obtain ⟨T_r0_1, N_r0_1, A_r0_1⟩ := id H_r0_1
    refine a_I C rfl rfl T_r0_1 (by rw [N_r0_1]; exact vpi (by omega) (by omega)) ((congrArg (I162 r0_1) (nck (n := 1) (by omega))).trans e166) ?_
    refine k_aload_n C rfl rfl rfl ?_
    refine g_R C rfl rfl rfl T_r0 rfl R_r0_1 ?_
    refine z_iconst C (z := 2) rfl rfl rfl (fun x176 ex176 => ?_)
    refine a_I C rfl rfl T_r0_1 (by rw [N_r0_1]; exact vpi (by omega) (by omega)) ((congrArg (I162 r0_1) (nck (n := 2) (by omega))).trans e167) ?_
    refine z_iadd C rfl rfl ⟨by omega, by omega⟩ (fun x177 ex177 => ?_)
    refine b_if_le C (t := 63) rfl rfl rfl (fun c178 => ?_) (fun c178 => ?_)
    · skip
      refine z_iconst C (z := 0) rfl rfl rfl (fun x179 ex179 => ?_)
      refine z_iconst C (z := 2) rfl rfl rfl (fun x180 ex180 => ?_)
      have q181 : x179.toNatClampNeg = 0 := nck (by omega)
      have q182 : x180.toNatClampNeg = 2 := nck (by omega)
      refine c_VI C (a_X12_throwsIf_e hI162 H_r0 (by omega) (by omega)) rfl rfl rfl rfl rfl ⟨_, rfl, rfl, T_r0, Nat.le_of_ble_eq_true rfl⟩ rfl rfl (Nat.le_of_ble_eq_true rfl) (Nat.le_of_ble_eq_true rfl) (Nat.le_of_ble_eq_true rfl) ?_
      rintro x183 I184 L185 ⟨o0x183, o1x183, p0x183, p1x183, hI184, S186⟩
      have e187 := CM.j S186 R_r0_1 (by decide) e165
      have e188 := CM.j S186 R_r0_1 (by decide) e166
      have e189 := CM.j S186 R_r0_1 (by decide) e167
      have e190 := CM.j S186 R_r0_1 (by decide) e168
      have e191 := CM.j S186 R_r0_1 (by decide) e169
      have e192 := CM.j S186 R_r0_1 (by decide) e170
      have gx183 := rg x183
      obtain ⟨x194, e195⟩ : ∃ x, I184 r0 0 = x := ⟨_, rfl⟩
      have gx194 := rg x194
      try simp only [q181, q182, e165, e166, e167, e168, e169, e170, e173, e195] at p0x183
      try have q0x183 := congrArg Int32.toInt p0x183
      try simp only [q181, q182, e165, e166, e167, e168, e169, e170, e173, e195] at p1x183
      try have q1x183 := congrArg Int32.toInt p1x183
      refine b_if_eq C (t := 72) rfl rfl rfl (fun c196 => ?_) (fun c196 => by exfalso; omega)
      refine k_aload_n C rfl rfl rfl ?_
      refine g_R C rfl rfl rfl T_r0 rfl R_r0_1 ?_
      refine z_iconst C (z := 0) rfl rfl rfl (fun x197 ex197 => ?_)
      refine k_iload_n C rfl rfl rfl ?_
      refine z_sI C rfl rfl T_r0_1 N_r0_1 (by omega) (by omega) (fun I198 uI198 => ?_)
      have uI198 : I198 = u2 I184 r0_1 0 (n1) := by rw [uI198, nck (n := 0) (by omega)]
      have hI198 : IM R r0 I198 := IM.arr hI184 G_r0 R_r0_1 ⟨(fun h => absurd h (by decide)), (fun h => absurd h (by decide)), (fun h => absurd h (by decide))⟩ (fun _ => WOK.p (IM.w hI184 R_r0_1) (by rw [e188]; omega) (by omega)) uI198
      have S199 : CM A R r0 [] [1] I184 L185 I198 L185 := CM.a G_r0 R_r0_1 A_r0_1 uI198
      have F200 : ∀ r : Nat, r ≠ 0 → I198 r0_1 r = I184 r0_1 r := fun r z0 => by rw [uI198]; exact u2_k (by have h2 := ncz (x := x197) (by omega); omega)
      have e202 := u2_j uI198 (by first | decide | exact ncne (by omega) (by omega) (by omega) | exact nckn (by omega) (by omega) | exact (nckn (by omega) (by omega)).symm) e188
      have e203 := u2_j uI198 (by first | decide | exact ncne (by omega) (by omega) (by omega) | exact nckn (by omega) (by omega) | exact (nckn (by omega) (by omega)).symm) e189
      have e204 := u2_j uI198 (by first | decide | exact ncne (by omega) (by omega) (by omega) | exact nckn (by omega) (by omega) | exact (nckn (by omega) (by omega)).symm) e190
      have e205 := u2_j uI198 (by first | decide | exact ncne (by omega) (by omega) (by omega) | exact nckn (by omega) (by omega) | exact (nckn (by omega) (by omega)).symm) e191
      have e206 := u2_j uI198 (by first | decide | exact ncne (by omega) (by omega) (by omega) | exact nckn (by omega) (by omega) | exact (nckn (by omega) (by omega)).symm) e192
      have e207 := u2_n uI198 (fun e => (mF.ne G_r0 R_r0_1) e.symm) e195
      have e208 := u2_e uI198
      exact k_vret C rfl rfl (Nat.le_of_ble_eq_true rfl) (Nat.le_of_ble_eq_true rfl) ⟨_, _, rfl, rfl, fun a1 h1 => by cases (R_r0_1.symm.trans h1); first | omega | (simp only [e202, e203, e204, e205, e206, e207, e208, k0_r0_1_0, k0_r0_1_1, k0_r0_1_2, k0_r0_1_3, k0_r0_1_4, k0_r0_1_5, and_true, true_and, or_true, true_or, and_false, false_and, or_false, false_or] <;> omega), fun a1 h1 => by cases (R_r0_1.symm.trans h1); first | omega | (simp only [e202, e203, e204, e205, e206, e207, e208, k0_r0_1_0, k0_r0_1_1, k0_r0_1_2, k0_r0_1_3, k0_r0_1_4, k0_r0_1_5, and_true, true_and, or_true, true_or, and_false, false_and, or_false, false_or] <;> omega), fun a1 h1 => by cases (R_r0_1.symm.trans h1); exact (fun r z0 => ((F200 r z0).trans ((congrFun (CM.j0 S186 R_r0_1 (by decide)) r).trans ((congrFun (CM.j0 S164 R_r0_1 (by decide)) r).trans (congrFun (CM.j0 S3 R_r0_1 (by decide)) r))))), hI198, (CM.cons S3 (CM.cons S164 (CM.cons S186 (CM.mono S199 (by decide) (by decide)) (by decide) (by decide)) (by decide) (by decide)) (by decide) (by decide))⟩
    refine z_iconst C (z := 1) rfl rfl rfl (fun x209 ex209 => ?_)
    refine k_goto C (pc2 := 64) rfl rfl ?_
    refine z_iconst C (z := 2) rfl rfl rfl (fun x210 ex210 => ?_)
    have q211 : x209.toNatClampNeg = 1 := nck (by omega)
    have q212 : x210.toNatClampNeg = 2 := nck (by omega)
    refine c_VI C (a_X12_throwsIf_e hI162 H_r0 (by omega) (by omega)) rfl rfl rfl rfl rfl ⟨_, rfl, rfl, T_r0, Nat.le_of_ble_eq_true rfl⟩ rfl rfl (Nat.le_of_ble_eq_true rfl) (Nat.le_of_ble_eq_true rfl) (Nat.le_of_ble_eq_true rfl) ?_
    rintro x213 I214 L215 ⟨o0x213, o1x213, p0x213, p1x213, hI214, S216⟩
    have e217 := CM.j S216 R_r0_1 (by decide) e165
    have e218 := CM.j S216 R_r0_1 (by decide) e166
    have e219 := CM.j S216 R_r0_1 (by decide) e167
    have e220 := CM.j S216 R_r0_1 (by decide) e168
    have e221 := CM.j S216 R_r0_1 (by decide) e169
    have e222 := CM.j S216 R_r0_1 (by decide) e170
    have gx213 := rg x213
    obtain ⟨x224, e225⟩ : ∃ x, I214 r0 0 = x := ⟨_, rfl⟩
    have gx224 := rg x224
    try simp only [q211, q212, e165, e166, e167, e168, e169, e170, e173, e225] at p0x213
    try have q0x213 := congrArg Int32.toInt p0x213
    try simp only [q211, q212, e165, e166, e167, e168, e169, e170, e173, e225] at p1x213
    try have q1x213 := congrArg Int32.toInt p1x213
    refine b_if_eq C (t := 72) rfl rfl rfl (fun c226 => by exfalso; omega) (fun c226 => ?_)
    exact k_vret C rfl rfl (Nat.le_of_ble_eq_true rfl) (Nat.le_of_ble_eq_true rfl) ⟨_, _, rfl, rfl, fun a1 h1 => by cases (R_r0_1.symm.trans h1); first | omega | (simp only [e217, e218, e219, e220, e221, e222, e225, k0_r0_1_0, k0_r0_1_1, k0_r0_1_2, k0_r0_1_3, k0_r0_1_4, k0_r0_1_5, and_true, true_and, or_true, true_or, and_false, false_and, or_false, false_or] <;> omega), fun a1 h1 => by cases (R_r0_1.symm.trans h1); first | omega | (simp only [e217, e218, e219, e220, e221, e222, e225, k0_r0_1_0, k0_r0_1_1, k0_r0_1_2, k0_r0_1_3, k0_r0_1_4, k0_r0_1_5, and_true, true_and, or_true, true_or, and_false, false_and, or_false, false_or] <;> omega), fun a1 h1 => by cases (R_r0_1.symm.trans h1); exact (fun r z0 => ((congrFun (CM.j0 S216 R_r0_1 (by decide)) r).trans ((congrFun (CM.j0 S164 R_r0_1 (by decide)) r).trans (congrFun (CM.j0 S3 R_r0_1 (by decide)) r)))), hI214, (CM.cons S3 (CM.cons S164 (CM.mono S216 (by decide) (by decide)) (by decide) (by decide)) (by decide) (by decide))⟩
  refine k_iload_n C rfl rfl rfl ?_
  refine z_bipush C (z := 19) rfl rfl rfl (fun x227 ex227 => ?_)
  refine b_icmp_eq C (t := 34) rfl rfl rfl (fun c228 => ?_) (fun c228 => ?_)
  · skip
    refine z_iconst C (z := 0) rfl rfl rfl (fun x229 ex229 => ?_)
    refine z_iconst C (z := 1) rfl rfl rfl (fun x230 ex230 => ?_)
    have q231 : x229.toNatClampNeg = 0 := nck (by omega)
    have q232 : x230.toNatClampNeg = 1 := nck (by omega)
    refine c_VI C (a_X12_throwsIf_e hI2 H_r0 (by omega) (by omega)) rfl rfl rfl rfl rfl ⟨_, rfl, rfl, T_r0, Nat.le_of_ble_eq_true rfl⟩ rfl rfl (Nat.le_of_ble_eq_true rfl) (Nat.le_of_ble_eq_true rfl) (Nat.le_of_ble_eq_true rfl) ?_
    rintro x233 I234 L235 ⟨o0x233, o1x233, p0x233, p1x233, hI234, S236⟩
    have e237 := CM.j S236 R_r0_1 (by decide) e4
    have e238 := CM.j S236 R_r0_1 (by decide) e5
    have e239 := CM.j S236 R_r0_1 (by decide) e6
    have e240 := CM.j S236 R_r0_1 (by decide) e7
    have e241 := CM.j S236 R_r0_1 (by decide) e8
    have e242 := CM.j S236 R_r0_1 (by decide) e9
    have gx233 := rg x233
    obtain ⟨x244, e245⟩ : ∃ x, I234 r0 0 = x := ⟨_, rfl⟩
    have gx244 := rg x244
    try simp only [q231, q232, e4, e5, e6, e7, e8, e9, e10, e245] at p0x233
    try have q0x233 := congrArg Int32.toInt p0x233
    try simp only [q231, q232, e4, e5, e6, e7, e8, e9, e10, e245] at p1x233
    try have q1x233 := congrArg Int32.toInt p1x233
    refine b_if_ne C (t := 71) rfl rfl rfl (fun c246 => by exfalso; omega) (fun c246 => ?_)
    refine k_aload_n C rfl rfl rfl ?_
    refine k_aload_n C rfl rfl rfl ?_
    refine g_R C rfl rfl rfl T_r0 rfl R_r0_1 ?_
    refine z_iconst C (z := 1) rfl rfl rfl (fun x247 ex247 => ?_)
    obtain ⟨T_r0_1, N_r0_1, A_r0_1⟩ := id H_r0_1
    refine a_I C rfl rfl T_r0_1 (by rw [N_r0_1]; exact vpi (by omega) (by omega)) ((congrArg (I234 r0_1) (nck (n := 1) (by omega))).trans e238) ?_
    refine k_aload_n C rfl rfl rfl ?_
    refine g_R C rfl rfl rfl T_r0 rfl R_r0_1 ?_
    refine z_iconst C (z := 2) rfl rfl rfl (fun x248 ex248 => ?_)
    refine a_I C rfl rfl T_r0_1 (by rw [N_r0_1]; exact vpi (by omega) (by omega)) ((congrArg (I234 r0_1) (nck (n := 2) (by omega))).trans e239) ?_
    refine z_iadd C rfl rfl ⟨by omega, by omega⟩ (fun x249 ex249 => ?_)
    refine b_if_le C (t := 63) rfl rfl rfl (fun c250 => ?_) (fun c250 => ?_)
    · skip
      refine z_iconst C (z := 0) rfl rfl rfl (fun x251 ex251 => ?_)
      refine z_iconst C (z := 2) rfl rfl rfl (fun x252 ex252 => ?_)
      have q253 : x251.toNatClampNeg = 0 := nck (by omega)
      have q254 : x252.toNatClampNeg = 2 := nck (by omega)
      refine c_VI C (a_X12_throwsIf_e hI234 H_r0 (by omega) (by omega)) rfl rfl rfl rfl rfl ⟨_, rfl, rfl, T_r0, Nat.le_of_ble_eq_true rfl⟩ rfl rfl (Nat.le_of_ble_eq_true rfl) (Nat.le_of_ble_eq_true rfl) (Nat.le_of_ble_eq_true rfl) ?_
      rintro x255 I256 L257 ⟨o0x255, o1x255, p0x255, p1x255, hI256, S258⟩
      have e259 := CM.j S258 R_r0_1 (by decide) e237
      have e260 := CM.j S258 R_r0_1 (by decide) e238
      have e261 := CM.j S258 R_r0_1 (by decide) e239
      have e262 := CM.j S258 R_r0_1 (by decide) e240
      have e263 := CM.j S258 R_r0_1 (by decide) e241
      have e264 := CM.j S258 R_r0_1 (by decide) e242
      have gx255 := rg x255
      obtain ⟨x266, e267⟩ : ∃ x, I256 r0 0 = x := ⟨_, rfl⟩
      have gx266 := rg x266
      try simp only [q253, q254, e237, e238, e239, e240, e241, e242, e245, e267] at p0x255
      try have q0x255 := congrArg Int32.toInt p0x255
      try simp only [q253, q254, e237, e238, e239, e240, e241, e242, e245, e267] at p1x255
      try have q1x255 := congrArg Int32.toInt p1x255
      refine b_if_eq C (t := 72) rfl rfl rfl (fun c268 => ?_) (fun c268 => by exfalso; omega)
      refine k_aload_n C rfl rfl rfl ?_
      refine g_R C rfl rfl rfl T_r0 rfl R_r0_1 ?_
      refine z_iconst C (z := 0) rfl rfl rfl (fun x269 ex269 => ?_)
      refine k_iload_n C rfl rfl rfl ?_
      refine z_sI C rfl rfl T_r0_1 N_r0_1 (by omega) (by omega) (fun I270 uI270 => ?_)
      have uI270 : I270 = u2 I256 r0_1 0 (n1) := by rw [uI270, nck (n := 0) (by omega)]
      have hI270 : IM R r0 I270 := IM.arr hI256 G_r0 R_r0_1 ⟨(fun h => absurd h (by decide)), (fun h => absurd h (by decide)), (fun h => absurd h (by decide))⟩ (fun _ => WOK.p (IM.w hI256 R_r0_1) (by rw [e260]; omega) (by omega)) uI270
      have S271 : CM A R r0 [] [1] I256 L257 I270 L257 := CM.a G_r0 R_r0_1 A_r0_1 uI270
      have F272 : ∀ r : Nat, r ≠ 0 → I270 r0_1 r = I256 r0_1 r := fun r z0 => by rw [uI270]; exact u2_k (by have h2 := ncz (x := x269) (by omega); omega)
      have e274 := u2_j uI270 (by first | decide | exact ncne (by omega) (by omega) (by omega) | exact nckn (by omega) (by omega) | exact (nckn (by omega) (by omega)).symm) e260
      have e275 := u2_j uI270 (by first | decide | exact ncne (by omega) (by omega) (by omega) | exact nckn (by omega) (by omega) | exact (nckn (by omega) (by omega)).symm) e261
      have e276 := u2_j uI270 (by first | decide | exact ncne (by omega) (by omega) (by omega) | exact nckn (by omega) (by omega) | exact (nckn (by omega) (by omega)).symm) e262
      have e277 := u2_j uI270 (by first | decide | exact ncne (by omega) (by omega) (by omega) | exact nckn (by omega) (by omega) | exact (nckn (by omega) (by omega)).symm) e263
      have e278 := u2_j uI270 (by first | decide | exact ncne (by omega) (by omega) (by omega) | exact nckn (by omega) (by omega) | exact (nckn (by omega) (by omega)).symm) e264
      have e279 := u2_n uI270 (fun e => (mF.ne G_r0 R_r0_1) e.symm) e267
      have e280 := u2_e uI270
      exact k_vret C rfl rfl (Nat.le_of_ble_eq_true rfl) (Nat.le_of_ble_eq_true rfl) ⟨_, _, rfl, rfl, fun a1 h1 => by cases (R_r0_1.symm.trans h1); first | omega | (simp only [e274, e275, e276, e277, e278, e279, e280, k0_r0_1_0, k0_r0_1_1, k0_r0_1_2, k0_r0_1_3, k0_r0_1_4, k0_r0_1_5, and_true, true_and, or_true, true_or, and_false, false_and, or_false, false_or] <;> omega), fun a1 h1 => by cases (R_r0_1.symm.trans h1); first | omega | (simp only [e274, e275, e276, e277, e278, e279, e280, k0_r0_1_0, k0_r0_1_1, k0_r0_1_2, k0_r0_1_3, k0_r0_1_4, k0_r0_1_5, and_true, true_and, or_true, true_or, and_false, false_and, or_false, false_or] <;> omega), fun a1 h1 => by cases (R_r0_1.symm.trans h1); exact (fun r z0 => ((F272 r z0).trans ((congrFun (CM.j0 S258 R_r0_1 (by decide)) r).trans ((congrFun (CM.j0 S236 R_r0_1 (by decide)) r).trans (congrFun (CM.j0 S3 R_r0_1 (by decide)) r))))), hI270, (CM.cons S3 (CM.cons S236 (CM.cons S258 (CM.mono S271 (by decide) (by decide)) (by decide) (by decide)) (by decide) (by decide)) (by decide) (by decide))⟩
    refine z_iconst C (z := 1) rfl rfl rfl (fun x281 ex281 => ?_)
    refine k_goto C (pc2 := 64) rfl rfl ?_
    refine z_iconst C (z := 2) rfl rfl rfl (fun x282 ex282 => ?_)
    have q283 : x281.toNatClampNeg = 1 := nck (by omega)
    have q284 : x282.toNatClampNeg = 2 := nck (by omega)
    refine c_VI C (a_X12_throwsIf_e hI234 H_r0 (by omega) (by omega)) rfl rfl rfl rfl rfl ⟨_, rfl, rfl, T_r0, Nat.le_of_ble_eq_true rfl⟩ rfl rfl (Nat.le_of_ble_eq_true rfl) (Nat.le_of_ble_eq_true rfl) (Nat.le_of_ble_eq_true rfl) ?_
    rintro x285 I286 L287 ⟨o0x285, o1x285, p0x285, p1x285, hI286, S288⟩
    have e289 := CM.j S288 R_r0_1 (by decide) e237
    have e290 := CM.j S288 R_r0_1 (by decide) e238
    have e291 := CM.j S288 R_r0_1 (by decide) e239
    have e292 := CM.j S288 R_r0_1 (by decide) e240
    have e293 := CM.j S288 R_r0_1 (by decide) e241
    have e294 := CM.j S288 R_r0_1 (by decide) e242
    have gx285 := rg x285
    obtain ⟨x296, e297⟩ : ∃ x, I286 r0 0 = x := ⟨_, rfl⟩
    have gx296 := rg x296
    try simp only [q283, q284, e237, e238, e239, e240, e241, e242, e245, e297] at p0x285
    try have q0x285 := congrArg Int32.toInt p0x285
    try simp only [q283, q284, e237, e238, e239, e240, e241, e242, e245, e297] at p1x285
    try have q1x285 := congrArg Int32.toInt p1x285
    refine b_if_eq C (t := 72) rfl rfl rfl (fun c298 => by exfalso; omega) (fun c298 => ?_)
    exact k_vret C rfl rfl (Nat.le_of_ble_eq_true rfl) (Nat.le_of_ble_eq_true rfl) ⟨_, _, rfl, rfl, fun a1 h1 => by cases (R_r0_1.symm.trans h1); first | omega | (simp only [e289, e290, e291, e292, e293, e294, e297, k0_r0_1_0, k0_r0_1_1, k0_r0_1_2, k0_r0_1_3, k0_r0_1_4, k0_r0_1_5, and_true, true_and, or_true, true_or, and_false, false_and, or_false, false_or] <;> omega), fun a1 h1 => by cases (R_r0_1.symm.trans h1); first | omega | (simp only [e289, e290, e291, e292, e293, e294, e297, k0_r0_1_0, k0_r0_1_1, k0_r0_1_2, k0_r0_1_3, k0_r0_1_4, k0_r0_1_5, and_true, true_and, or_true, true_or, and_false, false_and, or_false, false_or] <;> omega), fun a1 h1 => by cases (R_r0_1.symm.trans h1); exact (fun r z0 => ((congrFun (CM.j0 S288 R_r0_1 (by decide)) r).trans ((congrFun (CM.j0 S236 R_r0_1 (by decide)) r).trans (congrFun (CM.j0 S3 R_r0_1 (by decide)) r)))), hI286, (CM.cons S3 (CM.cons S236 (CM.mono S288 (by decide) (by decide)) (by decide) (by decide)) (by decide) (by decide))⟩
  refine z_iconst C (z := 1) rfl rfl rfl (fun x299 ex299 => ?_)
  refine k_goto C (pc2 := 35) rfl rfl ?_
  refine z_iconst C (z := 1) rfl rfl rfl (fun x300 ex300 => ?_)
  have q301 : x299.toNatClampNeg = 1 := nck (by omega)
  have q302 : x300.toNatClampNeg = 1 := nck (by omega)
  refine c_VI C (a_X12_throwsIf_e hI2 H_r0 (by omega) (by omega)) rfl rfl rfl rfl rfl ⟨_, rfl, rfl, T_r0, Nat.le_of_ble_eq_true rfl⟩ rfl rfl (Nat.le_of_ble_eq_true rfl) (Nat.le_of_ble_eq_true rfl) (Nat.le_of_ble_eq_true rfl) ?_
  rintro x303 I304 L305 ⟨o0x303, o1x303, p0x303, p1x303, hI304, S306⟩
  have e307 := CM.j S306 R_r0_1 (by decide) e4
  have e308 := CM.j S306 R_r0_1 (by decide) e5
  have e309 := CM.j S306 R_r0_1 (by decide) e6
  have e310 := CM.j S306 R_r0_1 (by decide) e7
  have e311 := CM.j S306 R_r0_1 (by decide) e8
  have e312 := CM.j S306 R_r0_1 (by decide) e9
  have gx303 := rg x303
  obtain ⟨x314, e315⟩ : ∃ x, I304 r0 0 = x := ⟨_, rfl⟩
  have gx314 := rg x314
  try simp only [q301, q302, e4, e5, e6, e7, e8, e9, e10, e315] at p0x303
  try have q0x303 := congrArg Int32.toInt p0x303
  try simp only [q301, q302, e4, e5, e6, e7, e8, e9, e10, e315] at p1x303
  try have q1x303 := congrArg Int32.toInt p1x303
  refine b_if_ne C (t := 71) rfl rfl rfl (fun c316 => ?_) (fun c316 => by exfalso; omega)
  exact k_vret C rfl rfl (Nat.le_of_ble_eq_true rfl) (Nat.le_of_ble_eq_true rfl) ⟨_, _, rfl, rfl, fun a1 h1 => by cases (R_r0_1.symm.trans h1); first | omega | (simp only [e307, e308, e309, e310, e311, e312, e315, k0_r0_1_0, k0_r0_1_1, k0_r0_1_2, k0_r0_1_3, k0_r0_1_4, k0_r0_1_5, and_true, true_and, or_true, true_or, and_false, false_and, or_false, false_or] <;> omega), fun a1 h1 => by cases (R_r0_1.symm.trans h1); first | omega | (simp only [e307, e308, e309, e310, e311, e312, e315, k0_r0_1_0, k0_r0_1_1, k0_r0_1_2, k0_r0_1_3, k0_r0_1_4, k0_r0_1_5, and_true, true_and, or_true, true_or, and_false, false_and, or_false, false_or] <;> omega), fun a1 h1 => by cases (R_r0_1.symm.trans h1); exact (fun r z0 => ((congrFun (CM.j0 S306 R_r0_1 (by decide)) r).trans (congrFun (CM.j0 S3 R_r0_1 (by decide)) r))), hI304, (CM.cons S3 (CM.mono S306 (by decide) (by decide)) (by decide) (by decide))⟩

theorem a_X12_image_e {d : Nat} {T N : Nat → Nat} {I : IT} {L : LT} {R : RT} {A : Nat → Prop} {r0 : Nat} (hI : IM R r0 I) (H_r0 : (h_MD T N R A) r0) (hp0 : ∀ a1, R r0 1 = some a1 → (I a1 4).toInt + (I a1 5).toInt ≤ 40) : Ex (d + 1) 181 [.ref r0] (T, N, I, L, R) 0 0 (pV T N R (fun I9 L9 => (∀ a2, R r0 2 = some a2 → WOS (I9 a2)) ∧ ((I9 r0 3).toInt = 1) ∧ (∀ a1 a2, R r0 1 = some a1 → R r0 2 = some a2 → CPA I9 I a2 a1) ∧ (IM R r0 I9 ∧ CM A R r0 [0, 3] [2] I L I9 L9))) := by
  refine ⟨_, rfl, Nat.le_of_ble_eq_true rfl, fun V C S => ?_⟩
  show V 0 [(0, .ref r0)] [] (T, N, I, L, R) 0 0
  obtain ⟨T_r0, A_r0, ⟨r0_1, R_r0_1, H_r0_1⟩, ⟨r0_2, R_r0_2, H_r0_2⟩, ⟨r0_4, R_r0_4, H_r0_4⟩, ⟨r0_5, R_r0_5, H_r0_5⟩, ⟨r0_10, R_r0_10, H_r0_10⟩, ⟨r0_18, R_r0_18, H_r0_18⟩, ⟨r0_20, R_r0_20, H_r0_20⟩, ⟨r0_21, R_r0_21, H_r0_21⟩, ⟨r0_22, R_r0_22, H_r0_22⟩, ⟨r0_23, R_r0_23, H_r0_23⟩, ⟨r0_25, R_r0_25, H_r0_25⟩, ⟨r0_26, R_r0_26, H_r0_26⟩, ⟨r0_27, R_r0_27, H_r0_27⟩, ⟨r0_28, R_r0_28, H_r0_28⟩, ⟨r0_34, R_r0_34, H_r0_34⟩, J_r0, Y_r0⟩ := id H_r0
  have G_r0 : mF T R r0 := ⟨J_r0, Y_r0, T_r0⟩
  obtain ⟨w_r0_1_4, k0_r0_1_4⟩ : ∃ x, I r0_1 4 = x := ⟨_, rfl⟩
  have gw_r0_1_4 := rg w_r0_1_4
  have ow_r0_1_4 := IM.c4 hI R_r0_1 k0_r0_1_4
  obtain ⟨w_r0_1_5, k0_r0_1_5⟩ : ∃ x, I r0_1 5 = x := ⟨_, rfl⟩
  have gw_r0_1_5 := rg w_r0_1_5
  have ow_r0_1_5 := IM.c5 hI R_r0_1 k0_r0_1_5
  have hp0 := hp0 r0_1 R_r0_1
  try simp only [k0_r0_1_4, k0_r0_1_5] at hp0
  refine k_aload_n C rfl rfl rfl ?_
  refine z_iconst C (z := 0) rfl rfl rfl (fun x1 ex1 => ?_)
  refine z_pI C rfl rfl rfl T_r0 (Or.inr rfl) rfl (fun I2 uI2 => ?_)
  have hI2 : IM R r0 I2 := IM.fld hI G_r0 ⟨(fun h => absurd h (by decide)), (fun h => absurd h (by decide)), (fun h => absurd h (by decide)), (fun h => absurd h (by decide)), (fun h => absurd h (by decide))⟩ uI2
  have S3 : CM A R r0 [0] [] I L I2 L := CM.f G_r0 A_r0 uI2
  have e4 := u2_n uI2 (mF.ne G_r0 R_r0_1) k0_r0_1_4
  have e5 := u2_n uI2 (mF.ne G_r0 R_r0_1) k0_r0_1_5
  have e6 := u2_e uI2
  refine z_iconst C (z := 0) rfl rfl rfl (fun x7 ex7 => ?_)
  have J8 : ∀ (nn9 : Nat) (I10 : IT) (L11 : LT) (x12 : Int32), (MN (3606 - x12.toInt) nn9) → (IM R r0 I10) → (CM A R r0 [] [2] I2 L I10 L11) → (0 ≤ x12.toInt) → (x12.toInt ≤ 3606) → (CPW I10 r0_1 r0_2 x12.toInt) → V 7 [(0, .ref r0), (1, .int x12)] [] (T, N, I10, L11, R) 0 0 := by
    intro nn9
    induction nn9 using Nat.strongRecOn with
    | _ nn9 ihJ8 =>
      intro I10 L11 x12 hmnn9 hI16 S15 b13 b14 ff7_0
      have gx12 := rg x12
      have e17 := CM.j S15 R_r0_1 (by decide) e4
      have e18 := CM.j S15 R_r0_1 (by decide) e5
      have e19 := CM.k S15 (by decide) e6
      refine k_iload_n C rfl rfl rfl ?_
      refine z_sipush C (z := 3606) rfl rfl rfl (fun x20 ex20 => ?_)
      refine b_icmp_ge C (t := 32) rfl rfl rfl (fun c21 => ?_) (fun c21 => ?_)
      · skip
        refine k_aload_n C rfl rfl rfl ?_
        refine z_iconst C (z := 1) rfl rfl rfl (fun x22 ex22 => ?_)
        refine z_pZ C rfl rfl rfl T_r0 (Or.inr rfl) rfl (z01 (by omega) (by omega)) (fun I23 uI23 => ?_)
        have hI23 : IM R r0 I23 := IM.fld hI16 G_r0 ⟨(fun h => absurd h (by decide)), (fun h => absurd h (by decide)), (fun h => absurd h (by decide)), (fun h => absurd h (by decide)), (fun h => absurd h (by decide))⟩ uI23
        have S24 : CM A R r0 [3] [] I10 L11 I23 L11 := CM.f G_r0 A_r0 uI23
        have e25 := u2_n uI23 (mF.ne G_r0 R_r0_1) e17
        have e26 := u2_n uI23 (mF.ne G_r0 R_r0_1) e18
        have e27 := u2_j uI23 (by first | decide | exact ncne (by omega) (by omega) (by omega) | exact nckn (by omega) (by omega) | exact (nckn (by omega) (by omega)).symm) e19
        have e28 := u2_e uI23
        exact k_vret C rfl rfl (Nat.le_of_ble_eq_true rfl) (Nat.le_of_ble_eq_true rfl) ⟨_, _, rfl, rfl, fun a2 h2 => by cases (R_r0_2.symm.trans h2); exact WOS.eq (g := I23 r0_1) ⟨IM.w hI23 R_r0_1, by rw [e25, e26]; omega⟩ (fun k hk => by rw [CM.j0 S24 R_r0_2 (by decide), CM.j0 S24 R_r0_1 (by decide)]; exact ff7_0 k (by omega)), by first | omega | (simp only [e25, e26, e27, e28, k0_r0_1_4, k0_r0_1_5, and_true, true_and, or_true, true_or, and_false, false_and, or_false, false_or] <;> omega), fun a1 a2 h1 h2 => by cases (R_r0_1.symm.trans h1); cases (R_r0_2.symm.trans h2); exact CPA.of (fun k hk => by rw [CM.j0 S24 R_r0_2 (by decide), CM.j0 S24 R_r0_1 (by decide)]; exact ff7_0 k hk) (n := x12.toInt) (by omega) (CM.j0 (I := I) (L := L) (I' := I23) (L' := L11) (A := A) (W := [0, 3]) (WA := [2]) (CM.cons S3 (CM.cons S15 (CM.mono S24 (by decide) (by decide)) (by decide) (by decide)) (by decide) (by decide)) R_r0_1 (by decide)), hI23, (CM.cons S3 (CM.cons S15 (CM.mono S24 (by decide) (by decide)) (by decide) (by decide)) (by decide) (by decide))⟩
      refine k_aload_n C rfl rfl rfl ?_
      refine g_R C rfl rfl rfl T_r0 rfl R_r0_2 ?_
      refine k_iload_n C rfl rfl rfl ?_
      refine k_aload_n C rfl rfl rfl ?_
      refine g_R C rfl rfl rfl T_r0 rfl R_r0_1 ?_
      refine k_iload_n C rfl rfl rfl ?_
      obtain ⟨T_r0_1, N_r0_1, A_r0_1⟩ := id H_r0_1
      refine z_aI C rfl rfl T_r0_1 N_r0_1 (by omega) (by omega) (fun x29 ex29 => ?_)
      have gx29 := rg x29
      have hr := ex29
      obtain ⟨T_r0_2, N_r0_2, A_r0_2⟩ := id H_r0_2
      refine z_sI C rfl rfl T_r0_2 N_r0_2 (by omega) (by omega) (fun I30 uI30 => ?_)
      have hI30 : IM R r0 I30 := IM.arr hI16 G_r0 R_r0_2 ⟨(fun h => absurd h (by decide)), (fun h => absurd h (by decide)), (fun h => absurd h (by decide))⟩ (fun h => absurd h (by decide)) uI30
      have S31 : CM A R r0 [] [2] I10 L11 I30 L11 := CM.a G_r0 R_r0_2 A_r0_2 uI30
      have e32 := u2_n uI30 (mF.nq G_r0 R_r0_1 R_r0_2 (by decide)) e17
      have e33 := u2_n uI30 (mF.nq G_r0 R_r0_1 R_r0_2 (by decide)) e18
      have e34 := u2_n uI30 (fun e => (mF.ne G_r0 R_r0_2) e.symm) e19
      have e35 := u2_n uI30 (mF.nq G_r0 R_r0_1 R_r0_2 (by decide)) ex29
      have e36 := u2_e uI30
      have hu := uI30
      refine z_iinc C (z := 1) (lw := fun x37 => [(1, .int x37), (0, .ref r0)]) rfl rfl rfl (Nat.le_of_ble_eq_true rfl) rfl ⟨by omega, by omega⟩ (fun _ => rfl) (fun x37 ex37 => ?_)
      show V 29 [(1, .int x37), (0, .ref r0)] _ _ _ _
      refine k_goto C (pc2 := 7) rfl rfl ?_
      refine k_sub S [(0, .ref r0), (1, .int x37)] (List.forall_mem_cons.mpr ⟨List.mem_of_getElem? (i := 1) rfl, List.forall_mem_cons.mpr ⟨List.mem_of_getElem? (i := 0) rfl, fun _ h => nomatch h⟩⟩) ?_
      exact ihJ8 _ (MN.lt hmnn9 (by omega) (by omega)) I30 L11 x37 rfl hI30 (CM.cons S15 (CM.mono S31 (by decide) (by decide)) (by decide) (by decide)) (by omega) (by omega) (by exact CPW.s ff7_0 hu (mF.nq G_r0 R_r0_1 R_r0_2 (by decide)) hr (by omega) (by omega))
  refine k_istore_n C (lw := [(1, .int x7), (0, .ref r0)]) rfl rfl (Nat.le_of_ble_eq_true rfl) rfl ?_
  refine k_sub S [(0, .ref r0), (1, .int x7)] (List.forall_mem_cons.mpr ⟨List.mem_of_getElem? (i := 1) rfl, List.forall_mem_cons.mpr ⟨List.mem_of_getElem? (i := 0) rfl, fun _ h => nomatch h⟩⟩) ?_
  exact J8 _ I2 L x7 rfl hI2 CM.rf (by omega) (by omega) (by exact CPW.z (by omega))

theorem a_X12_back_e {d : Nat} {T N : Nat → Nat} {I : IT} {L : LT} {R : RT} {A : Nat → Prop} {r0 : Nat} (hI : IM R r0 I) (H_r0 : (h_MD T N R A) r0) (hp0 : ∀ a1, R r0 1 = some a1 → (I a1 4).toInt + (I a1 5).toInt ≤ 40) (hp1 : ∀ a2, R r0 2 = some a2 → (I r0 3).toInt ≠ 0 → WOS (I a2)) : Ex (d + 1) 182 [.ref r0] (T, N, I, L, R) 0 0 (pI T N R (fun x9 I9 L9 => (0 ≤ x9.toInt) ∧ (x9.toInt ≤ 1) ∧ (∀ a1, R r0 1 = some a1 → (I9 a1 4).toInt + (I9 a1 5).toInt ≤ 40) ∧ (∀ a1 a2, R r0 1 = some a1 → R r0 2 = some a2 → BKD I9 I a1 a2 x9.toInt (I r0 3).toInt) ∧ (IM R r0 I9 ∧ CM A R r0 [0] [1] I L I9 L9))) := by
  refine ⟨_, rfl, Nat.le_of_ble_eq_true rfl, fun V C S => ?_⟩
  show V 0 [(0, .ref r0)] [] (T, N, I, L, R) 0 0
  obtain ⟨T_r0, A_r0, ⟨r0_1, R_r0_1, H_r0_1⟩, ⟨r0_2, R_r0_2, H_r0_2⟩, ⟨r0_4, R_r0_4, H_r0_4⟩, ⟨r0_5, R_r0_5, H_r0_5⟩, ⟨r0_10, R_r0_10, H_r0_10⟩, ⟨r0_18, R_r0_18, H_r0_18⟩, ⟨r0_20, R_r0_20, H_r0_20⟩, ⟨r0_21, R_r0_21, H_r0_21⟩, ⟨r0_22, R_r0_22, H_r0_22⟩, ⟨r0_23, R_r0_23, H_r0_23⟩, ⟨r0_25, R_r0_25, H_r0_25⟩, ⟨r0_26, R_r0_26, H_r0_26⟩, ⟨r0_27, R_r0_27, H_r0_27⟩, ⟨r0_28, R_r0_28, H_r0_28⟩, ⟨r0_34, R_r0_34, H_r0_34⟩, J_r0, Y_r0⟩ := id H_r0
  have G_r0 : mF T R r0 := ⟨J_r0, Y_r0, T_r0⟩
  obtain ⟨w_r0_1_4, k0_r0_1_4⟩ : ∃ x, I r0_1 4 = x := ⟨_, rfl⟩
  have gw_r0_1_4 := rg w_r0_1_4
  have ow_r0_1_4 := IM.c4 hI R_r0_1 k0_r0_1_4
  obtain ⟨w_r0_1_5, k0_r0_1_5⟩ : ∃ x, I r0_1 5 = x := ⟨_, rfl⟩
  have gw_r0_1_5 := rg w_r0_1_5
  have ow_r0_1_5 := IM.c5 hI R_r0_1 k0_r0_1_5
  obtain ⟨w_r0_3, k0_r0_3⟩ : ∃ x, I r0 3 = x := ⟨_, rfl⟩
  have gw_r0_3 := rg w_r0_3
  have hp0 := hp0 r0_1 R_r0_1
  have hp1 := hp1 r0_2 R_r0_2
  try simp only [k0_r0_1_4, k0_r0_1_5, k0_r0_3] at hp0
  try simp only [k0_r0_1_4, k0_r0_1_5, k0_r0_3] at hp1
  refine k_aload_n C rfl rfl rfl ?_
  refine z_iconst C (z := 0) rfl rfl rfl (fun x1 ex1 => ?_)
  refine z_pI C rfl rfl rfl T_r0 (Or.inr rfl) rfl (fun I2 uI2 => ?_)
  have hI2 : TT R r0 I2 := TT.i
  have S3 : CM A R r0 [0] [] I L I2 L := CM.f G_r0 A_r0 uI2
  have e4 := u2_n uI2 (mF.ne G_r0 R_r0_1) k0_r0_1_4
  have e5 := u2_n uI2 (mF.ne G_r0 R_r0_1) k0_r0_1_5
  have e6 := u2_j uI2 (by first | decide | exact ncne (by omega) (by omega) (by omega) | exact nckn (by omega) (by omega) | exact (nckn (by omega) (by omega)).symm) k0_r0_3
  have e7 := u2_e uI2
  refine k_aload_n C rfl rfl rfl ?_
  refine g_I C rfl rfl rfl T_r0 rfl e6 ?_
  refine b_if_ne C (t := 14) rfl rfl rfl (fun c8 => ?_) (fun c8 => ?_)
  · skip
    refine z_iconst C (z := 0) rfl rfl rfl (fun x9 ex9 => ?_)
    have J10 : ∀ (nn11 : Nat) (I12 : IT) (L13 : LT) (x14 : Int32), (MN (3606 - x14.toInt) nn11) → (TT R r0 I12) → (CM A R r0 [] [1] I2 L I12 L13) → (0 ≤ x14.toInt) → (x14.toInt ≤ 3606) → (CPW I12 r0_2 r0_1 x14.toInt) → V 16 [(0, .ref r0), (1, .int x14)] [] (T, N, I12, L13, R) 0 0 := by
      intro nn11
      induction nn11 using Nat.strongRecOn with
      | _ nn11 ihJ10 =>
        intro I12 L13 x14 hmnn11 hI18 S17 b15 b16 ff16_0
        have gx14 := rg x14
        have e19 := CM.k S17 (by decide) e6
        have e20 := CM.k S17 (by decide) e7
        refine k_iload_n C rfl rfl rfl ?_
        refine z_sipush C (z := 3606) rfl rfl rfl (fun x21 ex21 => ?_)
        refine b_icmp_ge C (t := 41) rfl rfl rfl (fun c22 => ?_) (fun c22 => ?_)
        · skip
          refine z_iconst C (z := 1) rfl rfl rfl (fun x23 ex23 => ?_)
          exact k_iret C rfl (Or.inr ⟨rfl, z01 (by omega) (by omega)⟩) (Nat.le_of_ble_eq_true rfl) (Nat.le_of_ble_eq_true rfl) ⟨_, _, _, rfl, rfl, by omega, by omega, fun a1 h1 => by cases (R_r0_1.symm.trans h1); rw [ff16_0 4 (by omega), ff16_0 5 (by omega), (CM.j0 (I := I) (L := L) (I' := I12) (L' := L13) (A := A) (W := [0]) (WA := [1]) (CM.cons S3 (CM.mono S17 (by decide) (by decide)) (by decide) (by decide)) R_r0_2 (by decide))]; exact (hp1 (by omega)).2, fun a1 a2 h1 h2 => by cases (R_r0_1.symm.trans h1); cases (R_r0_2.symm.trans h2); simp only [k0_r0_3]; exact Or.inr ⟨by omega, by omega, CPA.of ff16_0 (by omega) (CM.j0 (I := I) (L := L) (I' := I12) (L' := L13) (A := A) (W := [0]) (WA := [1]) (CM.cons S3 (CM.mono S17 (by decide) (by decide)) (by decide) (by decide)) R_r0_2 (by decide))⟩, IM.bk hI (CM.cons S3 (CM.mono S17 (by decide) (by decide)) (by decide) (by decide)) R_r0_1 (WOK.eq (g := I12 r0_2) (by rw [(CM.j0 (I := I) (L := L) (I' := I12) (L' := L13) (A := A) (W := [0]) (WA := [1]) (CM.cons S3 (CM.mono S17 (by decide) (by decide)) (by decide) (by decide)) R_r0_2 (by decide))]; exact (hp1 (by omega)).1) (fun k hk => ff16_0 k (by omega))), (CM.cons S3 (CM.mono S17 (by decide) (by decide)) (by decide) (by decide))⟩
        refine k_aload_n C rfl rfl rfl ?_
        refine g_R C rfl rfl rfl T_r0 rfl R_r0_1 ?_
        refine k_iload_n C rfl rfl rfl ?_
        refine k_aload_n C rfl rfl rfl ?_
        refine g_R C rfl rfl rfl T_r0 rfl R_r0_2 ?_
        refine k_iload_n C rfl rfl rfl ?_
        obtain ⟨T_r0_2, N_r0_2, A_r0_2⟩ := id H_r0_2
        refine z_aI C rfl rfl T_r0_2 N_r0_2 (by omega) (by omega) (fun x24 ex24 => ?_)
        have gx24 := rg x24
        have hr := ex24
        obtain ⟨T_r0_1, N_r0_1, A_r0_1⟩ := id H_r0_1
        refine z_sI C rfl rfl T_r0_1 N_r0_1 (by omega) (by omega) (fun I25 uI25 => ?_)
        have hI25 : TT R r0 I25 := TT.i
        have S26 : CM A R r0 [] [1] I12 L13 I25 L13 := CM.a G_r0 R_r0_1 A_r0_1 uI25
        have e27 := u2_n uI25 (fun e => (mF.ne G_r0 R_r0_1) e.symm) e19
        have e28 := u2_n uI25 (fun e => (mF.ne G_r0 R_r0_1) e.symm) e20
        have e29 := u2_n uI25 (mF.nq G_r0 R_r0_2 R_r0_1 (by decide)) ex24
        have e30 := u2_e uI25
        have hu := uI25
        refine z_iinc C (z := 1) (lw := fun x31 => [(1, .int x31), (0, .ref r0)]) rfl rfl rfl (Nat.le_of_ble_eq_true rfl) rfl ⟨by omega, by omega⟩ (fun _ => rfl) (fun x31 ex31 => ?_)
        show V 38 [(1, .int x31), (0, .ref r0)] _ _ _ _
        refine k_goto C (pc2 := 16) rfl rfl ?_
        refine k_sub S [(0, .ref r0), (1, .int x31)] (List.forall_mem_cons.mpr ⟨List.mem_of_getElem? (i := 1) rfl, List.forall_mem_cons.mpr ⟨List.mem_of_getElem? (i := 0) rfl, fun _ h => nomatch h⟩⟩) ?_
        exact ihJ10 _ (MN.lt hmnn11 (by omega) (by omega)) I25 L13 x31 rfl TT.i (CM.cons S17 (CM.mono S26 (by decide) (by decide)) (by decide) (by decide)) (by omega) (by omega) (by exact CPW.s ff16_0 hu (mF.nq G_r0 R_r0_2 R_r0_1 (by decide)) hr (by omega) (by omega))
    refine k_istore_n C (lw := [(1, .int x9), (0, .ref r0)]) rfl rfl (Nat.le_of_ble_eq_true rfl) rfl ?_
    refine k_sub S [(0, .ref r0), (1, .int x9)] (List.forall_mem_cons.mpr ⟨List.mem_of_getElem? (i := 1) rfl, List.forall_mem_cons.mpr ⟨List.mem_of_getElem? (i := 0) rfl, fun _ h => nomatch h⟩⟩) ?_
    exact J10 _ I2 L x9 rfl TT.i CM.rf (by omega) (by omega) (by exact CPW.z (by omega))
  refine z_iconst C (z := 0) rfl rfl rfl (fun x32 ex32 => ?_)
  exact k_iret C rfl (Or.inr ⟨rfl, z01 (by omega) (by omega)⟩) (Nat.le_of_ble_eq_true rfl) (Nat.le_of_ble_eq_true rfl) ⟨_, _, _, rfl, rfl, by omega, by omega, fun a1 h1 => by cases (R_r0_1.symm.trans h1); first | omega | (simp only [e4, e5, e6, e7, k0_r0_1_4, k0_r0_1_5, k0_r0_3, and_true, true_and, or_true, true_or, and_false, false_and, or_false, false_or] <;> omega), fun a1 a2 h1 h2 => by cases (R_r0_1.symm.trans h1); cases (R_r0_2.symm.trans h2); simp only [k0_r0_3]; exact Or.inl ⟨by omega, by omega, CPA.rf (CM.j0 S3 R_r0_1 (by decide))⟩, IM.bk hI (CM.mono S3 (by decide) (by decide)) R_r0_1 (by rw [CM.j0 S3 R_r0_1 (by decide)]; exact IM.w hI R_r0_1), (CM.mono S3 (by decide) (by decide))⟩

