/-! the reference: what is told, exactly -/
def dtR (p a b c d : Int) : Int := (((a % p) * (d % p)).tmod p - ((b % p) * (c % p)).tmod p + p).tmod p
theorem DTN.r {x a b c d p u v w z : Int} (h : DTN x a b c d p) (ha : a = u % p) (hb : b = v % p) (hc : c = w % p) (hd : d = z % p) : x = dtR p u v w z := by
  subst ha; subst hb; subst hc; subst hd; exact h
def CPA (I9 I : IT) (b a : Nat) : Prop := ∀ r, r < 3606 → I9 b r = I a r
theorem CPA.of {I9 I : IT} {b a : Nat} {n : Int} (h : CPW I9 a b n) (hn : 3606 ≤ n) (e : I9 a = I a) : CPA I9 I b a := fun r hr => by rw [h r (by omega), e]
theorem CPA.rf {I9 I : IT} {a : Nat} (e : I9 a = I a) : CPA I9 I a a := fun r _ => by rw [e]
def BKD (I9 I : IT) (w im : Nat) (x f : Int) : Prop := (x = 0 ∧ f = 0 ∧ CPA I9 I w w) ∨ (x = 1 ∧ f ≠ 0 ∧ CPA I9 I w im)
def TBD (dt c c9 t x : Int) : Prop := (dt = 0 ∧ t = 1 ∧ c9 = c) ∨ (dt ≠ 0 ∧ c = 8 ∧ t = 2 ∧ c9 = c) ∨ (dt ≠ 0 ∧ c < 8 ∧ t = 0 ∧ x = c ∧ c9 = c + 1)
theorem a_X12_mod_e {d : Nat} {T N : Nat → Nat} {I : IT} {L : LT} {R : RT} {A : Nat → Prop} {r0 : Nat} {l1 : Int64} (hI : IM R r0 I) (H_r0 : (h_MD T N R A) r0) : Ex (d + 3) 192 [.ref r0, .long l1] (T, N, I, L, R) 0 0 (pI T N R (fun x9 I9 L9 => (0 ≤ x9.toInt) ∧ (x9.toInt ≤ 18) ∧ (∀ a1, R r0 1 = some a1 → x9.toInt < (I a1 0).toInt) ∧ (∀ a1, R r0 1 = some a1 → x9.toInt = l1.toInt % (I a1 0).toInt) ∧ (I = I9 ∧ L = L9))) := by
  refine ⟨_, rfl, Nat.le_of_ble_eq_true rfl, fun V C S => ?_⟩
  show V 0 [(0, .ref r0), (1, .long l1)] [] (T, N, I, L, R) 0 0
  have T_r0 := H_r0.1
  refine k_lload_n C rfl rfl rfl ?_
  refine k_aload_n C rfl rfl rfl ?_
  refine c_VI C (a_X12_p hI H_r0) rfl rfl rfl rfl rfl ⟨_, rfl, rfl, T_r0, Nat.le_of_ble_eq_true rfl⟩ rfl rfl (Nat.le_of_ble_eq_true rfl) (Nat.le_of_ble_eq_true rfl) (Nat.le_of_ble_eq_true rfl) ?_
  rintro x1 _ _ ⟨b0, b1, hp, rfl, rfl⟩
  refine z_i2l C rfl rfl (fun w e => ?_)
  refine c_SL C (e_fmL (by omega)) rfl rfl rfl rfl rfl rfl rfl (Nat.le_of_ble_eq_true rfl) (Nat.le_of_ble_eq_true rfl) (Nat.le_of_ble_eq_true rfl) ?_
  rintro y _ _ ⟨hI8, hL9, h⟩
  have hI8 := hI8.symm; subst hI8; have hL9 := hL9.symm; subst hL9
  have h2 := md_lt h (by omega)
  refine k_l2i C rfl rfl ?_
  have h3 := l2i_eq (x := y) ⟨by omega, by omega⟩
  exact k_iret C rfl (Or.inl rfl) (Nat.le_of_ble_eq_true rfl) (Nat.le_of_ble_eq_true rfl) ⟨_, _, _, rfl, rfl, by omega, by omega, fun a1 h1 => by have := hp a1 h1; omega, fun a1 h1 => by rw [h3, h, e, hp a1 h1], rfl, rfl⟩
theorem a_X12_throwsIf_e {d : Nat} {T N : Nat → Nat} {I : IT} {L : LT} {R : RT} {A : Nat → Prop} {r0 : Nat} {n1 n2 : Int32} (hI : IM R r0 I) (H_r0 : (h_MD T N R A) r0) (b0_n1 : 0 ≤ n1.toInt) (b1_n1 : n1.toInt ≤ 1) : Ex (d + 1) 178 [.ref r0, .int n1, .int n2] (T, N, I, L, R) 0 0 (pI T N R (fun x9 I9 L9 => (0 ≤ x9.toInt) ∧ (x9.toInt ≤ 1) ∧ (x9.toInt = n1.toInt) ∧ (n1.toInt = 1 ∧ (I9 r0 0).toInt = n2.toInt ∨ n1.toInt = 0 ∧ (I9 r0 0).toInt = (I r0 0).toInt) ∧ (IM R r0 I9 ∧ CM A R r0 [0] [] I L I9 L9))) := by
  refine ⟨_, rfl, Nat.le_of_ble_eq_true rfl, fun V C S => ?_⟩
  show V 0 [(0, .ref r0), (1, .int n1), (2, .int n2)] [] (T, N, I, L, R) 0 0
  have gn1 := rg n1
  have gn2 := rg n2
  obtain ⟨T_r0, A_r0, ⟨r0_1, R_r0_1, H_r0_1⟩, ⟨r0_2, R_r0_2, H_r0_2⟩, ⟨r0_4, R_r0_4, H_r0_4⟩, ⟨r0_5, R_r0_5, H_r0_5⟩, ⟨r0_10, R_r0_10, H_r0_10⟩, ⟨r0_18, R_r0_18, H_r0_18⟩, ⟨r0_20, R_r0_20, H_r0_20⟩, ⟨r0_21, R_r0_21, H_r0_21⟩, ⟨r0_22, R_r0_22, H_r0_22⟩, ⟨r0_23, R_r0_23, H_r0_23⟩, ⟨r0_25, R_r0_25, H_r0_25⟩, ⟨r0_26, R_r0_26, H_r0_26⟩, ⟨r0_27, R_r0_27, H_r0_27⟩, ⟨r0_28, R_r0_28, H_r0_28⟩, ⟨r0_34, R_r0_34, H_r0_34⟩, J_r0, Y_r0⟩ := id H_r0
  have G_r0 : mF T R r0 := ⟨J_r0, Y_r0, T_r0⟩
  obtain ⟨w_r0_0, k0_r0_0⟩ : ∃ x, I r0 0 = x := ⟨_, rfl⟩
  have gw_r0_0 := rg w_r0_0
  refine k_iload_n C rfl rfl rfl ?_
  refine b_if_eq C (t := 9) rfl rfl rfl (fun c1 => ?_) (fun c1 => ?_)
  · skip
    refine k_iload_n C rfl rfl rfl ?_
    exact k_iret C rfl (Or.inr ⟨rfl, z01 (by omega) (by omega)⟩) (Nat.le_of_ble_eq_true rfl) (Nat.le_of_ble_eq_true rfl) ⟨_, _, _, rfl, rfl, by omega, by omega, by first | omega | (simp only [k0_r0_0, and_true, true_and, or_true, true_or, and_false, false_and, or_false, false_or] <;> omega), by first | omega | (simp only [k0_r0_0, and_true, true_and, or_true, true_or, and_false, false_and, or_false, false_or] <;> omega), hI, CM.rf⟩
  refine k_aload_n C rfl rfl rfl ?_
  refine k_iload_n C rfl rfl rfl ?_
  refine z_pI C rfl rfl rfl T_r0 (Or.inr rfl) rfl (fun I2 uI2 => ?_)
  have hI2 : IM R r0 I2 := IM.fld hI G_r0 ⟨(fun h => absurd h (by decide)), (fun h => absurd h (by decide)), (fun h => absurd h (by decide)), (fun h => absurd h (by decide)), (fun h => absurd h (by decide))⟩ uI2
  have S3 : CM A R r0 [0] [] I L I2 L := CM.f G_r0 A_r0 uI2
  have e5 := u2_e uI2
  refine k_iload_n C rfl rfl rfl ?_
  exact k_iret C rfl (Or.inr ⟨rfl, z01 (by omega) (by omega)⟩) (Nat.le_of_ble_eq_true rfl) (Nat.le_of_ble_eq_true rfl) ⟨_, _, _, rfl, rfl, by omega, by omega, by first | omega | (simp only [e5, k0_r0_0, and_true, true_and, or_true, true_or, and_false, false_and, or_false, false_or] <;> omega), by first | omega | (simp only [e5, k0_r0_0, and_true, true_and, or_true, true_or, and_false, false_and, or_false, false_or] <;> omega), hI2, (CM.mono S3 (by decide) (by decide))⟩

theorem a_X12_noForm_e {d : Nat} {T N : Nat → Nat} {I : IT} {L : LT} {R : RT} {A : Nat → Prop} {r0 : Nat} {n1 : Int32} (hI : IM R r0 I) (H_r0 : (h_MD T N R A) r0) : Ex (d + 2) 184 [.ref r0, .int n1] (T, N, I, L, R) 0 0 (pI T N R (fun x9 I9 L9 => (0 ≤ x9.toInt) ∧ (x9.toInt ≤ 1) ∧ (∀ a1, R r0 1 = some a1 → x9.toInt = 1 ∧ (n1.toInt < 0 ∨ (I a1 1).toInt ≤ n1.toInt) ∨ x9.toInt = 0 ∧ 0 ≤ n1.toInt ∧ n1.toInt < (I a1 1).toInt) ∧ (I = I9 ∧ L = L9))) := by
  refine ⟨_, rfl, Nat.le_of_ble_eq_true rfl, fun V C S => ?_⟩
  show V 0 [(0, .ref r0), (1, .int n1)] [] (T, N, I, L, R) 0 0
  have gn1 := rg n1
  obtain ⟨T_r0, A_r0, ⟨r0_1, R_r0_1, H_r0_1⟩, ⟨r0_2, R_r0_2, H_r0_2⟩, ⟨r0_4, R_r0_4, H_r0_4⟩, ⟨r0_5, R_r0_5, H_r0_5⟩, ⟨r0_10, R_r0_10, H_r0_10⟩, ⟨r0_18, R_r0_18, H_r0_18⟩, ⟨r0_20, R_r0_20, H_r0_20⟩, ⟨r0_21, R_r0_21, H_r0_21⟩, ⟨r0_22, R_r0_22, H_r0_22⟩, ⟨r0_23, R_r0_23, H_r0_23⟩, ⟨r0_25, R_r0_25, H_r0_25⟩, ⟨r0_26, R_r0_26, H_r0_26⟩, ⟨r0_27, R_r0_27, H_r0_27⟩, ⟨r0_28, R_r0_28, H_r0_28⟩, ⟨r0_34, R_r0_34, H_r0_34⟩, J_r0, Y_r0⟩ := id H_r0
  have G_r0 : mF T R r0 := ⟨J_r0, Y_r0, T_r0⟩
  obtain ⟨w_r0_1_1, k0_r0_1_1⟩ : ∃ x, I r0_1 1 = x := ⟨_, rfl⟩
  have gw_r0_1_1 := rg w_r0_1_1
  have ow_r0_1_1 := IM.c1 hI R_r0_1 k0_r0_1_1
  refine k_iload_n C rfl rfl rfl ?_
  refine z_iconst C (z := 0) rfl rfl rfl (fun x1 ex1 => ?_)
  refine k_aload_n C rfl rfl rfl ?_
  refine g_R C rfl rfl rfl T_r0 rfl R_r0_1 ?_
  refine z_iconst C (z := 1) rfl rfl rfl (fun x2 ex2 => ?_)
  obtain ⟨T_r0_1, N_r0_1, A_r0_1⟩ := id H_r0_1
  refine a_I C rfl rfl T_r0_1 (by rw [N_r0_1]; exact vpi (by omega) (by omega)) ((congrArg (I r0_1) (nck (n := 1) (by omega))).trans k0_r0_1_1) ?_
  refine z_iconst C (z := 1) rfl rfl rfl (fun x3 ex3 => ?_)
  refine z_isub C rfl rfl ⟨by omega, by omega⟩ (fun x4 ex4 => ?_)
  have q5 : x1.toNatClampNeg = 0 := nck (by omega)
  refine c_SI C a_X12_in rfl rfl rfl rfl rfl rfl rfl (Nat.le_of_ble_eq_true rfl) (Nat.le_of_ble_eq_true rfl) (Nat.le_of_ble_eq_true rfl) ?_
  rintro x6 _ _ ⟨o0x6, o1x6, p0x6, rfl, rfl⟩
  have gx6 := rg x6
  try simp only [q5, k0_r0_1_1] at p0x6
  try have q0x6 := congrArg Int32.toInt p0x6
  refine b_if_ne C (t := 20) rfl rfl rfl (fun c7 => ?_) (fun c7 => ?_)
  · skip
    refine z_iconst C (z := 0) rfl rfl rfl (fun x8 ex8 => ?_)
    exact k_iret C rfl (Or.inr ⟨rfl, z01 (by omega) (by omega)⟩) (Nat.le_of_ble_eq_true rfl) (Nat.le_of_ble_eq_true rfl) ⟨_, _, _, rfl, rfl, by omega, by omega, fun a1 h1 => by cases (R_r0_1.symm.trans h1); first | omega | (simp only [k0_r0_1_1, and_true, true_and, or_true, true_or, and_false, false_and, or_false, false_or] <;> omega), rfl, rfl⟩
  refine z_iconst C (z := 1) rfl rfl rfl (fun x9 ex9 => ?_)
  refine k_goto C (pc2 := 21) rfl rfl ?_
  exact k_iret C rfl (Or.inr ⟨rfl, z01 (by omega) (by omega)⟩) (Nat.le_of_ble_eq_true rfl) (Nat.le_of_ble_eq_true rfl) ⟨_, _, _, rfl, rfl, by omega, by omega, fun a1 h1 => by cases (R_r0_1.symm.trans h1); first | omega | (simp only [k0_r0_1_1, and_true, true_and, or_true, true_or, and_false, false_and, or_false, false_or] <;> omega), rfl, rfl⟩

theorem a_X12_noTable_e {d : Nat} {T N : Nat → Nat} {I : IT} {L : LT} {R : RT} {A : Nat → Prop} {r0 : Nat} {n1 : Int32} (hI : IM R r0 I) (H_r0 : (h_MD T N R A) r0) : Ex (d + 2) 185 [.ref r0, .int n1] (T, N, I, L, R) 0 0 (pI T N R (fun x9 I9 L9 => (0 ≤ x9.toInt) ∧ (x9.toInt ≤ 1) ∧ (∀ a1, R r0 1 = some a1 → x9.toInt = 1 ∧ (n1.toInt < 0 ∨ (I a1 2).toInt ≤ n1.toInt) ∨ x9.toInt = 0 ∧ 0 ≤ n1.toInt ∧ n1.toInt < (I a1 2).toInt) ∧ (I = I9 ∧ L = L9))) := by
  refine ⟨_, rfl, Nat.le_of_ble_eq_true rfl, fun V C S => ?_⟩
  show V 0 [(0, .ref r0), (1, .int n1)] [] (T, N, I, L, R) 0 0
  have gn1 := rg n1
  obtain ⟨T_r0, A_r0, ⟨r0_1, R_r0_1, H_r0_1⟩, ⟨r0_2, R_r0_2, H_r0_2⟩, ⟨r0_4, R_r0_4, H_r0_4⟩, ⟨r0_5, R_r0_5, H_r0_5⟩, ⟨r0_10, R_r0_10, H_r0_10⟩, ⟨r0_18, R_r0_18, H_r0_18⟩, ⟨r0_20, R_r0_20, H_r0_20⟩, ⟨r0_21, R_r0_21, H_r0_21⟩, ⟨r0_22, R_r0_22, H_r0_22⟩, ⟨r0_23, R_r0_23, H_r0_23⟩, ⟨r0_25, R_r0_25, H_r0_25⟩, ⟨r0_26, R_r0_26, H_r0_26⟩, ⟨r0_27, R_r0_27, H_r0_27⟩, ⟨r0_28, R_r0_28, H_r0_28⟩, ⟨r0_34, R_r0_34, H_r0_34⟩, J_r0, Y_r0⟩ := id H_r0
  have G_r0 : mF T R r0 := ⟨J_r0, Y_r0, T_r0⟩
  obtain ⟨w_r0_1_2, k0_r0_1_2⟩ : ∃ x, I r0_1 2 = x := ⟨_, rfl⟩
  have gw_r0_1_2 := rg w_r0_1_2
  have ow_r0_1_2 := IM.c2 hI R_r0_1 k0_r0_1_2
  refine k_iload_n C rfl rfl rfl ?_
  refine z_iconst C (z := 0) rfl rfl rfl (fun x1 ex1 => ?_)
  refine k_aload_n C rfl rfl rfl ?_
  refine g_R C rfl rfl rfl T_r0 rfl R_r0_1 ?_
  refine z_iconst C (z := 2) rfl rfl rfl (fun x2 ex2 => ?_)
  obtain ⟨T_r0_1, N_r0_1, A_r0_1⟩ := id H_r0_1
  refine a_I C rfl rfl T_r0_1 (by rw [N_r0_1]; exact vpi (by omega) (by omega)) ((congrArg (I r0_1) (nck (n := 2) (by omega))).trans k0_r0_1_2) ?_
  refine z_iconst C (z := 1) rfl rfl rfl (fun x3 ex3 => ?_)
  refine z_isub C rfl rfl ⟨by omega, by omega⟩ (fun x4 ex4 => ?_)
  have q5 : x1.toNatClampNeg = 0 := nck (by omega)
  refine c_SI C a_X12_in rfl rfl rfl rfl rfl rfl rfl (Nat.le_of_ble_eq_true rfl) (Nat.le_of_ble_eq_true rfl) (Nat.le_of_ble_eq_true rfl) ?_
  rintro x6 _ _ ⟨o0x6, o1x6, p0x6, rfl, rfl⟩
  have gx6 := rg x6
  try simp only [q5, k0_r0_1_2] at p0x6
  try have q0x6 := congrArg Int32.toInt p0x6
  refine b_if_ne C (t := 20) rfl rfl rfl (fun c7 => ?_) (fun c7 => ?_)
  · skip
    refine z_iconst C (z := 0) rfl rfl rfl (fun x8 ex8 => ?_)
    exact k_iret C rfl (Or.inr ⟨rfl, z01 (by omega) (by omega)⟩) (Nat.le_of_ble_eq_true rfl) (Nat.le_of_ble_eq_true rfl) ⟨_, _, _, rfl, rfl, by omega, by omega, fun a1 h1 => by cases (R_r0_1.symm.trans h1); first | omega | (simp only [k0_r0_1_2, and_true, true_and, or_true, true_or, and_false, false_and, or_false, false_or] <;> omega), rfl, rfl⟩
  refine z_iconst C (z := 1) rfl rfl rfl (fun x9 ex9 => ?_)
  refine k_goto C (pc2 := 21) rfl rfl ?_
  exact k_iret C rfl (Or.inr ⟨rfl, z01 (by omega) (by omega)⟩) (Nat.le_of_ble_eq_true rfl) (Nat.le_of_ble_eq_true rfl) ⟨_, _, _, rfl, rfl, by omega, by omega, fun a1 h1 => by cases (R_r0_1.symm.trans h1); first | omega | (simp only [k0_r0_1_2, and_true, true_and, or_true, true_or, and_false, false_and, or_false, false_or] <;> omega), rfl, rfl⟩

theorem a_X12_end_e {d : Nat} {T N : Nat → Nat} {I : IT} {L : LT} {R : RT} {A : Nat → Prop} {r0 : Nat} {n1 : Int32} (hI : IM R r0 I) (H_r0 : (h_MD T N R A) r0) : Ex (d + 1) 217 [.ref r0, .int n1] (T, N, I, L, R) 0 0 (pI T N R (fun x9 I9 L9 => (0 ≤ x9.toInt) ∧ (x9.toInt ≤ 1) ∧ ((n1.toInt < 0 ∨ (I r0 11).toInt < n1.toInt) ∧ x9.toInt = 0 ∧ (I9 r0 11).toInt = (I r0 11).toInt ∨ 0 ≤ n1.toInt ∧ n1.toInt ≤ (I r0 11).toInt ∧ x9.toInt = 1 ∧ (I9 r0 11).toInt = n1.toInt) ∧ (IM R r0 I9 ∧ CM A R r0 [0, 11] [] I L I9 L9))) := by
  refine ⟨_, rfl, Nat.le_of_ble_eq_true rfl, fun V C S => ?_⟩
  show V 0 [(0, .ref r0), (1, .int n1)] [] (T, N, I, L, R) 0 0
  have gn1 := rg n1
  obtain ⟨T_r0, A_r0, ⟨r0_1, R_r0_1, H_r0_1⟩, ⟨r0_2, R_r0_2, H_r0_2⟩, ⟨r0_4, R_r0_4, H_r0_4⟩, ⟨r0_5, R_r0_5, H_r0_5⟩, ⟨r0_10, R_r0_10, H_r0_10⟩, ⟨r0_18, R_r0_18, H_r0_18⟩, ⟨r0_20, R_r0_20, H_r0_20⟩, ⟨r0_21, R_r0_21, H_r0_21⟩, ⟨r0_22, R_r0_22, H_r0_22⟩, ⟨r0_23, R_r0_23, H_r0_23⟩, ⟨r0_25, R_r0_25, H_r0_25⟩, ⟨r0_26, R_r0_26, H_r0_26⟩, ⟨r0_27, R_r0_27, H_r0_27⟩, ⟨r0_28, R_r0_28, H_r0_28⟩, ⟨r0_34, R_r0_34, H_r0_34⟩, J_r0, Y_r0⟩ := id H_r0
  have G_r0 : mF T R r0 := ⟨J_r0, Y_r0, T_r0⟩
  obtain ⟨w_r0_11, k0_r0_11⟩ : ∃ x, I r0 11 = x := ⟨_, rfl⟩
  have gw_r0_11 := rg w_r0_11
  have ow_r0_11 := IM.f11 hI k0_r0_11
  refine k_aload_n C rfl rfl rfl ?_
  refine z_iconst C (z := 0) rfl rfl rfl (fun x1 ex1 => ?_)
  refine z_pI C rfl rfl rfl T_r0 (Or.inr rfl) rfl (fun I2 uI2 => ?_)
  have hI2 : IM R r0 I2 := IM.fld hI G_r0 ⟨(fun h => absurd h (by decide)), (fun h => absurd h (by decide)), (fun h => absurd h (by decide)), (fun h => absurd h (by decide)), (fun h => absurd h (by decide))⟩ uI2
  have S3 : CM A R r0 [0] [] I L I2 L := CM.f G_r0 A_r0 uI2
  have e4 := u2_j uI2 (by first | decide | exact ncne (by omega) (by omega) (by omega) | exact nckn (by omega) (by omega) | exact (nckn (by omega) (by omega)).symm) k0_r0_11
  have e5 := u2_e uI2
  refine k_iload_n C rfl rfl rfl ?_
  refine b_if_lt C (t := 17) rfl rfl rfl (fun c6 => ?_) (fun c6 => ?_)
  · skip
    refine z_iconst C (z := 0) rfl rfl rfl (fun x7 ex7 => ?_)
    exact k_iret C rfl (Or.inr ⟨rfl, z01 (by omega) (by omega)⟩) (Nat.le_of_ble_eq_true rfl) (Nat.le_of_ble_eq_true rfl) ⟨_, _, _, rfl, rfl, by omega, by omega, by first | omega | (simp only [e4, e5, k0_r0_11, and_true, true_and, or_true, true_or, and_false, false_and, or_false, false_or] <;> omega), hI2, (CM.mono S3 (by decide) (by decide))⟩
  refine k_iload_n C rfl rfl rfl ?_
  refine k_aload_n C rfl rfl rfl ?_
  refine g_I C rfl rfl rfl T_r0 rfl e4 ?_
  refine b_icmp_le C (t := 19) rfl rfl rfl (fun c8 => ?_) (fun c8 => ?_)
  · skip
    refine k_aload_n C rfl rfl rfl ?_
    refine k_iload_n C rfl rfl rfl ?_
    refine z_pI C rfl rfl rfl T_r0 (Or.inr rfl) rfl (fun I9 uI9 => ?_)
    have hI9 : IM R r0 I9 := IM.fld hI2 G_r0 ⟨(fun _ => ⟨by omega, by omega⟩), (fun h => absurd h (by decide)), (fun h => absurd h (by decide)), (fun h => absurd h (by decide)), (fun h => absurd h (by decide))⟩ uI9
    have S10 : CM A R r0 [11] [] I2 L I9 L := CM.f G_r0 A_r0 uI9
    have e12 := u2_j uI9 (by first | decide | exact ncne (by omega) (by omega) (by omega) | exact nckn (by omega) (by omega) | exact (nckn (by omega) (by omega)).symm) e5
    have e13 := u2_e uI9
    refine z_iconst C (z := 1) rfl rfl rfl (fun x14 ex14 => ?_)
    exact k_iret C rfl (Or.inr ⟨rfl, z01 (by omega) (by omega)⟩) (Nat.le_of_ble_eq_true rfl) (Nat.le_of_ble_eq_true rfl) ⟨_, _, _, rfl, rfl, by omega, by omega, by first | omega | (simp only [e12, e13, k0_r0_11, and_true, true_and, or_true, true_or, and_false, false_and, or_false, false_or] <;> omega), hI9, (CM.cons S3 (CM.mono S10 (by decide) (by decide)) (by decide) (by decide))⟩
  refine z_iconst C (z := 0) rfl rfl rfl (fun x15 ex15 => ?_)
  exact k_iret C rfl (Or.inr ⟨rfl, z01 (by omega) (by omega)⟩) (Nat.le_of_ble_eq_true rfl) (Nat.le_of_ble_eq_true rfl) ⟨_, _, _, rfl, rfl, by omega, by omega, by first | omega | (simp only [e4, e5, k0_r0_11, and_true, true_and, or_true, true_or, and_false, false_and, or_false, false_or] <;> omega), hI2, (CM.mono S3 (by decide) (by decide))⟩

theorem a_X12_uses_e {d : Nat} {T N : Nat → Nat} {I : IT} {L : LT} {R : RT} {A : Nat → Prop} {r0 : Nat} (hI : IM R r0 I) (H_r0 : (h_MD T N R A) r0) : Ex (d + 1) 230 [.ref r0] (T, N, I, L, R) 0 0 (pV T N R (fun I9 L9 => ((I9 r0 13).toInt = (I r0 11).toInt) ∧ ((I9 r0 11).toInt = 0) ∧ ((I9 r0 0).toInt = 0) ∧ (IM R r0 I9 ∧ CM A R r0 [0, 11, 12, 13] [] I L I9 L9))) := by
  refine ⟨_, rfl, Nat.le_of_ble_eq_true rfl, fun V C S => ?_⟩
  show V 0 [(0, .ref r0)] [] (T, N, I, L, R) 0 0
  obtain ⟨T_r0, A_r0, ⟨r0_1, R_r0_1, H_r0_1⟩, ⟨r0_2, R_r0_2, H_r0_2⟩, ⟨r0_4, R_r0_4, H_r0_4⟩, ⟨r0_5, R_r0_5, H_r0_5⟩, ⟨r0_10, R_r0_10, H_r0_10⟩, ⟨r0_18, R_r0_18, H_r0_18⟩, ⟨r0_20, R_r0_20, H_r0_20⟩, ⟨r0_21, R_r0_21, H_r0_21⟩, ⟨r0_22, R_r0_22, H_r0_22⟩, ⟨r0_23, R_r0_23, H_r0_23⟩, ⟨r0_25, R_r0_25, H_r0_25⟩, ⟨r0_26, R_r0_26, H_r0_26⟩, ⟨r0_27, R_r0_27, H_r0_27⟩, ⟨r0_28, R_r0_28, H_r0_28⟩, ⟨r0_34, R_r0_34, H_r0_34⟩, J_r0, Y_r0⟩ := id H_r0
  have G_r0 : mF T R r0 := ⟨J_r0, Y_r0, T_r0⟩
  obtain ⟨w_r0_11, k0_r0_11⟩ : ∃ x, I r0 11 = x := ⟨_, rfl⟩
  have gw_r0_11 := rg w_r0_11
  have ow_r0_11 := IM.f11 hI k0_r0_11
  refine k_aload_n C rfl rfl rfl ?_
  refine z_iconst C (z := 0) rfl rfl rfl (fun x1 ex1 => ?_)
  refine z_pI C rfl rfl rfl T_r0 (Or.inr rfl) rfl (fun I2 uI2 => ?_)
  have hI2 : IM R r0 I2 := IM.fld hI G_r0 ⟨(fun h => absurd h (by decide)), (fun h => absurd h (by decide)), (fun h => absurd h (by decide)), (fun h => absurd h (by decide)), (fun h => absurd h (by decide))⟩ uI2
  have S3 : CM A R r0 [0] [] I L I2 L := CM.f G_r0 A_r0 uI2
  have e4 := u2_j uI2 (by first | decide | exact ncne (by omega) (by omega) (by omega) | exact nckn (by omega) (by omega) | exact (nckn (by omega) (by omega)).symm) k0_r0_11
  have e5 := u2_e uI2
  refine k_aload_n C rfl rfl rfl ?_
  refine k_aload_n C rfl rfl rfl ?_
  refine g_I C rfl rfl rfl T_r0 rfl e4 ?_
  refine z_pI C rfl rfl rfl T_r0 (Or.inr rfl) rfl (fun I6 uI6 => ?_)
  have hI6 : IM R r0 I6 := IM.fld hI2 G_r0 ⟨(fun _ => ⟨by omega, by omega⟩), (fun h => absurd h (by decide)), (fun h => absurd h (by decide)), (fun h => absurd h (by decide)), (fun h => absurd h (by decide))⟩ uI6
  have S7 : CM A R r0 [13] [] I2 L I6 L := CM.f G_r0 A_r0 uI6
  have e8 := u2_j uI6 (by first | decide | exact ncne (by omega) (by omega) (by omega) | exact nckn (by omega) (by omega) | exact (nckn (by omega) (by omega)).symm) e4
  have e9 := u2_j uI6 (by first | decide | exact ncne (by omega) (by omega) (by omega) | exact nckn (by omega) (by omega) | exact (nckn (by omega) (by omega)).symm) e5
  have e10 := u2_e uI6
  refine k_aload_n C rfl rfl rfl ?_
  refine z_iconst C (z := 0) rfl rfl rfl (fun x11 ex11 => ?_)
  refine z_pI C rfl rfl rfl T_r0 (Or.inr rfl) rfl (fun I12 uI12 => ?_)
  have hI12 : IM R r0 I12 := IM.fld hI6 G_r0 ⟨(fun _ => ⟨by omega, by omega⟩), (fun h => absurd h (by decide)), (fun h => absurd h (by decide)), (fun h => absurd h (by decide)), (fun h => absurd h (by decide))⟩ uI12
  have S13 : CM A R r0 [11] [] I6 L I12 L := CM.f G_r0 A_r0 uI12
  have e15 := u2_j uI12 (by first | decide | exact ncne (by omega) (by omega) (by omega) | exact nckn (by omega) (by omega) | exact (nckn (by omega) (by omega)).symm) e9
  have e16 := u2_j uI12 (by first | decide | exact ncne (by omega) (by omega) (by omega) | exact nckn (by omega) (by omega) | exact (nckn (by omega) (by omega)).symm) e10
  have e17 := u2_e uI12
  refine k_aload_n C rfl rfl rfl ?_
  refine z_iconst C (z := 0) rfl rfl rfl (fun x18 ex18 => ?_)
  refine z_pI C rfl rfl rfl T_r0 (Or.inr rfl) rfl (fun I19 uI19 => ?_)
  have hI19 : IM R r0 I19 := IM.fld hI12 G_r0 ⟨(fun _ => ⟨by omega, by omega⟩), (fun h => absurd h (by decide)), (fun h => absurd h (by decide)), (fun h => absurd h (by decide)), (fun h => absurd h (by decide))⟩ uI19
  have S20 : CM A R r0 [12] [] I12 L I19 L := CM.f G_r0 A_r0 uI19
  have e21 := u2_j uI19 (by first | decide | exact ncne (by omega) (by omega) (by omega) | exact nckn (by omega) (by omega) | exact (nckn (by omega) (by omega)).symm) e15
  have e22 := u2_j uI19 (by first | decide | exact ncne (by omega) (by omega) (by omega) | exact nckn (by omega) (by omega) | exact (nckn (by omega) (by omega)).symm) e16
  have e23 := u2_j uI19 (by first | decide | exact ncne (by omega) (by omega) (by omega) | exact nckn (by omega) (by omega) | exact (nckn (by omega) (by omega)).symm) e17
  have e24 := u2_e uI19
  exact k_vret C rfl rfl (Nat.le_of_ble_eq_true rfl) (Nat.le_of_ble_eq_true rfl) ⟨_, _, rfl, rfl, by first | omega | (simp only [e21, e22, e23, e24, k0_r0_11, and_true, true_and, or_true, true_or, and_false, false_and, or_false, false_or] <;> omega), by first | omega | (simp only [e21, e22, e23, e24, k0_r0_11, and_true, true_and, or_true, true_or, and_false, false_and, or_false, false_or] <;> omega), by first | omega | (simp only [e21, e22, e23, e24, k0_r0_11, and_true, true_and, or_true, true_or, and_false, false_and, or_false, false_or] <;> omega), hI19, (CM.cons S3 (CM.cons S7 (CM.cons S13 (CM.mono S20 (by decide) (by decide)) (by decide) (by decide)) (by decide) (by decide)) (by decide) (by decide))⟩

theorem a_X12_field_e {d : Nat} {T N : Nat → Nat} {I : IT} {L : LT} {R : RT} {A : Nat → Prop} {r0 : Nat} {n1 : Int32} (hI : IM R r0 I) (H_r0 : (h_MD T N R A) r0) : Ex (d + 2) 232 [.ref r0, .int n1] (T, N, I, L, R) 0 0 (pV T N R (fun I9 L9 => (∀ a1, R r0 1 = some a1 → (I a1 4).toInt + (I a1 5).toInt ≤ 40 → (I9 a1 4).toInt + (I9 a1 5).toInt ≤ 40) ∧ (∀ a1, R r0 1 = some a1 → ¬ (n1.toInt = 11 ∨ n1.toInt = 13 ∨ n1.toInt = 17 ∨ n1.toInt = 19) ∧ (I9 r0 0).toInt = 1 ∧ (I9 a1 0).toInt = (I a1 0).toInt ∨ (n1.toInt = 11 ∨ n1.toInt = 13 ∨ n1.toInt = 17 ∨ n1.toInt = 19) ∧ 0 < (I a1 1).toInt + (I a1 2).toInt ∧ (I9 r0 0).toInt = 2 ∧ (I9 a1 0).toInt = (I a1 0).toInt ∨ (n1.toInt = 11 ∨ n1.toInt = 13 ∨ n1.toInt = 17 ∨ n1.toInt = 19) ∧ (I a1 1).toInt + (I a1 2).toInt ≤ 0 ∧ (I9 r0 0).toInt = 0 ∧ (I9 a1 0).toInt = n1.toInt) ∧ (∀ a1, R r0 1 = some a1 → ∀ r : Nat, r ≠ 0 → I9 a1 r = I a1 r) ∧ (IM R r0 I9 ∧ CM A R r0 [0] [1] I L I9 L9))) := by
  refine ⟨_, rfl, Nat.le_of_ble_eq_true rfl, fun V C S => ?_⟩
  show V 0 [(0, .ref r0), (1, .int n1)] [] (T, N, I, L, R) 0 0
  have gn1 := rg n1
  obtain ⟨T_r0, A_r0, ⟨r0_1, R_r0_1, H_r0_1⟩, ⟨r0_2, R_r0_2, H_r0_2⟩, ⟨r0_4, R_r0_4, H_r0_4⟩, ⟨r0_5, R_r0_5, H_r0_5⟩, ⟨r0_10, R_r0_10, H_r0_10⟩, ⟨r0_18, R_r0_18, H_r0_18⟩, ⟨r0_20, R_r0_20, H_r0_20⟩, ⟨r0_21, R_r0_21, H_r0_21⟩, ⟨r0_22, R_r0_22, H_r0_22⟩, ⟨r0_23, R_r0_23, H_r0_23⟩, ⟨r0_25, R_r0_25, H_r0_25⟩, ⟨r0_26, R_r0_26, H_r0_26⟩, ⟨r0_27, R_r0_27, H_r0_27⟩, ⟨r0_28, R_r0_28, H_r0_28⟩, ⟨r0_34, R_r0_34, H_r0_34⟩, J_r0, Y_r0⟩ := id H_r0
  have G_r0 : mF T R r0 := ⟨J_r0, Y_r0, T_r0⟩
  obtain ⟨w_r0_1_0, k0_r0_1_0⟩ : ∃ x, I r0_1 0 = x := ⟨_, rfl⟩
  have gw_r0_1_0 := rg w_r0_1_0
  have ow_r0_1_0 := IM.pi hI R_r0_1 k0_r0_1_0
  obtain ⟨w_r0_1_1, k0_r0_1_1⟩ : ∃ x, I r0_1 1 = x := ⟨_, rfl⟩
  have gw_r0_1_1 := rg w_r0_1_1
  have ow_r0_1_1 := IM.c1 hI R_r0_1 k0_r0_1_1
  obtain ⟨w_r0_1_2, k0_r0_1_2⟩ : ∃ x, I r0_1 2 = x := ⟨_, rfl⟩
  have gw_r0_1_2 := rg w_r0_1_2
  have ow_r0_1_2 := IM.c2 hI R_r0_1 k0_r0_1_2
  obtain ⟨w_r0_1_3, k0_r0_1_3⟩ : ∃ x, I r0_1 3 = x := ⟨_, rfl⟩
  have gw_r0_1_3 := rg w_r0_1_3
  have ow_r0_1_3 := IM.c3 hI R_r0_1 k0_r0_1_3
  obtain ⟨w_r0_1_4, k0_r0_1_4⟩ : ∃ x, I r0_1 4 = x := ⟨_, rfl⟩
  have gw_r0_1_4 := rg w_r0_1_4
  have ow_r0_1_4 := IM.c4 hI R_r0_1 k0_r0_1_4
  obtain ⟨w_r0_1_5, k0_r0_1_5⟩ : ∃ x, I r0_1 5 = x := ⟨_, rfl⟩
  have gw_r0_1_5 := rg w_r0_1_5
  have ow_r0_1_5 := IM.c5 hI R_r0_1 k0_r0_1_5
  refine k_aload_n C rfl rfl rfl ?_
  refine z_iconst C (z := 0) rfl rfl rfl (fun x1 ex1 => ?_)
  refine z_pI C rfl rfl rfl T_r0 (Or.inr rfl) rfl (fun I2 uI2 => ?_)
  have hI2 : IM R r0 I2 := IM.fld hI G_r0 ⟨(fun h => absurd h (by decide)), (fun h => absurd h (by decide)), (fun h => absurd h (by decide)), (fun h => absurd h (by decide)), (fun h => absurd h (by decide))⟩ uI2
  have S3 : CM A R r0 [0] [] I L I2 L := CM.f G_r0 A_r0 uI2
  have e4 := u2_n uI2 (mF.ne G_r0 R_r0_1) k0_r0_1_0
  have e5 := u2_n uI2 (mF.ne G_r0 R_r0_1) k0_r0_1_1
  have e6 := u2_n uI2 (mF.ne G_r0 R_r0_1) k0_r0_1_2
  have e7 := u2_n uI2 (mF.ne G_r0 R_r0_1) k0_r0_1_3
  have e8 := u2_n uI2 (mF.ne G_r0 R_r0_1) k0_r0_1_4
  have e9 := u2_n uI2 (mF.ne G_r0 R_r0_1) k0_r0_1_5
  have e10 := u2_e uI2
  refine k_aload_n C rfl rfl rfl ?_
  refine k_iload_n C rfl rfl rfl ?_
  refine z_bipush C (z := 11) rfl rfl rfl (fun x11 ex11 => ?_)
  refine b_icmp_eq C (t := 34) rfl rfl rfl (fun c12 => ?_) (fun c12 => ?_)
  · skip
    refine z_iconst C (z := 0) rfl rfl rfl (fun x13 ex13 => ?_)
    refine z_iconst C (z := 1) rfl rfl rfl (fun x14 ex14 => ?_)
    have q15 : x13.toNatClampNeg = 0 := nck (by omega)
    have q16 : x14.toNatClampNeg = 1 := nck (by omega)
    refine c_VI C (a_X12_throwsIf_e hI2 H_r0 (by omega) (by omega)) rfl rfl rfl rfl rfl ⟨_, rfl, rfl, T_r0, Nat.le_of_ble_eq_true rfl⟩ rfl rfl (Nat.le_of_ble_eq_true rfl) (Nat.le_of_ble_eq_true rfl) (Nat.le_of_ble_eq_true rfl) ?_
    rintro x17 I18 L19 ⟨o0x17, o1x17, p0x17, p1x17, hI18, S20⟩
    have e21 := CM.j S20 R_r0_1 (by decide) e4
    have e22 := CM.j S20 R_r0_1 (by decide) e5
    have e23 := CM.j S20 R_r0_1 (by decide) e6
    have e24 := CM.j S20 R_r0_1 (by decide) e7
    have e25 := CM.j S20 R_r0_1 (by decide) e8
    have e26 := CM.j S20 R_r0_1 (by decide) e9
    have gx17 := rg x17
    obtain ⟨x28, e29⟩ : ∃ x, I18 r0 0 = x := ⟨_, rfl⟩
    have gx28 := rg x28
    try simp only [q15, q16, e4, e5, e6, e7, e8, e9, e10, e29] at p0x17
    try have q0x17 := congrArg Int32.toInt p0x17
    try simp only [q15, q16, e4, e5, e6, e7, e8, e9, e10, e29] at p1x17
    try have q1x17 := congrArg Int32.toInt p1x17
    refine b_if_ne C (t := 71) rfl rfl rfl (fun c30 => by exfalso; omega) (fun c30 => ?_)
    refine k_aload_n C rfl rfl rfl ?_
    refine k_aload_n C rfl rfl rfl ?_
    refine g_R C rfl rfl rfl T_r0 rfl R_r0_1 ?_
    refine z_iconst C (z := 1) rfl rfl rfl (fun x31 ex31 => ?_)
    obtain ⟨T_r0_1, N_r0_1, A_r0_1⟩ := id H_r0_1
    refine a_I C rfl rfl T_r0_1 (by rw [N_r0_1]; exact vpi (by omega) (by omega)) ((congrArg (I18 r0_1) (nck (n := 1) (by omega))).trans e22) ?_
    refine k_aload_n C rfl rfl rfl ?_
    refine g_R C rfl rfl rfl T_r0 rfl R_r0_1 ?_
    refine z_iconst C (z := 2) rfl rfl rfl (fun x32 ex32 => ?_)
    refine a_I C rfl rfl T_r0_1 (by rw [N_r0_1]; exact vpi (by omega) (by omega)) ((congrArg (I18 r0_1) (nck (n := 2) (by omega))).trans e23) ?_
    refine z_iadd C rfl rfl ⟨by omega, by omega⟩ (fun x33 ex33 => ?_)
    refine b_if_le C (t := 63) rfl rfl rfl (fun c34 => ?_) (fun c34 => ?_)
    · skip
      refine z_iconst C (z := 0) rfl rfl rfl (fun x35 ex35 => ?_)
      refine z_iconst C (z := 2) rfl rfl rfl (fun x36 ex36 => ?_)
      have q37 : x35.toNatClampNeg = 0 := nck (by omega)
      have q38 : x36.toNatClampNeg = 2 := nck (by omega)
      refine c_VI C (a_X12_throwsIf_e hI18 H_r0 (by omega) (by omega)) rfl rfl rfl rfl rfl ⟨_, rfl, rfl, T_r0, Nat.le_of_ble_eq_true rfl⟩ rfl rfl (Nat.le_of_ble_eq_true rfl) (Nat.le_of_ble_eq_true rfl) (Nat.le_of_ble_eq_true rfl) ?_
      rintro x39 I40 L41 ⟨o0x39, o1x39, p0x39, p1x39, hI40, S42⟩
      have e43 := CM.j S42 R_r0_1 (by decide) e21
      have e44 := CM.j S42 R_r0_1 (by decide) e22
      have e45 := CM.j S42 R_r0_1 (by decide) e23
      have e46 := CM.j S42 R_r0_1 (by decide) e24
      have e47 := CM.j S42 R_r0_1 (by decide) e25
      have e48 := CM.j S42 R_r0_1 (by decide) e26
      have gx39 := rg x39
      obtain ⟨x50, e51⟩ : ∃ x, I40 r0 0 = x := ⟨_, rfl⟩
      have gx50 := rg x50
      try simp only [q37, q38, e21, e22, e23, e24, e25, e26, e29, e51] at p0x39
      try have q0x39 := congrArg Int32.toInt p0x39
      try simp only [q37, q38, e21, e22, e23, e24, e25, e26, e29, e51] at p1x39
      try have q1x39 := congrArg Int32.toInt p1x39
      refine b_if_eq C (t := 72) rfl rfl rfl (fun c52 => ?_) (fun c52 => by exfalso; omega)
      refine k_aload_n C rfl rfl rfl ?_
      refine g_R C rfl rfl rfl T_r0 rfl R_r0_1 ?_
      refine z_iconst C (z := 0) rfl rfl rfl (fun x53 ex53 => ?_)
      refine k_iload_n C rfl rfl rfl ?_
      refine z_sI C rfl rfl T_r0_1 N_r0_1 (by omega) (by omega) (fun I54 uI54 => ?_)
      have uI54 : I54 = u2 I40 r0_1 0 (n1) := by rw [uI54, nck (n := 0) (by omega)]
      have hI54 : IM R r0 I54 := IM.arr hI40 G_r0 R_r0_1 ⟨(fun h => absurd h (by decide)), (fun h => absurd h (by decide)), (fun h => absurd h (by decide))⟩ (fun _ => WOK.p (IM.w hI40 R_r0_1) (by rw [e44]; omega) (by omega)) uI54
      have S55 : CM A R r0 [] [1] I40 L41 I54 L41 := CM.a G_r0 R_r0_1 A_r0_1 uI54
      have F56 : ∀ r : Nat, r ≠ 0 → I54 r0_1 r = I40 r0_1 r := fun r z0 => by rw [uI54]; exact u2_k (by have h2 := ncz (x := x53) (by omega); omega)
      have e58 := u2_j uI54 (by first | decide | exact ncne (by omega) (by omega) (by omega) | exact nckn (by omega) (by omega) | exact (nckn (by omega) (by omega)).symm) e44
      have e59 := u2_j uI54 (by first | decide | exact ncne (by omega) (by omega) (by omega) | exact nckn (by omega) (by omega) | exact (nckn (by omega) (by omega)).symm) e45
      have e60 := u2_j uI54 (by first | decide | exact ncne (by omega) (by omega) (by omega) | exact nckn (by omega) (by omega) | exact (nckn (by omega) (by omega)).symm) e46
      have e61 := u2_j uI54 (by first | decide | exact ncne (by omega) (by omega) (by omega) | exact nckn (by omega) (by omega) | exact (nckn (by omega) (by omega)).symm) e47
      have e62 := u2_j uI54 (by first | decide | exact ncne (by omega) (by omega) (by omega) | exact nckn (by omega) (by omega) | exact (nckn (by omega) (by omega)).symm) e48
      have e63 := u2_n uI54 (fun e => (mF.ne G_r0 R_r0_1) e.symm) e51
      have e64 := u2_e uI54
      exact k_vret C rfl rfl (Nat.le_of_ble_eq_true rfl) (Nat.le_of_ble_eq_true rfl) ⟨_, _, rfl, rfl, fun a1 h1 => by cases (R_r0_1.symm.trans h1); first | omega | (simp only [e58, e59, e60, e61, e62, e63, e64, k0_r0_1_0, k0_r0_1_1, k0_r0_1_2, k0_r0_1_3, k0_r0_1_4, k0_r0_1_5, and_true, true_and, or_true, true_or, and_false, false_and, or_false, false_or] <;> omega), fun a1 h1 => by cases (R_r0_1.symm.trans h1); first | omega | (simp only [e58, e59, e60, e61, e62, e63, e64, k0_r0_1_0, k0_r0_1_1, k0_r0_1_2, k0_r0_1_3, k0_r0_1_4, k0_r0_1_5, and_true, true_and, or_true, true_or, and_false, false_and, or_false, false_or] <;> omega), fun a1 h1 => by cases (R_r0_1.symm.trans h1); exact (fun r z0 => ((F56 r z0).trans ((congrFun (CM.j0 S42 R_r0_1 (by decide)) r).trans ((congrFun (CM.j0 S20 R_r0_1 (by decide)) r).trans (congrFun (CM.j0 S3 R_r0_1 (by decide)) r))))), hI54, (CM.cons S3 (CM.cons S20 (CM.cons S42 (CM.mono S55 (by decide) (by decide)) (by decide) (by decide)) (by decide) (by decide)) (by decide) (by decide))⟩
    refine z_iconst C (z := 1) rfl rfl rfl (fun x65 ex65 => ?_)
    refine k_goto C (pc2 := 64) rfl rfl ?_
    refine z_iconst C (z := 2) rfl rfl rfl (fun x66 ex66 => ?_)
    have q67 : x65.toNatClampNeg = 1 := nck (by omega)
    have q68 : x66.toNatClampNeg = 2 := nck (by omega)
    refine c_VI C (a_X12_throwsIf_e hI18 H_r0 (by omega) (by omega)) rfl rfl rfl rfl rfl ⟨_, rfl, rfl, T_r0, Nat.le_of_ble_eq_true rfl⟩ rfl rfl (Nat.le_of_ble_eq_true rfl) (Nat.le_of_ble_eq_true rfl) (Nat.le_of_ble_eq_true rfl) ?_
    rintro x69 I70 L71 ⟨o0x69, o1x69, p0x69, p1x69, hI70, S72⟩
    have e73 := CM.j S72 R_r0_1 (by decide) e21
    have e74 := CM.j S72 R_r0_1 (by decide) e22
    have e75 := CM.j S72 R_r0_1 (by decide) e23
    have e76 := CM.j S72 R_r0_1 (by decide) e24
    have e77 := CM.j S72 R_r0_1 (by decide) e25
    have e78 := CM.j S72 R_r0_1 (by decide) e26
    have gx69 := rg x69
    obtain ⟨x80, e81⟩ : ∃ x, I70 r0 0 = x := ⟨_, rfl⟩
    have gx80 := rg x80
    try simp only [q67, q68, e21, e22, e23, e24, e25, e26, e29, e81] at p0x69
    try have q0x69 := congrArg Int32.toInt p0x69
    try simp only [q67, q68, e21, e22, e23, e24, e25, e26, e29, e81] at p1x69
    try have q1x69 := congrArg Int32.toInt p1x69
    refine b_if_eq C (t := 72) rfl rfl rfl (fun c82 => by exfalso; omega) (fun c82 => ?_)
    exact k_vret C rfl rfl (Nat.le_of_ble_eq_true rfl) (Nat.le_of_ble_eq_true rfl) ⟨_, _, rfl, rfl, fun a1 h1 => by cases (R_r0_1.symm.trans h1); first | omega | (simp only [e73, e74, e75, e76, e77, e78, e81, k0_r0_1_0, k0_r0_1_1, k0_r0_1_2, k0_r0_1_3, k0_r0_1_4, k0_r0_1_5, and_true, true_and, or_true, true_or, and_false, false_and, or_false, false_or] <;> omega), fun a1 h1 => by cases (R_r0_1.symm.trans h1); first | omega | (simp only [e73, e74, e75, e76, e77, e78, e81, k0_r0_1_0, k0_r0_1_1, k0_r0_1_2, k0_r0_1_3, k0_r0_1_4, k0_r0_1_5, and_true, true_and, or_true, true_or, and_false, false_and, or_false, false_or] <;> omega), fun a1 h1 => by cases (R_r0_1.symm.trans h1); exact (fun r z0 => ((congrFun (CM.j0 S72 R_r0_1 (by decide)) r).trans ((congrFun (CM.j0 S20 R_r0_1 (by decide)) r).trans (congrFun (CM.j0 S3 R_r0_1 (by decide)) r)))), hI70, (CM.cons S3 (CM.cons S20 (CM.mono S72 (by decide) (by decide)) (by decide) (by decide)) (by decide) (by decide))⟩
  refine k_iload_n C rfl rfl rfl ?_
  refine z_bipush C (z := 13) rfl rfl rfl (fun x83 ex83 => ?_)
  refine b_icmp_eq C (t := 34) rfl rfl rfl (fun c84 => ?_) (fun c84 => ?_)
  · skip
    refine z_iconst C (z := 0) rfl rfl rfl (fun x85 ex85 => ?_)
    refine z_iconst C (z := 1) rfl rfl rfl (fun x86 ex86 => ?_)
    have q87 : x85.toNatClampNeg = 0 := nck (by omega)
    have q88 : x86.toNatClampNeg = 1 := nck (by omega)
    refine c_VI C (a_X12_throwsIf_e hI2 H_r0 (by omega) (by omega)) rfl rfl rfl rfl rfl ⟨_, rfl, rfl, T_r0, Nat.le_of_ble_eq_true rfl⟩ rfl rfl (Nat.le_of_ble_eq_true rfl) (Nat.le_of_ble_eq_true rfl) (Nat.le_of_ble_eq_true rfl) ?_
    rintro x89 I90 L91 ⟨o0x89, o1x89, p0x89, p1x89, hI90, S92⟩
    have e93 := CM.j S92 R_r0_1 (by decide) e4
    have e94 := CM.j S92 R_r0_1 (by decide) e5
    have e95 := CM.j S92 R_r0_1 (by decide) e6
    have e96 := CM.j S92 R_r0_1 (by decide) e7
    have e97 := CM.j S92 R_r0_1 (by decide) e8
    have e98 := CM.j S92 R_r0_1 (by decide) e9
    have gx89 := rg x89
    obtain ⟨x100, e101⟩ : ∃ x, I90 r0 0 = x := ⟨_, rfl⟩
    have gx100 := rg x100
    try simp only [q87, q88, e4, e5, e6, e7, e8, e9, e10, e101] at p0x89
    try have q0x89 := congrArg Int32.toInt p0x89
    try simp only [q87, q88, e4, e5, e6, e7, e8, e9, e10, e101] at p1x89
    try have q1x89 := congrArg Int32.toInt p1x89
    refine b_if_ne C (t := 71) rfl rfl rfl (fun c102 => by exfalso; omega) (fun c102 => ?_)
    refine k_aload_n C rfl rfl rfl ?_
    refine k_aload_n C rfl rfl rfl ?_
    refine g_R C rfl rfl rfl T_r0 rfl R_r0_1 ?_
    refine z_iconst C (z := 1) rfl rfl rfl (fun x103 ex103 => ?_)
    obtain ⟨T_r0_1, N_r0_1, A_r0_1⟩ := id H_r0_1
    refine a_I C rfl rfl T_r0_1 (by rw [N_r0_1]; exact vpi (by omega) (by omega)) ((congrArg (I90 r0_1) (nck (n := 1) (by omega))).trans e94) ?_
    refine k_aload_n C rfl rfl rfl ?_
    refine g_R C rfl rfl rfl T_r0 rfl R_r0_1 ?_
    refine z_iconst C (z := 2) rfl rfl rfl (fun x104 ex104 => ?_)
    refine a_I C rfl rfl T_r0_1 (by rw [N_r0_1]; exact vpi (by omega) (by omega)) ((congrArg (I90 r0_1) (nck (n := 2) (by omega))).trans e95) ?_
    refine z_iadd C rfl rfl ⟨by omega, by omega⟩ (fun x105 ex105 => ?_)
    refine b_if_le C (t := 63) rfl rfl rfl (fun c106 => ?_) (fun c106 => ?_)
    · skip
      refine z_iconst C (z := 0) rfl rfl rfl (fun x107 ex107 => ?_)
      refine z_iconst C (z := 2) rfl rfl rfl (fun x108 ex108 => ?_)
      have q109 : x107.toNatClampNeg = 0 := nck (by omega)
      have q110 : x108.toNatClampNeg = 2 := nck (by omega)
      refine c_VI C (a_X12_throwsIf_e hI90 H_r0 (by omega) (by omega)) rfl rfl rfl rfl rfl ⟨_, rfl, rfl, T_r0, Nat.le_of_ble_eq_true rfl⟩ rfl rfl (Nat.le_of_ble_eq_true rfl) (Nat.le_of_ble_eq_true rfl) (Nat.le_of_ble_eq_true rfl) ?_
      rintro x111 I112 L113 ⟨o0x111, o1x111, p0x111, p1x111, hI112, S114⟩
      have e115 := CM.j S114 R_r0_1 (by decide) e93
      have e116 := CM.j S114 R_r0_1 (by decide) e94
      have e117 := CM.j S114 R_r0_1 (by decide) e95
      have e118 := CM.j S114 R_r0_1 (by decide) e96
      have e119 := CM.j S114 R_r0_1 (by decide) e97
      have e120 := CM.j S114 R_r0_1 (by decide) e98
      have gx111 := rg x111
      obtain ⟨x122, e123⟩ : ∃ x, I112 r0 0 = x := ⟨_, rfl⟩
      have gx122 := rg x122
      try simp only [q109, q110, e93, e94, e95, e96, e97, e98, e101, e123] at p0x111
      try have q0x111 := congrArg Int32.toInt p0x111
      try simp only [q109, q110, e93, e94, e95, e96, e97, e98, e101, e123] at p1x111
      try have q1x111 := congrArg Int32.toInt p1x111
      refine b_if_eq C (t := 72) rfl rfl rfl (fun c124 => ?_) (fun c124 => by exfalso; omega)
      refine k_aload_n C rfl rfl rfl ?_
      refine g_R C rfl rfl rfl T_r0 rfl R_r0_1 ?_
      refine z_iconst C (z := 0) rfl rfl rfl (fun x125 ex125 => ?_)
      refine k_iload_n C rfl rfl rfl ?_
      refine z_sI C rfl rfl T_r0_1 N_r0_1 (by omega) (by omega) (fun I126 uI126 => ?_)
      have uI126 : I126 = u2 I112 r0_1 0 (n1) := by rw [uI126, nck (n := 0) (by omega)]
      have hI126 : IM R r0 I126 := IM.arr hI112 G_r0 R_r0_1 ⟨(fun h => absurd h (by decide)), (fun h => absurd h (by decide)), (fun h => absurd h (by decide))⟩ (fun _ => WOK.p (IM.w hI112 R_r0_1) (by rw [e116]; omega) (by omega)) uI126
      have S127 : CM A R r0 [] [1] I112 L113 I126 L113 := CM.a G_r0 R_r0_1 A_r0_1 uI126
      have F128 : ∀ r : Nat, r ≠ 0 → I126 r0_1 r = I112 r0_1 r := fun r z0 => by rw [uI126]; exact u2_k (by have h2 := ncz (x := x125) (by omega); omega)
      have e130 := u2_j uI126 (by first | decide | exact ncne (by omega) (by omega) (by omega) | exact nckn (by omega) (by omega) | exact (nckn (by omega) (by omega)).symm) e116
      have e131 := u2_j uI126 (by first | decide | exact ncne (by omega) (by omega) (by omega) | exact nckn (by omega) (by omega) | exact (nckn (by omega) (by omega)).symm) e117
      have e132 := u2_j uI126 (by first | decide | exact ncne (by omega) (by omega) (by omega) | exact nckn (by omega) (by omega) | exact (nckn (by omega) (by omega)).symm) e118
      have e133 := u2_j uI126 (by first | decide | exact ncne (by omega) (by omega) (by omega) | exact nckn (by omega) (by omega) | exact (nckn (by omega) (by omega)).symm) e119
      have e134 := u2_j uI126 (by first | decide | exact ncne (by omega) (by omega) (by omega) | exact nckn (by omega) (by omega) | exact (nckn (by omega) (by omega)).symm) e120
      have e135 := u2_n uI126 (fun e => (mF.ne G_r0 R_r0_1) e.symm) e123
      have e136 := u2_e uI126
      exact k_vret C rfl rfl (Nat.le_of_ble_eq_true rfl) (Nat.le_of_ble_eq_true rfl) ⟨_, _, rfl, rfl, fun a1 h1 => by cases (R_r0_1.symm.trans h1); first | omega | (simp only [e130, e131, e132, e133, e134, e135, e136, k0_r0_1_0, k0_r0_1_1, k0_r0_1_2, k0_r0_1_3, k0_r0_1_4, k0_r0_1_5, and_true, true_and, or_true, true_or, and_false, false_and, or_false, false_or] <;> omega), fun a1 h1 => by cases (R_r0_1.symm.trans h1); first | omega | (simp only [e130, e131, e132, e133, e134, e135, e136, k0_r0_1_0, k0_r0_1_1, k0_r0_1_2, k0_r0_1_3, k0_r0_1_4, k0_r0_1_5, and_true, true_and, or_true, true_or, and_false, false_and, or_false, false_or] <;> omega), fun a1 h1 => by cases (R_r0_1.symm.trans h1); exact (fun r z0 => ((F128 r z0).trans ((congrFun (CM.j0 S114 R_r0_1 (by decide)) r).trans ((congrFun (CM.j0 S92 R_r0_1 (by decide)) r).trans (congrFun (CM.j0 S3 R_r0_1 (by decide)) r))))), hI126, (CM.cons S3 (CM.cons S92 (CM.cons S114 (CM.mono S127 (by decide) (by decide)) (by decide) (by decide)) (by decide) (by decide)) (by decide) (by decide))⟩
    refine z_iconst C (z := 1) rfl rfl rfl (fun x137 ex137 => ?_)
    refine k_goto C (pc2 := 64) rfl rfl ?_
    refine z_iconst C (z := 2) rfl rfl rfl (fun x138 ex138 => ?_)
    have q139 : x137.toNatClampNeg = 1 := nck (by omega)
    have q140 : x138.toNatClampNeg = 2 := nck (by omega)
    refine c_VI C (a_X12_throwsIf_e hI90 H_r0 (by omega) (by omega)) rfl rfl rfl rfl rfl ⟨_, rfl, rfl, T_r0, Nat.le_of_ble_eq_true rfl⟩ rfl rfl (Nat.le_of_ble_eq_true rfl) (Nat.le_of_ble_eq_true rfl) (Nat.le_of_ble_eq_true rfl) ?_
    rintro x141 I142 L143 ⟨o0x141, o1x141, p0x141, p1x141, hI142, S144⟩
    have e145 := CM.j S144 R_r0_1 (by decide) e93
    have e146 := CM.j S144 R_r0_1 (by decide) e94
    have e147 := CM.j S144 R_r0_1 (by decide) e95
    have e148 := CM.j S144 R_r0_1 (by decide) e96
    have e149 := CM.j S144 R_r0_1 (by decide) e97
    have e150 := CM.j S144 R_r0_1 (by decide) e98
    have gx141 := rg x141
    obtain ⟨x152, e153⟩ : ∃ x, I142 r0 0 = x := ⟨_, rfl⟩
    have gx152 := rg x152
    try simp only [q139, q140, e93, e94, e95, e96, e97, e98, e101, e153] at p0x141
    try have q0x141 := congrArg Int32.toInt p0x141
    try simp only [q139, q140, e93, e94, e95, e96, e97, e98, e101, e153] at p1x141
    try have q1x141 := congrArg Int32.toInt p1x141
    refine b_if_eq C (t := 72) rfl rfl rfl (fun c154 => by exfalso; omega) (fun c154 => ?_)
    exact k_vret C rfl rfl (Nat.le_of_ble_eq_true rfl) (Nat.le_of_ble_eq_true rfl) ⟨_, _, rfl, rfl, fun a1 h1 => by cases (R_r0_1.symm.trans h1); first | omega | (simp only [e145, e146, e147, e148, e149, e150, e153, k0_r0_1_0, k0_r0_1_1, k0_r0_1_2, k0_r0_1_3, k0_r0_1_4, k0_r0_1_5, and_true, true_and, or_true, true_or, and_false, false_and, or_false, false_or] <;> omega), fun a1 h1 => by cases (R_r0_1.symm.trans h1); first | omega | (simp only [e145, e146, e147, e148, e149, e150, e153, k0_r0_1_0, k0_r0_1_1, k0_r0_1_2, k0_r0_1_3, k0_r0_1_4, k0_r0_1_5, and_true, true_and, or_true, true_or, and_false, false_and, or_false, false_or] <;> omega), fun a1 h1 => by cases (R_r0_1.symm.trans h1); exact (fun r z0 => ((congrFun (CM.j0 S144 R_r0_1 (by decide)) r).trans ((congrFun (CM.j0 S92 R_r0_1 (by decide)) r).trans (congrFun (CM.j0 S3 R_r0_1 (by decide)) r)))), hI142, (CM.cons S3 (CM.cons S92 (CM.mono S144 (by decide) (by decide)) (by decide) (by decide)) (by decide) (by decide))⟩
  refine k_iload_n C rfl rfl rfl ?_
  refine z_bipush C (z := 17) rfl rfl rfl (fun x155 ex155 => ?_)
  refine b_icmp_eq C (t := 34) rfl rfl rfl (fun c156 => ?_) (fun c156 => ?_)
  · skip
    refine z_iconst C (z := 0) rfl rfl rfl (fun x157 ex157 => ?_)
    refine z_iconst C (z := 1) rfl rfl rfl (fun x158 ex158 => ?_)
    have q159 : x157.toNatClampNeg = 0 := nck (by omega)
    have q160 : x158.toNatClampNeg = 1 := nck (by omega)
    refine c_VI C (a_X12_throwsIf_e hI2 H_r0 (by omega) (by omega)) rfl rfl rfl rfl rfl ⟨_, rfl, rfl, T_r0, Nat.le_of_ble_eq_true rfl⟩ rfl rfl (Nat.le_of_ble_eq_true rfl) (Nat.le_of_ble_eq_true rfl) (Nat.le_of_ble_eq_true rfl) ?_
    rintro x161 I162 L163 ⟨o0x161, o1x161, p0x161, p1x161, hI162, S164⟩
    have e165 := CM.j S164 R_r0_1 (by decide) e4
    have e166 := CM.j S164 R_r0_1 (by decide) e5
    have e167 := CM.j S164 R_r0_1 (by decide) e6
    have e168 := CM.j S164 R_r0_1 (by decide) e7
    have e169 := CM.j S164 R_r0_1 (by decide) e8
    have e170 := CM.j S164 R_r0_1 (by decide) e9
    have gx161 := rg x161
    obtain ⟨x172, e173⟩ : ∃ x, I162 r0 0 = x := ⟨_, rfl⟩
    have gx172 := rg x172
    try simp only [q159, q160, e4, e5, e6, e7, e8, e9, e10, e173] at p0x161
    try have q0x161 := congrArg Int32.toInt p0x161
    try simp only [q159, q160, e4, e5, e6, e7, e8, e9, e10, e173] at p1x161
    try have q1x161 := congrArg Int32.toInt p1x161
    refine b_if_ne C (t := 71) rfl rfl rfl (fun c174 => by exfalso; omega) (fun c174 => ?_)
    refine k_aload_n C rfl rfl rfl ?_
    refine k_aload_n C rfl rfl rfl ?_
    refine g_R C rfl rfl rfl T_r0 rfl R_r0_1 ?_
    refine z_iconst C (z := 1) rfl rfl rfl (fun x175 ex175 => ?_)
    obtain ⟨T_r0_1, N_r0_1, A_r0_1⟩ := id H_r0_1
    refine a_I C rfl rfl T_r0_1 (by rw [N_r0_1]; exact vpi (by omega) (by omega)) ((congrArg (I162 r0_1) (nck (n := 1) (by omega))).trans e166) ?_
    refine k_aload_n C rfl rfl rfl ?_
    refine g_R C rfl rfl rfl T_r0 rfl R_r0_1 ?_
    refine z_iconst C (z := 2) rfl rfl rfl (fun x176 ex176 => ?_)
    refine a_I C rfl rfl T_r0_1 (by rw [N_r0_1]; exact vpi (by omega) (by omega)) ((congrArg (I162 r0_1) (nck (n := 2) (by omega))).trans e167) ?_
    refine z_iadd C rfl rfl ⟨by omega, by omega⟩ (fun x177 ex177 => ?_)
    refine b_if_le C (t := 63) rfl rfl rfl (fun c178 => ?_) (fun c178 => ?_)
    · skip
      refine z_iconst C (z := 0) rfl rfl rfl (fun x179 ex179 => ?_)
      refine z_iconst C (z := 2) rfl rfl rfl (fun x180 ex180 => ?_)
      have q181 : x179.toNatClampNeg = 0 := nck (by omega)
      have q182 : x180.toNatClampNeg = 2 := nck (by omega)
      refine c_VI C (a_X12_throwsIf_e hI162 H_r0 (by omega) (by omega)) rfl rfl rfl rfl rfl ⟨_, rfl, rfl, T_r0, Nat.le_of_ble_eq_true rfl⟩ rfl rfl (Nat.le_of_ble_eq_true rfl) (Nat.le_of_ble_eq_true rfl) (Nat.le_of_ble_eq_true rfl) ?_
      rintro x183 I184 L185 ⟨o0x183, o1x183, p0x183, p1x183, hI184, S186⟩
      have e187 := CM.j S186 R_r0_1 (by decide) e165
      have e188 := CM.j S186 R_r0_1 (by decide) e166
      have e189 := CM.j S186 R_r0_1 (by decide) e167
      have e190 := CM.j S186 R_r0_1 (by decide) e168
      have e191 := CM.j S186 R_r0_1 (by decide) e169
      have e192 := CM.j S186 R_r0_1 (by decide) e170
      have gx183 := rg x183
      obtain ⟨x194, e195⟩ : ∃ x, I184 r0 0 = x := ⟨_, rfl⟩
      have gx194 := rg x194
      try simp only [q181, q182, e165, e166, e167, e168, e169, e170, e173, e195] at p0x183
      try have q0x183 := congrArg Int32.toInt p0x183
      try simp only [q181, q182, e165, e166, e167, e168, e169, e170, e173, e195] at p1x183
      try have q1x183 := congrArg Int32.toInt p1x183
      refine b_if_eq C (t := 72) rfl rfl rfl (fun c196 => ?_) (fun c196 => by exfalso; omega)
      refine k_aload_n C rfl rfl rfl ?_
      refine g_R C rfl rfl rfl T_r0 rfl R_r0_1 ?_
      refine z_iconst C (z := 0) rfl rfl rfl (fun x197 ex197 => ?_)
      refine k_iload_n C rfl rfl rfl ?_
      refine z_sI C rfl rfl T_r0_1 N_r0_1 (by omega) (by omega) (fun I198 uI198 => ?_)
      have uI198 : I198 = u2 I184 r0_1 0 (n1) := by rw [uI198, nck (n := 0) (by omega)]
      have hI198 : IM R r0 I198 := IM.arr hI184 G_r0 R_r0_1 ⟨(fun h => absurd h (by decide)), (fun h => absurd h (by decide)), (fun h => absurd h (by decide))⟩ (fun _ => WOK.p (IM.w hI184 R_r0_1) (by rw [e188]; omega) (by omega)) uI198
      have S199 : CM A R r0 [] [1] I184 L185 I198 L185 := CM.a G_r0 R_r0_1 A_r0_1 uI198
      have F200 : ∀ r : Nat, r ≠ 0 → I198 r0_1 r = I184 r0_1 r := fun r z0 => by rw [uI198]; exact u2_k (by have h2 := ncz (x := x197) (by omega); omega)
      have e202 := u2_j uI198 (by first | decide | exact ncne (by omega) (by omega) (by omega) | exact nckn (by omega) (by omega) | exact (nckn (by omega) (by omega)).symm) e188
      have e203 := u2_j uI198 (by first | decide | exact ncne (by omega) (by omega) (by omega) | exact nckn (by omega) (by omega) | exact (nckn (by omega) (by omega)).symm) e189
      have e204 := u2_j uI198 (by first | decide | exact ncne (by omega) (by omega) (by omega) | exact nckn (by omega) (by omega) | exact (nckn (by omega) (by omega)).symm) e190
      have e205 := u2_j uI198 (by first | decide | exact ncne (by omega) (by omega) (by omega) | exact nckn (by omega) (by omega) | exact (nckn (by omega) (by omega)).symm) e191
      have e206 := u2_j uI198 (by first | decide | exact ncne (by omega) (by omega) (by omega) | exact nckn (by omega) (by omega) | exact (nckn (by omega) (by omega)).symm) e192
      have e207 := u2_n uI198 (fun e => (mF.ne G_r0 R_r0_1) e.symm) e195
      have e208 := u2_e uI198
      exact k_vret C rfl rfl (Nat.le_of_ble_eq_true rfl) (Nat.le_of_ble_eq_true rfl) ⟨_, _, rfl, rfl, fun a1 h1 => by cases (R_r0_1.symm.trans h1); first | omega | (simp only [e202, e203, e204, e205, e206, e207, e208, k0_r0_1_0, k0_r0_1_1, k0_r0_1_2, k0_r0_1_3, k0_r0_1_4, k0_r0_1_5, and_true, true_and, or_true, true_or, and_false, false_and, or_false, false_or] <;> omega), fun a1 h1 => by cases (R_r0_1.symm.trans h1); first | omega | (simp only [e202, e203, e204, e205, e206, e207, e208, k0_r0_1_0, k0_r0_1_1, k0_r0_1_2, k0_r0_1_3, k0_r0_1_4, k0_r0_1_5, and_true, true_and, or_true, true_or, and_false, false_and, or_false, false_or] <;> omega), fun a1 h1 => by cases (R_r0_1.symm.trans h1); exact (fun r z0 => ((F200 r z0).trans ((congrFun (CM.j0 S186 R_r0_1 (by decide)) r).trans ((congrFun (CM.j0 S164 R_r0_1 (by decide)) r).trans (congrFun (CM.j0 S3 R_r0_1 (by decide)) r))))), hI198, (CM.cons S3 (CM.cons S164 (CM.cons S186 (CM.mono S199 (by decide) (by decide)) (by decide) (by decide)) (by decide) (by decide)) (by decide) (by decide))⟩
    refine z_iconst C (z := 1) rfl rfl rfl (fun x209 ex209 => ?_)
    refine k_goto C (pc2 := 64) rfl rfl ?_
    refine z_iconst C (z := 2) rfl rfl rfl (fun x210 ex210 => ?_)
    have q211 : x209.toNatClampNeg = 1 := nck (by omega)
    have q212 : x210.toNatClampNeg = 2 := nck (by omega)
    refine c_VI C (a_X12_throwsIf_e hI162 H_r0 (by omega) (by omega)) rfl rfl rfl rfl rfl ⟨_, rfl, rfl, T_r0, Nat.le_of_ble_eq_true rfl⟩ rfl rfl (Nat.le_of_ble_eq_true rfl) (Nat.le_of_ble_eq_true rfl) (Nat.le_of_ble_eq_true rfl) ?_
    rintro x213 I214 L215 ⟨o0x213, o1x213, p0x213, p1x213, hI214, S216⟩
    have e217 := CM.j S216 R_r0_1 (by decide) e165
    have e218 := CM.j S216 R_r0_1 (by decide) e166
    have e219 := CM.j S216 R_r0_1 (by decide) e167
    have e220 := CM.j S216 R_r0_1 (by decide) e168
    have e221 := CM.j S216 R_r0_1 (by decide) e169
    have e222 := CM.j S216 R_r0_1 (by decide) e170
    have gx213 := rg x213
    obtain ⟨x224, e225⟩ : ∃ x, I214 r0 0 = x := ⟨_, rfl⟩
    have gx224 := rg x224
    try simp only [q211, q212, e165, e166, e167, e168, e169, e170, e173, e225] at p0x213
    try have q0x213 := congrArg Int32.toInt p0x213
    try simp only [q211, q212, e165, e166, e167, e168, e169, e170, e173, e225] at p1x213
    try have q1x213 := congrArg Int32.toInt p1x213
    refine b_if_eq C (t := 72) rfl rfl rfl (fun c226 => by exfalso; omega) (fun c226 => ?_)
    exact k_vret C rfl rfl (Nat.le_of_ble_eq_true rfl) (Nat.le_of_ble_eq_true rfl) ⟨_, _, rfl, rfl, fun a1 h1 => by cases (R_r0_1.symm.trans h1); first | omega | (simp only [e217, e218, e219, e220, e221, e222, e225, k0_r0_1_0, k0_r0_1_1, k0_r0_1_2, k0_r0_1_3, k0_r0_1_4, k0_r0_1_5, and_true, true_and, or_true, true_or, and_false, false_and, or_false, false_or] <;> omega), fun a1 h1 => by cases (R_r0_1.symm.trans h1); first | omega | (simp only [e217, e218, e219, e220, e221, e222, e225, k0_r0_1_0, k0_r0_1_1, k0_r0_1_2, k0_r0_1_3, k0_r0_1_4, k0_r0_1_5, and_true, true_and, or_true, true_or, and_false, false_and, or_false, false_or] <;> omega), fun a1 h1 => by cases (R_r0_1.symm.trans h1); exact (fun r z0 => ((congrFun (CM.j0 S216 R_r0_1 (by decide)) r).trans ((congrFun (CM.j0 S164 R_r0_1 (by decide)) r).trans (congrFun (CM.j0 S3 R_r0_1 (by decide)) r)))), hI214, (CM.cons S3 (CM.cons S164 (CM.mono S216 (by decide) (by decide)) (by decide) (by decide)) (by decide) (by decide))⟩
  refine k_iload_n C rfl rfl rfl ?_
  refine z_bipush C (z := 19) rfl rfl rfl (fun x227 ex227 => ?_)
  refine b_icmp_eq C (t := 34) rfl rfl rfl (fun c228 => ?_) (fun c228 => ?_)
  · skip
    refine z_iconst C (z := 0) rfl rfl rfl (fun x229 ex229 => ?_)
    refine z_iconst C (z := 1) rfl rfl rfl (fun x230 ex230 => ?_)
    have q231 : x229.toNatClampNeg = 0 := nck (by omega)
    have q232 : x230.toNatClampNeg = 1 := nck (by omega)
    refine c_VI C (a_X12_throwsIf_e hI2 H_r0 (by omega) (by omega)) rfl rfl rfl rfl rfl ⟨_, rfl, rfl, T_r0, Nat.le_of_ble_eq_true rfl⟩ rfl rfl (Nat.le_of_ble_eq_true rfl) (Nat.le_of_ble_eq_true rfl) (Nat.le_of_ble_eq_true rfl) ?_
    rintro x233 I234 L235 ⟨o0x233, o1x233, p0x233, p1x233, hI234, S236⟩
    have e237 := CM.j S236 R_r0_1 (by decide) e4
    have e238 := CM.j S236 R_r0_1 (by decide) e5
    have e239 := CM.j S236 R_r0_1 (by decide) e6
    have e240 := CM.j S236 R_r0_1 (by decide) e7
    have e241 := CM.j S236 R_r0_1 (by decide) e8
    have e242 := CM.j S236 R_r0_1 (by decide) e9
    have gx233 := rg x233
    obtain ⟨x244, e245⟩ : ∃ x, I234 r0 0 = x := ⟨_, rfl⟩
    have gx244 := rg x244
    try simp only [q231, q232, e4, e5, e6, e7, e8, e9, e10, e245] at p0x233
    try have q0x233 := congrArg Int32.toInt p0x233
    try simp only [q231, q232, e4, e5, e6, e7, e8, e9, e10, e245] at p1x233
    try have q1x233 := congrArg Int32.toInt p1x233
    refine b_if_ne C (t := 71) rfl rfl rfl (fun c246 => by exfalso; omega) (fun c246 => ?_)
    refine k_aload_n C rfl rfl rfl ?_
    refine k_aload_n C rfl rfl rfl ?_
    refine g_R C rfl rfl rfl T_r0 rfl R_r0_1 ?_
    refine z_iconst C (z := 1) rfl rfl rfl (fun x247 ex247 => ?_)
    obtain ⟨T_r0_1, N_r0_1, A_r0_1⟩ := id H_r0_1
    refine a_I C rfl rfl T_r0_1 (by rw [N_r0_1]; exact vpi (by omega) (by omega)) ((congrArg (I234 r0_1) (nck (n := 1) (by omega))).trans e238) ?_
    refine k_aload_n C rfl rfl rfl ?_
    refine g_R C rfl rfl rfl T_r0 rfl R_r0_1 ?_
    refine z_iconst C (z := 2) rfl rfl rfl (fun x248 ex248 => ?_)
    refine a_I C rfl rfl T_r0_1 (by rw [N_r0_1]; exact vpi (by omega) (by omega)) ((congrArg (I234 r0_1) (nck (n := 2) (by omega))).trans e239) ?_
    refine z_iadd C rfl rfl ⟨by omega, by omega⟩ (fun x249 ex249 => ?_)
    refine b_if_le C (t := 63) rfl rfl rfl (fun c250 => ?_) (fun c250 => ?_)
    · skip
      refine z_iconst C (z := 0) rfl rfl rfl (fun x251 ex251 => ?_)
      refine z_iconst C (z := 2) rfl rfl rfl (fun x252 ex252 => ?_)
      have q253 : x251.toNatClampNeg = 0 := nck (by omega)
      have q254 : x252.toNatClampNeg = 2 := nck (by omega)
      refine c_VI C (a_X12_throwsIf_e hI234 H_r0 (by omega) (by omega)) rfl rfl rfl rfl rfl ⟨_, rfl, rfl, T_r0, Nat.le_of_ble_eq_true rfl⟩ rfl rfl (Nat.le_of_ble_eq_true rfl) (Nat.le_of_ble_eq_true rfl) (Nat.le_of_ble_eq_true rfl) ?_
      rintro x255 I256 L257 ⟨o0x255, o1x255, p0x255, p1x255, hI256, S258⟩
      have e259 := CM.j S258 R_r0_1 (by decide) e237
      have e260 := CM.j S258 R_r0_1 (by decide) e238
      have e261 := CM.j S258 R_r0_1 (by decide) e239
      have e262 := CM.j S258 R_r0_1 (by decide) e240
      have e263 := CM.j S258 R_r0_1 (by decide) e241
      have e264 := CM.j S258 R_r0_1 (by decide) e242
      have gx255 := rg x255
      obtain ⟨x266, e267⟩ : ∃ x, I256 r0 0 = x := ⟨_, rfl⟩
      have gx266 := rg x266
      try simp only [q253, q254, e237, e238, e239, e240, e241, e242, e245, e267] at p0x255
      try have q0x255 := congrArg Int32.toInt p0x255
      try simp only [q253, q254, e237, e238, e239, e240, e241, e242, e245, e267] at p1x255
      try have q1x255 := congrArg Int32.toInt p1x255
      refine b_if_eq C (t := 72) rfl rfl rfl (fun c268 => ?_) (fun c268 => by exfalso; omega)
      refine k_aload_n C rfl rfl rfl ?_
      refine g_R C rfl rfl rfl T_r0 rfl R_r0_1 ?_
      refine z_iconst C (z := 0) rfl rfl rfl (fun x269 ex269 => ?_)
      refine k_iload_n C rfl rfl rfl ?_
      refine z_sI C rfl rfl T_r0_1 N_r0_1 (by omega) (by omega) (fun I270 uI270 => ?_)
      have uI270 : I270 = u2 I256 r0_1 0 (n1) := by rw [uI270, nck (n := 0) (by omega)]
      have hI270 : IM R r0 I270 := IM.arr hI256 G_r0 R_r0_1 ⟨(fun h => absurd h (by decide)), (fun h => absurd h (by decide)), (fun h => absurd h (by decide))⟩ (fun _ => WOK.p (IM.w hI256 R_r0_1) (by rw [e260]; omega) (by omega)) uI270
      have S271 : CM A R r0 [] [1] I256 L257 I270 L257 := CM.a G_r0 R_r0_1 A_r0_1 uI270
      have F272 : ∀ r : Nat, r ≠ 0 → I270 r0_1 r = I256 r0_1 r := fun r z0 => by rw [uI270]; exact u2_k (by have h2 := ncz (x := x269) (by omega); omega)
      have e274 := u2_j uI270 (by first | decide | exact ncne (by omega) (by omega) (by omega) | exact nckn (by omega) (by omega) | exact (nckn (by omega) (by omega)).symm) e260
      have e275 := u2_j uI270 (by first | decide | exact ncne (by omega) (by omega) (by omega) | exact nckn (by omega) (by omega) | exact (nckn (by omega) (by omega)).symm) e261
      have e276 := u2_j uI270 (by first | decide | exact ncne (by omega) (by omega) (by omega) | exact nckn (by omega) (by omega) | exact (nckn (by omega) (by omega)).symm) e262
      have e277 := u2_j uI270 (by first | decide | exact ncne (by omega) (by omega) (by omega) | exact nckn (by omega) (by omega) | exact (nckn (by omega) (by omega)).symm) e263
      have e278 := u2_j uI270 (by first | decide | exact ncne (by omega) (by omega) (by omega) | exact nckn (by omega) (by omega) | exact (nckn (by omega) (by omega)).symm) e264
      have e279 := u2_n uI270 (fun e => (mF.ne G_r0 R_r0_1) e.symm) e267
      have e280 := u2_e uI270
      exact k_vret C rfl rfl (Nat.le_of_ble_eq_true rfl) (Nat.le_of_ble_eq_true rfl) ⟨_, _, rfl, rfl, fun a1 h1 => by cases (R_r0_1.symm.trans h1); first | omega | (simp only [e274, e275, e276, e277, e278, e279, e280, k0_r0_1_0, k0_r0_1_1, k0_r0_1_2, k0_r0_1_3, k0_r0_1_4, k0_r0_1_5, and_true, true_and, or_true, true_or, and_false, false_and, or_false, false_or] <;> omega), fun a1 h1 => by cases (R_r0_1.symm.trans h1); first | omega | (simp only [e274, e275, e276, e277, e278, e279, e280, k0_r0_1_0, k0_r0_1_1, k0_r0_1_2, k0_r0_1_3, k0_r0_1_4, k0_r0_1_5, and_true, true_and, or_true, true_or, and_false, false_and, or_false, false_or] <;> omega), fun a1 h1 => by cases (R_r0_1.symm.trans h1); exact (fun r z0 => ((F272 r z0).trans ((congrFun (CM.j0 S258 R_r0_1 (by decide)) r).trans ((congrFun (CM.j0 S236 R_r0_1 (by decide)) r).trans (congrFun (CM.j0 S3 R_r0_1 (by decide)) r))))), hI270, (CM.cons S3 (CM.cons S236 (CM.cons S258 (CM.mono S271 (by decide) (by decide)) (by decide) (by decide)) (by decide) (by decide)) (by decide) (by decide))⟩
    refine z_iconst C (z := 1) rfl rfl rfl (fun x281 ex281 => ?_)
    refine k_goto C (pc2 := 64) rfl rfl ?_
    refine z_iconst C (z := 2) rfl rfl rfl (fun x282 ex282 => ?_)
    have q283 : x281.toNatClampNeg = 1 := nck (by omega)
    have q284 : x282.toNatClampNeg = 2 := nck (by omega)
    refine c_VI C (a_X12_throwsIf_e hI234 H_r0 (by omega) (by omega)) rfl rfl rfl rfl rfl ⟨_, rfl, rfl, T_r0, Nat.le_of_ble_eq_true rfl⟩ rfl rfl (Nat.le_of_ble_eq_true rfl) (Nat.le_of_ble_eq_true rfl) (Nat.le_of_ble_eq_true rfl) ?_
    rintro x285 I286 L287 ⟨o0x285, o1x285, p0x285, p1x285, hI286, S288⟩
    have e289 := CM.j S288 R_r0_1 (by decide) e237
    have e290 := CM.j S288 R_r0_1 (by decide) e238
    have e291 := CM.j S288 R_r0_1 (by decide) e239
    have e292 := CM.j S288 R_r0_1 (by decide) e240
    have e293 := CM.j S288 R_r0_1 (by decide) e241
    have e294 := CM.j S288 R_r0_1 (by decide) e242
    have gx285 := rg x285
    obtain ⟨x296, e297⟩ : ∃ x, I286 r0 0 = x := ⟨_, rfl⟩
    have gx296 := rg x296
    try simp only [q283, q284, e237, e238, e239, e240, e241, e242, e245, e297] at p0x285
    try have q0x285 := congrArg Int32.toInt p0x285
    try simp only [q283, q284, e237, e238, e239, e240, e241, e242, e245, e297] at p1x285
    try have q1x285 := congrArg Int32.toInt p1x285
    refine b_if_eq C (t := 72) rfl rfl rfl (fun c298 => by exfalso; omega) (fun c298 => ?_)
    exact k_vret C rfl rfl (Nat.le_of_ble_eq_true rfl) (Nat.le_of_ble_eq_true rfl) ⟨_, _, rfl, rfl, fun a1 h1 => by cases (R_r0_1.symm.trans h1); first | omega | (simp only [e289, e290, e291, e292, e293, e294, e297, k0_r0_1_0, k0_r0_1_1, k0_r0_1_2, k0_r0_1_3, k0_r0_1_4, k0_r0_1_5, and_true, true_and, or_true, true_or, and_false, false_and, or_false, false_or] <;> omega), fun a1 h1 => by cases (R_r0_1.symm.trans h1); first | omega | (simp only [e289, e290, e291, e292, e293, e294, e297, k0_r0_1_0, k0_r0_1_1, k0_r0_1_2, k0_r0_1_3, k0_r0_1_4, k0_r0_1_5, and_true, true_and, or_true, true_or, and_false, false_and, or_false, false_or] <;> omega), fun a1 h1 => by cases (R_r0_1.symm.trans h1); exact (fun r z0 => ((congrFun (CM.j0 S288 R_r0_1 (by decide)) r).trans ((congrFun (CM.j0 S236 R_r0_1 (by decide)) r).trans (congrFun (CM.j0 S3 R_r0_1 (by decide)) r)))), hI286, (CM.cons S3 (CM.cons S236 (CM.mono S288 (by decide) (by decide)) (by decide) (by decide)) (by decide) (by decide))⟩
  refine z_iconst C (z := 1) rfl rfl rfl (fun x299 ex299 => ?_)
  refine k_goto C (pc2 := 35) rfl rfl ?_
  refine z_iconst C (z := 1) rfl rfl rfl (fun x300 ex300 => ?_)
  have q301 : x299.toNatClampNeg = 1 := nck (by omega)
  have q302 : x300.toNatClampNeg = 1 := nck (by omega)
  refine c_VI C (a_X12_throwsIf_e hI2 H_r0 (by omega) (by omega)) rfl rfl rfl rfl rfl ⟨_, rfl, rfl, T_r0, Nat.le_of_ble_eq_true rfl⟩ rfl rfl (Nat.le_of_ble_eq_true rfl) (Nat.le_of_ble_eq_true rfl) (Nat.le_of_ble_eq_true rfl) ?_
  rintro x303 I304 L305 ⟨o0x303, o1x303, p0x303, p1x303, hI304, S306⟩
  have e307 := CM.j S306 R_r0_1 (by decide) e4
  have e308 := CM.j S306 R_r0_1 (by decide) e5
  have e309 := CM.j S306 R_r0_1 (by decide) e6
  have e310 := CM.j S306 R_r0_1 (by decide) e7
  have e311 := CM.j S306 R_r0_1 (by decide) e8
  have e312 := CM.j S306 R_r0_1 (by decide) e9
  have gx303 := rg x303
  obtain ⟨x314, e315⟩ : ∃ x, I304 r0 0 = x := ⟨_, rfl⟩
  have gx314 := rg x314
  try simp only [q301, q302, e4, e5, e6, e7, e8, e9, e10, e315] at p0x303
  try have q0x303 := congrArg Int32.toInt p0x303
  try simp only [q301, q302, e4, e5, e6, e7, e8, e9, e10, e315] at p1x303
  try have q1x303 := congrArg Int32.toInt p1x303
  refine b_if_ne C (t := 71) rfl rfl rfl (fun c316 => ?_) (fun c316 => by exfalso; omega)
  exact k_vret C rfl rfl (Nat.le_of_ble_eq_true rfl) (Nat.le_of_ble_eq_true rfl) ⟨_, _, rfl, rfl, fun a1 h1 => by cases (R_r0_1.symm.trans h1); first | omega | (simp only [e307, e308, e309, e310, e311, e312, e315, k0_r0_1_0, k0_r0_1_1, k0_r0_1_2, k0_r0_1_3, k0_r0_1_4, k0_r0_1_5, and_true, true_and, or_true, true_or, and_false, false_and, or_false, false_or] <;> omega), fun a1 h1 => by cases (R_r0_1.symm.trans h1); first | omega | (simp only [e307, e308, e309, e310, e311, e312, e315, k0_r0_1_0, k0_r0_1_1, k0_r0_1_2, k0_r0_1_3, k0_r0_1_4, k0_r0_1_5, and_true, true_and, or_true, true_or, and_false, false_and, or_false, false_or] <;> omega), fun a1 h1 => by cases (R_r0_1.symm.trans h1); exact (fun r z0 => ((congrFun (CM.j0 S306 R_r0_1 (by decide)) r).trans (congrFun (CM.j0 S3 R_r0_1 (by decide)) r))), hI304, (CM.cons S3 (CM.mono S306 (by decide) (by decide)) (by decide) (by decide))⟩

theorem a_X12_image_e {d : Nat} {T N : Nat → Nat} {I : IT} {L : LT} {R : RT} {A : Nat → Prop} {r0 : Nat} (hI : IM R r0 I) (H_r0 : (h_MD T N R A) r0) (hp0 : ∀ a1, R r0 1 = some a1 → (I a1 4).toInt + (I a1 5).toInt ≤ 40) : Ex (d + 1) 181 [.ref r0] (T, N, I, L, R) 0 0 (pV T N R (fun I9 L9 => (∀ a2, R r0 2 = some a2 → WOS (I9 a2)) ∧ ((I9 r0 3).toInt = 1) ∧ (∀ a1 a2, R r0 1 = some a1 → R r0 2 = some a2 → CPA I9 I a2 a1) ∧ (IM R r0 I9 ∧ CM A R r0 [0, 3] [2] I L I9 L9))) := by
  refine ⟨_, rfl, Nat.le_of_ble_eq_true rfl, fun V C S => ?_⟩
  show V 0 [(0, .ref r0)] [] (T, N, I, L, R) 0 0
  obtain ⟨T_r0, A_r0, ⟨r0_1, R_r0_1, H_r0_1⟩, ⟨r0_2, R_r0_2, H_r0_2⟩, ⟨r0_4, R_r0_4, H_r0_4⟩, ⟨r0_5, R_r0_5, H_r0_5⟩, ⟨r0_10, R_r0_10, H_r0_10⟩, ⟨r0_18, R_r0_18, H_r0_18⟩, ⟨r0_20, R_r0_20, H_r0_20⟩, ⟨r0_21, R_r0_21, H_r0_21⟩, ⟨r0_22, R_r0_22, H_r0_22⟩, ⟨r0_23, R_r0_23, H_r0_23⟩, ⟨r0_25, R_r0_25, H_r0_25⟩, ⟨r0_26, R_r0_26, H_r0_26⟩, ⟨r0_27, R_r0_27, H_r0_27⟩, ⟨r0_28, R_r0_28, H_r0_28⟩, ⟨r0_34, R_r0_34, H_r0_34⟩, J_r0, Y_r0⟩ := id H_r0
  have G_r0 : mF T R r0 := ⟨J_r0, Y_r0, T_r0⟩
  obtain ⟨w_r0_1_4, k0_r0_1_4⟩ : ∃ x, I r0_1 4 = x := ⟨_, rfl⟩
  have gw_r0_1_4 := rg w_r0_1_4
  have ow_r0_1_4 := IM.c4 hI R_r0_1 k0_r0_1_4
  obtain ⟨w_r0_1_5, k0_r0_1_5⟩ : ∃ x, I r0_1 5 = x := ⟨_, rfl⟩
  have gw_r0_1_5 := rg w_r0_1_5
  have ow_r0_1_5 := IM.c5 hI R_r0_1 k0_r0_1_5
  have hp0 := hp0 r0_1 R_r0_1
  try simp only [k0_r0_1_4, k0_r0_1_5] at hp0
  refine k_aload_n C rfl rfl rfl ?_
  refine z_iconst C (z := 0) rfl rfl rfl (fun x1 ex1 => ?_)
  refine z_pI C rfl rfl rfl T_r0 (Or.inr rfl) rfl (fun I2 uI2 => ?_)
  have hI2 : IM R r0 I2 := IM.fld hI G_r0 ⟨(fun h => absurd h (by decide)), (fun h => absurd h (by decide)), (fun h => absurd h (by decide)), (fun h => absurd h (by decide)), (fun h => absurd h (by decide))⟩ uI2
  have S3 : CM A R r0 [0] [] I L I2 L := CM.f G_r0 A_r0 uI2
  have e4 := u2_n uI2 (mF.ne G_r0 R_r0_1) k0_r0_1_4
  have e5 := u2_n uI2 (mF.ne G_r0 R_r0_1) k0_r0_1_5
  have e6 := u2_e uI2
  refine z_iconst C (z := 0) rfl rfl rfl (fun x7 ex7 => ?_)
  have J8 : ∀ (nn9 : Nat) (I10 : IT) (L11 : LT) (x12 : Int32), ((3606 - x12.toInt).toNat = nn9) → (IM R r0 I10) → (CM A R r0 [] [2] I2 L I10 L11) → (0 ≤ x12.toInt) → (x12.toInt ≤ 3606) → (CPW I10 r0_1 r0_2 x12.toInt) → V 7 [(0, .ref r0), (1, .int x12)] [] (T, N, I10, L11, R) 0 0 := by
    intro nn9
    induction nn9 using Nat.strongRecOn with
    | _ nn9 ihJ8 =>
      intro I10 L11 x12 hmnn9 hI16 S15 b13 b14 ff7_0
      have gx12 := rg x12
      have e17 := CM.j S15 R_r0_1 (by decide) e4
      have e18 := CM.j S15 R_r0_1 (by decide) e5
      have e19 := CM.k S15 (by decide) e6
      refine k_iload_n C rfl rfl rfl ?_
      refine z_sipush C (z := 3606) rfl rfl rfl (fun x20 ex20 => ?_)
      refine b_icmp_ge C (t := 32) rfl rfl rfl (fun c21 => ?_) (fun c21 => ?_)
      · skip
        refine k_aload_n C rfl rfl rfl ?_
        refine z_iconst C (z := 1) rfl rfl rfl (fun x22 ex22 => ?_)
        refine z_pZ C rfl rfl rfl T_r0 (Or.inr rfl) rfl (z01 (by omega) (by omega)) (fun I23 uI23 => ?_)
        have hI23 : IM R r0 I23 := IM.fld hI16 G_r0 ⟨(fun h => absurd h (by decide)), (fun h => absurd h (by decide)), (fun h => absurd h (by decide)), (fun h => absurd h (by decide)), (fun h => absurd h (by decide))⟩ uI23
        have S24 : CM A R r0 [3] [] I10 L11 I23 L11 := CM.f G_r0 A_r0 uI23
        have e25 := u2_n uI23 (mF.ne G_r0 R_r0_1) e17
        have e26 := u2_n uI23 (mF.ne G_r0 R_r0_1) e18
        have e27 := u2_j uI23 (by first | decide | exact ncne (by omega) (by omega) (by omega) | exact nckn (by omega) (by omega) | exact (nckn (by omega) (by omega)).symm) e19
        have e28 := u2_e uI23
        exact k_vret C rfl rfl (Nat.le_of_ble_eq_true rfl) (Nat.le_of_ble_eq_true rfl) ⟨_, _, rfl, rfl, fun a2 h2 => by cases (R_r0_2.symm.trans h2); exact WOS.eq (g := I23 r0_1) ⟨IM.w hI23 R_r0_1, by rw [e25, e26]; omega⟩ (fun k hk => by rw [CM.j0 S24 R_r0_2 (by decide), CM.j0 S24 R_r0_1 (by decide)]; exact ff7_0 k (by omega)), by first | omega | (simp only [e25, e26, e27, e28, k0_r0_1_4, k0_r0_1_5, and_true, true_and, or_true, true_or, and_false, false_and, or_false, false_or] <;> omega), fun a1 a2 h1 h2 => by cases (R_r0_1.symm.trans h1); cases (R_r0_2.symm.trans h2); exact CPA.of (fun k hk => by rw [CM.j0 S24 R_r0_2 (by decide), CM.j0 S24 R_r0_1 (by decide)]; exact ff7_0 k hk) (n := x12.toInt) (by omega) (CM.j0 (I := I) (L := L) (I' := I23) (L' := L11) (A := A) (W := [0, 3]) (WA := [2]) (CM.cons S3 (CM.cons S15 (CM.mono S24 (by decide) (by decide)) (by decide) (by decide)) (by decide) (by decide)) R_r0_1 (by decide)), hI23, (CM.cons S3 (CM.cons S15 (CM.mono S24 (by decide) (by decide)) (by decide) (by decide)) (by decide) (by decide))⟩
      refine k_aload_n C rfl rfl rfl ?_
      refine g_R C rfl rfl rfl T_r0 rfl R_r0_2 ?_
      refine k_iload_n C rfl rfl rfl ?_
      refine k_aload_n C rfl rfl rfl ?_
      refine g_R C rfl rfl rfl T_r0 rfl R_r0_1 ?_
      refine k_iload_n C rfl rfl rfl ?_
      obtain ⟨T_r0_1, N_r0_1, A_r0_1⟩ := id H_r0_1
      refine z_aI C rfl rfl T_r0_1 N_r0_1 (by omega) (by omega) (fun x29 ex29 => ?_)
      have gx29 := rg x29
      have hr := ex29
      obtain ⟨T_r0_2, N_r0_2, A_r0_2⟩ := id H_r0_2
      refine z_sI C rfl rfl T_r0_2 N_r0_2 (by omega) (by omega) (fun I30 uI30 => ?_)
      have hI30 : IM R r0 I30 := IM.arr hI16 G_r0 R_r0_2 ⟨(fun h => absurd h (by decide)), (fun h => absurd h (by decide)), (fun h => absurd h (by decide))⟩ (fun h => absurd h (by decide)) uI30
      have S31 : CM A R r0 [] [2] I10 L11 I30 L11 := CM.a G_r0 R_r0_2 A_r0_2 uI30
      have e32 := u2_n uI30 (mF.nq G_r0 R_r0_1 R_r0_2 (by decide)) e17
      have e33 := u2_n uI30 (mF.nq G_r0 R_r0_1 R_r0_2 (by decide)) e18
      have e34 := u2_n uI30 (fun e => (mF.ne G_r0 R_r0_2) e.symm) e19
      have e35 := u2_n uI30 (mF.nq G_r0 R_r0_1 R_r0_2 (by decide)) ex29
      have e36 := u2_e uI30
      have hu := uI30
      refine z_iinc C (z := 1) (lw := fun x37 => [(1, .int x37), (0, .ref r0)]) rfl rfl rfl (Nat.le_of_ble_eq_true rfl) rfl ⟨by omega, by omega⟩ (fun _ => rfl) (fun x37 ex37 => ?_)
      show V 29 [(1, .int x37), (0, .ref r0)] _ _ _ _
      refine k_goto C (pc2 := 7) rfl rfl ?_
      refine k_sub S [(0, .ref r0), (1, .int x37)] (List.forall_mem_cons.mpr ⟨List.mem_of_getElem? (i := 1) rfl, List.forall_mem_cons.mpr ⟨List.mem_of_getElem? (i := 0) rfl, fun _ h => nomatch h⟩⟩) ?_
      exact ihJ8 _ (by omega) I30 L11 x37 rfl hI30 (CM.cons S15 (CM.mono S31 (by decide) (by decide)) (by decide) (by decide)) (by omega) (by omega) (by exact CPW.s ff7_0 hu (mF.nq G_r0 R_r0_1 R_r0_2 (by decide)) hr (by omega) (by omega))
  refine k_istore_n C (lw := [(1, .int x7), (0, .ref r0)]) rfl rfl (Nat.le_of_ble_eq_true rfl) rfl ?_
  refine k_sub S [(0, .ref r0), (1, .int x7)] (List.forall_mem_cons.mpr ⟨List.mem_of_getElem? (i := 1) rfl, List.forall_mem_cons.mpr ⟨List.mem_of_getElem? (i := 0) rfl, fun _ h => nomatch h⟩⟩) ?_
  exact J8 _ I2 L x7 rfl hI2 CM.rf (by omega) (by omega) (by exact CPW.z (by omega))

theorem a_X12_back_e {d : Nat} {T N : Nat → Nat} {I : IT} {L : LT} {R : RT} {A : Nat → Prop} {r0 : Nat} (hI : IM R r0 I) (H_r0 : (h_MD T N R A) r0) (hp0 : ∀ a1, R r0 1 = some a1 → (I a1 4).toInt + (I a1 5).toInt ≤ 40) (hp1 : ∀ a2, R r0 2 = some a2 → (I r0 3).toInt ≠ 0 → WOS (I a2)) : Ex (d + 1) 182 [.ref r0] (T, N, I, L, R) 0 0 (pI T N R (fun x9 I9 L9 => (0 ≤ x9.toInt) ∧ (x9.toInt ≤ 1) ∧ (∀ a1, R r0 1 = some a1 → (I9 a1 4).toInt + (I9 a1 5).toInt ≤ 40) ∧ (∀ a1 a2, R r0 1 = some a1 → R r0 2 = some a2 → BKD I9 I a1 a2 x9.toInt (I r0 3).toInt) ∧ (IM R r0 I9 ∧ CM A R r0 [0] [1] I L I9 L9))) := by
  refine ⟨_, rfl, Nat.le_of_ble_eq_true rfl, fun V C S => ?_⟩
  show V 0 [(0, .ref r0)] [] (T, N, I, L, R) 0 0
  obtain ⟨T_r0, A_r0, ⟨r0_1, R_r0_1, H_r0_1⟩, ⟨r0_2, R_r0_2, H_r0_2⟩, ⟨r0_4, R_r0_4, H_r0_4⟩, ⟨r0_5, R_r0_5, H_r0_5⟩, ⟨r0_10, R_r0_10, H_r0_10⟩, ⟨r0_18, R_r0_18, H_r0_18⟩, ⟨r0_20, R_r0_20, H_r0_20⟩, ⟨r0_21, R_r0_21, H_r0_21⟩, ⟨r0_22, R_r0_22, H_r0_22⟩, ⟨r0_23, R_r0_23, H_r0_23⟩, ⟨r0_25, R_r0_25, H_r0_25⟩, ⟨r0_26, R_r0_26, H_r0_26⟩, ⟨r0_27, R_r0_27, H_r0_27⟩, ⟨r0_28, R_r0_28, H_r0_28⟩, ⟨r0_34, R_r0_34, H_r0_34⟩, J_r0, Y_r0⟩ := id H_r0
  have G_r0 : mF T R r0 := ⟨J_r0, Y_r0, T_r0⟩
  obtain ⟨w_r0_1_4, k0_r0_1_4⟩ : ∃ x, I r0_1 4 = x := ⟨_, rfl⟩
  have gw_r0_1_4 := rg w_r0_1_4
  have ow_r0_1_4 := IM.c4 hI R_r0_1 k0_r0_1_4
  obtain ⟨w_r0_1_5, k0_r0_1_5⟩ : ∃ x, I r0_1 5 = x := ⟨_, rfl⟩
  have gw_r0_1_5 := rg w_r0_1_5
  have ow_r0_1_5 := IM.c5 hI R_r0_1 k0_r0_1_5
  obtain ⟨w_r0_3, k0_r0_3⟩ : ∃ x, I r0 3 = x := ⟨_, rfl⟩
  have gw_r0_3 := rg w_r0_3
  have hp0 := hp0 r0_1 R_r0_1
  have hp1 := hp1 r0_2 R_r0_2
  try simp only [k0_r0_1_4, k0_r0_1_5, k0_r0_3] at hp0
  try simp only [k0_r0_1_4, k0_r0_1_5, k0_r0_3] at hp1
  refine k_aload_n C rfl rfl rfl ?_
  refine z_iconst C (z := 0) rfl rfl rfl (fun x1 ex1 => ?_)
  refine z_pI C rfl rfl rfl T_r0 (Or.inr rfl) rfl (fun I2 uI2 => ?_)
  have hI2 : TT R r0 I2 := TT.i
  have S3 : CM A R r0 [0] [] I L I2 L := CM.f G_r0 A_r0 uI2
  have e4 := u2_n uI2 (mF.ne G_r0 R_r0_1) k0_r0_1_4
  have e5 := u2_n uI2 (mF.ne G_r0 R_r0_1) k0_r0_1_5
  have e6 := u2_j uI2 (by first | decide | exact ncne (by omega) (by omega) (by omega) | exact nckn (by omega) (by omega) | exact (nckn (by omega) (by omega)).symm) k0_r0_3
  have e7 := u2_e uI2
  refine k_aload_n C rfl rfl rfl ?_
  refine g_I C rfl rfl rfl T_r0 rfl e6 ?_
  refine b_if_ne C (t := 14) rfl rfl rfl (fun c8 => ?_) (fun c8 => ?_)
  · skip
    refine z_iconst C (z := 0) rfl rfl rfl (fun x9 ex9 => ?_)
    have J10 : ∀ (nn11 : Nat) (I12 : IT) (L13 : LT) (x14 : Int32), ((3606 - x14.toInt).toNat = nn11) → (TT R r0 I12) → (CM A R r0 [] [1] I2 L I12 L13) → (0 ≤ x14.toInt) → (x14.toInt ≤ 3606) → (CPW I12 r0_2 r0_1 x14.toInt) → V 16 [(0, .ref r0), (1, .int x14)] [] (T, N, I12, L13, R) 0 0 := by
      intro nn11
      induction nn11 using Nat.strongRecOn with
      | _ nn11 ihJ10 =>
        intro I12 L13 x14 hmnn11 hI18 S17 b15 b16 ff16_0
        have gx14 := rg x14
        have e19 := CM.k S17 (by decide) e6
        have e20 := CM.k S17 (by decide) e7
        refine k_iload_n C rfl rfl rfl ?_
        refine z_sipush C (z := 3606) rfl rfl rfl (fun x21 ex21 => ?_)
        refine b_icmp_ge C (t := 41) rfl rfl rfl (fun c22 => ?_) (fun c22 => ?_)
        · skip
          refine z_iconst C (z := 1) rfl rfl rfl (fun x23 ex23 => ?_)
          exact k_iret C rfl (Or.inr ⟨rfl, z01 (by omega) (by omega)⟩) (Nat.le_of_ble_eq_true rfl) (Nat.le_of_ble_eq_true rfl) ⟨_, _, _, rfl, rfl, by omega, by omega, fun a1 h1 => by cases (R_r0_1.symm.trans h1); rw [ff16_0 4 (by omega), ff16_0 5 (by omega), (CM.j0 (I := I) (L := L) (I' := I12) (L' := L13) (A := A) (W := [0]) (WA := [1]) (CM.cons S3 (CM.mono S17 (by decide) (by decide)) (by decide) (by decide)) R_r0_2 (by decide))]; exact (hp1 (by omega)).2, fun a1 a2 h1 h2 => by cases (R_r0_1.symm.trans h1); cases (R_r0_2.symm.trans h2); simp only [k0_r0_3]; exact Or.inr ⟨by omega, by omega, CPA.of ff16_0 (by omega) (CM.j0 (I := I) (L := L) (I' := I12) (L' := L13) (A := A) (W := [0]) (WA := [1]) (CM.cons S3 (CM.mono S17 (by decide) (by decide)) (by decide) (by decide)) R_r0_2 (by decide))⟩, IM.bk hI (CM.cons S3 (CM.mono S17 (by decide) (by decide)) (by decide) (by decide)) R_r0_1 (WOK.eq (g := I12 r0_2) (by rw [(CM.j0 (I := I) (L := L) (I' := I12) (L' := L13) (A := A) (W := [0]) (WA := [1]) (CM.cons S3 (CM.mono S17 (by decide) (by decide)) (by decide) (by decide)) R_r0_2 (by decide))]; exact (hp1 (by omega)).1) (fun k hk => ff16_0 k (by omega))), (CM.cons S3 (CM.mono S17 (by decide) (by decide)) (by decide) (by decide))⟩
        refine k_aload_n C rfl rfl rfl ?_
        refine g_R C rfl rfl rfl T_r0 rfl R_r0_1 ?_
        refine k_iload_n C rfl rfl rfl ?_
        refine k_aload_n C rfl rfl rfl ?_
        refine g_R C rfl rfl rfl T_r0 rfl R_r0_2 ?_
        refine k_iload_n C rfl rfl rfl ?_
        obtain ⟨T_r0_2, N_r0_2, A_r0_2⟩ := id H_r0_2
        refine z_aI C rfl rfl T_r0_2 N_r0_2 (by omega) (by omega) (fun x24 ex24 => ?_)
        have gx24 := rg x24
        have hr := ex24
        obtain ⟨T_r0_1, N_r0_1, A_r0_1⟩ := id H_r0_1
        refine z_sI C rfl rfl T_r0_1 N_r0_1 (by omega) (by omega) (fun I25 uI25 => ?_)
        have hI25 : TT R r0 I25 := TT.i
        have S26 : CM A R r0 [] [1] I12 L13 I25 L13 := CM.a G_r0 R_r0_1 A_r0_1 uI25
        have e27 := u2_n uI25 (fun e => (mF.ne G_r0 R_r0_1) e.symm) e19
        have e28 := u2_n uI25 (fun e => (mF.ne G_r0 R_r0_1) e.symm) e20
        have e29 := u2_n uI25 (mF.nq G_r0 R_r0_2 R_r0_1 (by decide)) ex24
        have e30 := u2_e uI25
        have hu := uI25
        refine z_iinc C (z := 1) (lw := fun x31 => [(1, .int x31), (0, .ref r0)]) rfl rfl rfl (Nat.le_of_ble_eq_true rfl) rfl ⟨by omega, by omega⟩ (fun _ => rfl) (fun x31 ex31 => ?_)
        show V 38 [(1, .int x31), (0, .ref r0)] _ _ _ _
        refine k_goto C (pc2 := 16) rfl rfl ?_
        refine k_sub S [(0, .ref r0), (1, .int x31)] (List.forall_mem_cons.mpr ⟨List.mem_of_getElem? (i := 1) rfl, List.forall_mem_cons.mpr ⟨List.mem_of_getElem? (i := 0) rfl, fun _ h => nomatch h⟩⟩) ?_
        exact ihJ10 _ (by omega) I25 L13 x31 rfl TT.i (CM.cons S17 (CM.mono S26 (by decide) (by decide)) (by decide) (by decide)) (by omega) (by omega) (by exact CPW.s ff16_0 hu (mF.nq G_r0 R_r0_2 R_r0_1 (by decide)) hr (by omega) (by omega))
    refine k_istore_n C (lw := [(1, .int x9), (0, .ref r0)]) rfl rfl (Nat.le_of_ble_eq_true rfl) rfl ?_
    refine k_sub S [(0, .ref r0), (1, .int x9)] (List.forall_mem_cons.mpr ⟨List.mem_of_getElem? (i := 1) rfl, List.forall_mem_cons.mpr ⟨List.mem_of_getElem? (i := 0) rfl, fun _ h => nomatch h⟩⟩) ?_
    exact J10 _ I2 L x9 rfl TT.i CM.rf (by omega) (by omega) (by exact CPW.z (by omega))
  refine z_iconst C (z := 0) rfl rfl rfl (fun x32 ex32 => ?_)
  exact k_iret C rfl (Or.inr ⟨rfl, z01 (by omega) (by omega)⟩) (Nat.le_of_ble_eq_true rfl) (Nat.le_of_ble_eq_true rfl) ⟨_, _, _, rfl, rfl, by omega, by omega, fun a1 h1 => by cases (R_r0_1.symm.trans h1); first | omega | (simp only [e4, e5, e6, e7, k0_r0_1_4, k0_r0_1_5, k0_r0_3, and_true, true_and, or_true, true_or, and_false, false_and, or_false, false_or] <;> omega), fun a1 a2 h1 h2 => by cases (R_r0_1.symm.trans h1); cases (R_r0_2.symm.trans h2); simp only [k0_r0_3]; exact Or.inl ⟨by omega, by omega, CPA.rf (CM.j0 S3 R_r0_1 (by decide))⟩, IM.bk hI (CM.mono S3 (by decide) (by decide)) R_r0_1 (by rw [CM.j0 S3 R_r0_1 (by decide)]; exact IM.w hI R_r0_1), (CM.mono S3 (by decide) (by decide))⟩

set_option maxHeartbeats 8000000 in
theorem a_X12_signs_e {d : Nat} {T N : Nat → Nat} {I : IT} {L : LT} {R : RT} {A : Nat → Prop} {r0 : Nat} (hI : IM R r0 I) (H_r0 : (h_MD T N R A) r0) : Ex (d + 31) 231 [.ref r0] (T, N, I, L, R) 0 0 (pI T N R (fun x9 I9 L9 => (0 ≤ x9.toInt) ∧ (x9.toInt ≤ 8) ∧ (∀ a1, R r0 1 = some a1 → (I a1 4).toInt + (I a1 5).toInt ≤ 40 → (I9 a1 4).toInt + (I9 a1 5).toInt ≤ 40) ∧ ((I9 r0 11).toInt = 0) ∧ (∀ a1, R r0 1 = some a1 → (I9 a1 0).toInt = (I a1 0).toInt) ∧ (∀ a1, R r0 1 = some a1 → (I9 a1 1).toInt = (I a1 1).toInt) ∧ (∀ a1, R r0 1 = some a1 → (I9 a1 2).toInt = (I a1 2).toInt) ∧ (IM R r0 I9 ∧ CM A R r0 [0, 11, 12, 13, 14, 15, 16, 17, 19] [1] I L I9 L9))) := by
  refine ⟨_, rfl, Nat.le_of_ble_eq_true rfl, fun V C S => ?_⟩
  show V 0 [(0, .ref r0)] [] (T, N, I, L, R) 0 0
  obtain ⟨T_r0, A_r0, ⟨r0_1, R_r0_1, H_r0_1⟩, ⟨r0_2, R_r0_2, H_r0_2⟩, ⟨r0_4, R_r0_4, H_r0_4⟩, ⟨r0_5, R_r0_5, H_r0_5⟩, ⟨r0_10, R_r0_10, H_r0_10⟩, ⟨r0_18, R_r0_18, H_r0_18⟩, ⟨r0_20, R_r0_20, H_r0_20⟩, ⟨r0_21, R_r0_21, H_r0_21⟩, ⟨r0_22, R_r0_22, H_r0_22⟩, ⟨r0_23, R_r0_23, H_r0_23⟩, ⟨r0_25, R_r0_25, H_r0_25⟩, ⟨r0_26, R_r0_26, H_r0_26⟩, ⟨r0_27, R_r0_27, H_r0_27⟩, ⟨r0_28, R_r0_28, H_r0_28⟩, ⟨r0_34, R_r0_34, H_r0_34⟩, J_r0, Y_r0⟩ := id H_r0
  have G_r0 : mF T R r0 := ⟨J_r0, Y_r0, T_r0⟩
  obtain ⟨w_r0_1_0, k0_r0_1_0⟩ : ∃ x, I r0_1 0 = x := ⟨_, rfl⟩
  have gw_r0_1_0 := rg w_r0_1_0
  have ow_r0_1_0 := IM.pi hI R_r0_1 k0_r0_1_0
  obtain ⟨w_r0_1_1, k0_r0_1_1⟩ : ∃ x, I r0_1 1 = x := ⟨_, rfl⟩
  have gw_r0_1_1 := rg w_r0_1_1
  have ow_r0_1_1 := IM.c1 hI R_r0_1 k0_r0_1_1
  obtain ⟨w_r0_1_2, k0_r0_1_2⟩ : ∃ x, I r0_1 2 = x := ⟨_, rfl⟩
  have gw_r0_1_2 := rg w_r0_1_2
  have ow_r0_1_2 := IM.c2 hI R_r0_1 k0_r0_1_2
  obtain ⟨w_r0_1_3, k0_r0_1_3⟩ : ∃ x, I r0_1 3 = x := ⟨_, rfl⟩
  have gw_r0_1_3 := rg w_r0_1_3
  have ow_r0_1_3 := IM.c3 hI R_r0_1 k0_r0_1_3
  obtain ⟨w_r0_1_4, k0_r0_1_4⟩ : ∃ x, I r0_1 4 = x := ⟨_, rfl⟩
  have gw_r0_1_4 := rg w_r0_1_4
  have ow_r0_1_4 := IM.c4 hI R_r0_1 k0_r0_1_4
  obtain ⟨w_r0_1_5, k0_r0_1_5⟩ : ∃ x, I r0_1 5 = x := ⟨_, rfl⟩
  have gw_r0_1_5 := rg w_r0_1_5
  have ow_r0_1_5 := IM.c5 hI R_r0_1 k0_r0_1_5
  obtain ⟨w_r0_3, k0_r0_3⟩ : ∃ x, I r0 3 = x := ⟨_, rfl⟩
  have gw_r0_3 := rg w_r0_3
  obtain ⟨g0, hg0⟩ : ∃ g, I r0_1 = g := ⟨_, rfl⟩
  have hg := hg0
  refine k_aload_n C rfl rfl rfl ?_
  obtain ⟨x1, e2⟩ : ∃ x, I r0 11 = x := ⟨_, rfl⟩
  have gx1 := rg x1
  have ox1 := IM.f11 hI e2
  refine c_VV C (a_X12_uses_e hI H_r0) rfl rfl rfl rfl rfl ⟨_, rfl, rfl, T_r0, Nat.le_of_ble_eq_true rfl⟩ rfl rfl (Nat.le_of_ble_eq_true rfl) (Nat.le_of_ble_eq_true rfl) (Nat.le_of_ble_eq_true rfl) ?_
  rintro I4 L5 ⟨p0v3, p1v3, p2v3, hI4, S6⟩
  have e7 := CM.j S6 R_r0_1 (by decide) k0_r0_1_0
  have e8 := CM.j S6 R_r0_1 (by decide) k0_r0_1_1
  have e9 := CM.j S6 R_r0_1 (by decide) k0_r0_1_2
  have e10 := CM.j S6 R_r0_1 (by decide) k0_r0_1_3
  have e11 := CM.j S6 R_r0_1 (by decide) k0_r0_1_4
  have e12 := CM.j S6 R_r0_1 (by decide) k0_r0_1_5
  have e13 := CM.k S6 (by decide) k0_r0_3
  obtain ⟨x15, e16⟩ : ∃ x, I4 r0 13 = x := ⟨_, rfl⟩
  have gx15 := rg x15
  have ox15 := IM.f13 hI4 e16
  obtain ⟨x17, e18⟩ : ∃ x, I4 r0 11 = x := ⟨_, rfl⟩
  have gx17 := rg x17
  have ox17 := IM.f11 hI4 e18
  obtain ⟨x19, e20⟩ : ∃ x, I4 r0 0 = x := ⟨_, rfl⟩
  have gx19 := rg x19
  have hg := (CM.j0 S6 R_r0_1 (by decide)).trans hg
  try simp only [k0_r0_1_0, k0_r0_1_1, k0_r0_1_2, k0_r0_1_3, k0_r0_1_4, k0_r0_1_5, k0_r0_3, e2, e16, e18, e20] at p0v3
  try have q0v3 := congrArg Int32.toInt p0v3
  try simp only [k0_r0_1_0, k0_r0_1_1, k0_r0_1_2, k0_r0_1_3, k0_r0_1_4, k0_r0_1_5, k0_r0_3, e2, e16, e18, e20] at p1v3
  try have q1v3 := congrArg Int32.toInt p1v3
  try simp only [k0_r0_1_0, k0_r0_1_1, k0_r0_1_2, k0_r0_1_3, k0_r0_1_4, k0_r0_1_5, k0_r0_3, e2, e16, e18, e20] at p2v3
  try have q2v3 := congrArg Int32.toInt p2v3
  refine k_aload_n C rfl rfl rfl ?_
  refine z_iconst C (z := 0) rfl rfl rfl (fun x21 ex21 => ?_)
  refine z_pI C rfl rfl rfl T_r0 (Or.inr rfl) rfl (fun I22 uI22 => ?_)
  have hI22 : IM R r0 I22 := IM.fld hI4 G_r0 ⟨(fun h => absurd h (by decide)), (fun _ => ⟨by omega, by omega⟩), (fun h => absurd h (by decide)), (fun h => absurd h (by decide)), (fun h => absurd h (by decide))⟩ uI22
  have S23 : CM A R r0 [15] [] I4 L5 I22 L5 := CM.f G_r0 A_r0 uI22
  have e24 := u2_n uI22 (mF.ne G_r0 R_r0_1) e7
  have e25 := u2_n uI22 (mF.ne G_r0 R_r0_1) e8
  have e26 := u2_n uI22 (mF.ne G_r0 R_r0_1) e9
  have e27 := u2_n uI22 (mF.ne G_r0 R_r0_1) e10
  have e28 := u2_n uI22 (mF.ne G_r0 R_r0_1) e11
  have e29 := u2_n uI22 (mF.ne G_r0 R_r0_1) e12
  have e30 := u2_j uI22 (by first | decide | exact ncne (by omega) (by omega) (by omega) | exact nckn (by omega) (by omega) | exact (nckn (by omega) (by omega)).symm) e13
  have e31 := u2_j uI22 (by first | decide | exact ncne (by omega) (by omega) (by omega) | exact nckn (by omega) (by omega) | exact (nckn (by omega) (by omega)).symm) e16
  have e32 := u2_j uI22 (by first | decide | exact ncne (by omega) (by omega) (by omega) | exact nckn (by omega) (by omega) | exact (nckn (by omega) (by omega)).symm) e18
  have e33 := u2_j uI22 (by first | decide | exact ncne (by omega) (by omega) (by omega) | exact nckn (by omega) (by omega) | exact (nckn (by omega) (by omega)).symm) e20
  have e34 := u2_e uI22
  have hg := (CM.j0 S23 R_r0_1 (by decide)).trans hg
  refine k_aload_n C rfl rfl rfl ?_
  refine z_iconst C (z := 0) rfl rfl rfl (fun x35 ex35 => ?_)
  refine z_pI C rfl rfl rfl T_r0 (Or.inr rfl) rfl (fun I36 uI36 => ?_)
  have hI36 : IM R r0 I36 := IM.fld hI22 G_r0 ⟨(fun h => absurd h (by decide)), (fun h => absurd h (by decide)), (fun _ => ⟨by omega, by omega⟩), (fun h => absurd h (by decide)), (fun h => absurd h (by decide))⟩ uI36
  have S37 : CM A R r0 [16] [] I22 L5 I36 L5 := CM.f G_r0 A_r0 uI36
  have e38 := u2_n uI36 (mF.ne G_r0 R_r0_1) e24
  have e39 := u2_n uI36 (mF.ne G_r0 R_r0_1) e25
  have e40 := u2_n uI36 (mF.ne G_r0 R_r0_1) e26
  have e41 := u2_n uI36 (mF.ne G_r0 R_r0_1) e27
  have e42 := u2_n uI36 (mF.ne G_r0 R_r0_1) e28
  have e43 := u2_n uI36 (mF.ne G_r0 R_r0_1) e29
  have e44 := u2_j uI36 (by first | decide | exact ncne (by omega) (by omega) (by omega) | exact nckn (by omega) (by omega) | exact (nckn (by omega) (by omega)).symm) e30
  have e45 := u2_j uI36 (by first | decide | exact ncne (by omega) (by omega) (by omega) | exact nckn (by omega) (by omega) | exact (nckn (by omega) (by omega)).symm) e31
  have e46 := u2_j uI36 (by first | decide | exact ncne (by omega) (by omega) (by omega) | exact nckn (by omega) (by omega) | exact (nckn (by omega) (by omega)).symm) e32
  have e47 := u2_j uI36 (by first | decide | exact ncne (by omega) (by omega) (by omega) | exact nckn (by omega) (by omega) | exact (nckn (by omega) (by omega)).symm) e33
  have e48 := u2_j uI36 (by first | decide | exact ncne (by omega) (by omega) (by omega) | exact nckn (by omega) (by omega) | exact (nckn (by omega) (by omega)).symm) e34
  have e49 := u2_e uI36
  have hg := (CM.j0 S37 R_r0_1 (by decide)).trans hg
  refine k_aload_n C rfl rfl rfl ?_
  refine z_iconst C (z := 0) rfl rfl rfl (fun x50 ex50 => ?_)
  refine z_pI C rfl rfl rfl T_r0 (Or.inr rfl) rfl (fun I51 uI51 => ?_)
  have hI51 : IM R r0 I51 := IM.fld hI36 G_r0 ⟨(fun h => absurd h (by decide)), (fun h => absurd h (by decide)), (fun h => absurd h (by decide)), (fun h => absurd h (by decide)), (fun h => absurd h (by decide))⟩ uI51
  have S52 : CM A R r0 [19] [] I36 L5 I51 L5 := CM.f G_r0 A_r0 uI51
  have e53 := u2_n uI51 (mF.ne G_r0 R_r0_1) e38
  have e54 := u2_n uI51 (mF.ne G_r0 R_r0_1) e39
  have e55 := u2_n uI51 (mF.ne G_r0 R_r0_1) e40
  have e56 := u2_n uI51 (mF.ne G_r0 R_r0_1) e41
  have e57 := u2_n uI51 (mF.ne G_r0 R_r0_1) e42
  have e58 := u2_n uI51 (mF.ne G_r0 R_r0_1) e43
  have e59 := u2_j uI51 (by first | decide | exact ncne (by omega) (by omega) (by omega) | exact nckn (by omega) (by omega) | exact (nckn (by omega) (by omega)).symm) e44
  have e60 := u2_j uI51 (by first | decide | exact ncne (by omega) (by omega) (by omega) | exact nckn (by omega) (by omega) | exact (nckn (by omega) (by omega)).symm) e45
  have e61 := u2_j uI51 (by first | decide | exact ncne (by omega) (by omega) (by omega) | exact nckn (by omega) (by omega) | exact (nckn (by omega) (by omega)).symm) e46
  have e62 := u2_j uI51 (by first | decide | exact ncne (by omega) (by omega) (by omega) | exact nckn (by omega) (by omega) | exact (nckn (by omega) (by omega)).symm) e47
  have e63 := u2_j uI51 (by first | decide | exact ncne (by omega) (by omega) (by omega) | exact nckn (by omega) (by omega) | exact (nckn (by omega) (by omega)).symm) e48
  have e64 := u2_j uI51 (by first | decide | exact ncne (by omega) (by omega) (by omega) | exact nckn (by omega) (by omega) | exact (nckn (by omega) (by omega)).symm) e49
  have e65 := u2_e uI51
  have hg := (CM.j0 S52 R_r0_1 (by decide)).trans hg
  refine k_aload_n C rfl rfl rfl ?_
  refine c_VI C (a_X12_readSum_0 hI51 H_r0 (by first | omega | (simp only [hg, e53, e54, e55, e56, e57, e58, e59, e60, e61, e62, e63, e64, e65, and_true, true_and, or_true, true_or, and_false, false_and, or_false, false_or] <;> omega)) (fun a1 h1 => by cases (R_r0_1.symm.trans h1); simp only [hg, e53, e54, e55, e56, e57, e58, e59, e60, e61, e62, e63, e64, e65]; exact PD.z (by omega)) (fun a1 h1 => by cases (R_r0_1.symm.trans h1); simp only [hg, e53, e54, e55, e56, e57, e58, e59, e60, e61, e62, e63, e64, e65]; (have hz := Hgt.z (g := g0) (x := x50) (by omega)); omega)) rfl rfl rfl rfl rfl ⟨_, rfl, rfl, T_r0, Nat.le_of_ble_eq_true rfl⟩ rfl rfl (Nat.le_of_ble_eq_true rfl) (Nat.le_of_ble_eq_true rfl) (Nat.le_of_ble_eq_true rfl) ?_
  rintro x66 I67 L68 ⟨o0x66, o1x66, p0x66, p1x66, p2x66, hI67, S69⟩
  have p0x66 := p0x66 r0_1 R_r0_1
  have p1x66 := p1x66 r0_1 R_r0_1
  have p2x66 := p2x66 r0_1 R_r0_1
  have e70 := (p2x66 0 (by decide)).trans e53
  have e71 := (p2x66 1 (by decide)).trans e54
  have e72 := (p2x66 2 (by decide)).trans e55
  have e73 := (p2x66 3 (by decide)).trans e56
  have e74 := (p2x66 4 (by decide)).trans e57
  have e75 := (p2x66 5 (by decide)).trans e58
  have e76 := CM.k S69 (by decide) e59
  have e77 := CM.k S69 (by decide) e60
  have e78 := CM.k S69 (by decide) e61
  have e79 := CM.k S69 (by decide) e62
  have gx66 := rg x66
  obtain ⟨x83, e84⟩ : ∃ x, I67 r0 15 = x := ⟨_, rfl⟩
  have gx83 := rg x83
  have ox83 := IM.f15 hI67 e84
  obtain ⟨x85, e86⟩ : ∃ x, I67 r0 16 = x := ⟨_, rfl⟩
  have gx85 := rg x85
  have ox85 := IM.f16 hI67 e86
  obtain ⟨x87, e88⟩ : ∃ x, I67 r0 19 = x := ⟨_, rfl⟩
  have gx87 := rg x87
  obtain ⟨x89, e90⟩ : ∃ x, I67 r0 12 = x := ⟨_, rfl⟩
  have gx89 := rg x89
  have ox89 := IM.f12 hI67 e90
  obtain ⟨gS69, hgS69⟩ : ∃ g, I67 r0_1 = g := ⟨_, rfl⟩
  try simp only [e53, e54, e55, e56, e57, e58, e59, e60, e61, e62, e63, e64, e65, e84, e86, e88, e90, hg, hgS69] at p0x66
  try have q0x66 := congrArg Int32.toInt p0x66
  try simp only [e53, e54, e55, e56, e57, e58, e59, e60, e61, e62, e63, e64, e65, e84, e86, e88, e90, hg, hgS69] at p1x66
  try have q1x66 := congrArg Int32.toInt p1x66
  have hgo := hg
  have hg := hgS69
  have hP0 := p0x66
  have hP1 := p1x66
  refine k_istore_n C (lw := [(1, .int x66), (0, .ref r0)]) rfl rfl (Nat.le_of_ble_eq_true rfl) rfl ?_
  refine k_iload_n C rfl rfl rfl ?_
  refine b_if_eq C (t := 49) rfl rfl rfl (fun c91 => ?_) (fun c91 => ?_)
  · skip
    refine k_aload_n C rfl rfl rfl ?_
    refine k_iload_n C rfl rfl rfl ?_
    refine b_if_eq C (t := 58) rfl rfl rfl (fun c92 => ?_) (fun c92 => by exfalso; omega)
    refine k_aload_n C rfl rfl rfl ?_
    refine z_gI C rfl rfl rfl T_r0 rfl (fun x93 ex93 => ?_)
    have gx93 := rg x93
    have ox93 := IM.f14 hI67 ex93
    refine z_pI C rfl rfl rfl T_r0 (Or.inr rfl) rfl (fun I94 uI94 => ?_)
    have hI94 : IM R r0 I94 := IM.fld hI67 G_r0 ⟨(fun h => absurd h (by decide)), (fun h => absurd h (by decide)), (fun h => absurd h (by decide)), (fun h => absurd h (by decide)), (fun h => absurd h (by decide))⟩ uI94
    have S95 : CM A R r0 [17] [] I67 L68 I94 L68 := CM.f G_r0 A_r0 uI94
    have e96 := u2_n uI94 (mF.ne G_r0 R_r0_1) e70
    have e97 := u2_n uI94 (mF.ne G_r0 R_r0_1) e71
    have e98 := u2_n uI94 (mF.ne G_r0 R_r0_1) e72
    have e99 := u2_n uI94 (mF.ne G_r0 R_r0_1) e73
    have e100 := u2_n uI94 (mF.ne G_r0 R_r0_1) e74
    have e101 := u2_n uI94 (mF.ne G_r0 R_r0_1) e75
    have e102 := u2_j uI94 (by first | decide | exact ncne (by omega) (by omega) (by omega) | exact nckn (by omega) (by omega) | exact (nckn (by omega) (by omega)).symm) e76
    have e103 := u2_j uI94 (by first | decide | exact ncne (by omega) (by omega) (by omega) | exact nckn (by omega) (by omega) | exact (nckn (by omega) (by omega)).symm) e77
    have e104 := u2_j uI94 (by first | decide | exact ncne (by omega) (by omega) (by omega) | exact nckn (by omega) (by omega) | exact (nckn (by omega) (by omega)).symm) e78
    have e105 := u2_j uI94 (by first | decide | exact ncne (by omega) (by omega) (by omega) | exact nckn (by omega) (by omega) | exact (nckn (by omega) (by omega)).symm) e79
    have e106 := u2_j uI94 (by first | decide | exact ncne (by omega) (by omega) (by omega) | exact nckn (by omega) (by omega) | exact (nckn (by omega) (by omega)).symm) e84
    have e107 := u2_j uI94 (by first | decide | exact ncne (by omega) (by omega) (by omega) | exact nckn (by omega) (by omega) | exact (nckn (by omega) (by omega)).symm) e86
    have e108 := u2_j uI94 (by first | decide | exact ncne (by omega) (by omega) (by omega) | exact nckn (by omega) (by omega) | exact (nckn (by omega) (by omega)).symm) e88
    have e109 := u2_j uI94 (by first | decide | exact ncne (by omega) (by omega) (by omega) | exact nckn (by omega) (by omega) | exact (nckn (by omega) (by omega)).symm) e90
    have e110 := u2_j uI94 (by first | decide | exact ncne (by omega) (by omega) (by omega) | exact nckn (by omega) (by omega) | exact (nckn (by omega) (by omega)).symm) ex93
    have e111 := u2_e uI94
    have hg := (CM.j0 S95 R_r0_1 (by decide)).trans hg
    refine k_aload_n C rfl rfl rfl ?_
    refine k_iload_n C rfl rfl rfl ?_
    refine b_if_ne C (t := 74) rfl rfl rfl (fun c112 => by exfalso; omega) (fun c112 => ?_)
    refine z_iconst C (z := 1) rfl rfl rfl (fun x113 ex113 => ?_)
    refine k_goto C (pc2 := 75) rfl rfl ?_
    refine z_iconst C (z := 1) rfl rfl rfl (fun x114 ex114 => ?_)
    have q115 : x113.toNatClampNeg = 1 := nck (by omega)
    have q116 : x114.toNatClampNeg = 1 := nck (by omega)
    refine c_VI C (a_X12_throwsIf_e hI94 H_r0 (by omega) (by omega)) rfl rfl rfl rfl rfl ⟨_, rfl, rfl, T_r0, Nat.le_of_ble_eq_true rfl⟩ rfl rfl (Nat.le_of_ble_eq_true rfl) (Nat.le_of_ble_eq_true rfl) (Nat.le_of_ble_eq_true rfl) ?_
    rintro x117 I118 L119 ⟨o0x117, o1x117, p0x117, p1x117, hI118, S120⟩
    have e121 := CM.j S120 R_r0_1 (by decide) e96
    have e122 := CM.j S120 R_r0_1 (by decide) e97
    have e123 := CM.j S120 R_r0_1 (by decide) e98
    have e124 := CM.j S120 R_r0_1 (by decide) e99
    have e125 := CM.j S120 R_r0_1 (by decide) e100
    have e126 := CM.j S120 R_r0_1 (by decide) e101
    have e127 := CM.k S120 (by decide) e102
    have e128 := CM.k S120 (by decide) e103
    have e129 := CM.k S120 (by decide) e104
    have e131 := CM.k S120 (by decide) e106
    have e132 := CM.k S120 (by decide) e107
    have e133 := CM.k S120 (by decide) e108
    have e134 := CM.k S120 (by decide) e109
    have e135 := CM.k S120 (by decide) e110
    have e136 := CM.k S120 (by decide) e111
    have gx117 := rg x117
    obtain ⟨x137, e138⟩ : ∃ x, I118 r0 0 = x := ⟨_, rfl⟩
    have gx137 := rg x137
    have hg := (CM.j0 S120 R_r0_1 (by decide)).trans hg
    try simp only [q115, q116, e96, e97, e98, e99, e100, e101, e102, e103, e104, e105, e106, e107, e108, e109, e110, e111, e138] at p0x117
    try have q0x117 := congrArg Int32.toInt p0x117
    try simp only [q115, q116, e96, e97, e98, e99, e100, e101, e102, e103, e104, e105, e106, e107, e108, e109, e110, e111, e138] at p1x117
    try have q1x117 := congrArg Int32.toInt p1x117
    refine b_if_ne C (t := 106) rfl rfl rfl (fun c139 => ?_) (fun c139 => by exfalso; omega)
    refine z_iconst C (z := 0) rfl rfl rfl (fun x140 ex140 => ?_)
    exact k_iret C rfl (Or.inl rfl) (Nat.le_of_ble_eq_true rfl) (Nat.le_of_ble_eq_true rfl) ⟨_, _, _, rfl, rfl, by omega, by omega, fun a1 h1 => by cases (R_r0_1.symm.trans h1); first | omega | (simp only [e121, e122, e123, e124, e125, e126, e127, e128, e129, e131, e132, e133, e134, e135, e136, e138, k0_r0_1_0, k0_r0_1_1, k0_r0_1_2, k0_r0_1_3, k0_r0_1_4, k0_r0_1_5, k0_r0_3, and_true, true_and, or_true, true_or, and_false, false_and, or_false, false_or] <;> omega), by first | omega | (simp only [e121, e122, e123, e124, e125, e126, e127, e128, e129, e131, e132, e133, e134, e135, e136, e138, k0_r0_1_0, k0_r0_1_1, k0_r0_1_2, k0_r0_1_3, k0_r0_1_4, k0_r0_1_5, k0_r0_3, and_true, true_and, or_true, true_or, and_false, false_and, or_false, false_or] <;> omega), fun a1 h1 => by cases (R_r0_1.symm.trans h1); first | omega | (simp only [e121, e122, e123, e124, e125, e126, e127, e128, e129, e131, e132, e133, e134, e135, e136, e138, k0_r0_1_0, k0_r0_1_1, k0_r0_1_2, k0_r0_1_3, k0_r0_1_4, k0_r0_1_5, k0_r0_3, and_true, true_and, or_true, true_or, and_false, false_and, or_false, false_or] <;> omega), fun a1 h1 => by cases (R_r0_1.symm.trans h1); first | omega | (simp only [e121, e122, e123, e124, e125, e126, e127, e128, e129, e131, e132, e133, e134, e135, e136, e138, k0_r0_1_0, k0_r0_1_1, k0_r0_1_2, k0_r0_1_3, k0_r0_1_4, k0_r0_1_5, k0_r0_3, and_true, true_and, or_true, true_or, and_false, false_and, or_false, false_or] <;> omega), fun a1 h1 => by cases (R_r0_1.symm.trans h1); first | omega | (simp only [e121, e122, e123, e124, e125, e126, e127, e128, e129, e131, e132, e133, e134, e135, e136, e138, k0_r0_1_0, k0_r0_1_1, k0_r0_1_2, k0_r0_1_3, k0_r0_1_4, k0_r0_1_5, k0_r0_3, and_true, true_and, or_true, true_or, and_false, false_and, or_false, false_or] <;> omega), hI118, (CM.cons S6 (CM.cons S23 (CM.cons S37 (CM.cons S52 (CM.cons S69 (CM.cons S95 (CM.mono S120 (by decide) (by decide)) (by decide) (by decide)) (by decide) (by decide)) (by decide) (by decide)) (by decide) (by decide)) (by decide) (by decide)) (by decide) (by decide))⟩
  have hPD := hP1 (by omega)
  have hPq := hP0 (by omega)
  refine k_aload_n C rfl rfl rfl ?_
  refine c_VV C (a_X12_blanks hI67 H_r0) rfl rfl rfl rfl rfl ⟨_, rfl, rfl, T_r0, Nat.le_of_ble_eq_true rfl⟩ rfl rfl (Nat.le_of_ble_eq_true rfl) (Nat.le_of_ble_eq_true rfl) (Nat.le_of_ble_eq_true rfl) ?_
  rintro I142 L143 ⟨hI142, S144⟩
  have e145 := CM.j S144 R_r0_1 (by decide) e70
  have e146 := CM.j S144 R_r0_1 (by decide) e71
  have e147 := CM.j S144 R_r0_1 (by decide) e72
  have e148 := CM.j S144 R_r0_1 (by decide) e73
  have e149 := CM.j S144 R_r0_1 (by decide) e74
  have e150 := CM.j S144 R_r0_1 (by decide) e75
  have e151 := CM.k S144 (by decide) e76
  have e152 := CM.k S144 (by decide) e77
  have e153 := CM.k S144 (by decide) e78
  have e154 := CM.k S144 (by decide) e79
  have e155 := CM.k S144 (by decide) e84
  have e156 := CM.k S144 (by decide) e86
  have e157 := CM.k S144 (by decide) e88
  obtain ⟨x159, e160⟩ : ∃ x, I142 r0 12 = x := ⟨_, rfl⟩
  have gx159 := rg x159
  have ox159 := IM.f12 hI142 e160
  have hg := (CM.j0 S144 R_r0_1 (by decide)).trans hg
  refine k_aload_n C rfl rfl rfl ?_
  refine g_I C rfl rfl rfl T_r0 rfl e160 ?_
  refine k_aload_n C rfl rfl rfl ?_
  refine g_I C rfl rfl rfl T_r0 rfl e152 ?_
  refine b_icmp_ne C (t := 47) rfl rfl rfl (fun c161 => ?_) (fun c161 => ?_)
  · skip
    refine z_iconst C (z := 0) rfl rfl rfl (fun x162 ex162 => ?_)
    refine k_istore_n C (lw := [(1, .int x162), (0, .ref r0)]) rfl rfl (Nat.le_of_ble_eq_true rfl) rfl ?_
    refine k_aload_n C rfl rfl rfl ?_
    refine k_iload_n C rfl rfl rfl ?_
    refine b_if_eq C (t := 58) rfl rfl rfl (fun c163 => ?_) (fun c163 => by exfalso; omega)
    refine k_aload_n C rfl rfl rfl ?_
    refine z_gI C rfl rfl rfl T_r0 rfl (fun x164 ex164 => ?_)
    have gx164 := rg x164
    have ox164 := IM.f14 hI142 ex164
    refine z_pI C rfl rfl rfl T_r0 (Or.inr rfl) rfl (fun I165 uI165 => ?_)
    have hI165 : IM R r0 I165 := IM.fld hI142 G_r0 ⟨(fun h => absurd h (by decide)), (fun h => absurd h (by decide)), (fun h => absurd h (by decide)), (fun h => absurd h (by decide)), (fun h => absurd h (by decide))⟩ uI165
    have S166 : CM A R r0 [17] [] I142 L143 I165 L143 := CM.f G_r0 A_r0 uI165
    have e167 := u2_n uI165 (mF.ne G_r0 R_r0_1) e145
    have e168 := u2_n uI165 (mF.ne G_r0 R_r0_1) e146
    have e169 := u2_n uI165 (mF.ne G_r0 R_r0_1) e147
    have e170 := u2_n uI165 (mF.ne G_r0 R_r0_1) e148
    have e171 := u2_n uI165 (mF.ne G_r0 R_r0_1) e149
    have e172 := u2_n uI165 (mF.ne G_r0 R_r0_1) e150
    have e173 := u2_j uI165 (by first | decide | exact ncne (by omega) (by omega) (by omega) | exact nckn (by omega) (by omega) | exact (nckn (by omega) (by omega)).symm) e151
    have e174 := u2_j uI165 (by first | decide | exact ncne (by omega) (by omega) (by omega) | exact nckn (by omega) (by omega) | exact (nckn (by omega) (by omega)).symm) e152
    have e175 := u2_j uI165 (by first | decide | exact ncne (by omega) (by omega) (by omega) | exact nckn (by omega) (by omega) | exact (nckn (by omega) (by omega)).symm) e153
    have e176 := u2_j uI165 (by first | decide | exact ncne (by omega) (by omega) (by omega) | exact nckn (by omega) (by omega) | exact (nckn (by omega) (by omega)).symm) e154
    have e177 := u2_j uI165 (by first | decide | exact ncne (by omega) (by omega) (by omega) | exact nckn (by omega) (by omega) | exact (nckn (by omega) (by omega)).symm) e155
    have e178 := u2_j uI165 (by first | decide | exact ncne (by omega) (by omega) (by omega) | exact nckn (by omega) (by omega) | exact (nckn (by omega) (by omega)).symm) e156
    have e179 := u2_j uI165 (by first | decide | exact ncne (by omega) (by omega) (by omega) | exact nckn (by omega) (by omega) | exact (nckn (by omega) (by omega)).symm) e157
    have e180 := u2_j uI165 (by first | decide | exact ncne (by omega) (by omega) (by omega) | exact nckn (by omega) (by omega) | exact (nckn (by omega) (by omega)).symm) e160
    have e181 := u2_j uI165 (by first | decide | exact ncne (by omega) (by omega) (by omega) | exact nckn (by omega) (by omega) | exact (nckn (by omega) (by omega)).symm) ex164
    have e182 := u2_e uI165
    have hg := (CM.j0 S166 R_r0_1 (by decide)).trans hg
    refine k_aload_n C rfl rfl rfl ?_
    refine k_iload_n C rfl rfl rfl ?_
    refine b_if_ne C (t := 74) rfl rfl rfl (fun c183 => by exfalso; omega) (fun c183 => ?_)
    refine z_iconst C (z := 1) rfl rfl rfl (fun x184 ex184 => ?_)
    refine k_goto C (pc2 := 75) rfl rfl ?_
    refine z_iconst C (z := 1) rfl rfl rfl (fun x185 ex185 => ?_)
    have q186 : x184.toNatClampNeg = 1 := nck (by omega)
    have q187 : x185.toNatClampNeg = 1 := nck (by omega)
    refine c_VI C (a_X12_throwsIf_e hI165 H_r0 (by omega) (by omega)) rfl rfl rfl rfl rfl ⟨_, rfl, rfl, T_r0, Nat.le_of_ble_eq_true rfl⟩ rfl rfl (Nat.le_of_ble_eq_true rfl) (Nat.le_of_ble_eq_true rfl) (Nat.le_of_ble_eq_true rfl) ?_
    rintro x188 I189 L190 ⟨o0x188, o1x188, p0x188, p1x188, hI189, S191⟩
    have e192 := CM.j S191 R_r0_1 (by decide) e167
    have e193 := CM.j S191 R_r0_1 (by decide) e168
    have e194 := CM.j S191 R_r0_1 (by decide) e169
    have e195 := CM.j S191 R_r0_1 (by decide) e170
    have e196 := CM.j S191 R_r0_1 (by decide) e171
    have e197 := CM.j S191 R_r0_1 (by decide) e172
    have e198 := CM.k S191 (by decide) e173
    have e199 := CM.k S191 (by decide) e174
    have e200 := CM.k S191 (by decide) e175
    have e202 := CM.k S191 (by decide) e177
    have e203 := CM.k S191 (by decide) e178
    have e204 := CM.k S191 (by decide) e179
    have e205 := CM.k S191 (by decide) e180
    have e206 := CM.k S191 (by decide) e181
    have e207 := CM.k S191 (by decide) e182
    have gx188 := rg x188
    obtain ⟨x208, e209⟩ : ∃ x, I189 r0 0 = x := ⟨_, rfl⟩
    have gx208 := rg x208
    have hg := (CM.j0 S191 R_r0_1 (by decide)).trans hg
    try simp only [q186, q187, e167, e168, e169, e170, e171, e172, e173, e174, e175, e176, e177, e178, e179, e180, e181, e182, e209] at p0x188
    try have q0x188 := congrArg Int32.toInt p0x188
    try simp only [q186, q187, e167, e168, e169, e170, e171, e172, e173, e174, e175, e176, e177, e178, e179, e180, e181, e182, e209] at p1x188
    try have q1x188 := congrArg Int32.toInt p1x188
    refine b_if_ne C (t := 106) rfl rfl rfl (fun c210 => ?_) (fun c210 => by exfalso; omega)
    refine z_iconst C (z := 0) rfl rfl rfl (fun x211 ex211 => ?_)
    exact k_iret C rfl (Or.inl rfl) (Nat.le_of_ble_eq_true rfl) (Nat.le_of_ble_eq_true rfl) ⟨_, _, _, rfl, rfl, by omega, by omega, fun a1 h1 => by cases (R_r0_1.symm.trans h1); first | omega | (simp only [e192, e193, e194, e195, e196, e197, e198, e199, e200, e202, e203, e204, e205, e206, e207, e209, k0_r0_1_0, k0_r0_1_1, k0_r0_1_2, k0_r0_1_3, k0_r0_1_4, k0_r0_1_5, k0_r0_3, and_true, true_and, or_true, true_or, and_false, false_and, or_false, false_or] <;> omega), by first | omega | (simp only [e192, e193, e194, e195, e196, e197, e198, e199, e200, e202, e203, e204, e205, e206, e207, e209, k0_r0_1_0, k0_r0_1_1, k0_r0_1_2, k0_r0_1_3, k0_r0_1_4, k0_r0_1_5, k0_r0_3, and_true, true_and, or_true, true_or, and_false, false_and, or_false, false_or] <;> omega), fun a1 h1 => by cases (R_r0_1.symm.trans h1); first | omega | (simp only [e192, e193, e194, e195, e196, e197, e198, e199, e200, e202, e203, e204, e205, e206, e207, e209, k0_r0_1_0, k0_r0_1_1, k0_r0_1_2, k0_r0_1_3, k0_r0_1_4, k0_r0_1_5, k0_r0_3, and_true, true_and, or_true, true_or, and_false, false_and, or_false, false_or] <;> omega), fun a1 h1 => by cases (R_r0_1.symm.trans h1); first | omega | (simp only [e192, e193, e194, e195, e196, e197, e198, e199, e200, e202, e203, e204, e205, e206, e207, e209, k0_r0_1_0, k0_r0_1_1, k0_r0_1_2, k0_r0_1_3, k0_r0_1_4, k0_r0_1_5, k0_r0_3, and_true, true_and, or_true, true_or, and_false, false_and, or_false, false_or] <;> omega), fun a1 h1 => by cases (R_r0_1.symm.trans h1); first | omega | (simp only [e192, e193, e194, e195, e196, e197, e198, e199, e200, e202, e203, e204, e205, e206, e207, e209, k0_r0_1_0, k0_r0_1_1, k0_r0_1_2, k0_r0_1_3, k0_r0_1_4, k0_r0_1_5, k0_r0_3, and_true, true_and, or_true, true_or, and_false, false_and, or_false, false_or] <;> omega), hI189, (CM.cons S6 (CM.cons S23 (CM.cons S37 (CM.cons S52 (CM.cons S69 (CM.cons S144 (CM.cons S166 (CM.mono S191 (by decide) (by decide)) (by decide) (by decide)) (by decide) (by decide)) (by decide) (by decide)) (by decide) (by decide)) (by decide) (by decide)) (by decide) (by decide)) (by decide) (by decide))⟩
  refine z_iconst C (z := 1) rfl rfl rfl (fun x212 ex212 => ?_)
  refine k_goto C (pc2 := 48) rfl rfl ?_
  refine k_istore_n C (lw := [(1, .int x212), (0, .ref r0)]) rfl rfl (Nat.le_of_ble_eq_true rfl) rfl ?_
  refine k_aload_n C rfl rfl rfl ?_
  refine k_iload_n C rfl rfl rfl ?_
  refine b_if_eq C (t := 58) rfl rfl rfl (fun c213 => by exfalso; omega) (fun c213 => ?_)
  refine z_iconst C (z := -1) rfl rfl rfl (fun x214 ex214 => ?_)
  refine k_goto C (pc2 := 62) rfl rfl ?_
  refine z_pI C rfl rfl rfl T_r0 (Or.inr rfl) rfl (fun I215 uI215 => ?_)
  have hI215 : IM R r0 I215 := IM.fld hI142 G_r0 ⟨(fun h => absurd h (by decide)), (fun h => absurd h (by decide)), (fun h => absurd h (by decide)), (fun h => absurd h (by decide)), (fun h => absurd h (by decide))⟩ uI215
  have S216 : CM A R r0 [17] [] I142 L143 I215 L143 := CM.f G_r0 A_r0 uI215
  have e217 := u2_n uI215 (mF.ne G_r0 R_r0_1) e145
  have e218 := u2_n uI215 (mF.ne G_r0 R_r0_1) e146
  have e219 := u2_n uI215 (mF.ne G_r0 R_r0_1) e147
  have e220 := u2_n uI215 (mF.ne G_r0 R_r0_1) e148
  have e221 := u2_n uI215 (mF.ne G_r0 R_r0_1) e149
  have e222 := u2_n uI215 (mF.ne G_r0 R_r0_1) e150
  have e223 := u2_j uI215 (by first | decide | exact ncne (by omega) (by omega) (by omega) | exact nckn (by omega) (by omega) | exact (nckn (by omega) (by omega)).symm) e151
  have e224 := u2_j uI215 (by first | decide | exact ncne (by omega) (by omega) (by omega) | exact nckn (by omega) (by omega) | exact (nckn (by omega) (by omega)).symm) e152
  have e225 := u2_j uI215 (by first | decide | exact ncne (by omega) (by omega) (by omega) | exact nckn (by omega) (by omega) | exact (nckn (by omega) (by omega)).symm) e153
  have e226 := u2_j uI215 (by first | decide | exact ncne (by omega) (by omega) (by omega) | exact nckn (by omega) (by omega) | exact (nckn (by omega) (by omega)).symm) e154
  have e227 := u2_j uI215 (by first | decide | exact ncne (by omega) (by omega) (by omega) | exact nckn (by omega) (by omega) | exact (nckn (by omega) (by omega)).symm) e155
  have e228 := u2_j uI215 (by first | decide | exact ncne (by omega) (by omega) (by omega) | exact nckn (by omega) (by omega) | exact (nckn (by omega) (by omega)).symm) e156
  have e229 := u2_j uI215 (by first | decide | exact ncne (by omega) (by omega) (by omega) | exact nckn (by omega) (by omega) | exact (nckn (by omega) (by omega)).symm) e157
  have e230 := u2_j uI215 (by first | decide | exact ncne (by omega) (by omega) (by omega) | exact nckn (by omega) (by omega) | exact (nckn (by omega) (by omega)).symm) e160
  have e231 := u2_e uI215
  have hg := (CM.j0 S216 R_r0_1 (by decide)).trans hg
  refine k_aload_n C rfl rfl rfl ?_
  refine k_iload_n C rfl rfl rfl ?_
  refine b_if_ne C (t := 74) rfl rfl rfl (fun c232 => ?_) (fun c232 => by exfalso; omega)
  refine z_iconst C (z := 0) rfl rfl rfl (fun x233 ex233 => ?_)
  refine z_iconst C (z := 1) rfl rfl rfl (fun x234 ex234 => ?_)
  have q235 : x233.toNatClampNeg = 0 := nck (by omega)
  have q236 : x234.toNatClampNeg = 1 := nck (by omega)
  refine c_VI C (a_X12_throwsIf_e hI215 H_r0 (by omega) (by omega)) rfl rfl rfl rfl rfl ⟨_, rfl, rfl, T_r0, Nat.le_of_ble_eq_true rfl⟩ rfl rfl (Nat.le_of_ble_eq_true rfl) (Nat.le_of_ble_eq_true rfl) (Nat.le_of_ble_eq_true rfl) ?_
  rintro x237 I238 L239 ⟨o0x237, o1x237, p0x237, p1x237, hI238, S240⟩
  have e241 := CM.j S240 R_r0_1 (by decide) e217
  have e242 := CM.j S240 R_r0_1 (by decide) e218
  have e243 := CM.j S240 R_r0_1 (by decide) e219
  have e244 := CM.j S240 R_r0_1 (by decide) e220
  have e245 := CM.j S240 R_r0_1 (by decide) e221
  have e246 := CM.j S240 R_r0_1 (by decide) e222
  have e247 := CM.k S240 (by decide) e223
  have e248 := CM.k S240 (by decide) e224
  have e249 := CM.k S240 (by decide) e225
  have e251 := CM.k S240 (by decide) e227
  have e252 := CM.k S240 (by decide) e228
  have e253 := CM.k S240 (by decide) e229
  have e254 := CM.k S240 (by decide) e230
  have e255 := CM.k S240 (by decide) e231
  have gx237 := rg x237
  obtain ⟨x256, e257⟩ : ∃ x, I238 r0 0 = x := ⟨_, rfl⟩
  have gx256 := rg x256
  have hg := (CM.j0 S240 R_r0_1 (by decide)).trans hg
  try simp only [q235, q236, e217, e218, e219, e220, e221, e222, e223, e224, e225, e226, e227, e228, e229, e230, e231, e257] at p0x237
  try have q0x237 := congrArg Int32.toInt p0x237
  try simp only [q235, q236, e217, e218, e219, e220, e221, e222, e223, e224, e225, e226, e227, e228, e229, e230, e231, e257] at p1x237
  try have q1x237 := congrArg Int32.toInt p1x237
  refine b_if_ne C (t := 106) rfl rfl rfl (fun c258 => by exfalso; omega) (fun c258 => ?_)
  refine k_aload_n C rfl rfl rfl ?_
  refine k_aload_n C rfl rfl rfl ?_
  refine g_R C rfl rfl rfl T_r0 rfl R_r0_1 ?_
  refine z_iconst C (z := 3) rfl rfl rfl (fun x259 ex259 => ?_)
  obtain ⟨T_r0_1, N_r0_1, A_r0_1⟩ := id H_r0_1
  refine a_I C rfl rfl T_r0_1 (by rw [N_r0_1]; exact vpi (by omega) (by omega)) ((congrArg (I238 r0_1) (nck (n := 3) (by omega))).trans e244) ?_
  refine z_bipush C (z := 8) rfl rfl rfl (fun x260 ex260 => ?_)
  refine b_icmp_ne C (t := 98) rfl rfl rfl (fun c261 => ?_) (fun c261 => ?_)
  · skip
    refine z_iconst C (z := 0) rfl rfl rfl (fun x262 ex262 => ?_)
    refine z_iconst C (z := 2) rfl rfl rfl (fun x263 ex263 => ?_)
    have q264 : x262.toNatClampNeg = 0 := nck (by omega)
    have q265 : x263.toNatClampNeg = 2 := nck (by omega)
    refine c_VI C (a_X12_throwsIf_e hI238 H_r0 (by omega) (by omega)) rfl rfl rfl rfl rfl ⟨_, rfl, rfl, T_r0, Nat.le_of_ble_eq_true rfl⟩ rfl rfl (Nat.le_of_ble_eq_true rfl) (Nat.le_of_ble_eq_true rfl) (Nat.le_of_ble_eq_true rfl) ?_
    rintro x266 I267 L268 ⟨o0x266, o1x266, p0x266, p1x266, hI267, S269⟩
    have e270 := CM.j S269 R_r0_1 (by decide) e241
    have e271 := CM.j S269 R_r0_1 (by decide) e242
    have e272 := CM.j S269 R_r0_1 (by decide) e243
    have e273 := CM.j S269 R_r0_1 (by decide) e244
    have e274 := CM.j S269 R_r0_1 (by decide) e245
    have e275 := CM.j S269 R_r0_1 (by decide) e246
    have e276 := CM.k S269 (by decide) e247
    have e277 := CM.k S269 (by decide) e248
    have e278 := CM.k S269 (by decide) e249
    have e279 := CM.k S269 (by decide) e251
    have e280 := CM.k S269 (by decide) e252
    have e281 := CM.k S269 (by decide) e253
    have e282 := CM.k S269 (by decide) e254
    have e283 := CM.k S269 (by decide) e255
    have gx266 := rg x266
    obtain ⟨x285, e286⟩ : ∃ x, I267 r0 0 = x := ⟨_, rfl⟩
    have gx285 := rg x285
    have hg := (CM.j0 S269 R_r0_1 (by decide)).trans hg
    try simp only [q264, q265, e241, e242, e243, e244, e245, e246, e247, e248, e249, e251, e252, e253, e254, e255, e257, e286] at p0x266
    try have q0x266 := congrArg Int32.toInt p0x266
    try simp only [q264, q265, e241, e242, e243, e244, e245, e246, e247, e248, e249, e251, e252, e253, e254, e255, e257, e286] at p1x266
    try have q1x266 := congrArg Int32.toInt p1x266
    refine b_if_eq C (t := 108) rfl rfl rfl (fun c287 => ?_) (fun c287 => by exfalso; omega)
    refine k_aload_n C rfl rfl rfl ?_
    refine g_R C rfl rfl rfl T_r0 rfl R_r0_1 ?_
    refine z_iconst C (z := 3) rfl rfl rfl (fun x288 ex288 => ?_)
    refine a_I C rfl rfl T_r0_1 (by rw [N_r0_1]; exact vpi (by omega) (by omega)) ((congrArg (I267 r0_1) (nck (n := 3) (by omega))).trans e273) ?_
    refine k_istore_n C (lw := [(2, .int w_r0_1_3), (1, .int x212), (0, .ref r0)]) rfl rfl (Nat.le_of_ble_eq_true rfl) rfl ?_
    refine k_aload_n C rfl rfl rfl ?_
    refine g_R C rfl rfl rfl T_r0 rfl R_r0_1 ?_
    refine z_sipush C (z := 3606) rfl rfl rfl (fun x289 ex289 => ?_)
    refine k_aload_n C rfl rfl rfl ?_
    refine g_I C rfl rfl rfl T_r0 rfl e281 ?_
    refine z_sI C rfl rfl T_r0_1 N_r0_1 (by omega) (by omega) (fun I290 uI290 => ?_)
    have uI290 : I290 = u2 I267 r0_1 3606 (x87) := by rw [uI290, nck (n := 3606) (by omega)]
    have hI290 : IM R r0 I290 := IM.arr hI267 G_r0 R_r0_1 ⟨(fun h => absurd h (by decide)), (fun h => absurd h (by decide)), (fun h => absurd h (by decide))⟩ (fun _ => WOK.drn (IM.w hI267 R_r0_1) (by decide)) uI290
    have S291 : CM A R r0 [] [1] I267 L268 I290 L268 := CM.a G_r0 R_r0_1 A_r0_1 uI290
    have e292 := u2_j uI290 (by first | decide | exact ncne (by omega) (by omega) (by omega) | exact nckn (by omega) (by omega) | exact (nckn (by omega) (by omega)).symm) e270
    have e293 := u2_j uI290 (by first | decide | exact ncne (by omega) (by omega) (by omega) | exact nckn (by omega) (by omega) | exact (nckn (by omega) (by omega)).symm) e271
    have e294 := u2_j uI290 (by first | decide | exact ncne (by omega) (by omega) (by omega) | exact nckn (by omega) (by omega) | exact (nckn (by omega) (by omega)).symm) e272
    have e295 := u2_j uI290 (by first | decide | exact ncne (by omega) (by omega) (by omega) | exact nckn (by omega) (by omega) | exact (nckn (by omega) (by omega)).symm) e273
    have e296 := u2_j uI290 (by first | decide | exact ncne (by omega) (by omega) (by omega) | exact nckn (by omega) (by omega) | exact (nckn (by omega) (by omega)).symm) e274
    have e297 := u2_j uI290 (by first | decide | exact ncne (by omega) (by omega) (by omega) | exact nckn (by omega) (by omega) | exact (nckn (by omega) (by omega)).symm) e275
    have e298 := u2_n uI290 (fun e => (mF.ne G_r0 R_r0_1) e.symm) e276
    have e299 := u2_n uI290 (fun e => (mF.ne G_r0 R_r0_1) e.symm) e277
    have e300 := u2_n uI290 (fun e => (mF.ne G_r0 R_r0_1) e.symm) e278
    have e301 := u2_n uI290 (fun e => (mF.ne G_r0 R_r0_1) e.symm) e279
    have e302 := u2_n uI290 (fun e => (mF.ne G_r0 R_r0_1) e.symm) e280
    have e303 := u2_n uI290 (fun e => (mF.ne G_r0 R_r0_1) e.symm) e281
    have e304 := u2_n uI290 (fun e => (mF.ne G_r0 R_r0_1) e.symm) e282
    have e305 := u2_n uI290 (fun e => (mF.ne G_r0 R_r0_1) e.symm) e283
    have e306 := u2_n uI290 (fun e => (mF.ne G_r0 R_r0_1) e.symm) e286
    have e307 := u2_e uI290
    have hSG := SGN.dr hPD hg uI290 (by omega) (by omega)
    refine z_iconst C (z := 0) rfl rfl rfl (fun x308 ex308 => ?_)
    have J309 : ∀ (nn310 : Nat) (I311 : IT) (L312 : LT) (x313 : Int32) (x318 : Int32) (x322 : Int32) (x326 : Int32) (x330 : Int32) (x334 : Int32) (x338 : Int32), ((401 - x313.toInt).toNat = nn310) → (IM R r0 I311) → (CM A R r0 [] [1] I290 L268 I311 L312) → (0 ≤ x313.toInt) → (x313.toInt ≤ 401) → (I311 r0_1 0 = x318) → (11 ≤ x318.toInt) → (x318.toInt ≤ 19) → (I311 r0_1 1 = x322) → (0 ≤ x322.toInt) → (x322.toInt ≤ 16) → (I311 r0_1 2 = x326) → (0 ≤ x326.toInt) → (x326.toInt ≤ 8) → (I311 r0_1 3 = x330) → (0 ≤ x330.toInt) → (x330.toInt ≤ 8) → (I311 r0_1 4 = x334) → (0 ≤ x334.toInt) → (x334.toInt ≤ 40) → (I311 r0_1 5 = x338) → (0 ≤ x338.toInt) → (x338.toInt ≤ 40) → (x318.toInt = w_r0_1_0.toInt) → (x322.toInt = w_r0_1_1.toInt) → (x326.toInt = w_r0_1_2.toInt) → (x330.toInt = w_r0_1_3.toInt) → (x334.toInt = w_r0_1_4.toInt) → (x338.toInt = w_r0_1_5.toInt) → (SGN (I311 r0_1) 3606) → (CPS (I311 r0_1) (198 + 401 * w_r0_1_3.toNatClampNeg) x313.toInt) → V 129 [(0, .ref r0), (2, .int w_r0_1_3), (3, .int x313)] [] (T, N, I311, L312, R) 0 0 := by
      intro nn310
      induction nn310 using Nat.strongRecOn with
      | _ nn310 ihJ309 =>
        intro I311 L312 x313 x318 x322 x326 x330 x334 x338 hmnn310 hI317 S316 b314 b315 e319 b320 b321 e323 b324 b325 e327 b328 b329 e331 b332 b333 e335 b336 b337 e339 b340 b341 ff129_0 ff129_1 ff129_2 ff129_3 ff129_4 ff129_5 ff129_6 ff129_7
        have gx313 := rg x313
        have gx318 := rg x318
        have gx322 := rg x322
        have gx326 := rg x326
        have gx330 := rg x330
        have gx334 := rg x334
        have gx338 := rg x338
        have e342 := CM.k S316 (by decide) e298
        have e343 := CM.k S316 (by decide) e299
        have e344 := CM.k S316 (by decide) e300
        have e345 := CM.k S316 (by decide) e301
        have e346 := CM.k S316 (by decide) e302
        have e347 := CM.k S316 (by decide) e303
        have e348 := CM.k S316 (by decide) e304
        have e349 := CM.k S316 (by decide) e305
        have e350 := CM.k S316 (by decide) e306
        refine k_iload_n C rfl rfl rfl ?_
        refine z_sipush C (z := 401) rfl rfl rfl (fun x351 ex351 => ?_)
        refine b_icmp_ge C (t := 168) rfl rfl rfl (fun c352 => ?_) (fun c352 => ?_)
        · skip
          refine k_aload_n C rfl rfl rfl ?_
          refine g_R C rfl rfl rfl T_r0 rfl R_r0_1 ?_
          refine z_iconst C (z := 3) rfl rfl rfl (fun x353 ex353 => ?_)
          refine k_dup2 C rfl rfl rfl rfl ?_
          refine a_I C rfl rfl T_r0_1 (by rw [N_r0_1]; exact vpi (by omega) (by omega)) ((congrArg (I311 r0_1) (nck (n := 3) (by omega))).trans e331) ?_
          refine z_iconst C (z := 1) rfl rfl rfl (fun x354 ex354 => ?_)
          refine z_iadd C rfl rfl ⟨by omega, by omega⟩ (fun x355 ex355 => ?_)
          refine z_sI C rfl rfl T_r0_1 N_r0_1 (by omega) (by omega) (fun I356 uI356 => ?_)
          have uI356 : I356 = u2 I311 r0_1 3 (x355) := by rw [uI356, nck (n := 3) (by omega)]
          have hI356 : IM R r0 I356 := IM.arr hI317 G_r0 R_r0_1 ⟨(fun h => absurd h (by decide)), (fun h => absurd h (by decide)), (fun h => absurd h (by decide))⟩ (fun _ => WOK.c3 (IM.w hI317 R_r0_1) (s := w_r0_1_3) (by rw [e331]; omega) (by omega) (by omega) (SGN.cp ff129_6 ff129_7 (by omega))) uI356
          have S357 : CM A R r0 [] [1] I311 L312 I356 L312 := CM.a G_r0 R_r0_1 A_r0_1 uI356
          have e358 := u2_n uI356 (fun e => (mF.ne G_r0 R_r0_1) e.symm) e342
          have e359 := u2_n uI356 (fun e => (mF.ne G_r0 R_r0_1) e.symm) e343
          have e360 := u2_n uI356 (fun e => (mF.ne G_r0 R_r0_1) e.symm) e344
          have e361 := u2_n uI356 (fun e => (mF.ne G_r0 R_r0_1) e.symm) e345
          have e362 := u2_n uI356 (fun e => (mF.ne G_r0 R_r0_1) e.symm) e346
          have e363 := u2_n uI356 (fun e => (mF.ne G_r0 R_r0_1) e.symm) e347
          have e364 := u2_n uI356 (fun e => (mF.ne G_r0 R_r0_1) e.symm) e348
          have e365 := u2_n uI356 (fun e => (mF.ne G_r0 R_r0_1) e.symm) e349
          have e366 := u2_n uI356 (fun e => (mF.ne G_r0 R_r0_1) e.symm) e350
          have e367 := u2_j uI356 (by first | decide | exact ncne (by omega) (by omega) (by omega) | exact nckn (by omega) (by omega) | exact (nckn (by omega) (by omega)).symm) e319
          have e368 := u2_j uI356 (by first | decide | exact ncne (by omega) (by omega) (by omega) | exact nckn (by omega) (by omega) | exact (nckn (by omega) (by omega)).symm) e323
          have e369 := u2_j uI356 (by first | decide | exact ncne (by omega) (by omega) (by omega) | exact nckn (by omega) (by omega) | exact (nckn (by omega) (by omega)).symm) e327
          have e371 := u2_j uI356 (by first | decide | exact ncne (by omega) (by omega) (by omega) | exact nckn (by omega) (by omega) | exact (nckn (by omega) (by omega)).symm) e335
          have e372 := u2_j uI356 (by first | decide | exact ncne (by omega) (by omega) (by omega) | exact nckn (by omega) (by omega) | exact (nckn (by omega) (by omega)).symm) e339
          have e373 := u2_e uI356
          refine k_iload_n C rfl rfl rfl ?_
          exact k_iret C rfl (Or.inl rfl) (Nat.le_of_ble_eq_true rfl) (Nat.le_of_ble_eq_true rfl) ⟨_, _, _, rfl, rfl, by omega, by omega, fun a1 h1 => by cases (R_r0_1.symm.trans h1); first | omega | (simp only [e358, e359, e360, e361, e362, e363, e364, e365, e366, e367, e368, e369, e371, e372, e373, k0_r0_1_0, k0_r0_1_1, k0_r0_1_2, k0_r0_1_3, k0_r0_1_4, k0_r0_1_5, k0_r0_3, and_true, true_and, or_true, true_or, and_false, false_and, or_false, false_or] <;> omega), by first | omega | (simp only [e358, e359, e360, e361, e362, e363, e364, e365, e366, e367, e368, e369, e371, e372, e373, k0_r0_1_0, k0_r0_1_1, k0_r0_1_2, k0_r0_1_3, k0_r0_1_4, k0_r0_1_5, k0_r0_3, and_true, true_and, or_true, true_or, and_false, false_and, or_false, false_or] <;> omega), fun a1 h1 => by cases (R_r0_1.symm.trans h1); first | omega | (simp only [e358, e359, e360, e361, e362, e363, e364, e365, e366, e367, e368, e369, e371, e372, e373, k0_r0_1_0, k0_r0_1_1, k0_r0_1_2, k0_r0_1_3, k0_r0_1_4, k0_r0_1_5, k0_r0_3, and_true, true_and, or_true, true_or, and_false, false_and, or_false, false_or] <;> omega), fun a1 h1 => by cases (R_r0_1.symm.trans h1); first | omega | (simp only [e358, e359, e360, e361, e362, e363, e364, e365, e366, e367, e368, e369, e371, e372, e373, k0_r0_1_0, k0_r0_1_1, k0_r0_1_2, k0_r0_1_3, k0_r0_1_4, k0_r0_1_5, k0_r0_3, and_true, true_and, or_true, true_or, and_false, false_and, or_false, false_or] <;> omega), fun a1 h1 => by cases (R_r0_1.symm.trans h1); first | omega | (simp only [e358, e359, e360, e361, e362, e363, e364, e365, e366, e367, e368, e369, e371, e372, e373, k0_r0_1_0, k0_r0_1_1, k0_r0_1_2, k0_r0_1_3, k0_r0_1_4, k0_r0_1_5, k0_r0_3, and_true, true_and, or_true, true_or, and_false, false_and, or_false, false_or] <;> omega), hI356, (CM.cons S6 (CM.cons S23 (CM.cons S37 (CM.cons S52 (CM.cons S69 (CM.cons S144 (CM.cons S216 (CM.cons S240 (CM.cons S269 (CM.cons S291 (CM.cons S316 (CM.mono S357 (by decide) (by decide)) (by decide) (by decide)) (by decide) (by decide)) (by decide) (by decide)) (by decide) (by decide)) (by decide) (by decide)) (by decide) (by decide)) (by decide) (by decide)) (by decide) (by decide)) (by decide) (by decide)) (by decide) (by decide)) (by decide) (by decide))⟩
        refine k_aload_n C rfl rfl rfl ?_
        refine g_R C rfl rfl rfl T_r0 rfl R_r0_1 ?_
        refine z_sipush C (z := 198) rfl rfl rfl (fun x374 ex374 => ?_)
        refine z_sipush C (z := 401) rfl rfl rfl (fun x375 ex375 => ?_)
        refine k_iload_n C rfl rfl rfl ?_
        refine z_imulL C (c := 401) rfl rfl (by omega) ⟨by omega, by omega⟩ (fun x376 ex376 => ?_)
        refine z_iadd C rfl rfl ⟨by omega, by omega⟩ (fun x377 ex377 => ?_)
        refine k_iload_n C rfl rfl rfl ?_
        refine z_iadd C rfl rfl ⟨by omega, by omega⟩ (fun x378 ex378 => ?_)
        refine k_aload_n C rfl rfl rfl ?_
        refine g_R C rfl rfl rfl T_r0 rfl R_r0_1 ?_
        refine z_sipush C (z := 3606) rfl rfl rfl (fun x379 ex379 => ?_)
        refine k_iload_n C rfl rfl rfl ?_
        refine z_iadd C rfl rfl ⟨by omega, by omega⟩ (fun x380 ex380 => ?_)
        refine z_aI C rfl rfl T_r0_1 N_r0_1 (by omega) (by omega) (fun x381 ex381 => ?_)
        have gx381 := rg x381
        have hr := ex381
        refine z_sI C rfl rfl T_r0_1 N_r0_1 (by omega) (by omega) (fun I382 uI382 => ?_)
        have hI382 : IM R r0 I382 := IM.arr hI317 G_r0 R_r0_1 ⟨(fun h => absurd h (by decide)), (fun h => absurd h (by decide)), (fun h => absurd h (by decide))⟩ (fun _ => WOK.sg (IM.w hI317 R_r0_1) (s := w_r0_1_3) (by rw [e331]; omega) (by omega) ⟨by omega, by omega⟩) uI382
        have S383 : CM A R r0 [] [1] I311 L312 I382 L312 := CM.a G_r0 R_r0_1 A_r0_1 uI382
        have e384 := u2_n uI382 (fun e => (mF.ne G_r0 R_r0_1) e.symm) e342
        have e385 := u2_n uI382 (fun e => (mF.ne G_r0 R_r0_1) e.symm) e343
        have e386 := u2_n uI382 (fun e => (mF.ne G_r0 R_r0_1) e.symm) e344
        have e387 := u2_n uI382 (fun e => (mF.ne G_r0 R_r0_1) e.symm) e345
        have e388 := u2_n uI382 (fun e => (mF.ne G_r0 R_r0_1) e.symm) e346
        have e389 := u2_n uI382 (fun e => (mF.ne G_r0 R_r0_1) e.symm) e347
        have e390 := u2_n uI382 (fun e => (mF.ne G_r0 R_r0_1) e.symm) e348
        have e391 := u2_n uI382 (fun e => (mF.ne G_r0 R_r0_1) e.symm) e349
        have e392 := u2_n uI382 (fun e => (mF.ne G_r0 R_r0_1) e.symm) e350
        have e393 := u2_j uI382 (by first | decide | exact ncne (by omega) (by omega) (by omega) | exact nckn (by omega) (by omega) | exact (nckn (by omega) (by omega)).symm) e319
        have e394 := u2_j uI382 (by first | decide | exact ncne (by omega) (by omega) (by omega) | exact nckn (by omega) (by omega) | exact (nckn (by omega) (by omega)).symm) e323
        have e395 := u2_j uI382 (by first | decide | exact ncne (by omega) (by omega) (by omega) | exact nckn (by omega) (by omega) | exact (nckn (by omega) (by omega)).symm) e327
        have e396 := u2_j uI382 (by first | decide | exact ncne (by omega) (by omega) (by omega) | exact nckn (by omega) (by omega) | exact (nckn (by omega) (by omega)).symm) e331
        have e397 := u2_j uI382 (by first | decide | exact ncne (by omega) (by omega) (by omega) | exact nckn (by omega) (by omega) | exact (nckn (by omega) (by omega)).symm) e335
        have e398 := u2_j uI382 (by first | decide | exact ncne (by omega) (by omega) (by omega) | exact nckn (by omega) (by omega) | exact (nckn (by omega) (by omega)).symm) e339
        have e399 := u2_j uI382 (by first | decide | exact ncne (by omega) (by omega) (by omega) | exact nckn (by omega) (by omega) | exact (nckn (by omega) (by omega)).symm) ex381
        have e400 := u2_e uI382
        have hu161 := uI382
        refine z_iinc C (z := 1) (lw := fun x401 => [(3, .int x401), (0, .ref r0), (2, .int w_r0_1_3)]) rfl rfl rfl (Nat.le_of_ble_eq_true rfl) rfl ⟨by omega, by omega⟩ (fun _ => rfl) (fun x401 ex401 => ?_)
        show V 165 [(3, .int x401), (0, .ref r0), (2, .int w_r0_1_3)] _ _ _ _
        refine k_goto C (pc2 := 129) rfl rfl ?_
        refine k_sub S [(0, .ref r0), (2, .int w_r0_1_3), (3, .int x401)] (List.forall_mem_cons.mpr ⟨List.mem_of_getElem? (i := 1) rfl, List.forall_mem_cons.mpr ⟨List.mem_of_getElem? (i := 2) rfl, List.forall_mem_cons.mpr ⟨List.mem_of_getElem? (i := 0) rfl, fun _ h => nomatch h⟩⟩⟩) ?_
        exact ihJ309 _ (by omega) I382 L312 x401 x318 x322 x326 x330 x334 x338 rfl hI382 (CM.cons S316 (CM.mono S383 (by decide) (by decide)) (by decide) (by decide)) (by omega) (by omega) e393 (by omega) (by omega) e394 (by omega) (by omega) e395 (by omega) (by omega) e396 (by omega) (by omega) e397 (by omega) (by omega) e398 (by omega) (by omega) (by omega) (by omega) (by omega) (by omega) (by omega) (by omega) (by exact SGN.w ff129_6 hu161 (by omega) (by omega)) (by exact CPS.s ff129_7 hu161 hr ⟨by omega, by omega⟩ ⟨by omega, by omega⟩ (by omega) (by omega) (by omega))
    refine k_istore_n C (lw := [(3, .int x308), (2, .int w_r0_1_3), (1, .int x212), (0, .ref r0)]) rfl rfl (Nat.le_of_ble_eq_true rfl) rfl ?_
    refine k_sub S [(0, .ref r0), (2, .int w_r0_1_3), (3, .int x308)] (List.forall_mem_cons.mpr ⟨List.mem_of_getElem? (i := 3) rfl, List.forall_mem_cons.mpr ⟨List.mem_of_getElem? (i := 1) rfl, List.forall_mem_cons.mpr ⟨List.mem_of_getElem? (i := 0) rfl, fun _ h => nomatch h⟩⟩⟩) ?_
    exact J309 _ I290 L268 x308 w_r0_1_0 w_r0_1_1 w_r0_1_2 w_r0_1_3 w_r0_1_4 w_r0_1_5 rfl hI290 CM.rf (by omega) (by omega) e292 (by omega) (by omega) e293 (by omega) (by omega) e294 (by omega) (by omega) e295 (by omega) (by omega) e296 (by omega) (by omega) e297 (by omega) (by omega) (by omega) (by omega) (by omega) (by omega) (by omega) (by omega) (by exact hSG) (by exact CPS.z (by omega))
  refine z_iconst C (z := 1) rfl rfl rfl (fun x402 ex402 => ?_)
  refine k_goto C (pc2 := 99) rfl rfl ?_
  refine z_iconst C (z := 2) rfl rfl rfl (fun x403 ex403 => ?_)
  have q404 : x402.toNatClampNeg = 1 := nck (by omega)
  have q405 : x403.toNatClampNeg = 2 := nck (by omega)
  refine c_VI C (a_X12_throwsIf_e hI238 H_r0 (by omega) (by omega)) rfl rfl rfl rfl rfl ⟨_, rfl, rfl, T_r0, Nat.le_of_ble_eq_true rfl⟩ rfl rfl (Nat.le_of_ble_eq_true rfl) (Nat.le_of_ble_eq_true rfl) (Nat.le_of_ble_eq_true rfl) ?_
  rintro x406 I407 L408 ⟨o0x406, o1x406, p0x406, p1x406, hI407, S409⟩
  have e410 := CM.j S409 R_r0_1 (by decide) e241
  have e411 := CM.j S409 R_r0_1 (by decide) e242
  have e412 := CM.j S409 R_r0_1 (by decide) e243
  have e413 := CM.j S409 R_r0_1 (by decide) e244
  have e414 := CM.j S409 R_r0_1 (by decide) e245
  have e415 := CM.j S409 R_r0_1 (by decide) e246
  have e416 := CM.k S409 (by decide) e247
  have e417 := CM.k S409 (by decide) e248
  have e418 := CM.k S409 (by decide) e249
  have e419 := CM.k S409 (by decide) e251
  have e420 := CM.k S409 (by decide) e252
  have e421 := CM.k S409 (by decide) e253
  have e422 := CM.k S409 (by decide) e254
  have e423 := CM.k S409 (by decide) e255
  have gx406 := rg x406
  obtain ⟨x425, e426⟩ : ∃ x, I407 r0 0 = x := ⟨_, rfl⟩
  have gx425 := rg x425
  have hg := (CM.j0 S409 R_r0_1 (by decide)).trans hg
  try simp only [q404, q405, e241, e242, e243, e244, e245, e246, e247, e248, e249, e251, e252, e253, e254, e255, e257, e426] at p0x406
  try have q0x406 := congrArg Int32.toInt p0x406
  try simp only [q404, q405, e241, e242, e243, e244, e245, e246, e247, e248, e249, e251, e252, e253, e254, e255, e257, e426] at p1x406
  try have q1x406 := congrArg Int32.toInt p1x406
  refine b_if_eq C (t := 108) rfl rfl rfl (fun c427 => by exfalso; omega) (fun c427 => ?_)
  refine z_iconst C (z := 0) rfl rfl rfl (fun x428 ex428 => ?_)
  exact k_iret C rfl (Or.inl rfl) (Nat.le_of_ble_eq_true rfl) (Nat.le_of_ble_eq_true rfl) ⟨_, _, _, rfl, rfl, by omega, by omega, fun a1 h1 => by cases (R_r0_1.symm.trans h1); first | omega | (simp only [e410, e411, e412, e413, e414, e415, e416, e417, e418, e419, e420, e421, e422, e423, e426, k0_r0_1_0, k0_r0_1_1, k0_r0_1_2, k0_r0_1_3, k0_r0_1_4, k0_r0_1_5, k0_r0_3, and_true, true_and, or_true, true_or, and_false, false_and, or_false, false_or] <;> omega), by first | omega | (simp only [e410, e411, e412, e413, e414, e415, e416, e417, e418, e419, e420, e421, e422, e423, e426, k0_r0_1_0, k0_r0_1_1, k0_r0_1_2, k0_r0_1_3, k0_r0_1_4, k0_r0_1_5, k0_r0_3, and_true, true_and, or_true, true_or, and_false, false_and, or_false, false_or] <;> omega), fun a1 h1 => by cases (R_r0_1.symm.trans h1); first | omega | (simp only [e410, e411, e412, e413, e414, e415, e416, e417, e418, e419, e420, e421, e422, e423, e426, k0_r0_1_0, k0_r0_1_1, k0_r0_1_2, k0_r0_1_3, k0_r0_1_4, k0_r0_1_5, k0_r0_3, and_true, true_and, or_true, true_or, and_false, false_and, or_false, false_or] <;> omega), fun a1 h1 => by cases (R_r0_1.symm.trans h1); first | omega | (simp only [e410, e411, e412, e413, e414, e415, e416, e417, e418, e419, e420, e421, e422, e423, e426, k0_r0_1_0, k0_r0_1_1, k0_r0_1_2, k0_r0_1_3, k0_r0_1_4, k0_r0_1_5, k0_r0_3, and_true, true_and, or_true, true_or, and_false, false_and, or_false, false_or] <;> omega), fun a1 h1 => by cases (R_r0_1.symm.trans h1); first | omega | (simp only [e410, e411, e412, e413, e414, e415, e416, e417, e418, e419, e420, e421, e422, e423, e426, k0_r0_1_0, k0_r0_1_1, k0_r0_1_2, k0_r0_1_3, k0_r0_1_4, k0_r0_1_5, k0_r0_3, and_true, true_and, or_true, true_or, and_false, false_and, or_false, false_or] <;> omega), hI407, (CM.cons S6 (CM.cons S23 (CM.cons S37 (CM.cons S52 (CM.cons S69 (CM.cons S144 (CM.cons S216 (CM.cons S240 (CM.mono S409 (by decide) (by decide)) (by decide) (by decide)) (by decide) (by decide)) (by decide) (by decide)) (by decide) (by decide)) (by decide) (by decide)) (by decide) (by decide)) (by decide) (by decide)) (by decide) (by decide))⟩

